/-! Contracts: the tree's questions -/
def isn (nc : Nat) (x : Int32) : Bool := !decide (x < 0) && !decide (nI nc ≤ x)
theorem isn_t {nc : Nat} {x : Int32} (hnc : nc ≤ 32) (h : isn nc x = true) : ∃ j, j < nc ∧ x = nI j := by
  rcases pk_ix x (n := nc) (by omega) with h1 | h1 | h1
  · simp [isn, h1] at h
  · simp [isn, h1] at h
  · exact h1
theorem isn_n {nc j : Nat} (hnc : nc ≤ 32) (h : j < nc) : isn nc (nI j) = true := by
  have h1 := nI_pos (n := j) (by omega)
  have h2 := nI_ge h (by omega)
  simp [isn, h1, h2]
def isl (nc : Nat) (lf : Nat → Int32) (x : Int32) : Bool := isn nc x && !decide (lf x.toNatClampNeg = 0)
def sw (f : Nat → Int32) (x : Int32) : Nat → Int32
  | 0 => -1
  | n + 1 => if f (11 - n) = x then nI (11 - n) else sw f x n
theorem sw_at (f : Nat → Int32) (x : Int32) {v : Nat} (hv : v < 12) : sw f x (12 - v) = if f v = x then nI v else sw f x (12 - (v + 1)) := by
  rw [show 12 - v = (11 - v) + 1 by omega]
  simp only [sw]
  rw [show 11 - (11 - v) = v by omega, show 12 - (v + 1) = 11 - v by omega]
theorem sw_cases (f : Nat → Int32) (x : Int32) : ∀ n, n ≤ 12 → (sw f x n = -1 ∧ ∀ p, 12 - n ≤ p → p < 12 → f p ≠ x) ∨ ∃ p, p < 12 ∧ sw f x n = nI p ∧ f p = x
  | 0, _ => Or.inl ⟨rfl, fun p h1 h2 => by omega⟩
  | n + 1, hn => by
    simp only [sw]
    by_cases h : f (11 - n) = x
    · rw [if_pos h]
      exact Or.inr ⟨11 - n, by omega, rfl, h⟩
    · rw [if_neg h]
      rcases sw_cases f x n (by omega) with ⟨h1, h2⟩ | h1
      · refine Or.inl ⟨h1, fun p p1 p2 => ?_⟩
        by_cases hp : p = 11 - n
        · subst hp; exact h
        · exact h2 p (by omega) p2
      · exact Or.inr h1
def so (f : Nat → Int32) (x : Int32) : Int32 := if nI 1 ≤ x then sw f x 12 else -1
section
variable {l : Launch} {D : va_G} {tI tZ tN tM : ClassId} {b N : Nat} {k : Nat → va_E}
set_option maxHeartbeats 4000000 in
set_option maxRecDepth 100000 in
/-- T_isNode -/
theorem c_T_isNode {kk nc : Nat} {dv lm : Int32} {F : Cf} {op : Nat → Nat → Int32} {oc : Nat → Nat} {Sn Sk Sm : Nat → Sv} {x : Int32} (hC : CW tI tN tM b N k kk dv nc lm F op oc Sn Sk Sm) (hnc : nc ≤ 12)  : Met l y_T_isNode (wy y_T_isNode b_T_isNode 2 (some .boolean)) (rm 0 0 0) (zPc D (tyl tI tZ tN tM) b N k [.ref b, .int x]) (zQi D b N (fun z k2 => z = nI (cb (isn nc x)) ∧ k2 = k)) 0 0 (zA b) := by
  refine z_met (own := R_T) (by decide) rfl rfl (Nat.le_of_ble_eq_true rfl) [some (.ref b), some (.int x)] rfl ?_
  intro p e s m args below meth c X hin
  have ⟨h0, ⟨g1, h1, e1⟩, ⟨g2, h2, e2⟩, h3, h4, h5, h6, h7, h8⟩ := hC
  refine z_iload_n X d_T_isNode_0 rfl ?_
  refine z_if_lt X d_T_isNode_1 (tgt := 16) (by decide) (fun hA => ?_) (fun hA => ?_)
  · skip
    refine z_iconst X d_T_isNode_16 (v := nI 0) (by decide +kernel) ?_
    exact z_zret X d_T_isNode_17 (by decide) (by omega) (by omega) (⟨by simp [isn, hA, cb], rfl⟩)
  · skip
    refine z_iload_n X d_T_isNode_4 rfl ?_
    refine z_aload_n X d_T_isNode_5 rfl ?_
    refine z_get X h0 rfl in_T 1 (by decide) (wq lf_T_15) rfl d_T_isNode_6 ?_
    refine z_icmp_ge X d_T_isNode_9 (tgt := 16) (by decide) (fun hB => ?_) (fun hB => ?_)
    · skip
      refine z_iconst X d_T_isNode_16 (v := nI 0) (by decide +kernel) ?_
      exact z_zret X d_T_isNode_17 (by decide) (by omega) (by omega) (⟨by simp [isn, hB, cb], rfl⟩)
    · skip
      refine z_iconst X d_T_isNode_12 (v := nI 1) (by decide +kernel) ?_
      refine z_goto X d_T_isNode_13 (tgt := 17) (by decide) ?_
      exact z_zret X d_T_isNode_17 (by decide) (by omega) (by omega) (⟨by simp [isn, hA, hB, cb], rfl⟩)
set_option maxHeartbeats 4000000 in
set_option maxRecDepth 100000 in
/-- isValue -/
theorem c_T_isValue {x : Int32} : Met l y_T_isValue (wy y_T_isValue b_T_isValue 1 (some .boolean)) (rm 0 0 0) (zPc D (tyl tI tZ tN tM) b N k [.int x]) (zQi D b N (fun z k2 => z = nI (cb (isn 32 x)) ∧ k2 = k)) 0 0 (zA b) := by
  refine z_met (own := R_T) (by decide) rfl rfl (Nat.le_of_ble_eq_true rfl) [some (.int x)] rfl ?_
  intro p e s m args below meth c X hin
  refine z_iload_n X d_T_isValue_0 rfl ?_
  refine z_if_lt X d_T_isValue_1 (tgt := 14) (by decide) (fun hA => ?_) (fun hA => ?_)
  · skip
    refine z_iconst X d_T_isValue_14 (v := nI 0) (by decide +kernel) ?_
    exact z_zret X d_T_isValue_15 (by decide) (by omega) (by omega) (⟨by simp [isn, hA, cb], rfl⟩)
  · skip
    refine z_iload_n X d_T_isValue_4 rfl ?_
    refine z_bipush X d_T_isValue_5 (v := nI 32) (by decide +kernel) ?_
    refine z_icmp_ge X d_T_isValue_7 (tgt := 14) (by decide) (fun hB => ?_) (fun hB => ?_)
    · skip
      refine z_iconst X d_T_isValue_14 (v := nI 0) (by decide +kernel) ?_
      exact z_zret X d_T_isValue_15 (by decide) (by omega) (by omega) (⟨by simp [isn, hB, cb], rfl⟩)
    · skip
      refine z_iconst X d_T_isValue_10 (v := nI 1) (by decide +kernel) ?_
      refine z_goto X d_T_isValue_11 (tgt := 15) (by decide) ?_
      exact z_zret X d_T_isValue_15 (by decide) (by omega) (by omega) (⟨by simp [isn, hA, hB, cb], rfl⟩)
set_option maxHeartbeats 4000000 in
set_option maxRecDepth 100000 in
/-- T_isLeaf -/
theorem c_T_isLeaf {kk nc : Nat} {dv lm : Int32} {F : Cf} {op : Nat → Nat → Int32} {oc : Nat → Nat} {Sn Sk Sm : Nat → Sv} {x : Int32} (hC : CW tI tN tM b N k kk dv nc lm F op oc Sn Sk Sm) (hnc : nc ≤ 12)  : Met l y_T_isLeaf (wy y_T_isLeaf b_T_isLeaf 2 (some .boolean)) (rm 1 0 0) (zPc D (tyl tI tZ tN tM) b N k [.ref b, .int x]) (zQi D b N (fun z k2 => z = nI (cb (isl nc (F 1) x)) ∧ k2 = k)) 0 0 (zA b) := by
  refine z_met (own := R_T) (by decide) rfl rfl (Nat.le_of_ble_eq_true rfl) [some (.ref b), some (.int x)] rfl ?_
  intro p e s m args below meth c X hin
  have ⟨h0, ⟨g1, h1, e1⟩, ⟨g2, h2, e2⟩, h3, h4, h5, h6, h7, h8⟩ := hC
  refine z_aload_n X d_T_isLeaf_0 rfl ?_
  refine z_iload_n X d_T_isLeaf_1 rfl ?_
  refine z_callVi X (c_T_isNode hC hnc) h0 rfl (cwV 1 X.1.2.2.2.2 (gi_V lm_T_43 vi_T_isNode ve_T_isNode vn_T vc_T_isNode) rfl rfl rfl (by decide +kernel) ⟨Nat.le_of_ble_eq_true rfl, Nat.le_of_ble_eq_true rfl⟩) (As := [.int x]) (st := []) rfl rfl (Nat.le_of_ble_eq_true rfl) d_T_isLeaf_2 ⟨Nat.le_of_ble_eq_true rfl, Nat.le_of_ble_eq_true rfl⟩ (fun z k2 hq => ?_)
  obtain ⟨rfl, rfl⟩ := hq
  cases hx : isn nc x
  · skip
    refine z_if_eqN X d_T_isLeaf_5 (tgt := 24) (by decide) (by decide) (fun _ => ?_) (fun h => absurd h (by decide))
    refine z_iconst X d_T_isLeaf_24 (v := nI 0) (by decide +kernel) ?_
    exact z_zret X d_T_isLeaf_25 (by decide) (by omega) (by omega) (⟨by simp [isl, hx, cb], rfl⟩)
  · skip
    refine z_if_eqN X d_T_isLeaf_5 (tgt := 24) (by decide) (by decide) (fun h => absurd h (by decide)) (fun _ => ?_)
    obtain ⟨j, hj, rfl⟩ := isn_t (by omega) hx
    refine z_lv (lv2 := [some (.ref b), some (.int (nI j))]) (fun _ _ q => q) ?_
    refine z_aload_n X d_T_isLeaf_8 rfl ?_
    refine z_get X h0 rfl in_T 0 (by decide) (wq lf_T_11) rfl d_T_isLeaf_9 ?_
    refine z_iload_n X d_T_isLeaf_12 rfl ?_
    refine z_aald X h1 2 rfl (j := j) (v := b + 3 + 14 * j) rfl (by omega) (by omega) (e1 _ (by omega)) d_T_isLeaf_13 ?_
    refine z_get X (h3 j (by omega)) rfl in_N 2 (by decide) (wq lf_T_47) rfl d_T_isLeaf_14 ?_
    refine z_if_eq X d_T_isLeaf_17 (tgt := 24) (by decide) (fun hB => ?_) (fun hB => ?_)
    · skip
      refine z_iconst X d_T_isLeaf_24 (v := nI 0) (by decide +kernel) ?_
      exact z_zret X d_T_isLeaf_25 (by decide) (by omega) (by omega) (⟨by rw [isl, hx, nI_clamp (by omega), hB]; rfl, rfl⟩)
    · skip
      refine z_iconst X d_T_isLeaf_20 (v := nI 1) (by decide +kernel) ?_
      refine z_goto X d_T_isLeaf_21 (tgt := 25) (by decide) ?_
      exact z_zret X d_T_isLeaf_25 (by decide) (by omega) (by omega) (⟨by rw [isl, hx, nI_clamp (by omega)]; simp [hB, cb], rfl⟩)
set_option maxHeartbeats 4000000 in
set_option maxRecDepth 100000 in
/-- T_slotWithNumber -/
theorem c_T_slotWithNumber {kk nc : Nat} {dv lm : Int32} {F : Cf} {op : Nat → Nat → Int32} {oc : Nat → Nat} {Sn Sk Sm : Nat → Sv} {x : Int32} (hC : CW tI tN tM b N k kk dv nc lm F op oc Sn Sk Sm) (hnc : nc ≤ 12)  : Met l y_T_slotWithNumber (wy y_T_slotWithNumber b_T_slotWithNumber 3 (some .int)) (rm 0 0 0) (zPc D (tyl tI tZ tN tM) b N k [.ref b, .int x]) (zQi D b N (fun z k2 => z = sw (F 4) x 12 ∧ k2 = k)) 0 0 (zA b) := by
  refine z_met (own := R_T) (by decide) rfl rfl (Nat.le_of_ble_eq_true rfl) [some (.ref b), some (.int x), none] rfl ?_
  intro p e s m args below meth c X hin
  have ⟨h0, ⟨g1, h1, e1⟩, ⟨g2, h2, e2⟩, h3, h4, h5, h6, h7, h8⟩ := hC
  refine z_iconst X d_T_slotWithNumber_0 (v := nI 0) (by decide +kernel) ?_
  refine z_istore_n X d_T_slotWithNumber_1 (by decide) rfl ?_
  refine z_lv (lv2 := [some (.ref b), some (.int x), some (.int (nI 0))]) (fun _ _ q => q) ?_
  refine z_loop (σ := Unit) (K := fun _ _ => k) (LV := fun v _ => [some (.ref b), some (.int x), some (.int (nI v))]) (I := fun v _ => sw (F 4) x 12 = sw (F 4) x (12 - v)) 12 0 () (by omega) (rfl) (rfl) (rfl) ?_ ?_
  · intro s1 hI
    refine z_lv (lv2 := [some (.ref b), some (.int x), some (.int (nI 12))]) (fun _ _ q => q) ?_
    refine z_iload_n X d_T_slotWithNumber_2 rfl ?_
    refine z_bipush X d_T_slotWithNumber_3 (v := nI 12) (by decide +kernel) ?_
    refine z_icmp_geN X d_T_slotWithNumber_5 (tgt := 29) (by decide) (by omega) (by omega) (fun _ => ?_) (fun h => absurd h (by omega))
    refine z_iconst X d_T_slotWithNumber_29 (v := -1) (by decide +kernel) ?_
    exact z_iret X d_T_slotWithNumber_30 (by omega) (by omega) (⟨hI.symm, rfl⟩)
  · intro v s1 hv hI ih
    rw [sw_at (F 4) x hv] at hI
    refine z_lv (lv2 := [some (.ref b), some (.int x), some (.int (nI v))]) (fun _ _ q => q) ?_
    refine z_iload_n X d_T_slotWithNumber_2 rfl ?_
    refine z_bipush X d_T_slotWithNumber_3 (v := nI 12) (by decide +kernel) ?_
    refine z_icmp_geN X d_T_slotWithNumber_5 (tgt := 29) (by decide) (by omega) (by omega) (fun h => absurd h (by omega)) (fun _ => ?_)
    refine z_aload_n X d_T_slotWithNumber_8 rfl ?_
    refine z_get X h0 rfl in_T 2 (by decide) (wq lf_T_21) rfl d_T_slotWithNumber_9 ?_
    refine z_iload_n X d_T_slotWithNumber_12 rfl ?_
    refine z_aald X h2 3 rfl (j := v) (v := b + 171 + 7 * v) rfl (by omega) (by omega) (e2 _ (by omega)) d_T_slotWithNumber_13 ?_
    refine z_get X (h7 v (by omega)) rfl in_M 0 (by decide) (wq lf_T_105) rfl d_T_slotWithNumber_14 ?_
    refine z_iload_n X d_T_slotWithNumber_17 rfl ?_
    refine z_icmp_ne X d_T_slotWithNumber_18 (tgt := 23) (by decide) (fun hA => ?_) (fun hA => ?_)
    · skip
      refine z_iincU X d_T_slotWithNumber_23 rfl (by decide) rfl ?_
      refine z_lv (lv2 := [some (.ref b), some (.int x), some (.int (nI (v + 1)))]) (fun _ _ q => q) ?_
      refine z_goto X d_T_slotWithNumber_26 (tgt := 2) (by decide) ?_
      exact z_at (ih () (by rw [hI, if_neg hA])) rfl rfl
    · skip
      refine z_iload_n X d_T_slotWithNumber_21 rfl ?_
      exact z_iret X d_T_slotWithNumber_22 (by omega) (by omega) (⟨by rw [hI, if_pos hA], rfl⟩)
set_option maxHeartbeats 4000000 in
set_option maxRecDepth 100000 in
/-- T_slotOf -/
theorem c_T_slotOf {kk nc : Nat} {dv lm : Int32} {F : Cf} {op : Nat → Nat → Int32} {oc : Nat → Nat} {Sn Sk Sm : Nat → Sv} {x : Int32} (hC : CW tI tN tM b N k kk dv nc lm F op oc Sn Sk Sm) (hnc : nc ≤ 12)  : Met l y_T_slotOf (wy y_T_slotOf b_T_slotOf 2 (some .int)) (rm 1 0 0) (zPc D (tyl tI tZ tN tM) b N k [.ref b, .int x]) (zQi D b N (fun z k2 => z = so (F 4) x ∧ k2 = k)) 0 0 (zA b) := by
  refine z_met (own := R_T) (by decide) rfl rfl (Nat.le_of_ble_eq_true rfl) [some (.ref b), some (.int x)] rfl ?_
  intro p e s m args below meth c X hin
  have ⟨h0, ⟨g1, h1, e1⟩, ⟨g2, h2, e2⟩, h3, h4, h5, h6, h7, h8⟩ := hC
  refine z_iload_n X d_T_slotOf_0 rfl ?_
  refine z_iconst X d_T_slotOf_1 (v := nI 1) (by decide +kernel) ?_
  refine z_icmp_ge X d_T_slotOf_2 (tgt := 9) (by decide) (fun hA => ?_) (fun hA => ?_)
  · skip
    refine z_aload_n X d_T_slotOf_9 rfl ?_
    refine z_iload_n X d_T_slotOf_10 rfl ?_
    refine z_callVi X (c_T_slotWithNumber hC hnc) h0 rfl (cwV 1 X.1.2.2.2.2 (gi_V lm_T_169 vi_T_slotWithNumber ve_T_slotWithNumber vn_T vc_T_slotWithNumber) rfl rfl rfl (by decide +kernel) ⟨Nat.le_of_ble_eq_true rfl, Nat.le_of_ble_eq_true rfl⟩) (As := [.int x]) (st := []) rfl rfl (Nat.le_of_ble_eq_true rfl) d_T_slotOf_11 ⟨Nat.le_of_ble_eq_true rfl, Nat.le_of_ble_eq_true rfl⟩ (fun z k2 hq => ?_)
    obtain ⟨rfl, rfl⟩ := hq
    exact z_iret X d_T_slotOf_14 (by omega) (by omega) (⟨by rw [so, if_pos hA], rfl⟩)
  · skip
    refine z_iconst X d_T_slotOf_5 (v := -1) (by decide +kernel) ?_
    refine z_goto X d_T_slotOf_6 (tgt := 14) (by decide) ?_
    exact z_iret X d_T_slotOf_14 (by omega) (by omega) (⟨by rw [so, if_neg hA], rfl⟩)
set_option maxHeartbeats 4000000 in
set_option maxRecDepth 100000 in
/-- T_freeSlot -/
theorem c_T_freeSlot {kk nc : Nat} {dv lm : Int32} {F : Cf} {op : Nat → Nat → Int32} {oc : Nat → Nat} {Sn Sk Sm : Nat → Sv} (hC : CW tI tN tM b N k kk dv nc lm F op oc Sn Sk Sm) (hnc : nc ≤ 12)  : Met l y_T_freeSlot (wy y_T_freeSlot b_T_freeSlot 1 (some .int)) (rm 1 0 0) (zPc D (tyl tI tZ tN tM) b N k [.ref b]) (zQi D b N (fun z k2 => z = sw (F 4) (nI 0) 12 ∧ k2 = k)) 0 0 (zA b) := by
  refine z_met (own := R_T) (by decide) rfl rfl (Nat.le_of_ble_eq_true rfl) [some (.ref b)] rfl ?_
  intro p e s m args below meth c X hin
  have ⟨h0, ⟨g1, h1, e1⟩, ⟨g2, h2, e2⟩, h3, h4, h5, h6, h7, h8⟩ := hC
  refine z_aload_n X d_T_freeSlot_0 rfl ?_
  refine z_iconst X d_T_freeSlot_1 (v := nI 0) (by decide +kernel) ?_
  refine z_callVi X (c_T_slotWithNumber hC hnc) h0 rfl (cwV 1 X.1.2.2.2.2 (gi_V lm_T_169 vi_T_slotWithNumber ve_T_slotWithNumber vn_T vc_T_slotWithNumber) rfl rfl rfl (by decide +kernel) ⟨Nat.le_of_ble_eq_true rfl, Nat.le_of_ble_eq_true rfl⟩) (As := [.int (nI 0)]) (st := []) rfl rfl (Nat.le_of_ble_eq_true rfl) d_T_freeSlot_2 ⟨Nat.le_of_ble_eq_true rfl, Nat.le_of_ble_eq_true rfl⟩ (fun z k2 hq => ?_)
  obtain ⟨rfl, rfl⟩ := hq
  exact z_iret X d_T_freeSlot_5 (by omega) (by omega) (⟨rfl, rfl⟩)
end
