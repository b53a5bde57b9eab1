/-! Contracts: the tree's questions -/
def isn (nc : Nat) (x : Int32) : Bool := !decide (x < 0) && !decide (nI nc ≤ x)
theorem isn_t {nc : Nat} {x : Int32} (hnc : nc < 65536) (h : isn nc x = true) : ∃ j, j < nc ∧ x = nI j := by
  rcases pk_ix x (n := nc) (by omega) with h1 | h1 | h1
  · simp [isn, h1] at h
  · simp [isn, h1] at h
  · exact h1
theorem isn_n {nc j : Nat} (hnc : nc < 65536) (h : j < nc) : isn nc (nI j) = true := by
  have h1 := nI_pos (n := j) (by omega)
  have h2 := nI_ge h (by omega)
  simp [isn, h1, h2]
theorem le_big {m : Nat} {y : Int32} (hm : m < 65536) (h : nI (m + 1) ≤ y) : ¬ y ≤ nI m := by
  rw [Int32.le_iff_toInt_le, nI_toInt (by omega)] at *
  omega
theorem isn_neg {nc : Nat} {x : Int32} (h : x < 0) : isn nc x = false := by simp [isn, h]
theorem isn_big {nc : Nat} {x : Int32} (h : nI nc ≤ x) : isn nc x = false := by simp [isn, h]
def isl (nc : Nat) (lf : Nat → Int32) (x : Int32) : Bool := isn nc x && !decide (lf x.toNatClampNeg = 0)
def sw (f : Nat → Int32) (x : Int32) : Nat → Int32
  | 0 => -1
  | n + 1 => if f (11 - n) = x then nI (11 - n) else sw f x n
theorem sw_at (f : Nat → Int32) (x : Int32) {v : Nat} (hv : v < 12) : sw f x (12 - v) = if f v = x then nI v else sw f x (12 - (v + 1)) := by
  rw [show 12 - v = (11 - v) + 1 by omega]
  simp only [sw]
  rw [show 11 - (11 - v) = v by omega, show 12 - (v + 1) = 11 - v by omega]
theorem sw_cases (f : Nat → Int32) (x : Int32) : ∀ n, n ≤ 12 → (sw f x n = -1 ∧ ∀ p, 12 - n ≤ p → p < 12 → f p ≠ x) ∨ ∃ p, p < 12 ∧ sw f x n = nI p ∧ f p = x
  | 0, _ => Or.inl ⟨rfl, fun p h1 h2 => by omega⟩
  | n + 1, hn => by
    simp only [sw]
    by_cases h : f (11 - n) = x
    · rw [if_pos h]
      exact Or.inr ⟨11 - n, by omega, rfl, h⟩
    · rw [if_neg h]
      rcases sw_cases f x n (by omega) with ⟨h1, h2⟩ | h1
      · refine Or.inl ⟨h1, fun p p1 p2 => ?_⟩
        by_cases hp : p = 11 - n
        · subst hp; exact h
        · exact h2 p (by omega) p2
      · exact Or.inr h1
def so (f : Nat → Int32) (x : Int32) : Int32 := if nI 1 ≤ x then sw f x 12 else -1
section
variable {l : Launch} {D : va_G} {tI tZ tN tM : ClassId} {b N : Nat} {k : Nat → va_E}
set_option maxHeartbeats 4000000 in
set_option maxRecDepth 100000 in
/-- T_isNode -/
theorem c_T_isNode {kk nc : Nat} {dv lm : Int32} {F : Cf} {op : Nat → Nat → Int32} {oc : Nat → Nat} {Sn Sk Sm : Nat → Sv} {x : Int32} (hC : CW tI tN tM b N k kk dv nc lm F op oc Sn Sk Sm) (hnc : nc ≤ 12)  : Met l y_T_isNode (wy y_T_isNode b_T_isNode 2 (some .boolean)) (rm 0 0 0) (zPc D (tyl tI tZ tN tM) b N k [.ref b, .int x]) (zQi D b N (fun z k2 => z = nI (cb (isn nc x)) ∧ k2 = k)) 0 0 (zA b) := by
  refine z_met (own := R_T) (by decide) rfl rfl (Nat.le_of_ble_eq_true rfl) [some (.ref b), some (.int x)] rfl ?_
  intro p e s m args below meth c X hin
  have ⟨h0, ⟨g1, h1, e1⟩, ⟨g2, h2, e2⟩, h3, h4, h5, h6, h7, h8⟩ := hC
  refine z_iload_n X d_T_isNode_0 rfl ?_
  refine z_if_lt X d_T_isNode_1 (tgt := 16) (by decide) (fun hA => ?_) (fun hA => ?_)
  · skip
    refine z_iconst X d_T_isNode_16 (v := nI 0) (by decide +kernel) ?_
    exact z_zret X d_T_isNode_17 (by decide) (by omega) (by omega) (⟨by simp [isn, hA, cb], rfl⟩)
  · skip
    refine z_iload_n X d_T_isNode_4 rfl ?_
    refine z_aload_n X d_T_isNode_5 rfl ?_
    refine z_get X h0 rfl in_T 1 (by decide) (wq lf_T_15) rfl d_T_isNode_6 ?_
    refine z_icmp_ge X d_T_isNode_9 (tgt := 16) (by decide) (fun hB => ?_) (fun hB => ?_)
    · skip
      refine z_iconst X d_T_isNode_16 (v := nI 0) (by decide +kernel) ?_
      exact z_zret X d_T_isNode_17 (by decide) (by omega) (by omega) (⟨by simp [isn, hB, cb], rfl⟩)
    · skip
      refine z_iconst X d_T_isNode_12 (v := nI 1) (by decide +kernel) ?_
      refine z_goto X d_T_isNode_13 (tgt := 17) (by decide) ?_
      exact z_zret X d_T_isNode_17 (by decide) (by omega) (by omega) (⟨by simp [isn, hA, hB, cb], rfl⟩)
set_option maxHeartbeats 4000000 in
set_option maxRecDepth 100000 in
/-- isValue -/
theorem c_T_isValue {x : Int32} : Met l y_T_isValue (wy y_T_isValue b_T_isValue 1 (some .boolean)) (rm 0 0 0) (zPc D (tyl tI tZ tN tM) b N k [.int x]) (zQi D b N (fun z k2 => z = nI (cb (isn 32 x)) ∧ k2 = k)) 0 0 (zA b) := by
  refine z_met (own := R_T) (by decide) rfl rfl (Nat.le_of_ble_eq_true rfl) [some (.int x)] rfl ?_
  intro p e s m args below meth c X hin
  refine z_iload_n X d_T_isValue_0 rfl ?_
  refine z_if_lt X d_T_isValue_1 (tgt := 14) (by decide) (fun hA => ?_) (fun hA => ?_)
  · skip
    refine z_iconst X d_T_isValue_14 (v := nI 0) (by decide +kernel) ?_
    exact z_zret X d_T_isValue_15 (by decide) (by omega) (by omega) (⟨by simp [isn, hA, cb], rfl⟩)
  · skip
    refine z_iload_n X d_T_isValue_4 rfl ?_
    refine z_bipush X d_T_isValue_5 (v := nI 32) (by decide +kernel) ?_
    refine z_icmp_ge X d_T_isValue_7 (tgt := 14) (by decide) (fun hB => ?_) (fun hB => ?_)
    · skip
      refine z_iconst X d_T_isValue_14 (v := nI 0) (by decide +kernel) ?_
      exact z_zret X d_T_isValue_15 (by decide) (by omega) (by omega) (⟨by simp [isn, hB, cb], rfl⟩)
    · skip
      refine z_iconst X d_T_isValue_10 (v := nI 1) (by decide +kernel) ?_
      refine z_goto X d_T_isValue_11 (tgt := 15) (by decide) ?_
      exact z_zret X d_T_isValue_15 (by decide) (by omega) (by omega) (⟨by simp [isn, hA, hB, cb], rfl⟩)
set_option maxHeartbeats 4000000 in
set_option maxRecDepth 100000 in
/-- T_isLeaf -/
theorem c_T_isLeaf {kk nc : Nat} {dv lm : Int32} {F : Cf} {op : Nat → Nat → Int32} {oc : Nat → Nat} {Sn Sk Sm : Nat → Sv} {x : Int32} (hC : CW tI tN tM b N k kk dv nc lm F op oc Sn Sk Sm) (hnc : nc ≤ 12)  : Met l y_T_isLeaf (wy y_T_isLeaf b_T_isLeaf 2 (some .boolean)) (rm 1 0 0) (zPc D (tyl tI tZ tN tM) b N k [.ref b, .int x]) (zQi D b N (fun z k2 => z = nI (cb (isl nc (F 1) x)) ∧ k2 = k)) 0 0 (zA b) := by
  refine z_met (own := R_T) (by decide) rfl rfl (Nat.le_of_ble_eq_true rfl) [some (.ref b), some (.int x)] rfl ?_
  intro p e s m args below meth c X hin
  have ⟨h0, ⟨g1, h1, e1⟩, ⟨g2, h2, e2⟩, h3, h4, h5, h6, h7, h8⟩ := hC
  refine z_aload_n X d_T_isLeaf_0 rfl ?_
  refine z_iload_n X d_T_isLeaf_1 rfl ?_
  refine z_callVi X (c_T_isNode hC hnc) h0 rfl (cwV 1 X.1.2.2.2.2 (gi_V lm_T_43 vi_T_isNode ve_T_isNode vn_T vc_T_isNode) rfl rfl rfl (by decide +kernel) ⟨Nat.le_of_ble_eq_true rfl, Nat.le_of_ble_eq_true rfl⟩) (As := [.int x]) (st := []) rfl rfl (Nat.le_of_ble_eq_true rfl) d_T_isLeaf_2 ⟨Nat.le_of_ble_eq_true rfl, Nat.le_of_ble_eq_true rfl⟩ (fun z k2 hq => ?_)
  obtain ⟨rfl, rfl⟩ := hq
  cases hx : isn nc x
  · skip
    refine z_if_eqN X d_T_isLeaf_5 (tgt := 24) (by decide) (by decide) (fun _ => ?_) (fun h => absurd h (by decide))
    refine z_iconst X d_T_isLeaf_24 (v := nI 0) (by decide +kernel) ?_
    exact z_zret X d_T_isLeaf_25 (by decide) (by omega) (by omega) (⟨by simp [isl, hx, cb], rfl⟩)
  · skip
    refine z_if_eqN X d_T_isLeaf_5 (tgt := 24) (by decide) (by decide) (fun h => absurd h (by decide)) (fun _ => ?_)
    obtain ⟨j, hj, rfl⟩ := isn_t (by omega) hx
    refine z_lv (lv2 := [some (.ref b), some (.int (nI j))]) (fun _ _ q => q) ?_
    refine z_aload_n X d_T_isLeaf_8 rfl ?_
    refine z_get X h0 rfl in_T 0 (by decide) (wq lf_T_11) rfl d_T_isLeaf_9 ?_
    refine z_iload_n X d_T_isLeaf_12 rfl ?_
    refine z_aald X h1 2 rfl (j := j) (v := b + 3 + 14 * j) rfl (by omega) (by omega) (e1 _ (by omega)) d_T_isLeaf_13 ?_
    refine z_get X (h3 j (by omega)) rfl in_N 2 (by decide) (wq lf_T_47) rfl d_T_isLeaf_14 ?_
    refine z_if_eq X d_T_isLeaf_17 (tgt := 24) (by decide) (fun hB => ?_) (fun hB => ?_)
    · skip
      refine z_iconst X d_T_isLeaf_24 (v := nI 0) (by decide +kernel) ?_
      exact z_zret X d_T_isLeaf_25 (by decide) (by omega) (by omega) (⟨by rw [isl, hx, nI_clamp (by omega), hB]; rfl, rfl⟩)
    · skip
      refine z_iconst X d_T_isLeaf_20 (v := nI 1) (by decide +kernel) ?_
      refine z_goto X d_T_isLeaf_21 (tgt := 25) (by decide) ?_
      exact z_zret X d_T_isLeaf_25 (by decide) (by omega) (by omega) (⟨by rw [isl, hx, nI_clamp (by omega)]; simp [hB, cb], rfl⟩)
set_option maxHeartbeats 4000000 in
set_option maxRecDepth 100000 in
/-- T_slotWithNumber -/
theorem c_T_slotWithNumber {kk nc : Nat} {dv lm : Int32} {F : Cf} {op : Nat → Nat → Int32} {oc : Nat → Nat} {Sn Sk Sm : Nat → Sv} {x : Int32} (hC : CW tI tN tM b N k kk dv nc lm F op oc Sn Sk Sm) (hnc : nc ≤ 12)  : Met l y_T_slotWithNumber (wy y_T_slotWithNumber b_T_slotWithNumber 3 (some .int)) (rm 0 0 0) (zPc D (tyl tI tZ tN tM) b N k [.ref b, .int x]) (zQi D b N (fun z k2 => z = sw (F 4) x 12 ∧ k2 = k)) 0 0 (zA b) := by
  refine z_met (own := R_T) (by decide) rfl rfl (Nat.le_of_ble_eq_true rfl) [some (.ref b), some (.int x), none] rfl ?_
  intro p e s m args below meth c X hin
  have ⟨h0, ⟨g1, h1, e1⟩, ⟨g2, h2, e2⟩, h3, h4, h5, h6, h7, h8⟩ := hC
  refine z_iconst X d_T_slotWithNumber_0 (v := nI 0) (by decide +kernel) ?_
  refine z_istore_n X d_T_slotWithNumber_1 (by decide) rfl ?_
  refine z_lv (lv2 := [some (.ref b), some (.int x), some (.int (nI 0))]) (fun _ _ q => q) ?_
  refine z_loop (σ := Unit) (K := fun _ _ => k) (LV := fun v _ => [some (.ref b), some (.int x), some (.int (nI v))]) (I := fun v _ => sw (F 4) x 12 = sw (F 4) x (12 - v)) 12 0 () (by omega) (rfl) (rfl) (rfl) ?_ ?_
  · intro s1 hI
    refine z_lv (lv2 := [some (.ref b), some (.int x), some (.int (nI 12))]) (fun _ _ q => q) ?_
    refine z_iload_n X d_T_slotWithNumber_2 rfl ?_
    refine z_bipush X d_T_slotWithNumber_3 (v := nI 12) (by decide +kernel) ?_
    refine z_icmp_geN X d_T_slotWithNumber_5 (tgt := 29) (by decide) (by omega) (by omega) (fun _ => ?_) (fun h => absurd h (by omega))
    refine z_iconst X d_T_slotWithNumber_29 (v := -1) (by decide +kernel) ?_
    exact z_iret X d_T_slotWithNumber_30 (by omega) (by omega) (⟨hI.symm, rfl⟩)
  · intro v s1 hv hI ih
    rw [sw_at (F 4) x hv] at hI
    refine z_lv (lv2 := [some (.ref b), some (.int x), some (.int (nI v))]) (fun _ _ q => q) ?_
    refine z_iload_n X d_T_slotWithNumber_2 rfl ?_
    refine z_bipush X d_T_slotWithNumber_3 (v := nI 12) (by decide +kernel) ?_
    refine z_icmp_geN X d_T_slotWithNumber_5 (tgt := 29) (by decide) (by omega) (by omega) (fun h => absurd h (by omega)) (fun _ => ?_)
    refine z_aload_n X d_T_slotWithNumber_8 rfl ?_
    refine z_get X h0 rfl in_T 2 (by decide) (wq lf_T_21) rfl d_T_slotWithNumber_9 ?_
    refine z_iload_n X d_T_slotWithNumber_12 rfl ?_
    refine z_aald X h2 3 rfl (j := v) (v := b + 171 + 7 * v) rfl (by omega) (by omega) (e2 _ (by omega)) d_T_slotWithNumber_13 ?_
    refine z_get X (h7 v (by omega)) rfl in_M 0 (by decide) (wq lf_T_105) rfl d_T_slotWithNumber_14 ?_
    refine z_iload_n X d_T_slotWithNumber_17 rfl ?_
    refine z_icmp_ne X d_T_slotWithNumber_18 (tgt := 23) (by decide) (fun hA => ?_) (fun hA => ?_)
    · skip
      refine z_iincU X d_T_slotWithNumber_23 rfl (by decide) rfl ?_
      refine z_lv (lv2 := [some (.ref b), some (.int x), some (.int (nI (v + 1)))]) (fun _ _ q => q) ?_
      refine z_goto X d_T_slotWithNumber_26 (tgt := 2) (by decide) ?_
      exact z_at (ih () (by rw [hI, if_neg hA])) rfl rfl
    · skip
      refine z_iload_n X d_T_slotWithNumber_21 rfl ?_
      exact z_iret X d_T_slotWithNumber_22 (by omega) (by omega) (⟨by rw [hI, if_pos hA], rfl⟩)
set_option maxHeartbeats 4000000 in
set_option maxRecDepth 100000 in
/-- T_slotOf -/
theorem c_T_slotOf {kk nc : Nat} {dv lm : Int32} {F : Cf} {op : Nat → Nat → Int32} {oc : Nat → Nat} {Sn Sk Sm : Nat → Sv} {x : Int32} (hC : CW tI tN tM b N k kk dv nc lm F op oc Sn Sk Sm) (hnc : nc ≤ 12)  : Met l y_T_slotOf (wy y_T_slotOf b_T_slotOf 2 (some .int)) (rm 1 0 0) (zPc D (tyl tI tZ tN tM) b N k [.ref b, .int x]) (zQi D b N (fun z k2 => z = so (F 4) x ∧ k2 = k)) 0 0 (zA b) := by
  refine z_met (own := R_T) (by decide) rfl rfl (Nat.le_of_ble_eq_true rfl) [some (.ref b), some (.int x)] rfl ?_
  intro p e s m args below meth c X hin
  have ⟨h0, ⟨g1, h1, e1⟩, ⟨g2, h2, e2⟩, h3, h4, h5, h6, h7, h8⟩ := hC
  refine z_iload_n X d_T_slotOf_0 rfl ?_
  refine z_iconst X d_T_slotOf_1 (v := nI 1) (by decide +kernel) ?_
  refine z_icmp_ge X d_T_slotOf_2 (tgt := 9) (by decide) (fun hA => ?_) (fun hA => ?_)
  · skip
    refine z_aload_n X d_T_slotOf_9 rfl ?_
    refine z_iload_n X d_T_slotOf_10 rfl ?_
    refine z_callVi X (c_T_slotWithNumber hC hnc) h0 rfl (cwV 1 X.1.2.2.2.2 (gi_V lm_T_169 vi_T_slotWithNumber ve_T_slotWithNumber vn_T vc_T_slotWithNumber) rfl rfl rfl (by decide +kernel) ⟨Nat.le_of_ble_eq_true rfl, Nat.le_of_ble_eq_true rfl⟩) (As := [.int x]) (st := []) rfl rfl (Nat.le_of_ble_eq_true rfl) d_T_slotOf_11 ⟨Nat.le_of_ble_eq_true rfl, Nat.le_of_ble_eq_true rfl⟩ (fun z k2 hq => ?_)
    obtain ⟨rfl, rfl⟩ := hq
    exact z_iret X d_T_slotOf_14 (by omega) (by omega) (⟨by rw [so, if_pos hA], rfl⟩)
  · skip
    refine z_iconst X d_T_slotOf_5 (v := -1) (by decide +kernel) ?_
    refine z_goto X d_T_slotOf_6 (tgt := 14) (by decide) ?_
    exact z_iret X d_T_slotOf_14 (by omega) (by omega) (⟨by rw [so, if_neg hA], rfl⟩)
set_option maxHeartbeats 4000000 in
set_option maxRecDepth 100000 in
/-- T_freeSlot -/
theorem c_T_freeSlot {kk nc : Nat} {dv lm : Int32} {F : Cf} {op : Nat → Nat → Int32} {oc : Nat → Nat} {Sn Sk Sm : Nat → Sv} (hC : CW tI tN tM b N k kk dv nc lm F op oc Sn Sk Sm) (hnc : nc ≤ 12)  : Met l y_T_freeSlot (wy y_T_freeSlot b_T_freeSlot 1 (some .int)) (rm 1 0 0) (zPc D (tyl tI tZ tN tM) b N k [.ref b]) (zQi D b N (fun z k2 => z = sw (F 4) (nI 0) 12 ∧ k2 = k)) 0 0 (zA b) := by
  refine z_met (own := R_T) (by decide) rfl rfl (Nat.le_of_ble_eq_true rfl) [some (.ref b)] rfl ?_
  intro p e s m args below meth c X hin
  have ⟨h0, ⟨g1, h1, e1⟩, ⟨g2, h2, e2⟩, h3, h4, h5, h6, h7, h8⟩ := hC
  refine z_aload_n X d_T_freeSlot_0 rfl ?_
  refine z_iconst X d_T_freeSlot_1 (v := nI 0) (by decide +kernel) ?_
  refine z_callVi X (c_T_slotWithNumber hC hnc) h0 rfl (cwV 1 X.1.2.2.2.2 (gi_V lm_T_169 vi_T_slotWithNumber ve_T_slotWithNumber vn_T vc_T_slotWithNumber) rfl rfl rfl (by decide +kernel) ⟨Nat.le_of_ble_eq_true rfl, Nat.le_of_ble_eq_true rfl⟩) (As := [.int (nI 0)]) (st := []) rfl rfl (Nat.le_of_ble_eq_true rfl) d_T_freeSlot_2 ⟨Nat.le_of_ble_eq_true rfl, Nat.le_of_ble_eq_true rfl⟩ (fun z k2 hq => ?_)
  obtain ⟨rfl, rfl⟩ := hq
  exact z_iret X d_T_freeSlot_5 (by omega) (by omega) (⟨rfl, rfl⟩)
set_option maxHeartbeats 4000000 in
set_option maxRecDepth 100000 in
/-- T_onTheWay -/
theorem c_T_onTheWay {kk nc : Nat} {dv lm : Int32} {F : Cf} {op : Nat → Nat → Int32} {oc : Nat → Nat} {Sn Sk Sm : Nat → Sv} (hC : CW tI tN tM b N k kk dv nc lm F op oc Sn Sk Sm) (hnc : nc ≤ 12)  : Met l y_T_onTheWay (wy y_T_onTheWay b_T_onTheWay 3 (some .int)) (rm 0 0 0) (zPc D (tyl tI tZ tN tM) b N k [.ref b]) (zQi D b N (fun z k2 => z = nI (ct (fun p => !decide (F 4 p = 0)) 12) ∧ k2 = k)) 0 0 (zA b) := by
  refine z_met (own := R_T) (by decide) rfl rfl (Nat.le_of_ble_eq_true rfl) [some (.ref b), none, none] rfl ?_
  intro p e s m args below meth c X hin
  have ⟨h0, ⟨g1, h1, e1⟩, ⟨g2, h2, e2⟩, h3, h4, h5, h6, h7, h8⟩ := hC
  refine z_iconst X d_T_onTheWay_0 (v := nI 0) (by decide +kernel) ?_
  refine z_istore_n X d_T_onTheWay_1 (by decide) rfl ?_
  refine z_lv (lv2 := [some (.ref b), some (.int (nI 0)), none]) (fun _ _ q => q) ?_
  refine z_iconst X d_T_onTheWay_2 (v := nI 0) (by decide +kernel) ?_
  refine z_istore_n X d_T_onTheWay_3 (by decide) rfl ?_
  refine z_lv (lv2 := [some (.ref b), some (.int (nI 0)), some (.int (nI 0))]) (fun _ _ q => q) ?_
  refine z_loop (σ := Unit) (K := fun _ _ => k) (LV := fun v _ => [some (.ref b), some (.int (nI (ct (fun p => !decide (F 4 p = 0)) v))), some (.int (nI v))]) (I := fun _ _ => True) 12 0 () (by omega) (trivial) (rfl) (rfl) ?_ ?_
  · intro s1 _
    refine z_lv (lv2 := [some (.ref b), some (.int (nI (ct (fun p => !decide (F 4 p = 0)) 12))), some (.int (nI 12))]) (fun _ _ q => q) ?_
    refine z_iload_n X d_T_onTheWay_4 rfl ?_
    refine z_bipush X d_T_onTheWay_5 (v := nI 12) (by decide +kernel) ?_
    refine z_icmp_geN X d_T_onTheWay_7 (tgt := 31) (by decide) (by omega) (by omega) (fun _ => ?_) (fun h => absurd h (by omega))
    refine z_iload_n X d_T_onTheWay_31 rfl ?_
    exact z_iret X d_T_onTheWay_32 (by omega) (by omega) (⟨rfl, rfl⟩)
  · intro v s1 hv _ ih
    refine z_lv (lv2 := [some (.ref b), some (.int (nI (ct (fun p => !decide (F 4 p = 0)) v))), some (.int (nI v))]) (fun _ _ q => q) ?_
    refine z_iload_n X d_T_onTheWay_4 rfl ?_
    refine z_bipush X d_T_onTheWay_5 (v := nI 12) (by decide +kernel) ?_
    refine z_icmp_geN X d_T_onTheWay_7 (tgt := 31) (by decide) (by omega) (by omega) (fun h => absurd h (by omega)) (fun _ => ?_)
    refine z_aload_n X d_T_onTheWay_10 rfl ?_
    refine z_get X h0 rfl in_T 2 (by decide) (wq lf_T_21) rfl d_T_onTheWay_11 ?_
    refine z_iload_n X d_T_onTheWay_14 rfl ?_
    refine z_aald X h2 3 rfl (j := v) (v := b + 171 + 7 * v) rfl (by omega) (by omega) (e2 _ (by omega)) d_T_onTheWay_15 ?_
    refine z_get X (h7 v (by omega)) rfl in_M 0 (by decide) (wq lf_T_105) rfl d_T_onTheWay_16 ?_
    refine z_if_eq X d_T_onTheWay_19 (tgt := 25) (by decide) (fun hA => ?_) (fun hA => ?_)
    · skip
      refine z_iincU X d_T_onTheWay_25 rfl (by decide) rfl ?_
      refine z_lv (lv2 := [some (.ref b), some (.int (nI (ct (fun p => !decide (F 4 p = 0)) v))), some (.int (nI (v + 1)))]) (fun _ _ q => q) ?_
      refine z_goto X d_T_onTheWay_28 (tgt := 4) (by decide) ?_
      exact z_at (ih () trivial) rfl (by simp only [ct]; rw [if_neg (by simp [hA])]; rfl)
    · skip
      refine z_iincU X d_T_onTheWay_22 rfl (by decide) rfl ?_
      refine z_lv (lv2 := [some (.ref b), some (.int (nI (ct (fun p => !decide (F 4 p = 0)) v + 1))), some (.int (nI v))]) (fun _ _ q => q) ?_
      refine z_iincU X d_T_onTheWay_25 rfl (by decide) rfl ?_
      refine z_lv (lv2 := [some (.ref b), some (.int (nI (ct (fun p => !decide (F 4 p = 0)) v + 1))), some (.int (nI (v + 1)))]) (fun _ _ q => q) ?_
      refine z_goto X d_T_onTheWay_28 (tgt := 4) (by decide) ?_
      exact z_at (ih () trivial) rfl (by simp only [ct]; rw [if_pos (by simp [hA])])
set_option maxHeartbeats 4000000 in
set_option maxRecDepth 100000 in
/-- T_total -/
theorem c_T_total {kk nc : Nat} {dv lm : Int32} {F : Cf} {op : Nat → Nat → Int32} {oc : Nat → Nat} {Sn Sk Sm : Nat → Sv} {x : Int32} (hC : CW tI tN tM b N k kk dv nc lm F op oc Sn Sk Sm) (hnc : nc ≤ 12)  : Met l y_T_total (wy y_T_total b_T_total 2 (some .int)) (rm 1 0 0) (zPc D (tyl tI tZ tN tM) b N k [.ref b, .int x]) (zQi D b N (fun z k2 => z = (if isn nc x = true then (Sn x.toNatClampNeg).1 else -1) ∧ k2 = k)) 0 0 (zA b) := by
  refine z_met (own := R_T) (by decide) rfl rfl (Nat.le_of_ble_eq_true rfl) [some (.ref b), some (.int x)] rfl ?_
  intro p e s m args below meth c X hin
  have ⟨h0, ⟨g1, h1, e1⟩, ⟨g2, h2, e2⟩, h3, h4, h5, h6, h7, h8⟩ := hC
  refine z_aload_n X d_T_total_0 rfl ?_
  refine z_iload_n X d_T_total_1 rfl ?_
  refine z_callVi X (c_T_isNode hC hnc) h0 rfl (cwV 1 X.1.2.2.2.2 (gi_V lm_T_43 vi_T_isNode ve_T_isNode vn_T vc_T_isNode) rfl rfl rfl (by decide +kernel) ⟨Nat.le_of_ble_eq_true rfl, Nat.le_of_ble_eq_true rfl⟩) (As := [.int x]) (st := []) rfl rfl (Nat.le_of_ble_eq_true rfl) d_T_total_2 ⟨Nat.le_of_ble_eq_true rfl, Nat.le_of_ble_eq_true rfl⟩ (fun z k2 hq => ?_)
  obtain ⟨rfl, rfl⟩ := hq
  cases hx : isn nc x
  · skip
    refine z_if_eqN X d_T_total_5 (tgt := 23) (by decide) (by decide) (fun _ => ?_) (fun h => absurd h (by decide))
    refine z_iconst X d_T_total_23 (v := -1) (by decide +kernel) ?_
    exact z_iret X d_T_total_24 (by omega) (by omega) (⟨by rw [if_neg (by simp)], rfl⟩)
  · skip
    refine z_if_eqN X d_T_total_5 (tgt := 23) (by decide) (by decide) (fun h => absurd h (by decide)) (fun _ => ?_)
    obtain ⟨j, hj, rfl⟩ := isn_t (by omega) hx
    refine z_lv (lv2 := [some (.ref b), some (.int (nI j))]) (fun _ _ q => q) ?_
    rw [nI_clamp (by omega)]
    refine z_aload_n X d_T_total_8 rfl ?_
    refine z_get X h0 rfl in_T 0 (by decide) (wq lf_T_11) rfl d_T_total_9 ?_
    refine z_iload_n X d_T_total_12 rfl ?_
    refine z_aald X h1 2 rfl (j := j) (v := b + 3 + 14 * j) rfl (by omega) (by omega) (e1 _ (by omega)) d_T_total_13 ?_
    refine z_get X (h3 j (by omega)) rfl in_N 6 (by decide) (wq lf_T_86) rfl d_T_total_14 ?_
    refine z_get X (h5 j (by omega)).1 rfl in_S 0 (by decide) (wq lf_T_120) rfl d_T_total_17 ?_
    refine z_goto X d_T_total_20 (tgt := 24) (by decide) ?_
    exact z_iret X d_T_total_24 (by omega) (by omega) (⟨by rw [if_pos (by first | rfl | exact ⟨rfl, rfl⟩)], rfl⟩)
set_option maxHeartbeats 4000000 in
set_option maxRecDepth 100000 in
/-- T_sum -/
theorem c_T_sum {kk nc : Nat} {dv lm : Int32} {F : Cf} {op : Nat → Nat → Int32} {oc : Nat → Nat} {Sn Sk Sm : Nat → Sv} {x : Int32} (hC : CW tI tN tM b N k kk dv nc lm F op oc Sn Sk Sm) (hnc : nc ≤ 12)  : Met l y_T_sum (wy y_T_sum b_T_sum 2 (some .long)) (rm 1 0 0) (zPc D (tyl tI tZ tN tM) b N k [.ref b, .int x]) (zQl D b N (fun z k2 => z = (if isn nc x = true then (Sn x.toNatClampNeg).2.1 else -1) ∧ k2 = k)) 0 0 (zA b) := by
  refine z_met (own := R_T) (by decide) rfl rfl (Nat.le_of_ble_eq_true rfl) [some (.ref b), some (.int x)] rfl ?_
  intro p e s m args below meth c X hin
  have ⟨h0, ⟨g1, h1, e1⟩, ⟨g2, h2, e2⟩, h3, h4, h5, h6, h7, h8⟩ := hC
  refine z_aload_n X d_T_sum_0 rfl ?_
  refine z_iload_n X d_T_sum_1 rfl ?_
  refine z_callVi X (c_T_isNode hC hnc) h0 rfl (cwV 1 X.1.2.2.2.2 (gi_V lm_T_43 vi_T_isNode ve_T_isNode vn_T vc_T_isNode) rfl rfl rfl (by decide +kernel) ⟨Nat.le_of_ble_eq_true rfl, Nat.le_of_ble_eq_true rfl⟩) (As := [.int x]) (st := []) rfl rfl (Nat.le_of_ble_eq_true rfl) d_T_sum_2 ⟨Nat.le_of_ble_eq_true rfl, Nat.le_of_ble_eq_true rfl⟩ (fun z k2 hq => ?_)
  obtain ⟨rfl, rfl⟩ := hq
  cases hx : isn nc x
  · skip
    refine z_if_eqN X d_T_sum_5 (tgt := 23) (by decide) (by decide) (fun _ => ?_) (fun h => absurd h (by decide))
    refine z_ldc2 X d_T_sum_23 (wq lk_T_127) ?_
    exact z_lret X d_T_sum_26 (by omega) (by omega) (⟨by rw [if_neg (by simp)], rfl⟩)
  · skip
    refine z_if_eqN X d_T_sum_5 (tgt := 23) (by decide) (by decide) (fun h => absurd h (by decide)) (fun _ => ?_)
    obtain ⟨j, hj, rfl⟩ := isn_t (by omega) hx
    refine z_lv (lv2 := [some (.ref b), some (.int (nI j))]) (fun _ _ q => q) ?_
    rw [nI_clamp (by omega)]
    refine z_aload_n X d_T_sum_8 rfl ?_
    refine z_get X h0 rfl in_T 0 (by decide) (wq lf_T_11) rfl d_T_sum_9 ?_
    refine z_iload_n X d_T_sum_12 rfl ?_
    refine z_aald X h1 2 rfl (j := j) (v := b + 3 + 14 * j) rfl (by omega) (by omega) (e1 _ (by omega)) d_T_sum_13 ?_
    refine z_get X (h3 j (by omega)) rfl in_N 6 (by decide) (wq lf_T_86) rfl d_T_sum_14 ?_
    refine z_get X (h5 j (by omega)).1 rfl in_S 1 (by decide) (wq lf_T_123) rfl d_T_sum_17 ?_
    refine z_goto X d_T_sum_20 (tgt := 26) (by decide) ?_
    exact z_lret X d_T_sum_26 (by omega) (by omega) (⟨by rw [if_pos (by first | rfl | exact ⟨rfl, rfl⟩)], rfl⟩)
set_option maxHeartbeats 4000000 in
set_option maxRecDepth 100000 in
/-- T_extreme -/
theorem c_T_extreme {kk nc : Nat} {dv lm : Int32} {F : Cf} {op : Nat → Nat → Int32} {oc : Nat → Nat} {Sn Sk Sm : Nat → Sv} {x y : Int32} (hC : CW tI tN tM b N k kk dv nc lm F op oc Sn Sk Sm) (hnc : nc ≤ 12)  : Met l y_T_extreme (wy y_T_extreme b_T_extreme 3 (some .int)) (rm 1 0 0) (zPc D (tyl tI tZ tN tM) b N k [.ref b, .int x, .int y]) (zQi D b N (fun z k2 => z = (if isn nc x = true ∧ ¬ (Sn x.toNatClampNeg).1 = 0 then if y = 0 then (Sn x.toNatClampNeg).2.2.1 else (Sn x.toNatClampNeg).2.2.2.1 else -1) ∧ k2 = k)) 0 0 (zA b) := by
  refine z_met (own := R_T) (by decide) rfl rfl (Nat.le_of_ble_eq_true rfl) [some (.ref b), some (.int x), some (.int y)] rfl ?_
  intro p e s m args below meth c X hin
  have ⟨h0, ⟨g1, h1, e1⟩, ⟨g2, h2, e2⟩, h3, h4, h5, h6, h7, h8⟩ := hC
  refine z_aload_n X d_T_extreme_0 rfl ?_
  refine z_iload_n X d_T_extreme_1 rfl ?_
  refine z_callVi X (c_T_isNode hC hnc) h0 rfl (cwV 1 X.1.2.2.2.2 (gi_V lm_T_43 vi_T_isNode ve_T_isNode vn_T vc_T_isNode) rfl rfl rfl (by decide +kernel) ⟨Nat.le_of_ble_eq_true rfl, Nat.le_of_ble_eq_true rfl⟩) (As := [.int x]) (st := []) rfl rfl (Nat.le_of_ble_eq_true rfl) d_T_extreme_2 ⟨Nat.le_of_ble_eq_true rfl, Nat.le_of_ble_eq_true rfl⟩ (fun z k2 hq => ?_)
  obtain ⟨rfl, rfl⟩ := hq
  cases hx : isn nc x
  · skip
    refine z_if_eqN X d_T_extreme_5 (tgt := 23) (by decide) (by decide) (fun _ => ?_) (fun h => absurd h (by decide))
    refine z_iconst X d_T_extreme_23 (v := -1) (by decide +kernel) ?_
    exact z_iret X d_T_extreme_24 (by omega) (by omega) (⟨by rw [if_neg (by simp)], rfl⟩)
  · skip
    refine z_if_eqN X d_T_extreme_5 (tgt := 23) (by decide) (by decide) (fun h => absurd h (by decide)) (fun _ => ?_)
    obtain ⟨j, hj, rfl⟩ := isn_t (by omega) hx
    refine z_lv (lv2 := [some (.ref b), some (.int (nI j)), some (.int y)]) (fun _ _ q => q) ?_
    rw [nI_clamp (by omega)]
    refine z_aload_n X d_T_extreme_8 rfl ?_
    refine z_get X h0 rfl in_T 0 (by decide) (wq lf_T_11) rfl d_T_extreme_9 ?_
    refine z_iload_n X d_T_extreme_12 rfl ?_
    refine z_aald X h1 2 rfl (j := j) (v := b + 3 + 14 * j) rfl (by omega) (by omega) (e1 _ (by omega)) d_T_extreme_13 ?_
    refine z_get X (h3 j (by omega)) rfl in_N 6 (by decide) (wq lf_T_86) rfl d_T_extreme_14 ?_
    refine z_get X (h5 j (by omega)).1 rfl in_S 0 (by decide) (wq lf_T_120) rfl d_T_extreme_17 ?_
    refine z_if_ne X d_T_extreme_20 (tgt := 25) (by decide) (fun hB => ?_) (fun hB => ?_)
    · skip
      refine z_iload_n X d_T_extreme_25 rfl ?_
      refine z_if_eq X d_T_extreme_26 (tgt := 44) (by decide) (fun hC => ?_) (fun hC => ?_)
      · skip
        refine z_aload_n X d_T_extreme_44 rfl ?_
        refine z_get X h0 rfl in_T 0 (by decide) (wq lf_T_11) rfl d_T_extreme_45 ?_
        refine z_iload_n X d_T_extreme_48 rfl ?_
        refine z_aald X h1 2 rfl (j := j) (v := b + 3 + 14 * j) rfl (by omega) (by omega) (e1 _ (by omega)) d_T_extreme_49 ?_
        refine z_get X (h3 j (by omega)) rfl in_N 6 (by decide) (wq lf_T_86) rfl d_T_extreme_50 ?_
        refine z_get X (h5 j (by omega)).1 rfl in_S 2 (by decide) (wq lf_T_132) rfl d_T_extreme_53 ?_
        exact z_iret X d_T_extreme_56 (by omega) (by omega) (⟨by rw [if_pos ⟨rfl, hB⟩, if_pos hC], rfl⟩)
      · skip
        refine z_aload_n X d_T_extreme_29 rfl ?_
        refine z_get X h0 rfl in_T 0 (by decide) (wq lf_T_11) rfl d_T_extreme_30 ?_
        refine z_iload_n X d_T_extreme_33 rfl ?_
        refine z_aald X h1 2 rfl (j := j) (v := b + 3 + 14 * j) rfl (by omega) (by omega) (e1 _ (by omega)) d_T_extreme_34 ?_
        refine z_get X (h3 j (by omega)) rfl in_N 6 (by decide) (wq lf_T_86) rfl d_T_extreme_35 ?_
        refine z_get X (h5 j (by omega)).1 rfl in_S 3 (by decide) (wq lf_T_129) rfl d_T_extreme_38 ?_
        refine z_goto X d_T_extreme_41 (tgt := 56) (by decide) ?_
        exact z_iret X d_T_extreme_56 (by omega) (by omega) (⟨by rw [if_pos ⟨rfl, hB⟩, if_neg hC], rfl⟩)
    · skip
      refine z_iconst X d_T_extreme_23 (v := -1) (by decide +kernel) ?_
      exact z_iret X d_T_extreme_24 (by omega) (by omega) (⟨by rw [if_neg (fun q => q.2 hB)], rfl⟩)
set_option maxHeartbeats 4000000 in
set_option maxRecDepth 100000 in
/-- T_covered -/
theorem c_T_covered {kk nc : Nat} {dv lm : Int32} {F : Cf} {op : Nat → Nat → Int32} {oc : Nat → Nat} {Sn Sk Sm : Nat → Sv} {x y : Int32} (hC : CW tI tN tM b N k kk dv nc lm F op oc Sn Sk Sm) (hnc : nc ≤ 12)  : Met l y_T_covered (wy y_T_covered b_T_covered 3 (some .int)) (rm 2 0 0) (zPc D (tyl tI tZ tN tM) b N k [.ref b, .int x, .int y]) (zQi D b N (fun z k2 => z = (if isn nc x = true ∧ isl nc (F 1) y = true then (Sn x.toNatClampNeg).2.2.2.2.1 y.toNatClampNeg else -1) ∧ k2 = k)) 0 0 (zA b) := by
  refine z_met (own := R_T) (by decide) rfl rfl (Nat.le_of_ble_eq_true rfl) [some (.ref b), some (.int x), some (.int y)] rfl ?_
  intro p e s m args below meth c X hin
  have ⟨h0, ⟨g1, h1, e1⟩, ⟨g2, h2, e2⟩, h3, h4, h5, h6, h7, h8⟩ := hC
  refine z_aload_n X d_T_covered_0 rfl ?_
  refine z_iload_n X d_T_covered_1 rfl ?_
  refine z_callVi X (c_T_isNode hC hnc) h0 rfl (cwV 1 X.1.2.2.2.2 (gi_V lm_T_43 vi_T_isNode ve_T_isNode vn_T vc_T_isNode) rfl rfl rfl (by decide +kernel) ⟨Nat.le_of_ble_eq_true rfl, Nat.le_of_ble_eq_true rfl⟩) (As := [.int x]) (st := []) rfl rfl (Nat.le_of_ble_eq_true rfl) d_T_covered_2 ⟨Nat.le_of_ble_eq_true rfl, Nat.le_of_ble_eq_true rfl⟩ (fun z k2 hq => ?_)
  obtain ⟨rfl, rfl⟩ := hq
  cases hx : isn nc x
  · skip
    refine z_if_eqN X d_T_covered_5 (tgt := 33) (by decide) (by decide) (fun _ => ?_) (fun h => absurd h (by decide))
    refine z_iconst X d_T_covered_33 (v := -1) (by decide +kernel) ?_
    exact z_iret X d_T_covered_34 (by omega) (by omega) (⟨by rw [if_neg (by simp)], rfl⟩)
  · skip
    refine z_if_eqN X d_T_covered_5 (tgt := 33) (by decide) (by decide) (fun h => absurd h (by decide)) (fun _ => ?_)
    obtain ⟨j, hj, rfl⟩ := isn_t (by omega) hx
    refine z_lv (lv2 := [some (.ref b), some (.int (nI j)), some (.int y)]) (fun _ _ q => q) ?_
    rw [nI_clamp (by omega)]
    refine z_aload_n X d_T_covered_8 rfl ?_
    refine z_iload_n X d_T_covered_9 rfl ?_
    refine z_callVi X (c_T_isLeaf hC hnc) h0 rfl (cwV 1 X.1.2.2.2.2 (gi_V lm_T_54 vi_T_isLeaf ve_T_isLeaf vn_T vc_T_isLeaf) rfl rfl rfl (by decide +kernel) ⟨Nat.le_of_ble_eq_true rfl, Nat.le_of_ble_eq_true rfl⟩) (As := [.int y]) (st := []) rfl rfl (Nat.le_of_ble_eq_true rfl) d_T_covered_10 ⟨Nat.le_of_ble_eq_true rfl, Nat.le_of_ble_eq_true rfl⟩ (fun z k2 hq => ?_)
    obtain ⟨rfl, rfl⟩ := hq
    cases hy : isl nc (F 1) y
    · skip
      refine z_if_eqN X d_T_covered_13 (tgt := 33) (by decide) (by decide) (fun _ => ?_) (fun h => absurd h (by decide))
      refine z_iconst X d_T_covered_33 (v := -1) (by decide +kernel) ?_
      exact z_iret X d_T_covered_34 (by omega) (by omega) (⟨by rw [if_neg (by simp)], rfl⟩)
    · skip
      refine z_if_eqN X d_T_covered_13 (tgt := 33) (by decide) (by decide) (fun h => absurd h (by decide)) (fun _ => ?_)
      have hy2 : isn nc y = true := by cases hz : isn nc y with | true => rfl | false => rw [isl, hz] at hy; simp at hy
      obtain ⟨v, hv, rfl⟩ := isn_t (by omega) hy2
      refine z_lv (lv2 := [some (.ref b), some (.int (nI j)), some (.int (nI v))]) (fun _ _ q => q) ?_
      rw [nI_clamp (n := v) (by omega)]
      refine z_aload_n X d_T_covered_16 rfl ?_
      refine z_get X h0 rfl in_T 0 (by decide) (wq lf_T_11) rfl d_T_covered_17 ?_
      refine z_iload_n X d_T_covered_20 rfl ?_
      refine z_aald X h1 2 rfl (j := j) (v := b + 3 + 14 * j) rfl (by omega) (by omega) (e1 _ (by omega)) d_T_covered_21 ?_
      refine z_get X (h3 j (by omega)) rfl in_N 6 (by decide) (wq lf_T_86) rfl d_T_covered_22 ?_
      refine z_get X (h5 j (by omega)).1 rfl in_S 4 (by decide) (wq lf_T_135) rfl d_T_covered_25 ?_
      refine z_iload_n X d_T_covered_28 rfl ?_
      refine z_iald X (h5 j (by omega)).2.1 0 rfl (j := v) rfl (by omega) (by omega) d_T_covered_29 ?_
      refine z_goto X d_T_covered_30 (tgt := 34) (by decide) ?_
      exact z_iret X d_T_covered_34 (by omega) (by omega) (⟨by rw [if_pos ⟨rfl, rfl⟩], rfl⟩)
set_option maxHeartbeats 4000000 in
set_option maxRecDepth 100000 in
/-- T_estimate -/
theorem c_T_estimate {kk nc : Nat} {dv lm : Int32} {F : Cf} {op : Nat → Nat → Int32} {oc : Nat → Nat} {Sn Sk Sm : Nat → Sv} {x y : Int32} (hC : CW tI tN tM b N k kk dv nc lm F op oc Sn Sk Sm) (hnc : nc ≤ 12)  : Met l y_T_estimate (wy y_T_estimate b_T_estimate 3 (some .int)) (rm 1 0 0) (zPc D (tyl tI tZ tN tM) b N k [.ref b, .int x, .int y]) (zQi D b N (fun z k2 => z = (if isn nc x = true ∧ isn 32 y = true then (Sn x.toNatClampNeg).2.2.2.2.2.1 y.toNatClampNeg else -1) ∧ k2 = k)) 0 0 (zA b) := by
  refine z_met (own := R_T) (by decide) rfl rfl (Nat.le_of_ble_eq_true rfl) [some (.ref b), some (.int x), some (.int y)] rfl ?_
  intro p e s m args below meth c X hin
  have ⟨h0, ⟨g1, h1, e1⟩, ⟨g2, h2, e2⟩, h3, h4, h5, h6, h7, h8⟩ := hC
  refine z_aload_n X d_T_estimate_0 rfl ?_
  refine z_iload_n X d_T_estimate_1 rfl ?_
  refine z_callVi X (c_T_isNode hC hnc) h0 rfl (cwV 1 X.1.2.2.2.2 (gi_V lm_T_43 vi_T_isNode ve_T_isNode vn_T vc_T_isNode) rfl rfl rfl (by decide +kernel) ⟨Nat.le_of_ble_eq_true rfl, Nat.le_of_ble_eq_true rfl⟩) (As := [.int x]) (st := []) rfl rfl (Nat.le_of_ble_eq_true rfl) d_T_estimate_2 ⟨Nat.le_of_ble_eq_true rfl, Nat.le_of_ble_eq_true rfl⟩ (fun z k2 hq => ?_)
  obtain ⟨rfl, rfl⟩ := hq
  cases hx : isn nc x
  · skip
    refine z_if_eqN X d_T_estimate_5 (tgt := 35) (by decide) (by decide) (fun _ => ?_) (fun h => absurd h (by decide))
    refine z_iconst X d_T_estimate_35 (v := -1) (by decide +kernel) ?_
    exact z_iret X d_T_estimate_36 (by omega) (by omega) (⟨by rw [if_neg (by simp)], rfl⟩)
  · skip
    refine z_if_eqN X d_T_estimate_5 (tgt := 35) (by decide) (by decide) (fun h => absurd h (by decide)) (fun _ => ?_)
    obtain ⟨j, hj, rfl⟩ := isn_t (by omega) hx
    refine z_lv (lv2 := [some (.ref b), some (.int (nI j)), some (.int y)]) (fun _ _ q => q) ?_
    rw [nI_clamp (by omega)]
    refine z_iload_n X d_T_estimate_8 rfl ?_
    refine z_callSi X (a := 0) (c_T_isValue) (cwS 1 X.1.2.2.2.2 (gi_S lm_T_57 vs_T_isValue vn_T vc_T_isValue) rfl rfl rfl (by decide +kernel) ⟨Nat.le_of_ble_eq_true rfl, Nat.le_of_ble_eq_true rfl⟩) (As := [.int y]) (st := []) rfl rfl (Nat.le_of_ble_eq_true rfl) d_T_estimate_9 ⟨Nat.le_of_ble_eq_true rfl, Nat.le_of_ble_eq_true rfl⟩ (fun z k2 hq => ?_)
    obtain ⟨rfl, rfl⟩ := hq
    cases hy : isn 32 y
    · skip
      refine z_if_eqN X d_T_estimate_12 (tgt := 35) (by decide) (by decide) (fun _ => ?_) (fun h => absurd h (by decide))
      refine z_iconst X d_T_estimate_35 (v := -1) (by decide +kernel) ?_
      exact z_iret X d_T_estimate_36 (by omega) (by omega) (⟨by rw [if_neg (by simp)], rfl⟩)
    · skip
      refine z_if_eqN X d_T_estimate_12 (tgt := 35) (by decide) (by decide) (fun h => absurd h (by decide)) (fun _ => ?_)
      obtain ⟨v, hv, rfl⟩ := isn_t (by omega) hy
      refine z_lv (lv2 := [some (.ref b), some (.int (nI j)), some (.int (nI v))]) (fun _ _ q => q) ?_
      rw [nI_clamp (n := v) (by omega)]
      refine z_aload_n X d_T_estimate_15 rfl ?_
      refine z_get X h0 rfl in_T 0 (by decide) (wq lf_T_11) rfl d_T_estimate_16 ?_
      refine z_iload_n X d_T_estimate_19 rfl ?_
      refine z_aald X h1 2 rfl (j := j) (v := b + 3 + 14 * j) rfl (by omega) (by omega) (e1 _ (by omega)) d_T_estimate_20 ?_
      refine z_get X (h3 j (by omega)) rfl in_N 6 (by decide) (wq lf_T_86) rfl d_T_estimate_21 ?_
      refine z_get X (h5 j (by omega)).1 rfl in_S 5 (by decide) (wq lf_T_139) rfl d_T_estimate_24 ?_
      refine z_get X (h5 j (by omega)).2.2.1 rfl in_C 1 (by decide) (wq lf_T_143) rfl d_T_estimate_27 ?_
      refine z_iload_n X d_T_estimate_30 rfl ?_
      refine z_iald X (h5 j (by omega)).2.2.2.1 0 rfl (j := v) rfl (by omega) (by omega) d_T_estimate_31 ?_
      refine z_goto X d_T_estimate_32 (tgt := 36) (by decide) ?_
      exact z_iret X d_T_estimate_36 (by omega) (by omega) (⟨by rw [if_pos ⟨rfl, rfl⟩], rfl⟩)
set_option maxHeartbeats 4000000 in
set_option maxRecDepth 100000 in
/-- T_top -/
theorem c_T_top {kk nc : Nat} {dv lm : Int32} {F : Cf} {op : Nat → Nat → Int32} {oc : Nat → Nat} {Sn Sk Sm : Nat → Sv} {x y : Int32} (hC : CW tI tN tM b N k kk dv nc lm F op oc Sn Sk Sm) (hnc : nc ≤ 12)  : Met l y_T_top (wy y_T_top b_T_top 3 (some .int)) (rm 2 0 0) (zPc D (tyl tI tZ tN tM) b N k [.ref b, .int x, .int y]) (zQi D b N (fun z k2 => z = (if isn nc x = true then vr (Sn x.toNatClampNeg).2.2.2.2.2.1 y 32 else -1) ∧ k2 = k)) 0 0 (zA b) := by
  refine z_met (own := R_T) (by decide) rfl rfl (Nat.le_of_ble_eq_true rfl) [some (.ref b), some (.int x), some (.int y)] rfl ?_
  intro p e s m args below meth c X hin
  have ⟨h0, ⟨g1, h1, e1⟩, ⟨g2, h2, e2⟩, h3, h4, h5, h6, h7, h8⟩ := hC
  refine z_aload_n X d_T_top_0 rfl ?_
  refine z_iload_n X d_T_top_1 rfl ?_
  refine z_callVi X (c_T_isNode hC hnc) h0 rfl (cwV 1 X.1.2.2.2.2 (gi_V lm_T_43 vi_T_isNode ve_T_isNode vn_T vc_T_isNode) rfl rfl rfl (by decide +kernel) ⟨Nat.le_of_ble_eq_true rfl, Nat.le_of_ble_eq_true rfl⟩) (As := [.int x]) (st := []) rfl rfl (Nat.le_of_ble_eq_true rfl) d_T_top_2 ⟨Nat.le_of_ble_eq_true rfl, Nat.le_of_ble_eq_true rfl⟩ (fun z k2 hq => ?_)
  obtain ⟨rfl, rfl⟩ := hq
  cases hx : isn nc x
  · skip
    refine z_if_eqN X d_T_top_5 (tgt := 27) (by decide) (by decide) (fun _ => ?_) (fun h => absurd h (by decide))
    refine z_iconst X d_T_top_27 (v := -1) (by decide +kernel) ?_
    exact z_iret X d_T_top_28 (by omega) (by omega) (⟨by rw [if_neg (by simp)], rfl⟩)
  · skip
    refine z_if_eqN X d_T_top_5 (tgt := 27) (by decide) (by decide) (fun h => absurd h (by decide)) (fun _ => ?_)
    obtain ⟨j, hj, rfl⟩ := isn_t (by omega) hx
    refine z_lv (lv2 := [some (.ref b), some (.int (nI j)), some (.int y)]) (fun _ _ q => q) ?_
    rw [nI_clamp (by omega)]
    refine z_aload_n X d_T_top_8 rfl ?_
    refine z_get X h0 rfl in_T 0 (by decide) (wq lf_T_11) rfl d_T_top_9 ?_
    refine z_iload_n X d_T_top_12 rfl ?_
    refine z_aald X h1 2 rfl (j := j) (v := b + 3 + 14 * j) rfl (by omega) (by omega) (e1 _ (by omega)) d_T_top_13 ?_
    refine z_get X (h3 j (by omega)) rfl in_N 6 (by decide) (wq lf_T_86) rfl d_T_top_14 ?_
    refine z_get X (h5 j (by omega)).1 rfl in_S 5 (by decide) (wq lf_T_139) rfl d_T_top_17 ?_
    refine z_iload_n X d_T_top_20 rfl ?_
    refine z_callVi X (c_C_valueAtRank (h5 j (by omega)).2.2.1 (h5 j (by omega)).2.2.2.1) (h5 j (by omega)).2.2.1 rfl (cwV 1 X.1.2.2.2.2 (gi_V lm_T_148 vi_C_valueAtRank ve_C_valueAtRank vn_C vc_C_valueAtRank) rfl rfl rfl (by decide +kernel) ⟨Nat.le_of_ble_eq_true rfl, Nat.le_of_ble_eq_true rfl⟩) (As := [.int y]) (st := []) rfl rfl (Nat.le_of_ble_eq_true rfl) d_T_top_21 ⟨Nat.le_of_ble_eq_true rfl, Nat.le_of_ble_eq_true rfl⟩ (fun z k2 hq => ?_)
    obtain ⟨rfl, rfl⟩ := hq
    refine z_goto X d_T_top_24 (tgt := 28) (by decide) ?_
    exact z_iret X d_T_top_28 (by omega) (by omega) (⟨by rw [if_pos rfl], rfl⟩)
set_option maxHeartbeats 4000000 in
set_option maxRecDepth 100000 in
/-- T_digestSize -/
theorem c_T_digestSize {kk nc : Nat} {dv lm : Int32} {F : Cf} {op : Nat → Nat → Int32} {oc : Nat → Nat} {Sn Sk Sm : Nat → Sv} {x : Int32} (hC : CW tI tN tM b N k kk dv nc lm F op oc Sn Sk Sm) (hnc : nc ≤ 12)  : Met l y_T_digestSize (wy y_T_digestSize b_T_digestSize 2 (some .int)) (rm 1 0 0) (zPc D (tyl tI tZ tN tM) b N k [.ref b, .int x]) (zQi D b N (fun z k2 => z = (if isn nc x = true then nI (ct (fun q => decide (0 < (Sn x.toNatClampNeg).2.2.2.2.2.2 (q + 1))) 63) else -1) ∧ k2 = k)) 0 0 (zA b) := by
  refine z_met (own := R_T) (by decide) rfl rfl (Nat.le_of_ble_eq_true rfl) [some (.ref b), some (.int x)] rfl ?_
  intro p e s m args below meth c X hin
  have ⟨h0, ⟨g1, h1, e1⟩, ⟨g2, h2, e2⟩, h3, h4, h5, h6, h7, h8⟩ := hC
  refine z_aload_n X d_T_digestSize_0 rfl ?_
  refine z_iload_n X d_T_digestSize_1 rfl ?_
  refine z_callVi X (c_T_isNode hC hnc) h0 rfl (cwV 1 X.1.2.2.2.2 (gi_V lm_T_43 vi_T_isNode ve_T_isNode vn_T vc_T_isNode) rfl rfl rfl (by decide +kernel) ⟨Nat.le_of_ble_eq_true rfl, Nat.le_of_ble_eq_true rfl⟩) (As := [.int x]) (st := []) rfl rfl (Nat.le_of_ble_eq_true rfl) d_T_digestSize_2 ⟨Nat.le_of_ble_eq_true rfl, Nat.le_of_ble_eq_true rfl⟩ (fun z k2 hq => ?_)
  obtain ⟨rfl, rfl⟩ := hq
  cases hx : isn nc x
  · skip
    refine z_if_eqN X d_T_digestSize_5 (tgt := 26) (by decide) (by decide) (fun _ => ?_) (fun h => absurd h (by decide))
    refine z_iconst X d_T_digestSize_26 (v := -1) (by decide +kernel) ?_
    exact z_iret X d_T_digestSize_27 (by omega) (by omega) (⟨by rw [if_neg (by simp)], rfl⟩)
  · skip
    refine z_if_eqN X d_T_digestSize_5 (tgt := 26) (by decide) (by decide) (fun h => absurd h (by decide)) (fun _ => ?_)
    obtain ⟨j, hj, rfl⟩ := isn_t (by omega) hx
    refine z_lv (lv2 := [some (.ref b), some (.int (nI j))]) (fun _ _ q => q) ?_
    rw [nI_clamp (by omega)]
    refine z_aload_n X d_T_digestSize_8 rfl ?_
    refine z_get X h0 rfl in_T 0 (by decide) (wq lf_T_11) rfl d_T_digestSize_9 ?_
    refine z_iload_n X d_T_digestSize_12 rfl ?_
    refine z_aald X h1 2 rfl (j := j) (v := b + 3 + 14 * j) rfl (by omega) (by omega) (e1 _ (by omega)) d_T_digestSize_13 ?_
    refine z_get X (h3 j (by omega)) rfl in_N 6 (by decide) (wq lf_T_86) rfl d_T_digestSize_14 ?_
    refine z_get X (h5 j (by omega)).1 rfl in_S 6 (by decide) (wq lf_T_151) rfl d_T_digestSize_17 ?_
    refine z_callVi X (c_D_rangesInUse (h5 j (by omega)).2.2.2.2.1 (h5 j (by omega)).2.2.2.2.2) (h5 j (by omega)).2.2.2.2.1 rfl (cwV 0 X.1.2.2.2.2 (gi_V lm_T_155 vi_D_rangesInUse ve_D_rangesInUse vn_D vc_D_rangesInUse) rfl rfl rfl (by decide +kernel) ⟨Nat.le_of_ble_eq_true rfl, Nat.le_of_ble_eq_true rfl⟩) (As := []) (st := []) rfl rfl (Nat.le_of_ble_eq_true rfl) d_T_digestSize_20 ⟨Nat.le_of_ble_eq_true rfl, Nat.le_of_ble_eq_true rfl⟩ (fun z k2 hq => ?_)
    obtain ⟨rfl, rfl⟩ := hq
    refine z_goto X d_T_digestSize_23 (tgt := 27) (by decide) ?_
    exact z_iret X d_T_digestSize_27 (by omega) (by omega) (⟨by rw [if_pos rfl], rfl⟩)
set_option maxHeartbeats 4000000 in
set_option maxRecDepth 100000 in
/-- T_below -/
theorem c_T_below {kk nc : Nat} {dv lm : Int32} {F : Cf} {op : Nat → Nat → Int32} {oc : Nat → Nat} {Sn Sk Sm : Nat → Sv} {x y w : Int32} (hC : CW tI tN tM b N k kk dv nc lm F op oc Sn Sk Sm) (hnc : nc ≤ 12)  : Met l y_T_below (wy y_T_below b_T_below 5 (some .int)) (rm 2 0 0) (zPc D (tyl tI tZ tN tM) b N k [.ref b, .int x, .int y, .int w]) (zQi D b N (fun z k2 => z = (if isn nc x = true ∧ isn 33 y = true then if w = 0 then eb (Sn x.toNatClampNeg).2.2.2.2.2.2 y.toNatClampNeg else sb (Sn x.toNatClampNeg).2.2.2.2.2.2 y.toNatClampNeg else -1) ∧ k2 = k)) 0 0 (zA b) := by
  refine z_met (own := R_T) (by decide) rfl rfl (Nat.le_of_ble_eq_true rfl) [some (.ref b), some (.int x), some (.int y), some (.int w), none] rfl ?_
  intro p e s m args below meth c X hin
  have ⟨h0, ⟨g1, h1, e1⟩, ⟨g2, h2, e2⟩, h3, h4, h5, h6, h7, h8⟩ := hC
  refine z_aload_n X d_T_below_0 rfl ?_
  refine z_iload_n X d_T_below_1 rfl ?_
  refine z_callVi X (c_T_isNode hC hnc) h0 rfl (cwV 1 X.1.2.2.2.2 (gi_V lm_T_43 vi_T_isNode ve_T_isNode vn_T vc_T_isNode) rfl rfl rfl (by decide +kernel) ⟨Nat.le_of_ble_eq_true rfl, Nat.le_of_ble_eq_true rfl⟩) (As := [.int x]) (st := []) rfl rfl (Nat.le_of_ble_eq_true rfl) d_T_below_2 ⟨Nat.le_of_ble_eq_true rfl, Nat.le_of_ble_eq_true rfl⟩ (fun z k2 hq => ?_)
  obtain ⟨rfl, rfl⟩ := hq
  cases hx : isn nc x
  · skip
    refine z_if_eqN X d_T_below_5 (tgt := 18) (by decide) (by decide) (fun _ => ?_) (fun h => absurd h (by decide))
    refine z_iconst X d_T_below_18 (v := -1) (by decide +kernel) ?_
    exact z_iret X d_T_below_19 (by omega) (by omega) (⟨by rw [if_neg (by simp)], rfl⟩)
  · skip
    refine z_if_eqN X d_T_below_5 (tgt := 18) (by decide) (by decide) (fun h => absurd h (by decide)) (fun _ => ?_)
    obtain ⟨j, hj, rfl⟩ := isn_t (by omega) hx
    refine z_lv (lv2 := [some (.ref b), some (.int (nI j)), some (.int y), some (.int w), none]) (fun _ _ q => q) ?_
    rw [nI_clamp (by omega)]
    refine z_iload_n X d_T_below_8 rfl ?_
    refine z_if_lt X d_T_below_9 (tgt := 18) (by decide) (fun hA => ?_) (fun hA => ?_)
    · skip
      refine z_iconst X d_T_below_18 (v := -1) (by decide +kernel) ?_
      exact z_iret X d_T_below_19 (by omega) (by omega) (⟨by rw [if_neg (fun q => by have := q.2; rw [isn_neg hA] at this; cases this)], rfl⟩)
    · skip
      refine z_iload_n X d_T_below_12 rfl ?_
      refine z_bipush X d_T_below_13 (v := nI 32) (by decide +kernel) ?_
      rcases pk_ix y (n := 33) (by omega) with q | q | ⟨v, hv, rfl⟩
      · exact absurd q hA
      · skip
        refine z_icmp_le X d_T_below_15 (tgt := 20) (by decide) (fun h => absurd h (le_big (by omega) q)) (fun _ => ?_)
        refine z_iconst X d_T_below_18 (v := -1) (by decide +kernel) ?_
        exact z_iret X d_T_below_19 (by omega) (by omega) (⟨by rw [if_neg (fun z => by have := z.2; rw [isn_big q] at this; cases this)], rfl⟩)
      · skip
        refine z_icmp_leN X d_T_below_15 (tgt := 20) (by decide) (by omega) (by omega) (fun _ => ?_) (fun h => absurd h (by omega))
        refine z_lv (lv2 := [some (.ref b), some (.int (nI j)), some (.int (nI v)), some (.int w), none]) (fun _ _ q => q) ?_
        try rw [nI_clamp (n := v) (by omega)]
        rw [if_pos ⟨rfl, isn_n (nc := 33) (by omega) hv⟩]
        refine z_aload_n X d_T_below_20 rfl ?_
        refine z_get X h0 rfl in_T 0 (by decide) (wq lf_T_11) rfl d_T_below_21 ?_
        refine z_iload_n X d_T_below_24 rfl ?_
        refine z_aald X h1 2 rfl (j := j) (v := b + 3 + 14 * j) rfl (by omega) (by omega) (e1 _ (by omega)) d_T_below_25 ?_
        refine z_get X (h3 j (by omega)) rfl in_N 6 (by decide) (wq lf_T_86) rfl d_T_below_26 ?_
        refine z_get X (h5 j (by omega)).1 rfl in_S 6 (by decide) (wq lf_T_151) rfl d_T_below_29 ?_
        refine z_astore X d_T_below_32 (by decide) rfl ?_
        refine z_lv (lv2 := [some (.ref b), some (.int (nI j)), some (.int (nI v)), some (.int w), some (.ref (b + 3 + 14 * j + 2 + 4))]) (fun _ _ q => q) ?_
        refine z_iload_n X d_T_below_34 rfl ?_
        refine z_if_eq X d_T_below_35 (tgt := 47) (by decide) (fun hW => ?_) (fun hW => ?_)
        · skip
          refine z_aload X d_T_below_47 rfl ?_
          refine z_iload_n X d_T_below_49 rfl ?_
          refine z_callVi X (c_D_endingBefore (h5 j (by omega)).2.2.2.2.1 (h5 j (by omega)).2.2.2.2.2 (y := v) (by omega)) (h5 j (by omega)).2.2.2.2.1 rfl (cwV 1 X.1.2.2.2.2 (gi_V lm_T_163 vi_D_endingBefore ve_D_endingBefore vn_D vc_D_endingBefore) rfl rfl rfl (by decide +kernel) ⟨Nat.le_of_ble_eq_true rfl, Nat.le_of_ble_eq_true rfl⟩) (As := [.int (nI v)]) (st := []) rfl rfl (Nat.le_of_ble_eq_true rfl) d_T_below_50 ⟨Nat.le_of_ble_eq_true rfl, Nat.le_of_ble_eq_true rfl⟩ (fun z k2 hq => ?_)
          obtain ⟨rfl, rfl⟩ := hq
          exact z_iret X d_T_below_53 (by omega) (by omega) (⟨by rw [if_pos hW], rfl⟩)
        · skip
          refine z_aload X d_T_below_38 rfl ?_
          refine z_iload_n X d_T_below_40 rfl ?_
          refine z_callVi X (c_D_startingBefore (h5 j (by omega)).2.2.2.2.1 (h5 j (by omega)).2.2.2.2.2 (y := v) (by omega)) (h5 j (by omega)).2.2.2.2.1 rfl (cwV 1 X.1.2.2.2.2 (gi_V lm_T_160 vi_D_startingBefore ve_D_startingBefore vn_D vc_D_startingBefore) rfl rfl rfl (by decide +kernel) ⟨Nat.le_of_ble_eq_true rfl, Nat.le_of_ble_eq_true rfl⟩) (As := [.int (nI v)]) (st := []) rfl rfl (Nat.le_of_ble_eq_true rfl) d_T_below_41 ⟨Nat.le_of_ble_eq_true rfl, Nat.le_of_ble_eq_true rfl⟩ (fun z k2 hq => ?_)
          obtain ⟨rfl, rfl⟩ := hq
          refine z_goto X d_T_below_44 (tgt := 53) (by decide) ?_
          exact z_iret X d_T_below_53 (by omega) (by omega) (⟨by rw [if_neg hW], rfl⟩)
set_option maxHeartbeats 4000000 in
set_option maxRecDepth 100000 in
/-- T_quantile -/
theorem c_T_quantile {kk nc : Nat} {dv lm : Int32} {F : Cf} {op : Nat → Nat → Int32} {oc : Nat → Nat} {Sn Sk Sm : Nat → Sv} {x y : Int32} (hC : CW tI tN tM b N k kk dv nc lm F op oc Sn Sk Sm) (hnc : nc ≤ 12)  : Met l y_T_quantile (wy y_T_quantile b_T_quantile 4 (some .int)) (rm 2 0 0) (zPc D (tyl tI tZ tN tM) b N k [.ref b, .int x, .int y]) (zQi D b N (fun z k2 => z = (if isn nc x = true ∧ isn 1001 y = true then vq (Sn x.toNatClampNeg).2.2.2.2.2.2 (y * (Sn x.toNatClampNeg).1) 32 else -1) ∧ k2 = k)) 0 0 (zA b) := by
  refine z_met (own := R_T) (by decide) rfl rfl (Nat.le_of_ble_eq_true rfl) [some (.ref b), some (.int x), some (.int y), none] rfl ?_
  intro p e s m args below meth c X hin
  have ⟨h0, ⟨g1, h1, e1⟩, ⟨g2, h2, e2⟩, h3, h4, h5, h6, h7, h8⟩ := hC
  refine z_aload_n X d_T_quantile_0 rfl ?_
  refine z_iload_n X d_T_quantile_1 rfl ?_
  refine z_callVi X (c_T_isNode hC hnc) h0 rfl (cwV 1 X.1.2.2.2.2 (gi_V lm_T_43 vi_T_isNode ve_T_isNode vn_T vc_T_isNode) rfl rfl rfl (by decide +kernel) ⟨Nat.le_of_ble_eq_true rfl, Nat.le_of_ble_eq_true rfl⟩) (As := [.int x]) (st := []) rfl rfl (Nat.le_of_ble_eq_true rfl) d_T_quantile_2 ⟨Nat.le_of_ble_eq_true rfl, Nat.le_of_ble_eq_true rfl⟩ (fun z k2 hq => ?_)
  obtain ⟨rfl, rfl⟩ := hq
  cases hx : isn nc x
  · skip
    refine z_if_eqN X d_T_quantile_5 (tgt := 19) (by decide) (by decide) (fun _ => ?_) (fun h => absurd h (by decide))
    refine z_iconst X d_T_quantile_19 (v := -1) (by decide +kernel) ?_
    exact z_iret X d_T_quantile_20 (by omega) (by omega) (⟨by rw [if_neg (by simp)], rfl⟩)
  · skip
    refine z_if_eqN X d_T_quantile_5 (tgt := 19) (by decide) (by decide) (fun h => absurd h (by decide)) (fun _ => ?_)
    obtain ⟨j, hj, rfl⟩ := isn_t (by omega) hx
    refine z_lv (lv2 := [some (.ref b), some (.int (nI j)), some (.int y), none]) (fun _ _ q => q) ?_
    rw [nI_clamp (by omega)]
    refine z_iload_n X d_T_quantile_8 rfl ?_
    refine z_if_lt X d_T_quantile_9 (tgt := 19) (by decide) (fun hA => ?_) (fun hA => ?_)
    · skip
      refine z_iconst X d_T_quantile_19 (v := -1) (by decide +kernel) ?_
      exact z_iret X d_T_quantile_20 (by omega) (by omega) (⟨by rw [if_neg (fun q => by have := q.2; rw [isn_neg hA] at this; cases this)], rfl⟩)
    · skip
      refine z_iload_n X d_T_quantile_12 rfl ?_
      refine z_sipush X d_T_quantile_13 (v := nI 1000) (by decide +kernel) ?_
      rcases pk_ix y (n := 1001) (by omega) with q | q | ⟨v, hv, rfl⟩
      · exact absurd q hA
      · skip
        refine z_icmp_le X d_T_quantile_16 (tgt := 21) (by decide) (fun h => absurd h (le_big (by omega) q)) (fun _ => ?_)
        refine z_iconst X d_T_quantile_19 (v := -1) (by decide +kernel) ?_
        exact z_iret X d_T_quantile_20 (by omega) (by omega) (⟨by rw [if_neg (fun z => by have := z.2; rw [isn_big q] at this; cases this)], rfl⟩)
      · skip
        refine z_icmp_leN X d_T_quantile_16 (tgt := 21) (by decide) (by omega) (by omega) (fun _ => ?_) (fun h => absurd h (by omega))
        refine z_lv (lv2 := [some (.ref b), some (.int (nI j)), some (.int (nI v)), none]) (fun _ _ q => q) ?_
        try rw [nI_clamp (n := v) (by omega)]
        rw [if_pos ⟨rfl, isn_n (nc := 1001) (by omega) hv⟩]
        refine z_aload_n X d_T_quantile_21 rfl ?_
        refine z_get X h0 rfl in_T 0 (by decide) (wq lf_T_11) rfl d_T_quantile_22 ?_
        refine z_iload_n X d_T_quantile_25 rfl ?_
        refine z_aald X h1 2 rfl (j := j) (v := b + 3 + 14 * j) rfl (by omega) (by omega) (e1 _ (by omega)) d_T_quantile_26 ?_
        refine z_get X (h3 j (by omega)) rfl in_N 6 (by decide) (wq lf_T_86) rfl d_T_quantile_27 ?_
        refine z_astore_n X d_T_quantile_30 (by decide) rfl ?_
        refine z_lv (lv2 := [some (.ref b), some (.int (nI j)), some (.int (nI v)), some (.ref (b + 3 + 14 * j + 2))]) (fun _ _ q => q) ?_
        refine z_aload_n X d_T_quantile_31 rfl ?_
        refine z_get X (h5 j (by omega)).1 rfl in_S 6 (by decide) (wq lf_T_151) rfl d_T_quantile_32 ?_
        refine z_iload_n X d_T_quantile_35 rfl ?_
        refine z_aload_n X d_T_quantile_36 rfl ?_
        refine z_get X (h5 j (by omega)).1 rfl in_S 0 (by decide) (wq lf_T_120) rfl d_T_quantile_37 ?_
        refine z_imul X d_T_quantile_40 ?_
        refine z_callVi X (c_D_valueReaching (h5 j (by omega)).2.2.2.2.1 (h5 j (by omega)).2.2.2.2.2) (h5 j (by omega)).2.2.2.2.1 rfl (cwV 1 X.1.2.2.2.2 (gi_V lm_T_166 vi_D_valueReaching ve_D_valueReaching vn_D vc_D_valueReaching) rfl rfl rfl (by decide +kernel) ⟨Nat.le_of_ble_eq_true rfl, Nat.le_of_ble_eq_true rfl⟩) (As := [.int ((nI v) * ((Sn j).1))]) (st := []) rfl rfl (Nat.le_of_ble_eq_true rfl) d_T_quantile_41 ⟨Nat.le_of_ble_eq_true rfl, Nat.le_of_ble_eq_true rfl⟩ (fun z k2 hq => ?_)
        obtain ⟨rfl, rfl⟩ := hq
        exact z_iret X d_T_quantile_44 (by omega) (by omega) (⟨rfl, rfl⟩)
end
