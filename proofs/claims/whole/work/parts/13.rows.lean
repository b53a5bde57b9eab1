/-! Contracts: rows of ints, counters -/
abbrev aI (t : ClassId) (n : Nat) (f : Nat → Int32) : va_E := .inl (t, n, .inl f)
abbrev tyl (tI tZ tN tM : ClassId) : List (ClassId × FieldType) := [(tI, .int), (tZ, .boolean), (tN, .object R_N), (tM, .object R_M)]
theorem up_up {α : Type} {f : Nat → α} {q : Nat} {x y : α} : va_up (va_up f q x) q y = va_up f q y := by
  funext r
  by_cases h : r = q
  · simp [va_up, h]
  · simp [va_up, h]
theorem up_self {α : Type} {f : Nat → α} {q : Nat} {x : α} (h : f q = x) : va_up f q x = f := by
  funext r
  by_cases h2 : r = q
  · subst h2
    simp [va_up, h]
  · simp [va_up, h2]
theorem pr_s0 (m : Nat) (F C : Nat → Int32) {x : Int32} (hx : x = F m) : upd (pr 0 m F C) m x = pr 0 (m + 1) F C := by
  have := pr_succ 0 m F C hx
  rwa [Nat.zero_add] at this
theorem pr_i0 {m j : Nat} {F C : Nat → Int32} (h : j < m) : pr 0 m F C j = F j := by
  have := pr_in (w := 0) (F := F) (C := C) h
  rwa [Nat.zero_add] at this
section
variable {l : Launch} {D : va_G} {tI tZ tN tM : ClassId} {b N : Nat} {k : Nat → va_E}
set_option maxHeartbeats 4000000 in
set_option maxRecDepth 100000 in
/-- clear(row): every place is 0 -/
theorem c_T_clear {a n : Nat} {f : Nat → Int32} (hk : zc b N k a (aI tI n f)) (hn : n < 65536) : Met l y_T_clear (wy y_T_clear b_T_clear 2 none) (rm 0 0 0) (zPc D (tyl tI tZ tN tM) b N k [.ref a]) (zQv D b N (fun k2 => k2 = va_up k a (aI tI n (pr 0 n (fun _ => 0) f)))) 0 0 (zA b) := by
  refine z_met (own := R_T) (by decide) rfl rfl (Nat.le_of_ble_eq_true rfl) [some (.ref a), none] rfl ?_
  intro p e s m args below meth c X hin
  refine z_iconst X d_T_clear_0 (v := nI 0) (by decide +kernel) ?_
  refine z_istore_n X d_T_clear_1 (by decide) rfl ?_
  refine z_lv (lv2 := [some (.ref a), some (.int (nI 0))]) (fun _ _ q => q) ?_
  refine z_loop (σ := Unit) (K := fun v _ => va_up k a (aI tI n (pr 0 v (fun _ => 0) f))) (LV := fun v _ => [some (.ref a), some (.int (nI v))]) (I := fun _ _ => True) n 0 () (by omega) (trivial) (by rw [pr_0]; exact (up_self hk.2.2).symm) (rfl) ?_ ?_
  · intro s1 _
    have h0 := hk.up (y := aI tI n (pr 0 n (fun _ => 0) f))
    refine z_iload_n X d_T_clear_2 rfl ?_
    refine z_aload_n X d_T_clear_3 rfl ?_
    refine z_alen X h0 0 rfl d_T_clear_4 ?_
    refine z_icmp_geN X d_T_clear_5 (tgt := 18) (by decide) (by omega) (by omega) (fun _ => ?_) (fun h => absurd h (by omega))
    exact z_vret X d_T_clear_18 (by omega) (by omega) (rfl)
  · intro v s1 hv _ ih
    have h0 := hk.up (y := aI tI n (pr 0 v (fun _ => 0) f))
    refine z_iload_n X d_T_clear_2 rfl ?_
    refine z_aload_n X d_T_clear_3 rfl ?_
    refine z_alen X h0 0 rfl d_T_clear_4 ?_
    refine z_icmp_geN X d_T_clear_5 (tgt := 18) (by decide) (by omega) (by omega) (fun h => absurd h (by omega)) (fun _ => ?_)
    refine z_aload_n X d_T_clear_8 rfl ?_
    refine z_iload_n X d_T_clear_9 rfl ?_
    refine z_iconst X d_T_clear_10 (v := nI 0) (by decide +kernel) ?_
    refine z_iast X h0 0 rfl (j := v) rfl (by omega) (by omega) d_T_clear_11 ?_
    refine z_iincU X d_T_clear_12 rfl (by decide) rfl ?_
    refine z_lv (lv2 := [some (.ref a), some (.int (nI (v + 1)))]) (fun _ _ q => q) ?_
    refine z_goto X d_T_clear_15 (tgt := 2) (by decide) ?_
    exact z_at (ih () trivial) (by rw [up_up, pr_s0 v _ f nI_0]) rfl
set_option maxHeartbeats 4000000 in
set_option maxRecDepth 100000 in
/-- overwrite(row, source): of one length -/
theorem c_T_overwrite {a a2 n : Nat} {f g : Nat → Int32} (hk : zc b N k a (aI tI n f)) (hk2 : zc b N k a2 (aI tI n g)) (hne : a ≠ a2) (hn : n < 65536) : Met l y_T_overwrite (wy y_T_overwrite b_T_overwrite 3 none) (rm 0 0 0) (zPc D (tyl tI tZ tN tM) b N k [.ref a, .ref a2]) (zQv D b N (fun k2 => k2 = va_up k a (aI tI n (pr 0 n (g) f)))) 0 0 (zA b) := by
  refine z_met (own := R_T) (by decide) rfl rfl (Nat.le_of_ble_eq_true rfl) [some (.ref a), some (.ref a2), none] rfl ?_
  intro p e s m args below meth c X hin
  refine z_iconst X d_T_overwrite_0 (v := nI 0) (by decide +kernel) ?_
  refine z_istore_n X d_T_overwrite_1 (by decide) rfl ?_
  refine z_lv (lv2 := [some (.ref a), some (.ref a2), some (.int (nI 0))]) (fun _ _ q => q) ?_
  refine z_loop (σ := Unit) (K := fun v _ => va_up k a (aI tI n (pr 0 v (g) f))) (LV := fun v _ => [some (.ref a), some (.ref a2), some (.int (nI v))]) (I := fun _ _ => True) n 0 () (by omega) (trivial) (by rw [pr_0]; exact (up_self hk.2.2).symm) (rfl) ?_ ?_
  · intro s1 _
    have h0 := hk.up (y := aI tI n (pr 0 n (g) f))
    have h1 := hk2.ne (q := a) (y := aI tI n (pr 0 n (g) f)) (Ne.symm hne)
    refine z_iload_n X d_T_overwrite_2 rfl ?_
    refine z_aload_n X d_T_overwrite_3 rfl ?_
    refine z_alen X h0 0 rfl d_T_overwrite_4 ?_
    refine z_icmp_geN X d_T_overwrite_5 (tgt := 26) (by decide) (by omega) (by omega) (fun _ => ?_) (fun h => absurd h (by omega))
    exact z_vret X d_T_overwrite_26 (by omega) (by omega) (rfl)
  · intro v s1 hv _ ih
    have h0 := hk.up (y := aI tI n (pr 0 v (g) f))
    have h1 := hk2.ne (q := a) (y := aI tI n (pr 0 v (g) f)) (Ne.symm hne)
    refine z_iload_n X d_T_overwrite_2 rfl ?_
    refine z_aload_n X d_T_overwrite_3 rfl ?_
    refine z_alen X h0 0 rfl d_T_overwrite_4 ?_
    refine z_icmp_geN X d_T_overwrite_5 (tgt := 26) (by decide) (by omega) (by omega) (fun h => absurd h (by omega)) (fun _ => ?_)
    refine z_iload_n X d_T_overwrite_8 rfl ?_
    refine z_aload_n X d_T_overwrite_9 rfl ?_
    refine z_alen X h1 0 rfl d_T_overwrite_10 ?_
    refine z_icmp_geN X d_T_overwrite_11 (tgt := 26) (by decide) (by omega) (by omega) (fun h => absurd h (by omega)) (fun _ => ?_)
    refine z_aload_n X d_T_overwrite_14 rfl ?_
    refine z_iload_n X d_T_overwrite_15 rfl ?_
    refine z_aload_n X d_T_overwrite_16 rfl ?_
    refine z_iload_n X d_T_overwrite_17 rfl ?_
    refine z_iald X h1 0 rfl (j := v) rfl (by omega) (by omega) d_T_overwrite_18 ?_
    refine z_iast X h0 0 rfl (j := v) rfl (by omega) (by omega) d_T_overwrite_19 ?_
    refine z_iincU X d_T_overwrite_20 rfl (by decide) rfl ?_
    refine z_lv (lv2 := [some (.ref a), some (.ref a2), some (.int (nI (v + 1)))]) (fun _ _ q => q) ?_
    refine z_goto X d_T_overwrite_23 (tgt := 2) (by decide) ?_
    exact z_at (ih () trivial) (by rw [up_up, pr_s0 v _ f rfl]) rfl
set_option maxHeartbeats 4000000 in
set_option maxRecDepth 100000 in
/-- addTo(row, other): of one length -/
theorem c_T_addTo {a a2 n : Nat} {f g : Nat → Int32} (hk : zc b N k a (aI tI n f)) (hk2 : zc b N k a2 (aI tI n g)) (hne : a ≠ a2) (hn : n < 65536) : Met l y_T_addTo (wy y_T_addTo b_T_addTo 3 none) (rm 0 0 0) (zPc D (tyl tI tZ tN tM) b N k [.ref a, .ref a2]) (zQv D b N (fun k2 => k2 = va_up k a (aI tI n (pr 0 n (ad f g) f)))) 0 0 (zA b) := by
  refine z_met (own := R_T) (by decide) rfl rfl (Nat.le_of_ble_eq_true rfl) [some (.ref a), some (.ref a2), none] rfl ?_
  intro p e s m args below meth c X hin
  refine z_iconst X d_T_addTo_0 (v := nI 0) (by decide +kernel) ?_
  refine z_istore_n X d_T_addTo_1 (by decide) rfl ?_
  refine z_lv (lv2 := [some (.ref a), some (.ref a2), some (.int (nI 0))]) (fun _ _ q => q) ?_
  refine z_loop (σ := Unit) (K := fun v _ => va_up k a (aI tI n (pr 0 v (ad f g) f))) (LV := fun v _ => [some (.ref a), some (.ref a2), some (.int (nI v))]) (I := fun _ _ => True) n 0 () (by omega) (trivial) (by rw [pr_0]; exact (up_self hk.2.2).symm) (rfl) ?_ ?_
  · intro s1 _
    have h0 := hk.up (y := aI tI n (pr 0 n (ad f g) f))
    have h1 := hk2.ne (q := a) (y := aI tI n (pr 0 n (ad f g) f)) (Ne.symm hne)
    refine z_iload_n X d_T_addTo_2 rfl ?_
    refine z_aload_n X d_T_addTo_3 rfl ?_
    refine z_alen X h0 0 rfl d_T_addTo_4 ?_
    refine z_icmp_geN X d_T_addTo_5 (tgt := 29) (by decide) (by omega) (by omega) (fun _ => ?_) (fun h => absurd h (by omega))
    exact z_vret X d_T_addTo_29 (by omega) (by omega) (rfl)
  · intro v s1 hv _ ih
    have h0 := hk.up (y := aI tI n (pr 0 v (ad f g) f))
    have h1 := hk2.ne (q := a) (y := aI tI n (pr 0 v (ad f g) f)) (Ne.symm hne)
    refine z_iload_n X d_T_addTo_2 rfl ?_
    refine z_aload_n X d_T_addTo_3 rfl ?_
    refine z_alen X h0 0 rfl d_T_addTo_4 ?_
    refine z_icmp_geN X d_T_addTo_5 (tgt := 29) (by decide) (by omega) (by omega) (fun h => absurd h (by omega)) (fun _ => ?_)
    refine z_iload_n X d_T_addTo_8 rfl ?_
    refine z_aload_n X d_T_addTo_9 rfl ?_
    refine z_alen X h1 0 rfl d_T_addTo_10 ?_
    refine z_icmp_geN X d_T_addTo_11 (tgt := 29) (by decide) (by omega) (by omega) (fun h => absurd h (by omega)) (fun _ => ?_)
    refine z_aload_n X d_T_addTo_14 rfl ?_
    refine z_iload_n X d_T_addTo_15 rfl ?_
    refine z_dup2 X d_T_addTo_16 rfl rfl ?_
    refine z_iald X h0 0 rfl (j := v) rfl (by omega) (by omega) d_T_addTo_17 ?_
    refine z_aload_n X d_T_addTo_18 rfl ?_
    refine z_iload_n X d_T_addTo_19 rfl ?_
    refine z_iald X h1 0 rfl (j := v) rfl (by omega) (by omega) d_T_addTo_20 ?_
    refine z_iadd X d_T_addTo_21 ?_
    refine z_iast X h0 0 rfl (j := v) rfl (by omega) (by omega) d_T_addTo_22 ?_
    refine z_iincU X d_T_addTo_23 rfl (by decide) rfl ?_
    refine z_lv (lv2 := [some (.ref a), some (.ref a2), some (.int (nI (v + 1)))]) (fun _ _ q => q) ?_
    refine z_goto X d_T_addTo_26 (tgt := 2) (by decide) ?_
    exact z_at (ih () trivial) (by rw [up_up, pr_s0 v _ f (by rw [pr_out (Or.inr (by omega))]; rfl)]) rfl
set_option maxHeartbeats 4000000 in
set_option maxRecDepth 100000 in
/-- rankOf(x) -/
theorem c_C_rankOf {a kk x : Nat} {f : Nat → Int32} (h0 : zc b N k a (.inr (0, [.int (nI kk), .ref (a + 1)]))) (h1 : zc b N k (a + 1) (aI tI 32 f)) (hx : x < 32) : Met l y_C_rankOf (wy y_C_rankOf b_C_rankOf 4 (some .int)) (rm 0 0 0) (zPc D (tyl tI tZ tN tM) b N k [.ref a, .int (nI x)]) (zQi D b N (fun r k2 => r = nI (rank f x) ∧ k2 = k)) 0 0 (zA b) := by
  refine z_met (own := R_C) (by decide) rfl rfl (Nat.le_of_ble_eq_true rfl) [some (.ref a), some (.int (nI x)), none, none] rfl ?_
  intro p e s m args below meth c X hin
  refine z_iconst X d_C_rankOf_0 (v := nI 0) (by decide +kernel) ?_
  refine z_istore_n X d_C_rankOf_1 (by decide) rfl ?_
  refine z_lv (lv2 := [some (.ref a), some (.int (nI x)), some (.int (nI 0)), none]) (fun _ _ q => q) ?_
  refine z_iconst X d_C_rankOf_2 (v := nI 0) (by decide +kernel) ?_
  refine z_istore_n X d_C_rankOf_3 (by decide) rfl ?_
  refine z_lv (lv2 := [some (.ref a), some (.int (nI x)), some (.int (nI 0)), some (.int (nI 0))]) (fun _ _ q => q) ?_
  refine z_loop (σ := Unit) (K := fun _ _ => k) (LV := fun v _ => [some (.ref a), some (.int (nI x)), some (.int (nI (ct (pb f x) v))), some (.int (nI v))]) (I := fun _ _ => True) 32 0 () (by omega) (trivial) (rfl) (rfl) ?_ ?_
  · intro s1 _
    refine z_iload_n X d_C_rankOf_4 rfl ?_
    refine z_bipush X d_C_rankOf_5 (v := nI 32) (by decide +kernel) ?_
    refine z_icmp_geN X d_C_rankOf_7 (tgt := 54) (by decide) (by omega) (by omega) (fun _ => ?_) (fun h => absurd h (by omega))
    refine z_iload_n X d_C_rankOf_54 rfl ?_
    exact z_iret X d_C_rankOf_55 (by omega) (by omega) (⟨rfl, rfl⟩)
  · intro v s1 hv _ ih
    refine z_iload_n X d_C_rankOf_4 rfl ?_
    refine z_bipush X d_C_rankOf_5 (v := nI 32) (by decide +kernel) ?_
    refine z_icmp_geN X d_C_rankOf_7 (tgt := 54) (by decide) (by omega) (by omega) (fun h => absurd h (by omega)) (fun _ => ?_)
    refine z_aload_n X d_C_rankOf_10 rfl ?_
    refine z_get X h0 rfl in_C 1 (by decide) (wq lf_C_9) rfl d_C_rankOf_11 ?_
    refine z_iload_n X d_C_rankOf_14 rfl ?_
    refine z_iald X h1 0 rfl (j := v) rfl (by omega) (by omega) d_C_rankOf_15 ?_
    refine z_aload_n X d_C_rankOf_16 rfl ?_
    refine z_get X h0 rfl in_C 1 (by decide) (wq lf_C_9) rfl d_C_rankOf_17 ?_
    refine z_iload_n X d_C_rankOf_20 rfl ?_
    refine z_iald X h1 0 rfl (j := x) rfl (by omega) (by omega) d_C_rankOf_21 ?_
    refine z_icmp_gt X d_C_rankOf_22 (tgt := 45) (by decide) (fun hA => ?_) (fun hA => ?_)
    · skip
      refine z_iincU X d_C_rankOf_45 rfl (by decide) rfl ?_
      refine z_lv (lv2 := [some (.ref a), some (.int (nI x)), some (.int (nI (ct (pb f x) v + 1))), some (.int (nI v))]) (fun _ _ q => q) ?_
      refine z_iincU X d_C_rankOf_48 rfl (by decide) rfl ?_
      refine z_lv (lv2 := [some (.ref a), some (.int (nI x)), some (.int (nI (ct (pb f x) v + 1))), some (.int (nI (v + 1)))]) (fun _ _ q => q) ?_
      refine z_goto X d_C_rankOf_51 (tgt := 4) (by decide) ?_
      exact z_at (ih () trivial) rfl (by simp only [ct]; rw [if_pos (by simp [pb, hA])])
    · skip
      refine z_aload_n X d_C_rankOf_25 rfl ?_
      refine z_get X h0 rfl in_C 1 (by decide) (wq lf_C_9) rfl d_C_rankOf_26 ?_
      refine z_iload_n X d_C_rankOf_29 rfl ?_
      refine z_iald X h1 0 rfl (j := v) rfl (by omega) (by omega) d_C_rankOf_30 ?_
      refine z_aload_n X d_C_rankOf_31 rfl ?_
      refine z_get X h0 rfl in_C 1 (by decide) (wq lf_C_9) rfl d_C_rankOf_32 ?_
      refine z_iload_n X d_C_rankOf_35 rfl ?_
      refine z_iald X h1 0 rfl (j := x) rfl (by omega) (by omega) d_C_rankOf_36 ?_
      refine z_icmp_ne X d_C_rankOf_37 (tgt := 48) (by decide) (fun hB => ?_) (fun hB => ?_)
      · skip
        refine z_iincU X d_C_rankOf_48 rfl (by decide) rfl ?_
        refine z_lv (lv2 := [some (.ref a), some (.int (nI x)), some (.int (nI (ct (pb f x) v))), some (.int (nI (v + 1)))]) (fun _ _ q => q) ?_
        refine z_goto X d_C_rankOf_51 (tgt := 4) (by decide) ?_
        exact z_at (ih () trivial) rfl (by simp only [ct]; rw [if_neg (by simp [pb, hA, hB])]; rfl)
      · skip
        refine z_iload_n X d_C_rankOf_40 rfl ?_
        refine z_iload_n X d_C_rankOf_41 rfl ?_
        refine z_icmp_geN X d_C_rankOf_42 (tgt := 48) (by decide) (by omega) (by omega) (fun hC => ?_) (fun hC => ?_)
        · have hC2 : ¬ v < x := by omega
          refine z_iincU X d_C_rankOf_48 rfl (by decide) rfl ?_
          refine z_lv (lv2 := [some (.ref a), some (.int (nI x)), some (.int (nI (ct (pb f x) v))), some (.int (nI (v + 1)))]) (fun _ _ q => q) ?_
          refine z_goto X d_C_rankOf_51 (tgt := 4) (by decide) ?_
          exact z_at (ih () trivial) rfl (by simp only [ct]; rw [if_neg (by simp [pb, hA, hC2])]; rfl)
        · skip
          refine z_iincU X d_C_rankOf_45 rfl (by decide) rfl ?_
          refine z_lv (lv2 := [some (.ref a), some (.int (nI x)), some (.int (nI (ct (pb f x) v + 1))), some (.int (nI v))]) (fun _ _ q => q) ?_
          refine z_iincU X d_C_rankOf_48 rfl (by decide) rfl ?_
          refine z_lv (lv2 := [some (.ref a), some (.int (nI x)), some (.int (nI (ct (pb f x) v + 1))), some (.int (nI (v + 1)))]) (fun _ _ q => q) ?_
          refine z_goto X d_C_rankOf_51 (tgt := 4) (by decide) ?_
          exact z_at (ih () trivial) rfl (by simp only [ct]; rw [if_pos (by simp [pb, hA, hB, hC])])
end
theorem vr_at (f : Nat → Int32) (r : Int32) {v : Nat} (hv : v < 32) : vr f r (32 - v) = if 0 < f v ∧ nI (rank f v) = r then nI v else vr f r (32 - (v + 1)) := by
  rw [show 32 - v = (31 - v) + 1 by omega]
  simp only [vr]
  rw [show 31 - (31 - v) = v by omega, show 32 - (v + 1) = 31 - v by omega]
theorem vr_cases (h : Nat → Int32) {q : Nat} (hq : q < 32) : (vr h (nI q) 32 = -1 ∧ cn h ≤ q) ∨ ∃ x, x < 32 ∧ vr h (nI q) 32 = nI x ∧ q < cn h ∧ gu (pu h q) h 32 = some x := by
  obtain ⟨x, hg, hx, hr, -⟩ := pick h hq
  have hp := pick_pos h hx hr
  have hv := vr_pick h hq hx hr 32 (Nat.le_refl _)
  by_cases h0 : 0 < h x
  · exact Or.inr ⟨x, hx, by rw [hv, if_pos ⟨by omega, h0⟩], hp.mpr h0, hg⟩
  · refine Or.inl ⟨by rw [hv, if_neg (fun z => h0 z.2)], ?_⟩
    have : ¬ q < cn h := fun z => h0 (hp.mp z)
    omega
theorem i32_nle {x : Int32} (h : ¬ x ≤ 0) : 0 < x := by
  rw [Int32.le_iff_toInt_le] at h
  rw [Int32.lt_iff_toInt_lt]
  omega
theorem i32_le_n {x : Int32} (h : x ≤ 0) : ¬ 0 < x := by
  rw [Int32.le_iff_toInt_le] at h
  rw [Int32.lt_iff_toInt_lt]
  omega
theorem i32_nge {x : Int32} (h : ¬ 0 ≤ x) : x < 0 := by
  rw [Int32.le_iff_toInt_le] at h
  rw [Int32.lt_iff_toInt_lt]
  omega
theorem i32_ge_n {x : Int32} (h : 0 ≤ x) : ¬ x < 0 := by
  rw [Int32.le_iff_toInt_le] at h
  rw [Int32.lt_iff_toInt_lt]
  omega
theorem nI_one : nI 1 = 1 := by decide +kernel
section
variable {l : Launch} {D : va_G} {tI tZ tN tM : ClassId} {b N : Nat} {k : Nat → va_E}
set_option maxHeartbeats 4000000 in
set_option maxRecDepth 100000 in
/-- valueAtRank(r) -/
theorem c_C_valueAtRank {a kk : Nat} {r : Int32} {f : Nat → Int32} (h0 : zc b N k a (.inr (0, [.int (nI kk), .ref (a + 1)]))) (h1 : zc b N k (a + 1) (aI tI 32 f)) : Met l y_C_valueAtRank (wy y_C_valueAtRank b_C_valueAtRank 3 (some .int)) (rm 1 0 0) (zPc D (tyl tI tZ tN tM) b N k [.ref a, .int r]) (zQi D b N (fun x k2 => x = vr f r 32 ∧ k2 = k)) 0 0 (zA b) := by
  refine z_met (own := R_C) (by decide) rfl rfl (Nat.le_of_ble_eq_true rfl) [some (.ref a), some (.int r), none] rfl ?_
  intro p e s m args below meth c X hin
  refine z_iconst X d_C_valueAtRank_0 (v := nI 0) (by decide +kernel) ?_
  refine z_istore_n X d_C_valueAtRank_1 (by decide) rfl ?_
  refine z_lv (lv2 := [some (.ref a), some (.int r), some (.int (nI 0))]) (fun _ _ q => q) ?_
  refine z_loop (σ := Unit) (K := fun _ _ => k) (LV := fun v _ => [some (.ref a), some (.int r), some (.int (nI v))]) (I := fun v _ => vr f r 32 = vr f r (32 - v)) 32 0 () (by omega) (rfl) (rfl) (rfl) ?_ ?_
  · intro s1 hI
    refine z_iload_n X d_C_valueAtRank_2 rfl ?_
    refine z_bipush X d_C_valueAtRank_3 (v := nI 32) (by decide +kernel) ?_
    refine z_icmp_geN X d_C_valueAtRank_5 (tgt := 34) (by decide) (by omega) (by omega) (fun _ => ?_) (fun h => absurd h (by omega))
    refine z_iconst X d_C_valueAtRank_34 (v := -1) (by decide +kernel) ?_
    exact z_iret X d_C_valueAtRank_35 (by omega) (by omega) (⟨hI.symm, rfl⟩)
  · intro v s1 hv hI ih
    rw [vr_at f r hv] at hI
    refine z_iload_n X d_C_valueAtRank_2 rfl ?_
    refine z_bipush X d_C_valueAtRank_3 (v := nI 32) (by decide +kernel) ?_
    refine z_icmp_geN X d_C_valueAtRank_5 (tgt := 34) (by decide) (by omega) (by omega) (fun h => absurd h (by omega)) (fun _ => ?_)
    refine z_aload_n X d_C_valueAtRank_8 rfl ?_
    refine z_get X h0 rfl in_C 1 (by decide) (wq lf_C_9) rfl d_C_valueAtRank_9 ?_
    refine z_iload_n X d_C_valueAtRank_12 rfl ?_
    refine z_iald X h1 0 rfl (j := v) rfl (by omega) (by omega) d_C_valueAtRank_13 ?_
    refine z_if_le X d_C_valueAtRank_14 (tgt := 28) (by decide) (fun hA => ?_) (fun hA => ?_)
    · skip
      refine z_iincU X d_C_valueAtRank_28 rfl (by decide) rfl ?_
      refine z_lv (lv2 := [some (.ref a), some (.int r), some (.int (nI (v + 1)))]) (fun _ _ q => q) ?_
      refine z_goto X d_C_valueAtRank_31 (tgt := 2) (by decide) ?_
      exact z_at (ih () (by rw [hI, if_neg (fun q => i32_le_n hA q.1)])) rfl rfl
    · skip
      refine z_aload_n X d_C_valueAtRank_17 rfl ?_
      refine z_iload_n X d_C_valueAtRank_18 rfl ?_
      refine z_callVi X (c_C_rankOf h0 h1 hv) h0 rfl (cwV 1 X.1.2.2.2.2 (gi_V lm_C_37 vi_C_rankOf ve_C_rankOf vn_C vc_C_rankOf) rfl rfl rfl (by decide +kernel) ⟨Nat.le_of_ble_eq_true rfl, Nat.le_of_ble_eq_true rfl⟩) (As := [.int (nI v)]) (st := []) rfl rfl (Nat.le_of_ble_eq_true rfl) d_C_valueAtRank_19 ⟨Nat.le_of_ble_eq_true rfl, Nat.le_of_ble_eq_true rfl⟩ (fun x k2 hq => ?_)
      obtain ⟨rfl, rfl⟩ := hq
      refine z_iload_n X d_C_valueAtRank_22 rfl ?_
      refine z_icmp_ne X d_C_valueAtRank_23 (tgt := 28) (by decide) (fun hB => ?_) (fun hB => ?_)
      · skip
        refine z_iincU X d_C_valueAtRank_28 rfl (by decide) rfl ?_
        refine z_lv (lv2 := [some (.ref a), some (.int r), some (.int (nI (v + 1)))]) (fun _ _ q => q) ?_
        refine z_goto X d_C_valueAtRank_31 (tgt := 2) (by decide) ?_
        exact z_at (ih () (by rw [hI, if_neg (fun q => hB q.2)])) rfl rfl
      · skip
        refine z_iload_n X d_C_valueAtRank_26 rfl ?_
        exact z_iret X d_C_valueAtRank_27 (by omega) (by omega) (⟨by rw [hI, if_pos ⟨i32_nle hA, hB⟩], rfl⟩)
set_option maxHeartbeats 4000000 in
set_option maxRecDepth 100000 in
/-- lowerAll(x) -/
theorem c_C_lowerAll {a kk : Nat} {x : Int32} {f : Nat → Int32} (h0 : zc b N k a (.inr (0, [.int (nI kk), .ref (a + 1)]))) (h1 : zc b N k (a + 1) (aI tI 32 f)) : Met l y_C_lowerAll (wy y_C_lowerAll b_C_lowerAll 3 none) (rm 1 0 0) (zPc D (tyl tI tZ tN tM) b N k [.ref a, .int x]) (zQv D b N (fun k2 => k2 = va_up k (a + 1) (aI tI 32 (lw f x)))) 0 0 (zA b) := by
  refine z_met (own := R_C) (by decide) rfl rfl (Nat.le_of_ble_eq_true rfl) [some (.ref a), some (.int x), none] rfl ?_
  intro p e s m args below meth c X hin
  refine z_iconst X d_C_lowerAll_0 (v := nI 0) (by decide +kernel) ?_
  refine z_istore_n X d_C_lowerAll_1 (by decide) rfl ?_
  refine z_lv (lv2 := [some (.ref a), some (.int x), some (.int (nI 0))]) (fun _ _ q => q) ?_
  refine z_loop (σ := Unit) (K := fun v _ => va_up k (a + 1) (aI tI 32 (pr 0 v (lw f x) f))) (LV := fun v _ => [some (.ref a), some (.int x), some (.int (nI v))]) (I := fun _ _ => True) 32 0 () (by omega) (trivial) (by rw [pr_0]; exact (up_self h1.2.2).symm) (rfl) ?_ ?_
  · intro s1 _
    have g0 := h0.ne (q := a + 1) (y := aI tI 32 (pr 0 32 (lw f x) f)) (by omega)
    have g1 := h1.up (y := aI tI 32 (pr 0 32 (lw f x) f))
    refine z_iload_n X d_C_lowerAll_2 rfl ?_
    refine z_bipush X d_C_lowerAll_3 (v := nI 32) (by decide +kernel) ?_
    refine z_icmp_geN X d_C_lowerAll_5 (tgt := 32) (by decide) (by omega) (by omega) (fun _ => ?_) (fun h => absurd h (by omega))
    exact z_vret X d_C_lowerAll_32 (by omega) (by omega) (by rw [pr_all]; intro i hi; unfold lw; rw [if_neg (by omega)])
  · intro v s1 hv _ ih
    have g0 := h0.ne (q := a + 1) (y := aI tI 32 (pr 0 v (lw f x) f)) (by omega)
    have g1 := h1.up (y := aI tI 32 (pr 0 v (lw f x) f))
    refine z_iload_n X d_C_lowerAll_2 rfl ?_
    refine z_bipush X d_C_lowerAll_3 (v := nI 32) (by decide +kernel) ?_
    refine z_icmp_geN X d_C_lowerAll_5 (tgt := 32) (by decide) (by omega) (by omega) (fun h => absurd h (by omega)) (fun _ => ?_)
    refine z_aload_n X d_C_lowerAll_8 rfl ?_
    refine z_get X g0 rfl in_C 1 (by decide) (wq lf_C_9) rfl d_C_lowerAll_9 ?_
    refine z_iload_n X d_C_lowerAll_12 rfl ?_
    refine z_iconst X d_C_lowerAll_13 (v := nI 0) (by decide +kernel) ?_
    refine z_aload_n X d_C_lowerAll_14 rfl ?_
    refine z_get X g0 rfl in_C 1 (by decide) (wq lf_C_9) rfl d_C_lowerAll_15 ?_
    refine z_iload_n X d_C_lowerAll_18 rfl ?_
    refine z_iald X g1 0 rfl (j := v) rfl (by omega) (by omega) d_C_lowerAll_19 ?_
    refine z_iload_n X d_C_lowerAll_20 rfl ?_
    refine z_isub X d_C_lowerAll_21 ?_
    refine z_mmax X (wq lm_C_31) (wq vs_max) (wq vn_Math) (wq vc_max) d_C_lowerAll_22 (Nat.le_of_ble_eq_true rfl) (Nat.le_of_ble_eq_true rfl) (Nat.le_of_ble_eq_true rfl) (Nat.le_of_ble_eq_true rfl) ?_
    refine z_top (y := .int (lw f x v)) (by unfold lw; rw [if_pos hv, pr_out (Or.inr (by omega)), nI_0]) ?_
    refine z_iast X g1 0 rfl (j := v) rfl (by omega) (by omega) d_C_lowerAll_25 ?_
    refine z_iincU X d_C_lowerAll_26 rfl (by decide) rfl ?_
    refine z_lv (lv2 := [some (.ref a), some (.int x), some (.int (nI (v + 1)))]) (fun _ _ q => q) ?_
    refine z_goto X d_C_lowerAll_29 (tgt := 2) (by decide) ?_
    exact z_at (ih () trivial) (by rw [up_up, pr_s0 v _ f rfl]) rfl
set_option maxHeartbeats 4000000 in
set_option maxRecDepth 100000 in
/-- Counters.take(v) -/
theorem c_C_take {a kk v : Nat} {f : Nat → Int32} (h0 : zc b N k a (.inr (0, [.int (nI kk), .ref (a + 1)]))) (h1 : zc b N k (a + 1) (aI tI 32 f)) (hv : v < 32) (hk1 : 1 ≤ kk) (hk6 : kk ≤ 6) : Met l y_C_take (wy y_C_take b_C_take 2 none) (rm 2 0 0) (zPc D (tyl tI tZ tN tM) b N k [.ref a, .int (nI v)]) (zQv D b N (fun k2 => k2 = va_up k (a + 1) (aI tI 32 (tkC kk f v)))) 0 0 (zA b) := by
  refine z_met (own := R_C) (by decide) rfl rfl (Nat.le_of_ble_eq_true rfl) [some (.ref a), some (.int (nI v))] rfl ?_
  intro p e s m args below meth c X hin
  refine z_aload_n X d_C_take_0 rfl ?_
  refine z_get X h0 rfl in_C 1 (by decide) (wq lf_C_9) rfl d_C_take_1 ?_
  refine z_iload_n X d_C_take_4 rfl ?_
  refine z_iald X h1 0 rfl (j := v) rfl (by omega) (by omega) d_C_take_5 ?_
  refine z_if_gt X d_C_take_6 (tgt := 22) (by decide) (fun hA => ?_) (fun hA => ?_)
  · skip
    refine z_aload_n X d_C_take_22 rfl ?_
    refine z_get X h0 rfl in_C 1 (by decide) (wq lf_C_9) rfl d_C_take_23 ?_
    refine z_iload_n X d_C_take_26 rfl ?_
    refine z_dup2 X d_C_take_27 rfl rfl ?_
    refine z_iald X h1 0 rfl (j := v) rfl (by omega) (by omega) d_C_take_28 ?_
    refine z_iconst X d_C_take_29 (v := nI 1) (by decide +kernel) ?_
    refine z_iadd X d_C_take_30 ?_
    refine z_iast X h1 0 rfl (j := v) rfl (by omega) (by omega) d_C_take_31 ?_
    refine z_goto X d_C_take_32 (tgt := 40) (by decide) ?_
    exact z_vret X d_C_take_40 (by omega) (by omega) (by unfold tkC; rw [if_pos (Or.inl hA), nI_one])
  · skip
    refine z_aload_n X d_C_take_9 rfl ?_
    refine z_aload_n X d_C_take_10 rfl ?_
    refine z_get X h0 rfl in_C 0 (by decide) (wq lf_C_15) rfl d_C_take_11 ?_
    refine z_iconst X d_C_take_14 (v := nI 1) (by decide +kernel) ?_
    refine z_isubN X d_C_take_15 (by omega) ?_
    refine z_callVi X (c_C_valueAtRank h0 h1) h0 rfl (cwV 1 X.1.2.2.2.2 (gi_V lm_C_19 vi_C_valueAtRank ve_C_valueAtRank vn_C vc_C_valueAtRank) rfl rfl rfl (by decide +kernel) ⟨Nat.le_of_ble_eq_true rfl, Nat.le_of_ble_eq_true rfl⟩) (As := [.int (nI (kk - 1))]) (st := []) rfl rfl (Nat.le_of_ble_eq_true rfl) d_C_take_16 ⟨Nat.le_of_ble_eq_true rfl, Nat.le_of_ble_eq_true rfl⟩ (fun x k2 hq => ?_)
    obtain ⟨rfl, rfl⟩ := hq
    have hz := vr_neg f (q := kk - 1) (by omega)
    refine z_if_ge X d_C_take_19 (tgt := 35) (by decide) (fun hB => ?_) (fun hB => ?_)
    · skip
      refine z_aload_n X d_C_take_35 rfl ?_
      refine z_iconst X d_C_take_36 (v := nI 1) (by decide +kernel) ?_
      refine z_callVv X (c_C_lowerAll h0 h1) h0 rfl (cwV 1 X.1.2.2.2.2 (gi_V lm_C_23 vi_C_lowerAll ve_C_lowerAll vn_C vc_C_lowerAll) rfl rfl rfl (by decide +kernel) ⟨Nat.le_of_ble_eq_true rfl, Nat.le_of_ble_eq_true rfl⟩) (As := [.int (nI 1)]) (st := []) rfl rfl (Nat.le_of_ble_eq_true rfl) d_C_take_37 ⟨Nat.le_of_ble_eq_true rfl, Nat.le_of_ble_eq_true rfl⟩ (fun k2 hq => ?_)
      subst hq
      exact z_vret X d_C_take_40 (by omega) (by omega) (by unfold tkC; rw [if_neg (fun q => q.elim hA (fun q => i32_ge_n hB (hz.mpr (by omega)))), nI_one])
    · skip
      refine z_aload_n X d_C_take_22 rfl ?_
      refine z_get X h0 rfl in_C 1 (by decide) (wq lf_C_9) rfl d_C_take_23 ?_
      refine z_iload_n X d_C_take_26 rfl ?_
      refine z_dup2 X d_C_take_27 rfl rfl ?_
      refine z_iald X h1 0 rfl (j := v) rfl (by omega) (by omega) d_C_take_28 ?_
      refine z_iconst X d_C_take_29 (v := nI 1) (by decide +kernel) ?_
      refine z_iadd X d_C_take_30 ?_
      refine z_iast X h1 0 rfl (j := v) rfl (by omega) (by omega) d_C_take_31 ?_
      refine z_goto X d_C_take_32 (tgt := 40) (by decide) ?_
      exact z_vret X d_C_take_40 (by omega) (by omega) (by unfold tkC; rw [if_pos (Or.inr (by have := hz.mp (i32_nge hB); omega)), nI_one])
set_option maxHeartbeats 4000000 in
set_option maxRecDepth 100000 in
/-- Counters.merge(other) -/
theorem c_C_merge {a a2 kk kk2 : Nat} {f g : Nat → Int32} (h0 : zc b N k a (.inr (0, [.int (nI kk), .ref (a + 1)]))) (h1 : zc b N k (a + 1) (aI tI 32 f)) (g0 : zc b N k a2 (.inr (0, [.int (nI kk2), .ref (a2 + 1)]))) (g1 : zc b N k (a2 + 1) (aI tI 32 g)) (hne : a + 2 ≤ a2 ∨ a2 + 2 ≤ a) (hg : ∀ i, 32 ≤ i → g i = 0) (hk6 : kk ≤ 6) : Met l y_C_merge (wy y_C_merge b_C_merge 3 none) (rm 2 0 0) (zPc D (tyl tI tZ tN tM) b N k [.ref a, .ref a2]) (zQv D b N (fun k2 => k2 = va_up k (a + 1) (aI tI 32 (mgC kk f g)))) 0 0 (zA b) := by
  refine z_met (own := R_C) (by decide) rfl rfl (Nat.le_of_ble_eq_true rfl) [some (.ref a), some (.ref a2), none] rfl ?_
  intro p e s m args below meth c X hin
  refine z_aload_n X d_C_merge_0 rfl ?_
  refine z_get X h0 rfl in_C 1 (by decide) (wq lf_C_9) rfl d_C_merge_1 ?_
  refine z_aload_n X d_C_merge_4 rfl ?_
  refine z_get X g0 rfl in_C 1 (by decide) (wq lf_C_9) rfl d_C_merge_5 ?_
  refine z_callSNv X (a := 0) (c_T_addTo h1 g1 (by omega) (by omega)) (⟨va_cnB 2 X.1.2.2.2.2 (gi_wy vc_T_addTo) rfl rfl rfl (zn_C_27 X.2.2.2.2.2) (X.1.2.2.2.2 _ (wq vn_T)) (by decide +kernel) ⟨Nat.le_of_ble_eq_true rfl, Nat.le_of_ble_eq_true rfl⟩, X.1.2.2.2.2 _ (wq vs_T_addTo), trivial⟩) (As := [.ref (a + 1), .ref (a2 + 1)]) (st := []) rfl rfl (Nat.le_of_ble_eq_true rfl) d_C_merge_8 ⟨Nat.le_of_ble_eq_true rfl, Nat.le_of_ble_eq_true rfl⟩ (fun k2 hq => ?_)
  subst hq
  rw [pr_all (m := 32) (F := ad f g) (C := f) (fun i hi => by unfold ad; rw [hg i hi]; exact Int32.add_zero _)]
  have h0 := h0.ne (q := a + 1) (y := aI tI 32 (ad f g)) (by omega)
  have h1 := h1.up (y := aI tI 32 (ad f g))
  refine z_aload_n X d_C_merge_11 rfl ?_
  refine z_aload_n X d_C_merge_12 rfl ?_
  refine z_get X h0 rfl in_C 0 (by decide) (wq lf_C_15) rfl d_C_merge_13 ?_
  refine z_callVi X (c_C_valueAtRank h0 h1) h0 rfl (cwV 1 X.1.2.2.2.2 (gi_V lm_C_19 vi_C_valueAtRank ve_C_valueAtRank vn_C vc_C_valueAtRank) rfl rfl rfl (by decide +kernel) ⟨Nat.le_of_ble_eq_true rfl, Nat.le_of_ble_eq_true rfl⟩) (As := [.int (nI kk)]) (st := []) rfl rfl (Nat.le_of_ble_eq_true rfl) d_C_merge_16 ⟨Nat.le_of_ble_eq_true rfl, Nat.le_of_ble_eq_true rfl⟩ (fun x k2 hq => ?_)
  obtain ⟨rfl, rfl⟩ := hq
  rcases vr_cases (ad f g) (q := kk) (by omega) with ⟨hv, hc⟩ | ⟨x, hx, hv, hc, hgu⟩
  · refine z_top (y := .int (-1)) (by rw [hv]) ?_
    refine z_istore_n X d_C_merge_19 (by decide) rfl ?_
    refine z_lv (lv2 := [some (.ref a), some (.ref a2), some (.int (-1))]) (fun _ _ q => q) ?_
    refine z_iload_n X d_C_merge_20 rfl ?_
    refine z_if_lt X d_C_merge_21 (tgt := 34) (by decide) (fun _ => ?_) (fun h => absurd h (by decide))
    exact z_vret X d_C_merge_34 (by omega) (by omega) (by unfold mgC; rw [if_neg (by omega)])
  · refine z_top (y := .int (nI x)) (by rw [hv]) ?_
    refine z_istore_n X d_C_merge_19 (by decide) rfl ?_
    refine z_lv (lv2 := [some (.ref a), some (.ref a2), some (.int (nI x))]) (fun _ _ q => q) ?_
    refine z_iload_n X d_C_merge_20 rfl ?_
    refine z_if_ltN X d_C_merge_21 (tgt := 34) (by decide) (by omega) (fun h => absurd h (by omega)) (fun _ => ?_)
    refine z_aload_n X d_C_merge_24 rfl ?_
    refine z_aload_n X d_C_merge_25 rfl ?_
    refine z_get X h0 rfl in_C 1 (by decide) (wq lf_C_9) rfl d_C_merge_26 ?_
    refine z_iload_n X d_C_merge_29 rfl ?_
    refine z_iald X h1 0 rfl (j := x) rfl (by omega) (by omega) d_C_merge_30 ?_
    refine z_callVv X (c_C_lowerAll h0 h1) h0 rfl (cwV 1 X.1.2.2.2.2 (gi_V lm_C_23 vi_C_lowerAll ve_C_lowerAll vn_C vc_C_lowerAll) rfl rfl rfl (by decide +kernel) ⟨Nat.le_of_ble_eq_true rfl, Nat.le_of_ble_eq_true rfl⟩) (As := [.int ((ad f g) x)]) (st := []) rfl rfl (Nat.le_of_ble_eq_true rfl) d_C_merge_31 ⟨Nat.le_of_ble_eq_true rfl, Nat.le_of_ble_eq_true rfl⟩ (fun k2 hq => ?_)
    subst hq
    exact z_vret X d_C_merge_34 (by omega) (by omega) (by unfold mgC; rw [if_pos hc, hgu, up_up]; rfl)
end
