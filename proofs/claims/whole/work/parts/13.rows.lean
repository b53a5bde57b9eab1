/-! Contracts: rows of ints, counters -/
abbrev aI (t : ClassId) (n : Nat) (f : Nat → Int32) : va_E := .inl (t, n, .inl f)
abbrev tyl (tI tZ tN tM : ClassId) : List (ClassId × FieldType) := [(tI, .int), (tZ, .boolean), (tN, .object R_N), (tM, .object R_M)]
theorem up_up {α : Type} {f : Nat → α} {q : Nat} {x y : α} : va_up (va_up f q x) q y = va_up f q y := by
  funext r
  by_cases h : r = q
  · simp [va_up, h]
  · simp [va_up, h]
theorem up_self {α : Type} {f : Nat → α} {q : Nat} {x : α} (h : f q = x) : va_up f q x = f := by
  funext r
  by_cases h2 : r = q
  · subst h2
    simp [va_up, h]
  · simp [va_up, h2]
theorem pr_s0 (m : Nat) (F C : Nat → Int32) {x : Int32} (hx : x = F m) : upd (pr 0 m F C) m x = pr 0 (m + 1) F C := by
  have := pr_succ 0 m F C hx
  rwa [Nat.zero_add] at this
theorem pr_i0 {m j : Nat} {F C : Nat → Int32} (h : j < m) : pr 0 m F C j = F j := by
  have := pr_in (w := 0) (F := F) (C := C) h
  rwa [Nat.zero_add] at this
section
variable {l : Launch} {D : va_G} {tI tZ tN tM : ClassId} {b N : Nat} {k : Nat → va_E}
set_option maxHeartbeats 4000000 in
set_option maxRecDepth 100000 in
/-- clear(row): every place is 0 -/
theorem c_T_clear {a n : Nat} {f : Nat → Int32} (hk : zc b N k a (aI tI n f)) (hn : n < 65536) : Met l y_T_clear (wy y_T_clear b_T_clear 2 none) (rm 0 0 0) (zPc D (tyl tI tZ tN tM) b N k [.ref a]) (zQv D b N (fun k2 => k2 = va_up k a (aI tI n (pr 0 n (fun _ => 0) f)))) 0 0 (zA b) := by
  refine z_met (own := R_T) (by decide) rfl rfl (Nat.le_of_ble_eq_true rfl) [some (.ref a), none] rfl ?_
  intro p e s m args below meth c X hin
  refine z_iconst X d_T_clear_0 (v := nI 0) (by decide +kernel) ?_
  refine z_istore_n X d_T_clear_1 (by decide) rfl ?_
  refine z_lv (lv2 := [some (.ref a), some (.int (nI 0))]) (fun _ _ q => q) ?_
  refine z_loop (σ := Unit) (K := fun v _ => va_up k a (aI tI n (pr 0 v (fun _ => 0) f))) (LV := fun v _ => [some (.ref a), some (.int (nI v))]) (I := fun _ _ => True) n 0 () (by omega) (trivial) (by rw [pr_0]; exact (up_self hk.2.2).symm) (rfl) ?_ ?_
  · intro s1 _
    have h0 := hk.up (y := aI tI n (pr 0 n (fun _ => 0) f))
    refine z_iload_n X d_T_clear_2 rfl ?_
    refine z_aload_n X d_T_clear_3 rfl ?_
    refine z_alen X h0 0 rfl d_T_clear_4 ?_
    refine z_icmp_geN X d_T_clear_5 (tgt := 18) (by decide) (by omega) (by omega) (fun _ => ?_) (fun h => absurd h (by omega))
    exact z_vret X d_T_clear_18 (by omega) (by omega) (rfl)
  · intro v s1 hv _ ih
    have h0 := hk.up (y := aI tI n (pr 0 v (fun _ => 0) f))
    refine z_iload_n X d_T_clear_2 rfl ?_
    refine z_aload_n X d_T_clear_3 rfl ?_
    refine z_alen X h0 0 rfl d_T_clear_4 ?_
    refine z_icmp_geN X d_T_clear_5 (tgt := 18) (by decide) (by omega) (by omega) (fun h => absurd h (by omega)) (fun _ => ?_)
    refine z_aload_n X d_T_clear_8 rfl ?_
    refine z_iload_n X d_T_clear_9 rfl ?_
    refine z_iconst X d_T_clear_10 (v := nI 0) (by decide +kernel) ?_
    refine z_iast X h0 0 rfl (j := v) rfl (by omega) (by omega) d_T_clear_11 ?_
    refine z_iincU X d_T_clear_12 rfl (by decide) rfl ?_
    refine z_lv (lv2 := [some (.ref a), some (.int (nI (v + 1)))]) (fun _ _ q => q) ?_
    refine z_goto X d_T_clear_15 (tgt := 2) (by decide) ?_
    exact z_at (ih () trivial) (by rw [up_up, pr_s0 v _ f nI_0]) rfl
set_option maxHeartbeats 4000000 in
set_option maxRecDepth 100000 in
/-- overwrite(row, source): of one length -/
theorem c_T_overwrite {a a2 n : Nat} {f g : Nat → Int32} (hk : zc b N k a (aI tI n f)) (hk2 : zc b N k a2 (aI tI n g)) (hne : a ≠ a2) (hn : n < 65536) : Met l y_T_overwrite (wy y_T_overwrite b_T_overwrite 3 none) (rm 0 0 0) (zPc D (tyl tI tZ tN tM) b N k [.ref a, .ref a2]) (zQv D b N (fun k2 => k2 = va_up k a (aI tI n (pr 0 n (g) f)))) 0 0 (zA b) := by
  refine z_met (own := R_T) (by decide) rfl rfl (Nat.le_of_ble_eq_true rfl) [some (.ref a), some (.ref a2), none] rfl ?_
  intro p e s m args below meth c X hin
  refine z_iconst X d_T_overwrite_0 (v := nI 0) (by decide +kernel) ?_
  refine z_istore_n X d_T_overwrite_1 (by decide) rfl ?_
  refine z_lv (lv2 := [some (.ref a), some (.ref a2), some (.int (nI 0))]) (fun _ _ q => q) ?_
  refine z_loop (σ := Unit) (K := fun v _ => va_up k a (aI tI n (pr 0 v (g) f))) (LV := fun v _ => [some (.ref a), some (.ref a2), some (.int (nI v))]) (I := fun _ _ => True) n 0 () (by omega) (trivial) (by rw [pr_0]; exact (up_self hk.2.2).symm) (rfl) ?_ ?_
  · intro s1 _
    have h0 := hk.up (y := aI tI n (pr 0 n (g) f))
    have h1 := hk2.ne (q := a) (y := aI tI n (pr 0 n (g) f)) (Ne.symm hne)
    refine z_iload_n X d_T_overwrite_2 rfl ?_
    refine z_aload_n X d_T_overwrite_3 rfl ?_
    refine z_alen X h0 0 rfl d_T_overwrite_4 ?_
    refine z_icmp_geN X d_T_overwrite_5 (tgt := 26) (by decide) (by omega) (by omega) (fun _ => ?_) (fun h => absurd h (by omega))
    exact z_vret X d_T_overwrite_26 (by omega) (by omega) (rfl)
  · intro v s1 hv _ ih
    have h0 := hk.up (y := aI tI n (pr 0 v (g) f))
    have h1 := hk2.ne (q := a) (y := aI tI n (pr 0 v (g) f)) (Ne.symm hne)
    refine z_iload_n X d_T_overwrite_2 rfl ?_
    refine z_aload_n X d_T_overwrite_3 rfl ?_
    refine z_alen X h0 0 rfl d_T_overwrite_4 ?_
    refine z_icmp_geN X d_T_overwrite_5 (tgt := 26) (by decide) (by omega) (by omega) (fun h => absurd h (by omega)) (fun _ => ?_)
    refine z_iload_n X d_T_overwrite_8 rfl ?_
    refine z_aload_n X d_T_overwrite_9 rfl ?_
    refine z_alen X h1 0 rfl d_T_overwrite_10 ?_
    refine z_icmp_geN X d_T_overwrite_11 (tgt := 26) (by decide) (by omega) (by omega) (fun h => absurd h (by omega)) (fun _ => ?_)
    refine z_aload_n X d_T_overwrite_14 rfl ?_
    refine z_iload_n X d_T_overwrite_15 rfl ?_
    refine z_aload_n X d_T_overwrite_16 rfl ?_
    refine z_iload_n X d_T_overwrite_17 rfl ?_
    refine z_iald X h1 0 rfl (j := v) rfl (by omega) (by omega) d_T_overwrite_18 ?_
    refine z_iast X h0 0 rfl (j := v) rfl (by omega) (by omega) d_T_overwrite_19 ?_
    refine z_iincU X d_T_overwrite_20 rfl (by decide) rfl ?_
    refine z_lv (lv2 := [some (.ref a), some (.ref a2), some (.int (nI (v + 1)))]) (fun _ _ q => q) ?_
    refine z_goto X d_T_overwrite_23 (tgt := 2) (by decide) ?_
    exact z_at (ih () trivial) (by rw [up_up, pr_s0 v _ f rfl]) rfl
set_option maxHeartbeats 4000000 in
set_option maxRecDepth 100000 in
/-- addTo(row, other): of one length -/
theorem c_T_addTo {a a2 n : Nat} {f g : Nat → Int32} (hk : zc b N k a (aI tI n f)) (hk2 : zc b N k a2 (aI tI n g)) (hne : a ≠ a2) (hn : n < 65536) : Met l y_T_addTo (wy y_T_addTo b_T_addTo 3 none) (rm 0 0 0) (zPc D (tyl tI tZ tN tM) b N k [.ref a, .ref a2]) (zQv D b N (fun k2 => k2 = va_up k a (aI tI n (pr 0 n (ad f g) f)))) 0 0 (zA b) := by
  refine z_met (own := R_T) (by decide) rfl rfl (Nat.le_of_ble_eq_true rfl) [some (.ref a), some (.ref a2), none] rfl ?_
  intro p e s m args below meth c X hin
  refine z_iconst X d_T_addTo_0 (v := nI 0) (by decide +kernel) ?_
  refine z_istore_n X d_T_addTo_1 (by decide) rfl ?_
  refine z_lv (lv2 := [some (.ref a), some (.ref a2), some (.int (nI 0))]) (fun _ _ q => q) ?_
  refine z_loop (σ := Unit) (K := fun v _ => va_up k a (aI tI n (pr 0 v (ad f g) f))) (LV := fun v _ => [some (.ref a), some (.ref a2), some (.int (nI v))]) (I := fun _ _ => True) n 0 () (by omega) (trivial) (by rw [pr_0]; exact (up_self hk.2.2).symm) (rfl) ?_ ?_
  · intro s1 _
    have h0 := hk.up (y := aI tI n (pr 0 n (ad f g) f))
    have h1 := hk2.ne (q := a) (y := aI tI n (pr 0 n (ad f g) f)) (Ne.symm hne)
    refine z_iload_n X d_T_addTo_2 rfl ?_
    refine z_aload_n X d_T_addTo_3 rfl ?_
    refine z_alen X h0 0 rfl d_T_addTo_4 ?_
    refine z_icmp_geN X d_T_addTo_5 (tgt := 29) (by decide) (by omega) (by omega) (fun _ => ?_) (fun h => absurd h (by omega))
    exact z_vret X d_T_addTo_29 (by omega) (by omega) (rfl)
  · intro v s1 hv _ ih
    have h0 := hk.up (y := aI tI n (pr 0 v (ad f g) f))
    have h1 := hk2.ne (q := a) (y := aI tI n (pr 0 v (ad f g) f)) (Ne.symm hne)
    refine z_iload_n X d_T_addTo_2 rfl ?_
    refine z_aload_n X d_T_addTo_3 rfl ?_
    refine z_alen X h0 0 rfl d_T_addTo_4 ?_
    refine z_icmp_geN X d_T_addTo_5 (tgt := 29) (by decide) (by omega) (by omega) (fun h => absurd h (by omega)) (fun _ => ?_)
    refine z_iload_n X d_T_addTo_8 rfl ?_
    refine z_aload_n X d_T_addTo_9 rfl ?_
    refine z_alen X h1 0 rfl d_T_addTo_10 ?_
    refine z_icmp_geN X d_T_addTo_11 (tgt := 29) (by decide) (by omega) (by omega) (fun h => absurd h (by omega)) (fun _ => ?_)
    refine z_aload_n X d_T_addTo_14 rfl ?_
    refine z_iload_n X d_T_addTo_15 rfl ?_
    refine z_dup2 X d_T_addTo_16 rfl rfl ?_
    refine z_iald X h0 0 rfl (j := v) rfl (by omega) (by omega) d_T_addTo_17 ?_
    refine z_aload_n X d_T_addTo_18 rfl ?_
    refine z_iload_n X d_T_addTo_19 rfl ?_
    refine z_iald X h1 0 rfl (j := v) rfl (by omega) (by omega) d_T_addTo_20 ?_
    refine z_iadd X d_T_addTo_21 ?_
    refine z_iast X h0 0 rfl (j := v) rfl (by omega) (by omega) d_T_addTo_22 ?_
    refine z_iincU X d_T_addTo_23 rfl (by decide) rfl ?_
    refine z_lv (lv2 := [some (.ref a), some (.ref a2), some (.int (nI (v + 1)))]) (fun _ _ q => q) ?_
    refine z_goto X d_T_addTo_26 (tgt := 2) (by decide) ?_
    exact z_at (ih () trivial) (by rw [up_up, pr_s0 v _ f (by rw [pr_out (Or.inr (by omega))]; rfl)]) rfl
set_option maxHeartbeats 4000000 in
set_option maxRecDepth 100000 in
/-- rankOf(x) -/
theorem c_C_rankOf {a kk x : Nat} {f : Nat → Int32} (h0 : zc b N k a (.inr (0, [.int (nI kk), .ref (a + 1)]))) (h1 : zc b N k (a + 1) (aI tI 32 f)) (hx : x < 32) : Met l y_C_rankOf (wy y_C_rankOf b_C_rankOf 4 (some .int)) (rm 0 0 0) (zPc D (tyl tI tZ tN tM) b N k [.ref a, .int (nI x)]) (zQi D b N (fun r k2 => r = nI (rank f x) ∧ k2 = k)) 0 0 (zA b) := by
  refine z_met (own := R_C) (by decide) rfl rfl (Nat.le_of_ble_eq_true rfl) [some (.ref a), some (.int (nI x)), none, none] rfl ?_
  intro p e s m args below meth c X hin
  refine z_iconst X d_C_rankOf_0 (v := nI 0) (by decide +kernel) ?_
  refine z_istore_n X d_C_rankOf_1 (by decide) rfl ?_
  refine z_lv (lv2 := [some (.ref a), some (.int (nI x)), some (.int (nI 0)), none]) (fun _ _ q => q) ?_
  refine z_iconst X d_C_rankOf_2 (v := nI 0) (by decide +kernel) ?_
  refine z_istore_n X d_C_rankOf_3 (by decide) rfl ?_
  refine z_lv (lv2 := [some (.ref a), some (.int (nI x)), some (.int (nI 0)), some (.int (nI 0))]) (fun _ _ q => q) ?_
  refine z_loop (σ := Unit) (K := fun _ _ => k) (LV := fun v _ => [some (.ref a), some (.int (nI x)), some (.int (nI (ct (pb f x) v))), some (.int (nI v))]) (I := fun _ _ => True) 32 0 () (by omega) (trivial) (rfl) (rfl) ?_ ?_
  · intro s1 _
    refine z_iload_n X d_C_rankOf_4 rfl ?_
    refine z_bipush X d_C_rankOf_5 (v := nI 32) (by decide +kernel) ?_
    refine z_icmp_geN X d_C_rankOf_7 (tgt := 54) (by decide) (by omega) (by omega) (fun _ => ?_) (fun h => absurd h (by omega))
    refine z_iload_n X d_C_rankOf_54 rfl ?_
    exact z_iret X d_C_rankOf_55 (by omega) (by omega) (⟨rfl, rfl⟩)
  · intro v s1 hv _ ih
    refine z_iload_n X d_C_rankOf_4 rfl ?_
    refine z_bipush X d_C_rankOf_5 (v := nI 32) (by decide +kernel) ?_
    refine z_icmp_geN X d_C_rankOf_7 (tgt := 54) (by decide) (by omega) (by omega) (fun h => absurd h (by omega)) (fun _ => ?_)
    refine z_aload_n X d_C_rankOf_10 rfl ?_
    refine z_get X h0 rfl in_C 1 (by decide) (wq lf_C_9) rfl d_C_rankOf_11 ?_
    refine z_iload_n X d_C_rankOf_14 rfl ?_
    refine z_iald X h1 0 rfl (j := v) rfl (by omega) (by omega) d_C_rankOf_15 ?_
    refine z_aload_n X d_C_rankOf_16 rfl ?_
    refine z_get X h0 rfl in_C 1 (by decide) (wq lf_C_9) rfl d_C_rankOf_17 ?_
    refine z_iload_n X d_C_rankOf_20 rfl ?_
    refine z_iald X h1 0 rfl (j := x) rfl (by omega) (by omega) d_C_rankOf_21 ?_
    refine z_icmp_gt X d_C_rankOf_22 (tgt := 45) (by decide) (fun hA => ?_) (fun hA => ?_)
    · skip
      refine z_iincU X d_C_rankOf_45 rfl (by decide) rfl ?_
      refine z_lv (lv2 := [some (.ref a), some (.int (nI x)), some (.int (nI (ct (pb f x) v + 1))), some (.int (nI v))]) (fun _ _ q => q) ?_
      refine z_iincU X d_C_rankOf_48 rfl (by decide) rfl ?_
      refine z_lv (lv2 := [some (.ref a), some (.int (nI x)), some (.int (nI (ct (pb f x) v + 1))), some (.int (nI (v + 1)))]) (fun _ _ q => q) ?_
      refine z_goto X d_C_rankOf_51 (tgt := 4) (by decide) ?_
      exact z_at (ih () trivial) rfl (by simp only [ct]; rw [if_pos (by simp [pb, hA])])
    · skip
      refine z_aload_n X d_C_rankOf_25 rfl ?_
      refine z_get X h0 rfl in_C 1 (by decide) (wq lf_C_9) rfl d_C_rankOf_26 ?_
      refine z_iload_n X d_C_rankOf_29 rfl ?_
      refine z_iald X h1 0 rfl (j := v) rfl (by omega) (by omega) d_C_rankOf_30 ?_
      refine z_aload_n X d_C_rankOf_31 rfl ?_
      refine z_get X h0 rfl in_C 1 (by decide) (wq lf_C_9) rfl d_C_rankOf_32 ?_
      refine z_iload_n X d_C_rankOf_35 rfl ?_
      refine z_iald X h1 0 rfl (j := x) rfl (by omega) (by omega) d_C_rankOf_36 ?_
      refine z_icmp_ne X d_C_rankOf_37 (tgt := 48) (by decide) (fun hB => ?_) (fun hB => ?_)
      · skip
        refine z_iincU X d_C_rankOf_48 rfl (by decide) rfl ?_
        refine z_lv (lv2 := [some (.ref a), some (.int (nI x)), some (.int (nI (ct (pb f x) v))), some (.int (nI (v + 1)))]) (fun _ _ q => q) ?_
        refine z_goto X d_C_rankOf_51 (tgt := 4) (by decide) ?_
        exact z_at (ih () trivial) rfl (by simp only [ct]; rw [if_neg (by simp [pb, hA, hB])]; rfl)
      · skip
        refine z_iload_n X d_C_rankOf_40 rfl ?_
        refine z_iload_n X d_C_rankOf_41 rfl ?_
        refine z_icmp_geN X d_C_rankOf_42 (tgt := 48) (by decide) (by omega) (by omega) (fun hC => ?_) (fun hC => ?_)
        · have hC2 : ¬ v < x := by omega
          refine z_iincU X d_C_rankOf_48 rfl (by decide) rfl ?_
          refine z_lv (lv2 := [some (.ref a), some (.int (nI x)), some (.int (nI (ct (pb f x) v))), some (.int (nI (v + 1)))]) (fun _ _ q => q) ?_
          refine z_goto X d_C_rankOf_51 (tgt := 4) (by decide) ?_
          exact z_at (ih () trivial) rfl (by simp only [ct]; rw [if_neg (by simp [pb, hA, hC2])]; rfl)
        · skip
          refine z_iincU X d_C_rankOf_45 rfl (by decide) rfl ?_
          refine z_lv (lv2 := [some (.ref a), some (.int (nI x)), some (.int (nI (ct (pb f x) v + 1))), some (.int (nI v))]) (fun _ _ q => q) ?_
          refine z_iincU X d_C_rankOf_48 rfl (by decide) rfl ?_
          refine z_lv (lv2 := [some (.ref a), some (.int (nI x)), some (.int (nI (ct (pb f x) v + 1))), some (.int (nI (v + 1)))]) (fun _ _ q => q) ?_
          refine z_goto X d_C_rankOf_51 (tgt := 4) (by decide) ?_
          exact z_at (ih () trivial) rfl (by simp only [ct]; rw [if_pos (by simp [pb, hA, hB, hC])])
end
