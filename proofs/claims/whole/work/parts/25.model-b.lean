/-! Contracts of the reference, 2: counters and digest rows -/
def oI (o : Option Nat) : Int32 := match o with
  | none => -1
  | some x => nI x
theorem zn0 : vp_nar .boolean (nI 0) = nI 0 := by decide +kernel
theorem zn1 : vp_nar .boolean (nI 1) = nI 1 := by decide +kernel
theorem pr_row1 {j : Nat} {g g2 C : Nat → Int32} (hg : g = rw_ 64 C j) (h0 : g2 0 = 0) : pr (64 * j + 1) 63 (fun r => ad g g2 (r + 1)) C = pr (64 * j) 64 (ad g g2) C := by
  funext q
  unfold pr
  by_cases h1 : 64 * j + 1 ≤ q ∧ q < 64 * j + 1 + 63
  · rw [if_pos h1, if_pos (by omega)]
    show ad g g2 (q - (64 * j + 1) + 1) = ad g g2 (q - 64 * j)
    rw [show q - (64 * j + 1) + 1 = q - 64 * j by omega]
  · rw [if_neg h1]
    by_cases h2 : 64 * j ≤ q ∧ q < 64 * j + 64
    · have h3 : q = 64 * j := by omega
      subst h3
      rw [if_pos h2, Nat.sub_self]
      unfold ad
      rw [h0, hg, rw_in (by omega), Nat.add_zero]
      exact (Int32.add_zero _).symm
    · rw [if_neg h2]
section
variable {l : Launch} {D : va_G} {tI tZ tN tM : ClassId} {b N : Nat} {k : Nat → va_E}
set_option maxHeartbeats 4000000 in
set_option maxRecDepth 100000 in
/-- R_counters -/
theorem c_R_counters {kk nc : Nat} {dv ms : Int32} {f0 f1 f2 f3 f4 f5 f6 f7 f8 f9 f10 f11 f12 f13 f14 f15 f16 f17 : Nat → Int32} {j : Nat} (hR : RW tI tZ b N k kk dv nc ms f0 f1 f2 f3 f4 f5 f6 f7 f8 f9 f10 f11 f12 f13 f14 f15 f16 f17) (hj : j < 12)  : Met l y_R_counters (wy y_R_counters b_R_counters 4 (some .int)) (rm 0 0 0) (zPc D (tyl tI tZ tN tM) b N k [.ref (b + 255), .int (nI j)]) (zQi D b N (fun z k2 => z = nI (cn (rw_ 32 f15 j)) ∧ k2 = k)) 0 0 (zA b) := by
  refine z_met (own := R_R) (by decide) rfl rfl (Nat.le_of_ble_eq_true rfl) [some (.ref (b + 255)), some (.int (nI j)), none, none] rfl ?_
  intro p e s m args below meth c X hin
  have ⟨ho, r0, r1, r2, r3, r4, r5, r6, r7, r8, r9, r10, r11, r12, r13, r14, r15, r16, r17⟩ := hR
  have hfr : ∀ q, q < b + 255 → k q = k q := fun _ _ => rfl
  refine z_iconst X d_R_counters_0 (v := nI 0) (by decide +kernel) ?_
  refine z_istore_n X d_R_counters_1 (by decide) rfl ?_
  refine z_lv (lv2 := [some (.ref (b + 255)), some (.int (nI j)), some (.int (nI 0)), none]) (fun _ _ q => q) ?_
  refine z_iconst X d_R_counters_2 (v := nI 0) (by decide +kernel) ?_
  refine z_istore_n X d_R_counters_3 (by decide) rfl ?_
  refine z_lv (lv2 := [some (.ref (b + 255)), some (.int (nI j)), some (.int (nI 0)), some (.int (nI 0))]) (fun _ _ q => q) ?_
  refine z_loop (σ := Unit) (K := fun _ _ => k) (LV := fun v _ => [some (.ref (b + 255)), some (.int (nI j)), some (.int (nI (ct (fun v => decide (0 < rw_ 32 f15 j v)) v))), some (.int (nI v))]) (I := fun _ _ => True) 32 0 () (by omega) (trivial) (rfl) (rfl) ?_ ?_
  · intro s1 _
    refine z_lv (lv2 := [some (.ref (b + 255)), some (.int (nI j)), some (.int (nI (ct (fun v => decide (0 < rw_ 32 f15 j v)) 32))), some (.int (nI 32))]) (fun _ _ q => q) ?_
    refine z_iload_n X d_R_counters_4 rfl ?_
    refine z_bipush X d_R_counters_5 (v := nI 32) (by decide +kernel) ?_
    refine z_icmp_geN X d_R_counters_7 (tgt := 38) (by decide) (by omega) (by omega) (fun _ => ?_) (fun h => absurd h (by omega))
    refine z_iload_n X d_R_counters_38 rfl ?_
    exact z_iret X d_R_counters_39 (by omega) (by omega) (⟨rfl, rfl⟩)
  · intro v s1 hv _ ih
    refine z_lv (lv2 := [some (.ref (b + 255)), some (.int (nI j)), some (.int (nI (ct (fun v => decide (0 < rw_ 32 f15 j v)) v))), some (.int (nI v))]) (fun _ _ q => q) ?_
    refine z_iload_n X d_R_counters_4 rfl ?_
    refine z_bipush X d_R_counters_5 (v := nI 32) (by decide +kernel) ?_
    refine z_icmp_geN X d_R_counters_7 (tgt := 38) (by decide) (by omega) (by omega) (fun h => absurd h (by omega)) (fun _ => ?_)
    refine z_aload_n X d_R_counters_10 rfl ?_
    refine z_get X ho rfl in_R 19 (by decide) (wq lf_R_60) rfl d_R_counters_11 ?_
    refine z_bipush X d_R_counters_14 (v := nI 32) (by decide +kernel) ?_
    refine z_iload_n X d_R_counters_16 rfl ?_
    refine z_imulN X d_R_counters_17 ?_
    refine z_iload_n X d_R_counters_18 rfl ?_
    refine z_iaddN X d_R_counters_19 ?_
    refine z_iald X r15 0 rfl (j := (32 * j) + v) rfl (by omega) (by omega) d_R_counters_20 ?_
    refine z_top (y := .int (rw_ 32 f15 j v)) (by rw [rw_in hv]) ?_
    refine z_if_le X d_R_counters_21 (tgt := 30) (by decide) (fun hA => ?_) (fun hA => ?_)
    · skip
      refine z_iload_n X d_R_counters_30 rfl ?_
      refine z_istore_n X d_R_counters_31 (by decide) rfl ?_
      refine z_lv (lv2 := [some (.ref (b + 255)), some (.int (nI j)), some (.int (nI (ct (fun v => decide (0 < rw_ 32 f15 j v)) v))), some (.int (nI v))]) (fun _ _ q => q) ?_
      refine z_iincU X d_R_counters_32 rfl (by decide) rfl ?_
      refine z_lv (lv2 := [some (.ref (b + 255)), some (.int (nI j)), some (.int (nI (ct (fun v => decide (0 < rw_ 32 f15 j v)) v))), some (.int (nI (v + 1)))]) (fun _ _ q => q) ?_
      refine z_goto X d_R_counters_35 (tgt := 4) (by decide) ?_
      exact z_at (ih () trivial) rfl (by simp only [ct]; rw [if_neg (by simp [i32_le_n hA])]; rfl)
    · skip
      refine z_iload_n X d_R_counters_24 rfl ?_
      refine z_iconst X d_R_counters_25 (v := nI 1) (by decide +kernel) ?_
      refine z_iaddN X d_R_counters_26 ?_
      refine z_goto X d_R_counters_27 (tgt := 31) (by decide) ?_
      refine z_istore_n X d_R_counters_31 (by decide) rfl ?_
      refine z_lv (lv2 := [some (.ref (b + 255)), some (.int (nI j)), some (.int (nI ((ct (fun v => decide (0 < rw_ 32 f15 j v)) v) + 1))), some (.int (nI v))]) (fun _ _ q => q) ?_
      refine z_iincU X d_R_counters_32 rfl (by decide) rfl ?_
      refine z_lv (lv2 := [some (.ref (b + 255)), some (.int (nI j)), some (.int (nI ((ct (fun v => decide (0 < rw_ 32 f15 j v)) v) + 1))), some (.int (nI (v + 1)))]) (fun _ _ q => q) ?_
      refine z_goto X d_R_counters_35 (tgt := 4) (by decide) ?_
      exact z_at (ih () trivial) rfl (by simp only [ct]; rw [if_pos (by simp [i32_nle hA])])
set_option maxHeartbeats 4000000 in
set_option maxRecDepth 100000 in
/-- R_lower -/
theorem c_R_lower {kk nc : Nat} {dv ms : Int32} {f0 f1 f2 f3 f4 f5 f6 f7 f8 f9 f10 f11 f12 f13 f14 f15 f16 f17 : Nat → Int32} {j : Nat} {x : Int32} (hR : RW tI tZ b N k kk dv nc ms f0 f1 f2 f3 f4 f5 f6 f7 f8 f9 f10 f11 f12 f13 f14 f15 f16 f17) (hj : j < 12)  : Met l y_R_lower (wy y_R_lower b_R_lower 5 none) (rm 0 0 0) (zPc D (tyl tI tZ tN tM) b N k [.ref (b + 255), .int (nI j), .int x]) (zQv D b N (fun k2 => RW tI tZ b N k2 kk dv nc ms f0 f1 f2 f3 f4 f5 f6 f7 f8 f9 f10 f11 f12 f13 f14 (pr (32 * j) 32 (lw (rw_ 32 f15 j) x) f15) f16 f17 ∧ ∀ q, q < b + 255 → k2 q = k q)) 0 0 (zA b) := by
  refine z_met (own := R_R) (by decide) rfl rfl (Nat.le_of_ble_eq_true rfl) [some (.ref (b + 255)), some (.int (nI j)), some (.int x), none, none] rfl ?_
  intro p e s m args below meth c X hin
  have ⟨ho, r0, r1, r2, r3, r4, r5, r6, r7, r8, r9, r10, r11, r12, r13, r14, r15, r16, r17⟩ := hR
  have hfr : ∀ q, q < b + 255 → k q = k q := fun _ _ => rfl
  refine z_iconst X d_R_lower_0 (v := nI 0) (by decide +kernel) ?_
  refine z_istore_n X d_R_lower_1 (by decide) rfl ?_
  refine z_lv (lv2 := [some (.ref (b + 255)), some (.int (nI j)), some (.int x), some (.int (nI 0)), none]) (fun _ _ q => q) ?_
  refine z_loop (σ := Nat → va_E) (K := fun _ k9 => k9) (LV := fun v _ => [some (.ref (b + 255)), some (.int (nI j)), some (.int x), some (.int (nI v)), none]) (I := fun v k9 => (RW tI tZ b N k9 kk dv nc ms f0 f1 f2 f3 f4 f5 f6 f7 f8 f9 f10 f11 f12 f13 f14 (pr (32 * j) v (lw (rw_ 32 f15 j) x) f15) f16 f17) ∧ (∀ q, q < b + 255 → k9 q = k q)) 32 0 k (by omega) (⟨by rw [pr_0]; exact hR, hfr⟩) (rfl) (rfl) ?_ ?_
  · intro k9 hI
    obtain ⟨hR, hfr⟩ := hI
    have ⟨ho, r0, r1, r2, r3, r4, r5, r6, r7, r8, r9, r10, r11, r12, r13, r14, r15, r16, r17⟩ := hR
    refine z_lv (lv2 := [some (.ref (b + 255)), some (.int (nI j)), some (.int x), some (.int (nI 32)), none]) (fun _ _ q => q) ?_
    refine z_iload_n X d_R_lower_2 rfl ?_
    refine z_bipush X d_R_lower_3 (v := nI 32) (by decide +kernel) ?_
    refine z_icmp_geN X d_R_lower_5 (tgt := 51) (by decide) (by omega) (by omega) (fun _ => ?_) (fun h => absurd h (by omega))
    exact z_vret X d_R_lower_51 (by omega) (by omega) (⟨hR, hfr⟩)
  · intro v k9 hv hI ih
    obtain ⟨hR, hfr⟩ := hI
    have ⟨ho, r0, r1, r2, r3, r4, r5, r6, r7, r8, r9, r10, r11, r12, r13, r14, r15, r16, r17⟩ := hR
    refine z_lv (lv2 := [some (.ref (b + 255)), some (.int (nI j)), some (.int x), some (.int (nI v)), none]) (fun _ _ q => q) ?_
    refine z_iload_n X d_R_lower_2 rfl ?_
    refine z_bipush X d_R_lower_3 (v := nI 32) (by decide +kernel) ?_
    refine z_icmp_geN X d_R_lower_5 (tgt := 51) (by decide) (by omega) (by omega) (fun h => absurd h (by omega)) (fun _ => ?_)
    refine z_aload_n X d_R_lower_8 rfl ?_
    refine z_get X ho rfl in_R 19 (by decide) (wq lf_R_60) rfl d_R_lower_9 ?_
    refine z_bipush X d_R_lower_12 (v := nI 32) (by decide +kernel) ?_
    refine z_iload_n X d_R_lower_14 rfl ?_
    refine z_imulN X d_R_lower_15 ?_
    refine z_iload_n X d_R_lower_16 rfl ?_
    refine z_iaddN X d_R_lower_17 ?_
    refine z_iald X r15 0 rfl (j := (32 * j) + v) rfl (by omega) (by omega) d_R_lower_18 ?_
    refine z_top (y := .int (rw_ 32 f15 j v)) (by rw [rw_in hv, pr_out (Or.inr (by omega))]) ?_
    refine z_iload_n X d_R_lower_19 rfl ?_
    refine z_isub X d_R_lower_20 ?_
    refine z_istore X d_R_lower_21 (by decide) rfl ?_
    refine z_lv (lv2 := [some (.ref (b + 255)), some (.int (nI j)), some (.int x), some (.int (nI v)), some (.int ((rw_ 32 f15 j v) - x))]) (fun _ _ q => q) ?_
    refine z_aload_n X d_R_lower_23 rfl ?_
    refine z_get X ho rfl in_R 19 (by decide) (wq lf_R_60) rfl d_R_lower_24 ?_
    refine z_bipush X d_R_lower_27 (v := nI 32) (by decide +kernel) ?_
    refine z_iload_n X d_R_lower_29 rfl ?_
    refine z_imulN X d_R_lower_30 ?_
    refine z_iload_n X d_R_lower_31 rfl ?_
    refine z_iaddN X d_R_lower_32 ?_
    refine z_iload X d_R_lower_33 rfl ?_
    refine z_if_le X d_R_lower_35 (tgt := 43) (by decide) (fun hA => ?_) (fun hA => ?_)
    · skip
      refine z_iconst X d_R_lower_43 (v := nI 0) (by decide +kernel) ?_
      refine z_iast X r15 0 rfl (j := (32 * j) + v) rfl (by omega) (by omega) d_R_lower_44 ?_
      refine z_named (fun k_1 hk9 => ?_)
      have hR := hR.st15 hk9
      have hfr : ∀ q, q < b + 255 → k_1 q = k q := fun q hq => by rw [hk9]; exact (up_ne (by omega)).trans (hfr q hq)
      clear hk9
      have ⟨ho, r0, r1, r2, r3, r4, r5, r6, r7, r8, r9, r10, r11, r12, r13, r14, r15, r16, r17⟩ := hR
      refine z_iincU X d_R_lower_45 rfl (by decide) rfl ?_
      refine z_lv (lv2 := [some (.ref (b + 255)), some (.int (nI j)), some (.int x), some (.int (nI (v + 1))), some (.int ((rw_ 32 f15 j v) - x))]) (fun _ _ q => q) ?_
      refine z_goto X d_R_lower_48 (tgt := 2) (by decide) ?_
      refine z_drop 4 ?_
      exact z_at (ih k_1 ⟨by rw [pr_succ (32 * j) v _ f15 (by unfold lw; rw [if_pos hv, if_neg (i32_le_n hA)]; exact nI_0)] at hR; exact hR, hfr⟩) rfl rfl
    · skip
      refine z_iload X d_R_lower_38 rfl ?_
      refine z_goto X d_R_lower_40 (tgt := 44) (by decide) ?_
      refine z_iast X r15 0 rfl (j := (32 * j) + v) rfl (by omega) (by omega) d_R_lower_44 ?_
      refine z_named (fun k_2 hk9 => ?_)
      have hR := hR.st15 hk9
      have hfr : ∀ q, q < b + 255 → k_2 q = k q := fun q hq => by rw [hk9]; exact (up_ne (by omega)).trans (hfr q hq)
      clear hk9
      have ⟨ho, r0, r1, r2, r3, r4, r5, r6, r7, r8, r9, r10, r11, r12, r13, r14, r15, r16, r17⟩ := hR
      refine z_iincU X d_R_lower_45 rfl (by decide) rfl ?_
      refine z_lv (lv2 := [some (.ref (b + 255)), some (.int (nI j)), some (.int x), some (.int (nI (v + 1))), some (.int ((rw_ 32 f15 j v) - x))]) (fun _ _ q => q) ?_
      refine z_goto X d_R_lower_48 (tgt := 2) (by decide) ?_
      refine z_drop 4 ?_
      exact z_at (ih k_2 ⟨by rw [pr_succ (32 * j) v _ f15 (by unfold lw; rw [if_pos hv, if_pos (i32_nle hA)])] at hR; exact hR, hfr⟩) rfl rfl
set_option maxHeartbeats 4000000 in
set_option maxRecDepth 100000 in
/-- R_clear -/
theorem c_R_clear {kk nc : Nat} {dv ms : Int32} {f0 f1 f2 f3 f4 f5 f6 f7 f8 f9 f10 f11 f12 f13 f14 f15 f16 f17 : Nat → Int32} {j : Nat} (hR : RW tI tZ b N k kk dv nc ms f0 f1 f2 f3 f4 f5 f6 f7 f8 f9 f10 f11 f12 f13 f14 f15 f16 f17) (hj : j < 12)  : Met l y_R_clear (wy y_R_clear b_R_clear 3 none) (rm 0 0 0) (zPc D (tyl tI tZ tN tM) b N k [.ref (b + 255), .int (nI j)]) (zQv D b N (fun k2 => RW tI tZ b N k2 kk dv nc ms f0 f1 f2 f3 f4 f5 f6 f7 f8 f9 f10 f11 f12 f13 (upd f14 j 0) (pr (32 * j) 32 (fun _ => 0) f15) (pr (64 * j) 64 (fun _ => 0) f16) f17 ∧ ∀ q, q < b + 255 → k2 q = k q)) 0 0 (zA b) := by
  refine z_met (own := R_R) (by decide) rfl rfl (Nat.le_of_ble_eq_true rfl) [some (.ref (b + 255)), some (.int (nI j)), none] rfl ?_
  intro p e s m args below meth c X hin
  have ⟨ho, r0, r1, r2, r3, r4, r5, r6, r7, r8, r9, r10, r11, r12, r13, r14, r15, r16, r17⟩ := hR
  have hfr : ∀ q, q < b + 255 → k q = k q := fun _ _ => rfl
  refine z_aload_n X d_R_clear_0 rfl ?_
  refine z_get X ho rfl in_R 18 (by decide) (wq lf_R_57) rfl d_R_clear_1 ?_
  refine z_iload_n X d_R_clear_4 rfl ?_
  refine z_iconst X d_R_clear_5 (v := nI 0) (by decide +kernel) ?_
  refine z_iast X r14 0 rfl (j := j) rfl (by omega) (by omega) d_R_clear_6 ?_
  refine z_named (fun k_1 hk9 => ?_)
  have hR := hR.st14 hk9
  rw [show (upd f14 j (nI 0)) = upd f14 j 0 from by rw [nI_0]] at hR
  have hfr : ∀ q, q < b + 255 → k_1 q = k q := fun q hq => by rw [hk9]; exact (up_ne (by omega)).trans (hfr q hq)
  clear hk9
  have ⟨ho, r0, r1, r2, r3, r4, r5, r6, r7, r8, r9, r10, r11, r12, r13, r14, r15, r16, r17⟩ := hR
  refine z_iconst X d_R_clear_7 (v := nI 0) (by decide +kernel) ?_
  refine z_istore_n X d_R_clear_8 (by decide) rfl ?_
  refine z_lv (lv2 := [some (.ref (b + 255)), some (.int (nI j)), some (.int (nI 0))]) (fun _ _ q => q) ?_
  refine z_loop (σ := Nat → va_E) (K := fun _ k9 => k9) (LV := fun v _ => [some (.ref (b + 255)), some (.int (nI j)), some (.int (nI v))]) (I := fun v k9 => (RW tI tZ b N k9 kk dv nc ms f0 f1 f2 f3 f4 f5 f6 f7 f8 f9 f10 f11 f12 f13 (upd f14 j 0) (pr (32 * j) v (fun _ => 0) f15) f16 f17) ∧ (∀ q, q < b + 255 → k9 q = k q)) 32 0 k_1 (by omega) (⟨by rw [pr_0]; exact hR, hfr⟩) (rfl) (rfl) ?_ ?_
  · intro k9 hI
    obtain ⟨hR, hfr⟩ := hI
    have ⟨ho, r0, r1, r2, r3, r4, r5, r6, r7, r8, r9, r10, r11, r12, r13, r14, r15, r16, r17⟩ := hR
    refine z_lv (lv2 := [some (.ref (b + 255)), some (.int (nI j)), some (.int (nI 32))]) (fun _ _ q => q) ?_
    refine z_iload_n X d_R_clear_9 rfl ?_
    refine z_bipush X d_R_clear_10 (v := nI 32) (by decide +kernel) ?_
    refine z_icmp_geN X d_R_clear_12 (tgt := 33) (by decide) (by omega) (by omega) (fun _ => ?_) (fun h => absurd h (by omega))
    refine z_iconst X d_R_clear_33 (v := nI 0) (by decide +kernel) ?_
    refine z_istore_n X d_R_clear_34 (by decide) rfl ?_
    refine z_lv (lv2 := [some (.ref (b + 255)), some (.int (nI j)), some (.int (nI 0))]) (fun _ _ q => q) ?_
    refine z_loop (σ := Nat → va_E) (K := fun _ k9 => k9) (LV := fun v _ => [some (.ref (b + 255)), some (.int (nI j)), some (.int (nI v))]) (I := fun v k9 => (RW tI tZ b N k9 kk dv nc ms f0 f1 f2 f3 f4 f5 f6 f7 f8 f9 f10 f11 f12 f13 (upd f14 j 0) (pr (32 * j) 32 (fun _ => 0) f15) (pr (64 * j) v (fun _ => 0) f16) f17) ∧ (∀ q, q < b + 255 → k9 q = k q)) 64 0 k9 (by omega) (⟨by rw [pr_0]; exact hR, hfr⟩) (rfl) (rfl) ?_ ?_
    · intro k9 hI
      obtain ⟨hR, hfr⟩ := hI
      have ⟨ho, r0, r1, r2, r3, r4, r5, r6, r7, r8, r9, r10, r11, r12, r13, r14, r15, r16, r17⟩ := hR
      refine z_lv (lv2 := [some (.ref (b + 255)), some (.int (nI j)), some (.int (nI 64))]) (fun _ _ q => q) ?_
      refine z_iload_n X d_R_clear_35 rfl ?_
      refine z_bipush X d_R_clear_36 (v := nI 64) (by decide +kernel) ?_
      refine z_icmp_geN X d_R_clear_38 (tgt := 59) (by decide) (by omega) (by omega) (fun _ => ?_) (fun h => absurd h (by omega))
      exact z_vret X d_R_clear_59 (by omega) (by omega) (⟨hR, hfr⟩)
    · intro v k9 hv hI ih
      obtain ⟨hR, hfr⟩ := hI
      have ⟨ho, r0, r1, r2, r3, r4, r5, r6, r7, r8, r9, r10, r11, r12, r13, r14, r15, r16, r17⟩ := hR
      refine z_lv (lv2 := [some (.ref (b + 255)), some (.int (nI j)), some (.int (nI v))]) (fun _ _ q => q) ?_
      refine z_iload_n X d_R_clear_35 rfl ?_
      refine z_bipush X d_R_clear_36 (v := nI 64) (by decide +kernel) ?_
      refine z_icmp_geN X d_R_clear_38 (tgt := 59) (by decide) (by omega) (by omega) (fun h => absurd h (by omega)) (fun _ => ?_)
      refine z_aload_n X d_R_clear_41 rfl ?_
      refine z_get X ho rfl in_R 20 (by decide) (wq lf_R_63) rfl d_R_clear_42 ?_
      refine z_bipush X d_R_clear_45 (v := nI 64) (by decide +kernel) ?_
      refine z_iload_n X d_R_clear_47 rfl ?_
      refine z_imulN X d_R_clear_48 ?_
      refine z_iload_n X d_R_clear_49 rfl ?_
      refine z_iaddN X d_R_clear_50 ?_
      refine z_iconst X d_R_clear_51 (v := nI 0) (by decide +kernel) ?_
      refine z_iast X r16 0 rfl (j := (64 * j) + v) rfl (by omega) (by omega) d_R_clear_52 ?_
      refine z_named (fun k_2 hk9 => ?_)
      have hR := hR.st16 hk9
      have hfr : ∀ q, q < b + 255 → k_2 q = k q := fun q hq => by rw [hk9]; exact (up_ne (by omega)).trans (hfr q hq)
      clear hk9
      have ⟨ho, r0, r1, r2, r3, r4, r5, r6, r7, r8, r9, r10, r11, r12, r13, r14, r15, r16, r17⟩ := hR
      refine z_iincU X d_R_clear_53 rfl (by decide) rfl ?_
      refine z_lv (lv2 := [some (.ref (b + 255)), some (.int (nI j)), some (.int (nI (v + 1)))]) (fun _ _ q => q) ?_
      refine z_goto X d_R_clear_56 (tgt := 35) (by decide) ?_
      exact z_at (ih k_2 ⟨by rw [pr_succ (64 * j) v _ f16 nI_0] at hR; exact hR, hfr⟩) rfl rfl
  · intro v k9 hv hI ih
    obtain ⟨hR, hfr⟩ := hI
    have ⟨ho, r0, r1, r2, r3, r4, r5, r6, r7, r8, r9, r10, r11, r12, r13, r14, r15, r16, r17⟩ := hR
    refine z_lv (lv2 := [some (.ref (b + 255)), some (.int (nI j)), some (.int (nI v))]) (fun _ _ q => q) ?_
    refine z_iload_n X d_R_clear_9 rfl ?_
    refine z_bipush X d_R_clear_10 (v := nI 32) (by decide +kernel) ?_
    refine z_icmp_geN X d_R_clear_12 (tgt := 33) (by decide) (by omega) (by omega) (fun h => absurd h (by omega)) (fun _ => ?_)
    refine z_aload_n X d_R_clear_15 rfl ?_
    refine z_get X ho rfl in_R 19 (by decide) (wq lf_R_60) rfl d_R_clear_16 ?_
    refine z_bipush X d_R_clear_19 (v := nI 32) (by decide +kernel) ?_
    refine z_iload_n X d_R_clear_21 rfl ?_
    refine z_imulN X d_R_clear_22 ?_
    refine z_iload_n X d_R_clear_23 rfl ?_
    refine z_iaddN X d_R_clear_24 ?_
    refine z_iconst X d_R_clear_25 (v := nI 0) (by decide +kernel) ?_
    refine z_iast X r15 0 rfl (j := (32 * j) + v) rfl (by omega) (by omega) d_R_clear_26 ?_
    refine z_named (fun k_3 hk9 => ?_)
    have hR := hR.st15 hk9
    have hfr : ∀ q, q < b + 255 → k_3 q = k q := fun q hq => by rw [hk9]; exact (up_ne (by omega)).trans (hfr q hq)
    clear hk9
    have ⟨ho, r0, r1, r2, r3, r4, r5, r6, r7, r8, r9, r10, r11, r12, r13, r14, r15, r16, r17⟩ := hR
    refine z_iincU X d_R_clear_27 rfl (by decide) rfl ?_
    refine z_lv (lv2 := [some (.ref (b + 255)), some (.int (nI j)), some (.int (nI (v + 1)))]) (fun _ _ q => q) ?_
    refine z_goto X d_R_clear_30 (tgt := 9) (by decide) ?_
    exact z_at (ih k_3 ⟨by rw [pr_succ (32 * j) v _ f15 nI_0] at hR; exact hR, hfr⟩) rfl rfl
set_option maxHeartbeats 4000000 in
set_option maxRecDepth 100000 in
/-- R_clearUsed -/
theorem c_R_clearUsed {kk nc : Nat} {dv ms : Int32} {f0 f1 f2 f3 f4 f5 f6 f7 f8 f9 f10 f11 f12 f13 f14 f15 f16 f17 : Nat → Int32} (hR : RW tI tZ b N k kk dv nc ms f0 f1 f2 f3 f4 f5 f6 f7 f8 f9 f10 f11 f12 f13 f14 f15 f16 f17)  : Met l y_R_clearUsed (wy y_R_clearUsed b_R_clearUsed 2 none) (rm 0 0 0) (zPc D (tyl tI tZ tN tM) b N k [.ref (b + 255)]) (zQv D b N (fun k2 => RW tI tZ b N k2 kk dv nc ms f0 f1 f2 f3 f4 f5 f6 f7 f8 f9 f10 f11 f12 f13 f14 f15 f16 (pr 0 32 (fun _ => 0) f17) ∧ ∀ q, q < b + 255 → k2 q = k q)) 0 0 (zA b) := by
  refine z_met (own := R_R) (by decide) rfl rfl (Nat.le_of_ble_eq_true rfl) [some (.ref (b + 255)), none] rfl ?_
  intro p e s m args below meth c X hin
  have ⟨ho, r0, r1, r2, r3, r4, r5, r6, r7, r8, r9, r10, r11, r12, r13, r14, r15, r16, r17⟩ := hR
  have hfr : ∀ q, q < b + 255 → k q = k q := fun _ _ => rfl
  refine z_iconst X d_R_clearUsed_0 (v := nI 0) (by decide +kernel) ?_
  refine z_istore_n X d_R_clearUsed_1 (by decide) rfl ?_
  refine z_lv (lv2 := [some (.ref (b + 255)), some (.int (nI 0))]) (fun _ _ q => q) ?_
  refine z_loop (σ := Nat → va_E) (K := fun _ k9 => k9) (LV := fun v _ => [some (.ref (b + 255)), some (.int (nI v))]) (I := fun v k9 => (RW tI tZ b N k9 kk dv nc ms f0 f1 f2 f3 f4 f5 f6 f7 f8 f9 f10 f11 f12 f13 f14 f15 f16 (pr 0 v (fun _ => 0) f17)) ∧ (∀ q, q < b + 255 → k9 q = k q)) 32 0 k (by omega) (⟨by rw [pr_0]; exact hR, hfr⟩) (rfl) (rfl) ?_ ?_
  · intro k9 hI
    obtain ⟨hR, hfr⟩ := hI
    have ⟨ho, r0, r1, r2, r3, r4, r5, r6, r7, r8, r9, r10, r11, r12, r13, r14, r15, r16, r17⟩ := hR
    refine z_lv (lv2 := [some (.ref (b + 255)), some (.int (nI 32))]) (fun _ _ q => q) ?_
    refine z_iload_n X d_R_clearUsed_2 rfl ?_
    refine z_bipush X d_R_clearUsed_3 (v := nI 32) (by decide +kernel) ?_
    refine z_icmp_geN X d_R_clearUsed_5 (tgt := 21) (by decide) (by omega) (by omega) (fun _ => ?_) (fun h => absurd h (by omega))
    exact z_vret X d_R_clearUsed_21 (by omega) (by omega) (⟨hR, hfr⟩)
  · intro v k9 hv hI ih
    obtain ⟨hR, hfr⟩ := hI
    have ⟨ho, r0, r1, r2, r3, r4, r5, r6, r7, r8, r9, r10, r11, r12, r13, r14, r15, r16, r17⟩ := hR
    refine z_lv (lv2 := [some (.ref (b + 255)), some (.int (nI v))]) (fun _ _ q => q) ?_
    refine z_iload_n X d_R_clearUsed_2 rfl ?_
    refine z_bipush X d_R_clearUsed_3 (v := nI 32) (by decide +kernel) ?_
    refine z_icmp_geN X d_R_clearUsed_5 (tgt := 21) (by decide) (by omega) (by omega) (fun h => absurd h (by omega)) (fun _ => ?_)
    refine z_aload_n X d_R_clearUsed_8 rfl ?_
    refine z_get X ho rfl in_R 21 (by decide) (wq lf_R_66) rfl d_R_clearUsed_9 ?_
    refine z_iload_n X d_R_clearUsed_12 rfl ?_
    refine z_iconst X d_R_clearUsed_13 (v := nI 0) (by decide +kernel) ?_
    refine z_zast X r17 1 rfl (j := v) rfl (by omega) (by omega) d_R_clearUsed_14 ?_
    refine z_named (fun k_1 hk9 => ?_)
    have hR := hR.st17 hk9
    have hfr : ∀ q, q < b + 255 → k_1 q = k q := fun q hq => by rw [hk9]; exact (up_ne (by omega)).trans (hfr q hq)
    clear hk9
    have ⟨ho, r0, r1, r2, r3, r4, r5, r6, r7, r8, r9, r10, r11, r12, r13, r14, r15, r16, r17⟩ := hR
    refine z_iincU X d_R_clearUsed_15 rfl (by decide) rfl ?_
    refine z_lv (lv2 := [some (.ref (b + 255)), some (.int (nI (v + 1)))]) (fun _ _ q => q) ?_
    refine z_goto X d_R_clearUsed_18 (tgt := 2) (by decide) ?_
    exact z_at (ih k_1 ⟨by rw [pr_s0 v _ f17 (by rw [zn0]; exact nI_0)] at hR; exact hR, hfr⟩) rfl rfl
set_option maxHeartbeats 4000000 in
set_option maxRecDepth 100000 in
/-- R_greatestUnused -/
theorem c_R_greatestUnused {kk nc : Nat} {dv ms : Int32} {f0 f1 f2 f3 f4 f5 f6 f7 f8 f9 f10 f11 f12 f13 f14 f15 f16 f17 : Nat → Int32} {j : Nat} {u : Nat → Bool} (hR : RW tI tZ b N k kk dv nc ms f0 f1 f2 f3 f4 f5 f6 f7 f8 f9 f10 f11 f12 f13 f14 f15 f16 f17) (hj : j < 12) (hu : ∀ v, v < 32 → f17 v = nI (cb (u v)))  : Met l y_R_greatestUnused (wy y_R_greatestUnused b_R_greatestUnused 4 (some .int)) (rm 0 0 0) (zPc D (tyl tI tZ tN tM) b N k [.ref (b + 255), .int (nI j)]) (zQi D b N (fun z k2 => z = oI (gu u (rw_ 32 f15 j) 32) ∧ k2 = k)) 0 0 (zA b) := by
  refine z_met (own := R_R) (by decide) rfl rfl (Nat.le_of_ble_eq_true rfl) [some (.ref (b + 255)), some (.int (nI j)), none, none] rfl ?_
  intro p e s m args below meth c X hin
  have ⟨ho, r0, r1, r2, r3, r4, r5, r6, r7, r8, r9, r10, r11, r12, r13, r14, r15, r16, r17⟩ := hR
  have hfr : ∀ q, q < b + 255 → k q = k q := fun _ _ => rfl
  refine z_iconst X d_R_greatestUnused_0 (v := -1) (by decide +kernel) ?_
  refine z_istore_n X d_R_greatestUnused_1 (by decide) rfl ?_
  refine z_lv (lv2 := [some (.ref (b + 255)), some (.int (nI j)), some (.int (-1)), none]) (fun _ _ q => q) ?_
  refine z_iconst X d_R_greatestUnused_2 (v := nI 0) (by decide +kernel) ?_
  refine z_istore_n X d_R_greatestUnused_3 (by decide) rfl ?_
  refine z_lv (lv2 := [some (.ref (b + 255)), some (.int (nI j)), some (.int (-1)), some (.int (nI 0))]) (fun _ _ q => q) ?_
  refine z_loop (σ := Unit) (K := fun _ _ => k) (LV := fun v _ => [some (.ref (b + 255)), some (.int (nI j)), some (.int (oI (gu u (rw_ 32 f15 j) v))), some (.int (nI v))]) (I := fun _ _ => True) 32 0 () (by omega) (trivial) (rfl) (rfl) ?_ ?_
  · intro s1 _
    refine z_lv (lv2 := [some (.ref (b + 255)), some (.int (nI j)), some (.int (oI (gu u (rw_ 32 f15 j) 32))), some (.int (nI 32))]) (fun _ _ q => q) ?_
    refine z_iload_n X d_R_greatestUnused_4 rfl ?_
    refine z_bipush X d_R_greatestUnused_5 (v := nI 32) (by decide +kernel) ?_
    refine z_icmp_geN X d_R_greatestUnused_7 (tgt := 56) (by decide) (by omega) (by omega) (fun _ => ?_) (fun h => absurd h (by omega))
    refine z_iload_n X d_R_greatestUnused_56 rfl ?_
    exact z_iret X d_R_greatestUnused_57 (by omega) (by omega) (⟨rfl, rfl⟩)
  · intro v s1 hv _ ih
    refine z_lv (lv2 := [some (.ref (b + 255)), some (.int (nI j)), some (.int (oI (gu u (rw_ 32 f15 j) v))), some (.int (nI v))]) (fun _ _ q => q) ?_
    refine z_iload_n X d_R_greatestUnused_4 rfl ?_
    refine z_bipush X d_R_greatestUnused_5 (v := nI 32) (by decide +kernel) ?_
    refine z_icmp_geN X d_R_greatestUnused_7 (tgt := 56) (by decide) (by omega) (by omega) (fun h => absurd h (by omega)) (fun _ => ?_)
    refine z_aload_n X d_R_greatestUnused_10 rfl ?_
    refine z_get X ho rfl in_R 21 (by decide) (wq lf_R_66) rfl d_R_greatestUnused_11 ?_
    refine z_iload_n X d_R_greatestUnused_14 rfl ?_
    refine z_zald X r17 1 rfl (j := v) rfl (by omega) (by omega) d_R_greatestUnused_15 ?_
    refine z_top (y := .int (nI (cb (u v)))) (by rw [hu v hv]) ?_
    cases huv : u v
    · skip
      refine z_if_neN X d_R_greatestUnused_16 (tgt := 50) (by decide) (by decide) (fun h => absurd h (by decide)) (fun _ => ?_)
      cases hg : gu u (rw_ 32 f15 j) v with
      | none =>
        refine z_lv (lv2 := [some (.ref (b + 255)), some (.int (nI j)), some (.int (-1)), some (.int (nI v))]) (fun _ _ q => q) ?_
        refine z_iload_n X d_R_greatestUnused_19 rfl ?_
        refine z_if_lt X d_R_greatestUnused_20 (tgt := 48) (by decide) (fun _ => ?_) (fun h => absurd h (by decide))
        refine z_iload_n X d_R_greatestUnused_48 rfl ?_
        refine z_istore_n X d_R_greatestUnused_49 (by decide) rfl ?_
        refine z_lv (lv2 := [some (.ref (b + 255)), some (.int (nI j)), some (.int (nI v)), some (.int (nI v))]) (fun _ _ q => q) ?_
        refine z_iincU X d_R_greatestUnused_50 rfl (by decide) rfl ?_
        refine z_lv (lv2 := [some (.ref (b + 255)), some (.int (nI j)), some (.int (nI v)), some (.int (nI (v + 1)))]) (fun _ _ q => q) ?_
        refine z_goto X d_R_greatestUnused_53 (tgt := 4) (by decide) ?_
        exact z_at (ih () trivial) rfl (by simp [gu, hg, huv, oI])
      | some x =>
        obtain ⟨hx, -, -⟩ := (gu_spec u (rw_ 32 f15 j) v).2 x hg
        refine z_lv (lv2 := [some (.ref (b + 255)), some (.int (nI j)), some (.int (nI x)), some (.int (nI v))]) (fun _ _ q => q) ?_
        refine z_iload_n X d_R_greatestUnused_19 rfl ?_
        refine z_if_ltN X d_R_greatestUnused_20 (tgt := 48) (by decide) (by omega) (fun h => absurd h (by omega)) (fun _ => ?_)
        refine z_aload_n X d_R_greatestUnused_23 rfl ?_
        refine z_get X ho rfl in_R 19 (by decide) (wq lf_R_60) rfl d_R_greatestUnused_24 ?_
        refine z_bipush X d_R_greatestUnused_27 (v := nI 32) (by decide +kernel) ?_
        refine z_iload_n X d_R_greatestUnused_29 rfl ?_
        refine z_imulN X d_R_greatestUnused_30 ?_
        refine z_iload_n X d_R_greatestUnused_31 rfl ?_
        refine z_iaddN X d_R_greatestUnused_32 ?_
        refine z_iald X r15 0 rfl (j := (32 * j) + v) rfl (by omega) (by omega) d_R_greatestUnused_33 ?_
        refine z_top (y := .int (rw_ 32 f15 j v)) (by rw [rw_in hv]) ?_
        refine z_aload_n X d_R_greatestUnused_34 rfl ?_
        refine z_get X ho rfl in_R 19 (by decide) (wq lf_R_60) rfl d_R_greatestUnused_35 ?_
        refine z_bipush X d_R_greatestUnused_38 (v := nI 32) (by decide +kernel) ?_
        refine z_iload_n X d_R_greatestUnused_40 rfl ?_
        refine z_imulN X d_R_greatestUnused_41 ?_
        refine z_iload_n X d_R_greatestUnused_42 rfl ?_
        refine z_iaddN X d_R_greatestUnused_43 ?_
        refine z_iald X r15 0 rfl (j := (32 * j) + x) rfl (by omega) (by omega) d_R_greatestUnused_44 ?_
        refine z_top (y := .int (rw_ 32 f15 j x)) (by rw [rw_in (by omega)]) ?_
        refine z_icmp_le X d_R_greatestUnused_45 (tgt := 50) (by decide) (fun hB => ?_) (fun hB => ?_)
        · have hB2 : ¬ rw_ 32 f15 j x < rw_ 32 f15 j v := fun q => i32_lt_n q hB
          refine z_iincU X d_R_greatestUnused_50 rfl (by decide) rfl ?_
          refine z_lv (lv2 := [some (.ref (b + 255)), some (.int (nI j)), some (.int (nI x)), some (.int (nI (v + 1)))]) (fun _ _ q => q) ?_
          refine z_goto X d_R_greatestUnused_53 (tgt := 4) (by decide) ?_
          exact z_at (ih () trivial) rfl (by simp [gu, hg, huv, oI, hB2])
        · have hB2 : rw_ 32 f15 j x < rw_ 32 f15 j v := Int32.not_le.mp hB
          refine z_iload_n X d_R_greatestUnused_48 rfl ?_
          refine z_istore_n X d_R_greatestUnused_49 (by decide) rfl ?_
          refine z_lv (lv2 := [some (.ref (b + 255)), some (.int (nI j)), some (.int (nI v)), some (.int (nI v))]) (fun _ _ q => q) ?_
          refine z_iincU X d_R_greatestUnused_50 rfl (by decide) rfl ?_
          refine z_lv (lv2 := [some (.ref (b + 255)), some (.int (nI j)), some (.int (nI v)), some (.int (nI (v + 1)))]) (fun _ _ q => q) ?_
          refine z_goto X d_R_greatestUnused_53 (tgt := 4) (by decide) ?_
          exact z_at (ih () trivial) rfl (by simp [gu, hg, huv, oI, hB2])
    · skip
      refine z_if_neN X d_R_greatestUnused_16 (tgt := 50) (by decide) (by decide) (fun _ => ?_) (fun h => absurd h (by decide))
      refine z_iincU X d_R_greatestUnused_50 rfl (by decide) rfl ?_
      refine z_lv (lv2 := [some (.ref (b + 255)), some (.int (nI j)), some (.int (oI (gu u (rw_ 32 f15 j) v))), some (.int (nI (v + 1)))]) (fun _ _ q => q) ?_
      refine z_goto X d_R_greatestUnused_53 (tgt := 4) (by decide) ?_
      exact z_at (ih () trivial) rfl (by cases hg : gu u (rw_ 32 f15 j) v <;> simp [gu, hg, huv, oI])
end
