/-! Contracts of the reference, 6: its changes -/
theorem upd_self {f : Nat → Int32} {j : Nat} {x : Int32} (h : f j = x) : upd f j x = f := by
  funext q
  by_cases hq : q = j
  · subst hq; rw [upd_eq, h]
  · rw [upd_ne hq]
theorem upd_upd {f : Nat → Int32} {j : Nat} {x y : Int32} : upd (upd f j x) j y = upd f j y := by
  funext q
  by_cases hq : q = j
  · subst hq; rw [upd_eq, upd_eq]
  · rw [upd_ne hq, upd_ne hq, upd_ne hq]
def fk7 (f0 f7 : Nat → Int32) (x : Int32) : Nat → Nat → Int32
  | 0 => f7
  | c + 1 => upd (fk7 f0 f7 x c) (c + 1) (if f0 (c + 1) = x then 0 else fk7 f0 f7 x c (c + 1))
theorem zn_b {y : Int32} (h : y = 0 ∨ y = 1) : vp_nar .boolean y = y := by rcases h with rfl | rfl <;> decide +kernel
section
variable {l : Launch} {D : va_G} {tI tZ tN tM : ClassId} {b N : Nat} {k : Nat → va_E}
set_option maxHeartbeats 4000000 in
set_option maxRecDepth 100000 in
/-- R_writeBlock -/
theorem c_R_writeBlock {kk nc : Nat} {dv ms : Int32} {f0 f1 f2 f3 f4 f5 f6 f7 f8 f9 f10 f11 f12 f13 f14 f15 f16 f17 : Nat → Int32} {j wr od : Nat} (hR : RW tI tZ b N k kk dv nc ms f0 f1 f2 f3 f4 f5 f6 f7 f8 f9 f10 f11 f12 f13 f14 f15 f16 f17) (hj : j < 12) (hwr : f4 j = nI wr) (hod : f6 j = nI od) (ho4 : od ≤ 4) (hw48 : wr + od ≤ 48)  : Met l y_R_writeBlock (wy y_R_writeBlock b_R_writeBlock 3 none) (rm 0 0 0) (zPc D (tyl tI tZ tN tM) b N k [.ref (b + 255), .int (nI j)]) (zQv D b N (fun k2 => RW tI tZ b N k2 kk dv nc ms f0 f1 f2 (pr (48 * j + wr) od (fun i => f5 (4 * j + i)) f3) (upd f4 j (nI (wr + od))) f5 (upd f6 j 0) f7 f8 f9 f10 f11 f12 f13 f14 f15 f16 f17 ∧ ∀ q, q < b + 255 → k2 q = k q)) 0 0 (zA b) := by
  refine z_met (own := R_R) (by decide) rfl rfl (Nat.le_of_ble_eq_true rfl) [some (.ref (b + 255)), some (.int (nI j)), none] rfl ?_
  intro p e s m args below meth c X hin
  have ⟨ho, r0, r1, r2, r3, r4, r5, r6, r7, r8, r9, r10, r11, r12, r13, r14, r15, r16, r17⟩ := hR
  have hfr : ∀ q, q < b + 255 → k q = k q := fun _ _ => rfl
  refine z_iconst X d_R_writeBlock_0 (v := nI 0) (by decide +kernel) ?_
  refine z_istore_n X d_R_writeBlock_1 (by decide) rfl ?_
  refine z_lv (lv2 := [some (.ref (b + 255)), some (.int (nI j)), some (.int (nI 0))]) (fun _ _ q => q) ?_
  refine z_loop (σ := Nat → va_E) (K := fun _ k9 => k9) (LV := fun v _ => [some (.ref (b + 255)), some (.int (nI j)), some (.int (nI v))]) (I := fun v k9 => (RW tI tZ b N k9 kk dv nc ms f0 f1 f2 (pr (48 * j + wr) v (fun i => f5 (4 * j + i)) f3) (upd f4 j (nI (wr + v))) f5 f6 f7 f8 f9 f10 f11 f12 f13 f14 f15 f16 f17) ∧ (∀ q, q < b + 255 → k9 q = k q)) od 0 k (by omega) (⟨by rw [pr_0, Nat.add_zero, upd_self hwr]; exact hR, hfr⟩) (rfl) (rfl) ?_ ?_
  · intro k9 hI
    obtain ⟨hR, hfr⟩ := hI
    have ⟨ho, r0, r1, r2, r3, r4, r5, r6, r7, r8, r9, r10, r11, r12, r13, r14, r15, r16, r17⟩ := hR
    refine z_lv (lv2 := [some (.ref (b + 255)), some (.int (nI j)), some (.int (nI od))]) (fun _ _ q => q) ?_
    refine z_iload_n X d_R_writeBlock_2 rfl ?_
    refine z_aload_n X d_R_writeBlock_3 rfl ?_
    refine z_get X ho rfl in_R 9 (by decide) (wq lf_R_33) rfl d_R_writeBlock_4 ?_
    refine z_iload_n X d_R_writeBlock_7 rfl ?_
    refine z_iald X r6 0 rfl (j := j) rfl (by omega) (by omega) d_R_writeBlock_8 ?_
    refine z_top (y := .int (nI od)) (by rw [hod]) ?_
    refine z_icmp_geN X d_R_writeBlock_9 (tgt := 54) (by decide) (by omega) (by omega) (fun _ => ?_) (fun h => absurd h (by omega))
    refine z_aload_n X d_R_writeBlock_54 rfl ?_
    refine z_get X ho rfl in_R 9 (by decide) (wq lf_R_33) rfl d_R_writeBlock_55 ?_
    refine z_iload_n X d_R_writeBlock_58 rfl ?_
    refine z_iconst X d_R_writeBlock_59 (v := nI 0) (by decide +kernel) ?_
    refine z_iast X r6 0 rfl (j := j) rfl (by omega) (by omega) d_R_writeBlock_60 ?_
    refine z_named (fun k_1 hk9 => ?_)
    have hR := hR.st6 hk9
    rw [show (upd f6 j (nI 0)) = upd f6 j 0 from by rw [nI_0]] at hR
    have hfr : ∀ q, q < b + 255 → k_1 q = k q := fun q hq => by rw [hk9]; exact (up_ne (by omega)).trans (hfr q hq)
    clear hk9
    have ⟨ho, r0, r1, r2, r3, r4, r5, r6, r7, r8, r9, r10, r11, r12, r13, r14, r15, r16, r17⟩ := hR
    exact z_vret X d_R_writeBlock_61 (by omega) (by omega) (⟨hR, hfr⟩)
  · intro v k9 hv hI ih
    obtain ⟨hR, hfr⟩ := hI
    have ⟨ho, r0, r1, r2, r3, r4, r5, r6, r7, r8, r9, r10, r11, r12, r13, r14, r15, r16, r17⟩ := hR
    refine z_lv (lv2 := [some (.ref (b + 255)), some (.int (nI j)), some (.int (nI v))]) (fun _ _ q => q) ?_
    refine z_iload_n X d_R_writeBlock_2 rfl ?_
    refine z_aload_n X d_R_writeBlock_3 rfl ?_
    refine z_get X ho rfl in_R 9 (by decide) (wq lf_R_33) rfl d_R_writeBlock_4 ?_
    refine z_iload_n X d_R_writeBlock_7 rfl ?_
    refine z_iald X r6 0 rfl (j := j) rfl (by omega) (by omega) d_R_writeBlock_8 ?_
    refine z_top (y := .int (nI od)) (by rw [hod]) ?_
    refine z_icmp_geN X d_R_writeBlock_9 (tgt := 54) (by decide) (by omega) (by omega) (fun h => absurd h (by omega)) (fun _ => ?_)
    refine z_aload_n X d_R_writeBlock_12 rfl ?_
    refine z_get X ho rfl in_R 6 (by decide) (wq lf_R_24) rfl d_R_writeBlock_13 ?_
    refine z_bipush X d_R_writeBlock_16 (v := nI 48) (by decide +kernel) ?_
    refine z_iload_n X d_R_writeBlock_18 rfl ?_
    refine z_imulN X d_R_writeBlock_19 ?_
    refine z_aload_n X d_R_writeBlock_20 rfl ?_
    refine z_get X ho rfl in_R 7 (by decide) (wq lf_R_27) rfl d_R_writeBlock_21 ?_
    refine z_iload_n X d_R_writeBlock_24 rfl ?_
    refine z_iald X r4 0 rfl (j := j) rfl (by omega) (by omega) d_R_writeBlock_25 ?_
    refine z_top (y := .int (nI (wr + v))) (by rw [upd_eq]) ?_
    refine z_iaddN X d_R_writeBlock_26 ?_
    refine z_aload_n X d_R_writeBlock_27 rfl ?_
    refine z_get X ho rfl in_R 8 (by decide) (wq lf_R_30) rfl d_R_writeBlock_28 ?_
    refine z_iconst X d_R_writeBlock_31 (v := nI 4) (by decide +kernel) ?_
    refine z_iload_n X d_R_writeBlock_32 rfl ?_
    refine z_imulN X d_R_writeBlock_33 ?_
    refine z_iload_n X d_R_writeBlock_34 rfl ?_
    refine z_iaddN X d_R_writeBlock_35 ?_
    refine z_iald X r5 0 rfl (j := (4 * j) + v) rfl (by omega) (by omega) d_R_writeBlock_36 ?_
    refine z_iast X r3 0 rfl (j := 48 * j + wr + v) (by rw [Nat.add_assoc]) (by omega) (by omega) d_R_writeBlock_37 ?_
    refine z_named (fun k_2 hk9 => ?_)
    have hR := hR.st3 hk9
    rw [show (upd (pr (48 * j + wr) v (fun i => f5 (4 * j + i)) f3) (48 * j + wr + v) (f5 ((4 * j) + v))) = pr (48 * j + wr) (v + 1) (fun i => f5 (4 * j + i)) f3 from pr_succ _ _ _ _ rfl] at hR
    have hfr : ∀ q, q < b + 255 → k_2 q = k q := fun q hq => by rw [hk9]; exact (up_ne (by omega)).trans (hfr q hq)
    clear hk9
    have ⟨ho, r0, r1, r2, r3, r4, r5, r6, r7, r8, r9, r10, r11, r12, r13, r14, r15, r16, r17⟩ := hR
    refine z_aload_n X d_R_writeBlock_38 rfl ?_
    refine z_get X ho rfl in_R 7 (by decide) (wq lf_R_27) rfl d_R_writeBlock_39 ?_
    refine z_iload_n X d_R_writeBlock_42 rfl ?_
    refine z_dup2 X d_R_writeBlock_43 rfl rfl ?_
    refine z_iald X r4 0 rfl (j := j) rfl (by omega) (by omega) d_R_writeBlock_44 ?_
    refine z_top (y := .int (nI (wr + v))) (by rw [upd_eq]) ?_
    refine z_iconst X d_R_writeBlock_45 (v := nI 1) (by decide +kernel) ?_
    refine z_iaddN X d_R_writeBlock_46 ?_
    refine z_iast X r4 0 rfl (j := j) rfl (by omega) (by omega) d_R_writeBlock_47 ?_
    refine z_named (fun k_3 hk9 => ?_)
    have hR := hR.st4 hk9
    rw [show (upd (upd f4 j (nI (wr + v))) j (nI ((wr + v) + 1))) = upd f4 j (nI (wr + (v + 1))) from by rw [upd_upd]; rfl] at hR
    have hfr : ∀ q, q < b + 255 → k_3 q = k q := fun q hq => by rw [hk9]; exact (up_ne (by omega)).trans (hfr q hq)
    clear hk9
    have ⟨ho, r0, r1, r2, r3, r4, r5, r6, r7, r8, r9, r10, r11, r12, r13, r14, r15, r16, r17⟩ := hR
    refine z_iincU X d_R_writeBlock_48 rfl (by decide) rfl ?_
    refine z_lv (lv2 := [some (.ref (b + 255)), some (.int (nI j)), some (.int (nI (v + 1)))]) (fun _ _ q => q) ?_
    refine z_goto X d_R_writeBlock_51 (tgt := 2) (by decide) ?_
    exact z_at (ih k_3 ⟨hR, hfr⟩) rfl rfl
set_option maxHeartbeats 4000000 in
set_option maxRecDepth 100000 in
/-- R_attach -/
theorem c_R_attach {kk nc : Nat} {dv ms : Int32} {f0 f1 f2 f3 f4 f5 f6 f7 f8 f9 f10 f11 f12 f13 f14 f15 f16 f17 : Nat → Int32} {x y : Int32} (hR : RW tI tZ b N k kk dv nc ms f0 f1 f2 f3 f4 f5 f6 f7 f8 f9 f10 f11 f12 f13 f14 f15 f16 f17) (hnc : nc ≤ 12) (hy : y = 0 ∨ y = 1)  : Met l y_R_attach (wy y_R_attach b_R_attach 3 (some .int)) (rm 1 0 0) (zPc D (tyl tI tZ tN tM) b N k [.ref (b + 255), .int x, .int y]) (zQi D b N (fun z k2 => (isn nc x = true ∧ f1 x.toNatClampNeg = 0 ∧ nc < 12 → z = nI nc ∧ (RW tI tZ b N k2 kk dv (nc + 1) ms (upd f0 nc x) (upd f1 nc y) f2 f3 f4 f5 f6 f7 f8 f9 f10 f11 f12 f13 f14 f15 f16 f17) ∧ ∀ q, q < b + 255 → k2 q = k q) ∧ (¬ (isn nc x = true ∧ f1 x.toNatClampNeg = 0 ∧ nc < 12) → z = -1 ∧ k2 = k))) 0 0 (zA b) := by
  refine z_met (own := R_R) (by decide) rfl rfl (Nat.le_of_ble_eq_true rfl) [some (.ref (b + 255)), some (.int x), some (.int y)] rfl ?_
  intro p e s m args below meth c X hin
  have ⟨ho, r0, r1, r2, r3, r4, r5, r6, r7, r8, r9, r10, r11, r12, r13, r14, r15, r16, r17⟩ := hR
  have hfr : ∀ q, q < b + 255 → k q = k q := fun _ _ => rfl
  refine z_aload_n X d_R_attach_0 rfl ?_
  refine z_iload_n X d_R_attach_1 rfl ?_
  refine z_callVi X (c_R_isNode hR) ho rfl (cwV 1 X.1.2.2.2.2 (gi_V lm_R_75 vi_R_isNode ve_R_isNode vn_R vc_R_isNode) rfl rfl rfl (by decide +kernel) ⟨Nat.le_of_ble_eq_true rfl, Nat.le_of_ble_eq_true rfl⟩) (As := [.int x]) (st := []) rfl rfl (Nat.le_of_ble_eq_true rfl) d_R_attach_2 ⟨Nat.le_of_ble_eq_true rfl, Nat.le_of_ble_eq_true rfl⟩ (fun z k2 hq => ?_)
  obtain ⟨rfl, hk9⟩ := hq
  have hk9 := hk9.symm
  subst hk9
  cases hx : isn nc x
  · skip
    refine z_if_eqN X d_R_attach_5 (tgt := 26) (by decide) (by decide) (fun _ => ?_) (fun h => absurd h (by decide))
    refine z_iconst X d_R_attach_26 (v := -1) (by decide +kernel) ?_
    exact z_iret X d_R_attach_27 (by omega) (by omega) (⟨fun q => absurd q (by simp), fun _ => ⟨rfl, rfl⟩⟩)
  · skip
    refine z_if_eqN X d_R_attach_5 (tgt := 26) (by decide) (by decide) (fun h => absurd h (by decide)) (fun _ => ?_)
    obtain ⟨j, hj, rfl⟩ := isn_t (by omega) hx
    refine z_lv (lv2 := [some (.ref (b + 255)), some (.int (nI j)), some (.int y)]) (fun _ _ q => q) ?_
    rw [nI_clamp (by omega)]
    refine z_aload_n X d_R_attach_8 rfl ?_
    refine z_get X ho rfl in_R 4 (by decide) (wq lf_R_17) rfl d_R_attach_9 ?_
    refine z_iload_n X d_R_attach_12 rfl ?_
    refine z_zald X r1 1 rfl (j := j) rfl (by omega) (by omega) d_R_attach_13 ?_
    refine z_if_ne X d_R_attach_14 (tgt := 26) (by decide) (fun hB => ?_) (fun hB => ?_)
    · skip
      refine z_iconst X d_R_attach_26 (v := -1) (by decide +kernel) ?_
      exact z_iret X d_R_attach_27 (by omega) (by omega) (⟨fun q => absurd q (fun q => hB q.2.1), fun _ => ⟨rfl, rfl⟩⟩)
    · skip
      refine z_aload_n X d_R_attach_17 rfl ?_
      refine z_get X ho rfl in_R 2 (by decide) (wq lf_R_7) rfl d_R_attach_18 ?_
      refine z_bipush X d_R_attach_21 (v := nI 12) (by decide +kernel) ?_
      refine z_icmp_neN X d_R_attach_23 (tgt := 28) (by decide) (by omega) (by omega) (fun hD => ?_) (fun hD => ?_)
      · skip
        refine z_aload_n X d_R_attach_28 rfl ?_
        refine z_get X ho rfl in_R 3 (by decide) (wq lf_R_13) rfl d_R_attach_29 ?_
        refine z_aload_n X d_R_attach_32 rfl ?_
        refine z_get X ho rfl in_R 2 (by decide) (wq lf_R_7) rfl d_R_attach_33 ?_
        refine z_iload_n X d_R_attach_36 rfl ?_
        refine z_iast X r0 0 rfl (j := nc) rfl (by omega) (by omega) d_R_attach_37 ?_
        refine z_named (fun k_1 hk9 => ?_)
        have hR := hR.st0 hk9
        have hfr : ∀ q, q < b + 255 → k_1 q = k q := fun q hq => by rw [hk9]; exact (up_ne (by omega)).trans (hfr q hq)
        clear hk9
        have ⟨ho, r0, r1, r2, r3, r4, r5, r6, r7, r8, r9, r10, r11, r12, r13, r14, r15, r16, r17⟩ := hR
        refine z_aload_n X d_R_attach_38 rfl ?_
        refine z_get X ho rfl in_R 4 (by decide) (wq lf_R_17) rfl d_R_attach_39 ?_
        refine z_aload_n X d_R_attach_42 rfl ?_
        refine z_get X ho rfl in_R 2 (by decide) (wq lf_R_7) rfl d_R_attach_43 ?_
        refine z_iload_n X d_R_attach_46 rfl ?_
        refine z_zast X r1 1 rfl (j := nc) rfl (by omega) (by omega) d_R_attach_47 ?_
        refine z_named (fun k_2 hk9 => ?_)
        have hR := hR.st1 hk9
        rw [show (upd f1 nc (vp_nar .boolean y)) = upd f1 nc y from by rw [zn_b hy]] at hR
        have hfr : ∀ q, q < b + 255 → k_2 q = k q := fun q hq => by rw [hk9]; exact (up_ne (by omega)).trans (hfr q hq)
        clear hk9
        have ⟨ho, r0, r1, r2, r3, r4, r5, r6, r7, r8, r9, r10, r11, r12, r13, r14, r15, r16, r17⟩ := hR
        refine z_aload_n X d_R_attach_48 rfl ?_
        refine z_dup X d_R_attach_49 rfl ?_
        refine z_get X ho rfl in_R 2 (by decide) (wq lf_R_7) rfl d_R_attach_50 ?_
        refine z_iconst X d_R_attach_53 (v := nI 1) (by decide +kernel) ?_
        refine z_iaddN X d_R_attach_54 ?_
        refine z_put X ho rfl in_R ty_R_ok n_R 2 (by decide) (wq lf_R_7) rfl rfl rfl (Nat.le_of_ble_eq_true rfl) d_R_attach_55 ?_
        refine z_named (fun k_3 hk9 => ?_)
        have hR := hR.obj hk9
        have hfr : ∀ q, q < b + 255 → k_3 q = k q := fun q hq => by rw [hk9]; exact (up_ne (by omega)).trans (hfr q hq)
        clear hk9
        have ⟨ho, r0, r1, r2, r3, r4, r5, r6, r7, r8, r9, r10, r11, r12, r13, r14, r15, r16, r17⟩ := hR
        refine z_aload_n X d_R_attach_58 rfl ?_
        refine z_get X ho rfl in_R 2 (by decide) (wq lf_R_7) rfl d_R_attach_59 ?_
        refine z_iconst X d_R_attach_62 (v := nI 1) (by decide +kernel) ?_
        refine z_isubN X d_R_attach_63 (by omega) ?_
        exact z_iret X d_R_attach_64 (by omega) (by omega) (⟨fun _ => ⟨rfl, hR, hfr⟩, fun q => absurd ⟨rfl, hB, by omega⟩ q⟩)
      · skip
        refine z_iconst X d_R_attach_26 (v := -1) (by decide +kernel) ?_
        exact z_iret X d_R_attach_27 (by omega) (by omega) (⟨fun q => absurd q (by omega), fun _ => ⟨rfl, rfl⟩⟩)
set_option maxHeartbeats 4000000 in
set_option maxRecDepth 100000 in
/-- R_add -/
theorem c_R_add {kk nc : Nat} {dv ms : Int32} {f0 f1 f2 f3 f4 f5 f6 f7 f8 f9 f10 f11 f12 f13 f14 f15 f16 f17 : Nat → Int32} {x y : Int32} {wr od : Nat → Nat} (hR : RW tI tZ b N k kk dv nc ms f0 f1 f2 f3 f4 f5 f6 f7 f8 f9 f10 f11 f12 f13 f14 f15 f16 f17) (hnc : nc ≤ 12) (hwr : ∀ j, j < 12 → f4 j = nI (wr j)) (hod : ∀ j, j < 12 → f6 j = nI (od j) ∧ od j < 4 ∧ wr j + od j ≤ 48)  : Met l y_R_add (wy y_R_add b_R_add 3 (some .boolean)) (rm 2 0 0) (zPc D (tyl tI tZ tN tM) b N k [.ref (b + 255), .int x, .int y]) (zQi D b N (fun z k2 => (isl nc f1 x = true ∧ isn 32 y = true ∧ wr x.toNatClampNeg + od x.toNatClampNeg < 48 → z = 1 ∧ (od x.toNatClampNeg = 3 → RW tI tZ b N k2 kk dv nc ms f0 f1 f2 (pr (48 * x.toNatClampNeg + wr x.toNatClampNeg) 4 (fun i => (upd f5 (4 * x.toNatClampNeg + od x.toNatClampNeg) y) (4 * x.toNatClampNeg + i)) f3) (upd f4 x.toNatClampNeg (nI (wr x.toNatClampNeg + 4))) (upd f5 (4 * x.toNatClampNeg + od x.toNatClampNeg) y) (upd f6 x.toNatClampNeg 0) f7 f8 f9 f10 f11 f12 f13 f14 f15 f16 f17) ∧ (¬ od x.toNatClampNeg = 3 → RW tI tZ b N k2 kk dv nc ms f0 f1 f2 f3 f4 (upd f5 (4 * x.toNatClampNeg + od x.toNatClampNeg) y) (upd f6 x.toNatClampNeg (nI (od x.toNatClampNeg + 1))) f7 f8 f9 f10 f11 f12 f13 f14 f15 f16 f17) ∧ ∀ q, q < b + 255 → k2 q = k q) ∧ (¬ (isl nc f1 x = true ∧ isn 32 y = true ∧ wr x.toNatClampNeg + od x.toNatClampNeg < 48) → z = 0 ∧ k2 = k))) 0 0 (zA b) := by
  refine z_met (own := R_R) (by decide) rfl rfl (Nat.le_of_ble_eq_true rfl) [some (.ref (b + 255)), some (.int x), some (.int y)] rfl ?_
  intro p e s m args below meth c X hin
  have ⟨ho, r0, r1, r2, r3, r4, r5, r6, r7, r8, r9, r10, r11, r12, r13, r14, r15, r16, r17⟩ := hR
  have hfr : ∀ q, q < b + 255 → k q = k q := fun _ _ => rfl
  refine z_aload_n X d_R_add_0 rfl ?_
  refine z_iload_n X d_R_add_1 rfl ?_
  refine z_callVi X (c_R_leafNode hR hnc) ho rfl (cwV 1 X.1.2.2.2.2 (gi_V lm_R_79 vi_R_leafNode ve_R_leafNode vn_R vc_R_leafNode) rfl rfl rfl (by decide +kernel) ⟨Nat.le_of_ble_eq_true rfl, Nat.le_of_ble_eq_true rfl⟩) (As := [.int x]) (st := []) rfl rfl (Nat.le_of_ble_eq_true rfl) d_R_add_2 ⟨Nat.le_of_ble_eq_true rfl, Nat.le_of_ble_eq_true rfl⟩ (fun z k2 hq => ?_)
  obtain ⟨rfl, hk9⟩ := hq
  have hk9 := hk9.symm
  subst hk9
  cases hx : isl nc f1 x
  · skip
    refine z_if_eqN X d_R_add_5 (tgt := 36) (by decide) (by decide) (fun _ => ?_) (fun h => absurd h (by decide))
    refine z_iconst X d_R_add_36 (v := nI 0) (by decide +kernel) ?_
    exact z_zret X d_R_add_37 (by decide) (by omega) (by omega) (⟨fun q => absurd q (by simp), fun _ => ⟨rfl, rfl⟩⟩)
  · skip
    refine z_if_eqN X d_R_add_5 (tgt := 36) (by decide) (by decide) (fun h => absurd h (by decide)) (fun _ => ?_)
    have hy2 : isn nc x = true := by cases hz : isn nc x with | true => rfl | false => rw [isl, hz] at hx; simp at hx
    obtain ⟨j, hj, rfl⟩ := isn_t (by omega) hy2
    refine z_lv (lv2 := [some (.ref (b + 255)), some (.int (nI j)), some (.int y)]) (fun _ _ q => q) ?_
    rw [nI_clamp (n := j) (by omega)]
    obtain ⟨o1, o2, o3⟩ := hod j (by omega)
    have w1 := hwr j (by omega)
    refine z_iload_n X d_R_add_8 rfl ?_
    refine z_if_lt X d_R_add_9 (tgt := 36) (by decide) (fun hA => ?_) (fun hA => ?_)
    · skip
      refine z_iconst X d_R_add_36 (v := nI 0) (by decide +kernel) ?_
      exact z_zret X d_R_add_37 (by decide) (by omega) (by omega) (⟨fun q => absurd q (fun q => by have := q.2.1; rw [isn_neg hA] at this; cases this), fun _ => ⟨rfl, rfl⟩⟩)
    · skip
      refine z_iload_n X d_R_add_12 rfl ?_
      refine z_bipush X d_R_add_13 (v := nI 31) (by decide +kernel) ?_
      rcases pk_ix y (n := 32) (by omega) with hbig | hbig | ⟨v, hv, rfl⟩
      · exact absurd hbig hA
      · skip
        refine z_icmp_gt X d_R_add_15 (tgt := 36) (by decide) (fun _ => ?_) (fun h => absurd h (fun q2 => q2 (Int32.not_le.mp (le_big (by omega) hbig))))
        refine z_iconst X d_R_add_36 (v := nI 0) (by decide +kernel) ?_
        exact z_zret X d_R_add_37 (by decide) (by omega) (by omega) (⟨fun q => absurd q (fun z => by have := z.2.1; rw [isn_big hbig] at this; cases this), fun _ => ⟨rfl, rfl⟩⟩)
      · skip
        refine z_icmp_gtN X d_R_add_15 (tgt := 36) (by decide) (by omega) (by omega) (fun h => absurd h (by omega)) (fun _ => ?_)
        refine z_lv (lv2 := [some (.ref (b + 255)), some (.int (nI j)), some (.int (nI v))]) (fun _ _ q => q) ?_
        refine z_aload_n X d_R_add_18 rfl ?_
        refine z_get X ho rfl in_R 7 (by decide) (wq lf_R_27) rfl d_R_add_19 ?_
        refine z_iload_n X d_R_add_22 rfl ?_
        refine z_iald X r4 0 rfl (j := j) rfl (by omega) (by omega) d_R_add_23 ?_
        refine z_top (y := .int (nI (wr j))) (by rw [w1]) ?_
        refine z_aload_n X d_R_add_24 rfl ?_
        refine z_get X ho rfl in_R 9 (by decide) (wq lf_R_33) rfl d_R_add_25 ?_
        refine z_iload_n X d_R_add_28 rfl ?_
        refine z_iald X r6 0 rfl (j := j) rfl (by omega) (by omega) d_R_add_29 ?_
        refine z_top (y := .int (nI (od j))) (by rw [o1]) ?_
        refine z_iaddN X d_R_add_30 ?_
        refine z_bipush X d_R_add_31 (v := nI 48) (by decide +kernel) ?_
        refine z_icmp_ltN X d_R_add_33 (tgt := 38) (by decide) (by omega) (by omega) (fun hD => ?_) (fun hD => ?_)
        · skip
          refine z_aload_n X d_R_add_38 rfl ?_
          refine z_get X ho rfl in_R 8 (by decide) (wq lf_R_30) rfl d_R_add_39 ?_
          refine z_iconst X d_R_add_42 (v := nI 4) (by decide +kernel) ?_
          refine z_iload_n X d_R_add_43 rfl ?_
          refine z_imulN X d_R_add_44 ?_
          refine z_aload_n X d_R_add_45 rfl ?_
          refine z_get X ho rfl in_R 9 (by decide) (wq lf_R_33) rfl d_R_add_46 ?_
          refine z_iload_n X d_R_add_49 rfl ?_
          refine z_iald X r6 0 rfl (j := j) rfl (by omega) (by omega) d_R_add_50 ?_
          refine z_top (y := .int (nI (od j))) (by rw [o1]) ?_
          refine z_iaddN X d_R_add_51 ?_
          refine z_iload_n X d_R_add_52 rfl ?_
          refine z_iast X r5 0 rfl (j := (4 * j) + (od j)) rfl (by omega) (by omega) d_R_add_53 ?_
          refine z_named (fun k_1 hk9 => ?_)
          have hR := hR.st5 hk9
          have hfr : ∀ q, q < b + 255 → k_1 q = k q := fun q hq => by rw [hk9]; exact (up_ne (by omega)).trans (hfr q hq)
          clear hk9
          have ⟨ho, r0, r1, r2, r3, r4, r5, r6, r7, r8, r9, r10, r11, r12, r13, r14, r15, r16, r17⟩ := hR
          refine z_aload_n X d_R_add_54 rfl ?_
          refine z_get X ho rfl in_R 9 (by decide) (wq lf_R_33) rfl d_R_add_55 ?_
          refine z_iload_n X d_R_add_58 rfl ?_
          refine z_dup2 X d_R_add_59 rfl rfl ?_
          refine z_iald X r6 0 rfl (j := j) rfl (by omega) (by omega) d_R_add_60 ?_
          refine z_top (y := .int (nI (od j))) (by rw [o1]) ?_
          refine z_iconst X d_R_add_61 (v := nI 1) (by decide +kernel) ?_
          refine z_iaddN X d_R_add_62 ?_
          refine z_iast X r6 0 rfl (j := j) rfl (by omega) (by omega) d_R_add_63 ?_
          refine z_named (fun k_2 hk9 => ?_)
          have hR := hR.st6 hk9
          have hfr : ∀ q, q < b + 255 → k_2 q = k q := fun q hq => by rw [hk9]; exact (up_ne (by omega)).trans (hfr q hq)
          clear hk9
          have ⟨ho, r0, r1, r2, r3, r4, r5, r6, r7, r8, r9, r10, r11, r12, r13, r14, r15, r16, r17⟩ := hR
          refine z_aload_n X d_R_add_64 rfl ?_
          refine z_get X ho rfl in_R 9 (by decide) (wq lf_R_33) rfl d_R_add_65 ?_
          refine z_iload_n X d_R_add_68 rfl ?_
          refine z_iald X r6 0 rfl (j := j) rfl (by omega) (by omega) d_R_add_69 ?_
          refine z_top (y := .int (nI (od j + 1))) (by rw [upd_eq]) ?_
          refine z_iconst X d_R_add_70 (v := nI 4) (by decide +kernel) ?_
          refine z_icmp_neN X d_R_add_71 (tgt := 79) (by decide) (by omega) (by omega) (fun hE => ?_) (fun hE => ?_)
          · skip
            refine z_iconst X d_R_add_79 (v := nI 1) (by decide +kernel) ?_
            exact z_zret X d_R_add_80 (by decide) (by omega) (by omega) (⟨fun _ => ⟨rfl, fun q => absurd q (by omega), fun _ => hR, hfr⟩, fun q => absurd ⟨rfl, isn_n (nc := 32) (by omega) hv, hD⟩ q⟩)
          · skip
            refine z_aload_n X d_R_add_74 rfl ?_
            refine z_iload_n X d_R_add_75 rfl ?_
            refine z_callVv X (c_R_writeBlock hR (wr := wr j) (od := 4) (by omega) w1 (by rw [upd_eq, show od j = 3 by omega]) (by omega) (by omega)) ho rfl (cwV 1 X.1.2.2.2.2 (gi_V lm_R_82 vi_R_writeBlock ve_R_writeBlock vn_R vc_R_writeBlock) rfl rfl rfl (by decide +kernel) ⟨Nat.le_of_ble_eq_true rfl, Nat.le_of_ble_eq_true rfl⟩) (As := [.int (nI j)]) (st := []) rfl rfl (Nat.le_of_ble_eq_true rfl) d_R_add_76 ⟨Nat.le_of_ble_eq_true rfl, Nat.le_of_ble_eq_true rfl⟩ (fun k2 hq => ?_)
            obtain ⟨hR9, hf9⟩ := hq
            rw [upd_upd] at hR9
            refine z_iconst X d_R_add_79 (v := nI 1) (by decide +kernel) ?_
            exact z_zret X d_R_add_80 (by decide) (by omega) (by omega) (⟨fun _ => ⟨rfl, fun _ => hR9, fun q => absurd (by omega) q, fun q hq => (hf9 q hq).trans (hfr q hq)⟩, fun q => absurd ⟨rfl, isn_n (nc := 32) (by omega) hv, hD⟩ q⟩)
        · skip
          refine z_iconst X d_R_add_36 (v := nI 0) (by decide +kernel) ?_
          exact z_zret X d_R_add_37 (by decide) (by omega) (by omega) (⟨fun q => absurd q (by omega), fun _ => ⟨rfl, rfl⟩⟩)
set_option maxHeartbeats 4000000 in
set_option maxRecDepth 100000 in
/-- R_flush -/
theorem c_R_flush {kk nc : Nat} {dv ms : Int32} {f0 f1 f2 f3 f4 f5 f6 f7 f8 f9 f10 f11 f12 f13 f14 f15 f16 f17 : Nat → Int32} {x : Int32} {wr od : Nat → Nat} (hR : RW tI tZ b N k kk dv nc ms f0 f1 f2 f3 f4 f5 f6 f7 f8 f9 f10 f11 f12 f13 f14 f15 f16 f17) (hnc : nc ≤ 12) (hwr : ∀ j, j < 12 → f4 j = nI (wr j)) (hod : ∀ j, j < 12 → f6 j = nI (od j) ∧ od j < 4 ∧ wr j + od j ≤ 48)  : Met l y_R_flush (wy y_R_flush b_R_flush 3 (some .int)) (rm 2 0 0) (zPc D (tyl tI tZ tN tM) b N k [.ref (b + 255), .int x]) (zQi D b N (fun z k2 => (isl nc f1 x = true → z = nI (od x.toNatClampNeg) ∧ (RW tI tZ b N k2 kk dv nc ms f0 f1 f2 (pr (48 * x.toNatClampNeg + wr x.toNatClampNeg) (od x.toNatClampNeg) (fun i => f5 (4 * x.toNatClampNeg + i)) f3) (upd f4 x.toNatClampNeg (nI (wr x.toNatClampNeg + od x.toNatClampNeg))) f5 (upd f6 x.toNatClampNeg 0) f7 f8 f9 f10 f11 f12 f13 f14 f15 f16 f17) ∧ ∀ q, q < b + 255 → k2 q = k q) ∧ (¬ (isl nc f1 x = true) → z = -1 ∧ k2 = k))) 0 0 (zA b) := by
  refine z_met (own := R_R) (by decide) rfl rfl (Nat.le_of_ble_eq_true rfl) [some (.ref (b + 255)), some (.int x), none] rfl ?_
  intro p e s m args below meth c X hin
  have ⟨ho, r0, r1, r2, r3, r4, r5, r6, r7, r8, r9, r10, r11, r12, r13, r14, r15, r16, r17⟩ := hR
  have hfr : ∀ q, q < b + 255 → k q = k q := fun _ _ => rfl
  refine z_aload_n X d_R_flush_0 rfl ?_
  refine z_iload_n X d_R_flush_1 rfl ?_
  refine z_callVi X (c_R_leafNode hR hnc) ho rfl (cwV 1 X.1.2.2.2.2 (gi_V lm_R_79 vi_R_leafNode ve_R_leafNode vn_R vc_R_leafNode) rfl rfl rfl (by decide +kernel) ⟨Nat.le_of_ble_eq_true rfl, Nat.le_of_ble_eq_true rfl⟩) (As := [.int x]) (st := []) rfl rfl (Nat.le_of_ble_eq_true rfl) d_R_flush_2 ⟨Nat.le_of_ble_eq_true rfl, Nat.le_of_ble_eq_true rfl⟩ (fun z k2 hq => ?_)
  obtain ⟨rfl, hk9⟩ := hq
  have hk9 := hk9.symm
  subst hk9
  cases hx : isl nc f1 x
  · skip
    refine z_if_neN X d_R_flush_5 (tgt := 10) (by decide) (by decide) (fun h => absurd h (by decide)) (fun _ => ?_)
    refine z_iconst X d_R_flush_8 (v := -1) (by decide +kernel) ?_
    exact z_iret X d_R_flush_9 (by omega) (by omega) (⟨fun q => absurd q (by simp), fun _ => ⟨rfl, rfl⟩⟩)
  · skip
    refine z_if_neN X d_R_flush_5 (tgt := 10) (by decide) (by decide) (fun _ => ?_) (fun h => absurd h (by decide))
    have hy2 : isn nc x = true := by cases hz : isn nc x with | true => rfl | false => rw [isl, hz] at hx; simp at hx
    obtain ⟨j, hj, rfl⟩ := isn_t (by omega) hy2
    refine z_lv (lv2 := [some (.ref (b + 255)), some (.int (nI j)), none]) (fun _ _ q => q) ?_
    rw [nI_clamp (n := j) (by omega)]
    obtain ⟨o1, o2, o3⟩ := hod j (by omega)
    have w1 := hwr j (by omega)
    refine z_aload_n X d_R_flush_10 rfl ?_
    refine z_get X ho rfl in_R 9 (by decide) (wq lf_R_33) rfl d_R_flush_11 ?_
    refine z_iload_n X d_R_flush_14 rfl ?_
    refine z_iald X r6 0 rfl (j := j) rfl (by omega) (by omega) d_R_flush_15 ?_
    refine z_top (y := .int (nI (od j))) (by rw [o1]) ?_
    refine z_istore_n X d_R_flush_16 (by decide) rfl ?_
    refine z_lv (lv2 := [some (.ref (b + 255)), some (.int (nI j)), some (.int (nI (od j)))]) (fun _ _ q => q) ?_
    refine z_aload_n X d_R_flush_17 rfl ?_
    refine z_iload_n X d_R_flush_18 rfl ?_
    refine z_callVv X (c_R_writeBlock hR (wr := wr j) (od := od j) (by omega) w1 o1 (by omega) (by omega)) ho rfl (cwV 1 X.1.2.2.2.2 (gi_V lm_R_82 vi_R_writeBlock ve_R_writeBlock vn_R vc_R_writeBlock) rfl rfl rfl (by decide +kernel) ⟨Nat.le_of_ble_eq_true rfl, Nat.le_of_ble_eq_true rfl⟩) (As := [.int (nI j)]) (st := []) rfl rfl (Nat.le_of_ble_eq_true rfl) d_R_flush_19 ⟨Nat.le_of_ble_eq_true rfl, Nat.le_of_ble_eq_true rfl⟩ (fun k2 hq => ?_)
    obtain ⟨hR9, hf9⟩ := hq
    refine z_iload_n X d_R_flush_22 rfl ?_
    exact z_iret X d_R_flush_23 (by omega) (by omega) (⟨fun _ => ⟨rfl, hR9, fun q hq => (hf9 q hq).trans (hfr q hq)⟩, fun q => absurd rfl q⟩)
set_option maxHeartbeats 4000000 in
set_option maxRecDepth 100000 in
/-- R_crash -/
theorem c_R_crash {kk nc : Nat} {dv ms : Int32} {f0 f1 f2 f3 f4 f5 f6 f7 f8 f9 f10 f11 f12 f13 f14 f15 f16 f17 : Nat → Int32} {x : Int32} (hR : RW tI tZ b N k kk dv nc ms f0 f1 f2 f3 f4 f5 f6 f7 f8 f9 f10 f11 f12 f13 f14 f15 f16 f17) (hnc : nc ≤ 12)  : Met l y_R_crash (wy y_R_crash b_R_crash 3 (some .boolean)) (rm 1 0 0) (zPc D (tyl tI tZ tN tM) b N k [.ref (b + 255), .int x]) (zQi D b N (fun z k2 => (isn nc x = true → z = 1 ∧ (RW tI tZ b N k2 kk dv nc ms f0 f1 f2 f3 f4 f5 (upd f6 x.toNatClampNeg 0) (fk7 f0 f7 x (nc - 1)) f8 f9 f10 f11 f12 f13 f14 f15 f16 f17) ∧ ∀ q, q < b + 255 → k2 q = k q) ∧ (¬ (isn nc x = true) → z = 0 ∧ k2 = k))) 0 0 (zA b) := by
  refine z_met (own := R_R) (by decide) rfl rfl (Nat.le_of_ble_eq_true rfl) [some (.ref (b + 255)), some (.int x), none] rfl ?_
  intro p e s m args below meth c X hin
  have ⟨ho, r0, r1, r2, r3, r4, r5, r6, r7, r8, r9, r10, r11, r12, r13, r14, r15, r16, r17⟩ := hR
  have hfr : ∀ q, q < b + 255 → k q = k q := fun _ _ => rfl
  refine z_aload_n X d_R_crash_0 rfl ?_
  refine z_iload_n X d_R_crash_1 rfl ?_
  refine z_callVi X (c_R_isNode hR) ho rfl (cwV 1 X.1.2.2.2.2 (gi_V lm_R_75 vi_R_isNode ve_R_isNode vn_R vc_R_isNode) rfl rfl rfl (by decide +kernel) ⟨Nat.le_of_ble_eq_true rfl, Nat.le_of_ble_eq_true rfl⟩) (As := [.int x]) (st := []) rfl rfl (Nat.le_of_ble_eq_true rfl) d_R_crash_2 ⟨Nat.le_of_ble_eq_true rfl, Nat.le_of_ble_eq_true rfl⟩ (fun z k2 hq => ?_)
  obtain ⟨rfl, hk9⟩ := hq
  have hk9 := hk9.symm
  subst hk9
  cases hx : isn nc x
  · skip
    refine z_if_neN X d_R_crash_5 (tgt := 10) (by decide) (by decide) (fun h => absurd h (by decide)) (fun _ => ?_)
    refine z_iconst X d_R_crash_8 (v := nI 0) (by decide +kernel) ?_
    exact z_zret X d_R_crash_9 (by decide) (by omega) (by omega) (⟨fun q => absurd q (by simp), fun _ => ⟨rfl, rfl⟩⟩)
  · skip
    refine z_if_neN X d_R_crash_5 (tgt := 10) (by decide) (by decide) (fun _ => ?_) (fun h => absurd h (by decide))
    obtain ⟨j, hj, rfl⟩ := isn_t (by omega) hx
    refine z_lv (lv2 := [some (.ref (b + 255)), some (.int (nI j)), none]) (fun _ _ q => q) ?_
    rw [nI_clamp (by omega)]
    refine z_aload_n X d_R_crash_10 rfl ?_
    refine z_get X ho rfl in_R 9 (by decide) (wq lf_R_33) rfl d_R_crash_11 ?_
    refine z_iload_n X d_R_crash_14 rfl ?_
    refine z_iconst X d_R_crash_15 (v := nI 0) (by decide +kernel) ?_
    refine z_iast X r6 0 rfl (j := j) rfl (by omega) (by omega) d_R_crash_16 ?_
    refine z_named (fun k_1 hk9 => ?_)
    have hR := hR.st6 hk9
    rw [show (upd f6 j (nI 0)) = upd f6 j 0 from by rw [nI_0]] at hR
    have hfr : ∀ q, q < b + 255 → k_1 q = k q := fun q hq => by rw [hk9]; exact (up_ne (by omega)).trans (hfr q hq)
    clear hk9
    have ⟨ho, r0, r1, r2, r3, r4, r5, r6, r7, r8, r9, r10, r11, r12, r13, r14, r15, r16, r17⟩ := hR
    refine z_iconst X d_R_crash_17 (v := nI 1) (by decide +kernel) ?_
    refine z_istore_n X d_R_crash_18 (by decide) rfl ?_
    refine z_lv (lv2 := [some (.ref (b + 255)), some (.int (nI j)), some (.int (nI 1))]) (fun _ _ q => q) ?_
    refine z_loop (σ := Nat → va_E) (K := fun _ k9 => k9) (LV := fun v _ => [some (.ref (b + 255)), some (.int (nI j)), some (.int (nI (v + 1)))]) (I := fun v k9 => (RW tI tZ b N k9 kk dv nc ms f0 f1 f2 f3 f4 f5 (upd f6 j 0) (fk7 f0 f7 (nI j) v) f8 f9 f10 f11 f12 f13 f14 f15 f16 f17) ∧ (∀ q, q < b + 255 → k9 q = k q)) (nc - 1) 0 k_1 (by omega) (⟨hR, hfr⟩) (rfl) (rfl) ?_ ?_
    · intro k9 hI
      obtain ⟨hR, hfr⟩ := hI
      have ⟨ho, r0, r1, r2, r3, r4, r5, r6, r7, r8, r9, r10, r11, r12, r13, r14, r15, r16, r17⟩ := hR
      refine z_lv (lv2 := [some (.ref (b + 255)), some (.int (nI j)), some (.int (nI (nc - 1 + 1)))]) (fun _ _ q => q) ?_
      refine z_iload_n X d_R_crash_19 rfl ?_
      refine z_aload_n X d_R_crash_20 rfl ?_
      refine z_get X ho rfl in_R 2 (by decide) (wq lf_R_7) rfl d_R_crash_21 ?_
      refine z_icmp_geN X d_R_crash_24 (tgt := 59) (by decide) (by omega) (by omega) (fun _ => ?_) (fun h => absurd h (by omega))
      refine z_iconst X d_R_crash_59 (v := nI 1) (by decide +kernel) ?_
      exact z_zret X d_R_crash_60 (by decide) (by omega) (by omega) (⟨fun _ => ⟨rfl, hR, hfr⟩, fun q => absurd rfl q⟩)
    · intro v k9 hv hI ih
      obtain ⟨hR, hfr⟩ := hI
      have ⟨ho, r0, r1, r2, r3, r4, r5, r6, r7, r8, r9, r10, r11, r12, r13, r14, r15, r16, r17⟩ := hR
      refine z_lv (lv2 := [some (.ref (b + 255)), some (.int (nI j)), some (.int (nI (v + 1)))]) (fun _ _ q => q) ?_
      refine z_iload_n X d_R_crash_19 rfl ?_
      refine z_aload_n X d_R_crash_20 rfl ?_
      refine z_get X ho rfl in_R 2 (by decide) (wq lf_R_7) rfl d_R_crash_21 ?_
      refine z_icmp_geN X d_R_crash_24 (tgt := 59) (by decide) (by omega) (by omega) (fun h => absurd h (by omega)) (fun _ => ?_)
      refine z_aload_n X d_R_crash_27 rfl ?_
      refine z_get X ho rfl in_R 10 (by decide) (wq lf_R_36) rfl d_R_crash_28 ?_
      refine z_iload_n X d_R_crash_31 rfl ?_
      refine z_aload_n X d_R_crash_32 rfl ?_
      refine z_get X ho rfl in_R 3 (by decide) (wq lf_R_13) rfl d_R_crash_33 ?_
      refine z_iload_n X d_R_crash_36 rfl ?_
      refine z_iald X r0 0 rfl (j := v + 1) rfl (by omega) (by omega) d_R_crash_37 ?_
      refine z_iload_n X d_R_crash_38 rfl ?_
      refine z_icmp_ne X d_R_crash_39 (tgt := 46) (by decide) (fun hA => ?_) (fun hA => ?_)
      · skip
        refine z_aload_n X d_R_crash_46 rfl ?_
        refine z_get X ho rfl in_R 10 (by decide) (wq lf_R_36) rfl d_R_crash_47 ?_
        refine z_iload_n X d_R_crash_50 rfl ?_
        refine z_iald X r7 0 rfl (j := v + 1) rfl (by omega) (by omega) d_R_crash_51 ?_
        refine z_iast X r7 0 rfl (j := v + 1) rfl (by omega) (by omega) d_R_crash_52 ?_
        refine z_named (fun k_2 hk9 => ?_)
        have hR := hR.st7 hk9
        rw [show (upd (fk7 f0 f7 (nI j) v) (v + 1) ((fk7 f0 f7 (nI j) v) (v + 1))) = fk7 f0 f7 (nI j) (v + 1) from by simp only [fk7]; rw [if_neg hA]] at hR
        have hfr : ∀ q, q < b + 255 → k_2 q = k q := fun q hq => by rw [hk9]; exact (up_ne (by omega)).trans (hfr q hq)
        clear hk9
        have ⟨ho, r0, r1, r2, r3, r4, r5, r6, r7, r8, r9, r10, r11, r12, r13, r14, r15, r16, r17⟩ := hR
        refine z_iincU X d_R_crash_53 rfl (by decide) rfl ?_
        refine z_lv (lv2 := [some (.ref (b + 255)), some (.int (nI j)), some (.int (nI (v + 1 + 1)))]) (fun _ _ q => q) ?_
        refine z_goto X d_R_crash_56 (tgt := 19) (by decide) ?_
        exact z_at (ih k_2 ⟨hR, hfr⟩) rfl rfl
      · skip
        refine z_iconst X d_R_crash_42 (v := nI 0) (by decide +kernel) ?_
        refine z_goto X d_R_crash_43 (tgt := 52) (by decide) ?_
        refine z_iast X r7 0 rfl (j := v + 1) rfl (by omega) (by omega) d_R_crash_52 ?_
        refine z_named (fun k_3 hk9 => ?_)
        have hR := hR.st7 hk9
        rw [show (upd (fk7 f0 f7 (nI j) v) (v + 1) (nI 0)) = fk7 f0 f7 (nI j) (v + 1) from by simp only [fk7]; rw [if_pos hA, nI_0]] at hR
        have hfr : ∀ q, q < b + 255 → k_3 q = k q := fun q hq => by rw [hk9]; exact (up_ne (by omega)).trans (hfr q hq)
        clear hk9
        have ⟨ho, r0, r1, r2, r3, r4, r5, r6, r7, r8, r9, r10, r11, r12, r13, r14, r15, r16, r17⟩ := hR
        refine z_iincU X d_R_crash_53 rfl (by decide) rfl ?_
        refine z_lv (lv2 := [some (.ref (b + 255)), some (.int (nI j)), some (.int (nI (v + 1 + 1)))]) (fun _ _ q => q) ?_
        refine z_goto X d_R_crash_56 (tgt := 19) (by decide) ?_
        exact z_at (ih k_3 ⟨hR, hfr⟩) rfl rfl
set_option maxHeartbeats 4000000 in
set_option maxRecDepth 100000 in
/-- R_drop -/
theorem c_R_drop {kk nc : Nat} {dv ms : Int32} {f0 f1 f2 f3 f4 f5 f6 f7 f8 f9 f10 f11 f12 f13 f14 f15 f16 f17 : Nat → Int32} {x : Int32} (hR : RW tI tZ b N k kk dv nc ms f0 f1 f2 f3 f4 f5 f6 f7 f8 f9 f10 f11 f12 f13 f14 f15 f16 f17)  : Met l y_R_drop (wy y_R_drop b_R_drop 3 (some .boolean)) (rm 1 0 0) (zPc D (tyl tI tZ tN tM) b N k [.ref (b + 255), .int x]) (zQi D b N (fun z k2 => (0 ≤ so f9 x → z = 1 ∧ (RW tI tZ b N k2 kk dv nc ms f0 f1 f2 f3 f4 f5 f6 f7 f8 (upd f9 (so f9 x).toNatClampNeg 0) f10 f11 f12 f13 f14 f15 f16 f17) ∧ ∀ q, q < b + 255 → k2 q = k q) ∧ (¬ 0 ≤ so f9 x → z = 0 ∧ k2 = k))) 0 0 (zA b) := by
  refine z_met (own := R_R) (by decide) rfl rfl (Nat.le_of_ble_eq_true rfl) [some (.ref (b + 255)), some (.int x), none] rfl ?_
  intro p e s m args below meth c X hin
  have ⟨ho, r0, r1, r2, r3, r4, r5, r6, r7, r8, r9, r10, r11, r12, r13, r14, r15, r16, r17⟩ := hR
  have hfr : ∀ q, q < b + 255 → k q = k q := fun _ _ => rfl
  refine z_aload_n X d_R_drop_0 rfl ?_
  refine z_iload_n X d_R_drop_1 rfl ?_
  refine z_callVi X (c_R_placeOf hR) ho rfl (cwV 1 X.1.2.2.2.2 (gi_V lm_R_96 vi_R_placeOf ve_R_placeOf vn_R vc_R_placeOf) rfl rfl rfl (by decide +kernel) ⟨Nat.le_of_ble_eq_true rfl, Nat.le_of_ble_eq_true rfl⟩) (As := [.int x]) (st := []) rfl rfl (Nat.le_of_ble_eq_true rfl) d_R_drop_2 ⟨Nat.le_of_ble_eq_true rfl, Nat.le_of_ble_eq_true rfl⟩ (fun z k2 hq => ?_)
  obtain ⟨rfl, hk9⟩ := hq
  have hk9 := hk9.symm
  subst hk9
  rcases so_cases f9 x with hs | ⟨p, hp, hs, hq⟩
  · rw [hs]
    refine z_istore_n X d_R_drop_5 (by decide) rfl ?_
    refine z_lv (lv2 := [some (.ref (b + 255)), some (.int x), some (.int (-1))]) (fun _ _ q => q) ?_
    refine z_iload_n X d_R_drop_6 rfl ?_
    refine z_if_ge X d_R_drop_7 (tgt := 12) (by decide) (fun h => absurd h (by decide)) (fun _ => ?_)
    refine z_iconst X d_R_drop_10 (v := nI 0) (by decide +kernel) ?_
    exact z_zret X d_R_drop_11 (by decide) (by omega) (by omega) (⟨fun q => absurd q (by decide), fun _ => ⟨rfl, rfl⟩⟩)
  · rw [hs]
    rw [nI_clamp (by omega)]
    refine z_istore_n X d_R_drop_5 (by decide) rfl ?_
    refine z_lv (lv2 := [some (.ref (b + 255)), some (.int x), some (.int (nI p))]) (fun _ _ q => q) ?_
    refine z_iload_n X d_R_drop_6 rfl ?_
    refine z_if_geN X d_R_drop_7 (tgt := 12) (by decide) (by omega) (fun _ => ?_) (fun h => absurd h (by omega))
    refine z_aload_n X d_R_drop_12 rfl ?_
    refine z_get X ho rfl in_R 13 (by decide) (wq lf_R_42) rfl d_R_drop_13 ?_
    refine z_iload_n X d_R_drop_16 rfl ?_
    refine z_iconst X d_R_drop_17 (v := nI 0) (by decide +kernel) ?_
    refine z_iast X r9 0 rfl (j := p) rfl (by omega) (by omega) d_R_drop_18 ?_
    refine z_named (fun k_1 hk9 => ?_)
    have hR := hR.st9 hk9
    rw [show (upd f9 p (nI 0)) = upd f9 p 0 from by rw [nI_0]] at hR
    have hfr : ∀ q, q < b + 255 → k_1 q = k q := fun q hq => by rw [hk9]; exact (up_ne (by omega)).trans (hfr q hq)
    clear hk9
    have ⟨ho, r0, r1, r2, r3, r4, r5, r6, r7, r8, r9, r10, r11, r12, r13, r14, r15, r16, r17⟩ := hR
    refine z_iconst X d_R_drop_19 (v := nI 1) (by decide +kernel) ?_
    exact z_zret X d_R_drop_20 (by decide) (by omega) (by omega) (⟨fun _ => ⟨rfl, hR, hfr⟩, fun q => absurd (nI_pos' (by omega)) q⟩)
set_option maxHeartbeats 4000000 in
set_option maxRecDepth 100000 in
/-- R_deliver -/
theorem c_R_deliver {kk nc : Nat} {dv ms : Int32} {f0 f1 f2 f3 f4 f5 f6 f7 f8 f9 f10 f11 f12 f13 f14 f15 f16 f17 : Nat → Int32} {x : Int32} {sd : Nat → Nat} (hR : RW tI tZ b N k kk dv nc ms f0 f1 f2 f3 f4 f5 f6 f7 f8 f9 f10 f11 f12 f13 f14 f15 f16 f17) (hsd : ∀ p, p < 12 → f10 p = nI (sd p) ∧ sd p < 12)  : Met l y_R_deliver (wy y_R_deliver b_R_deliver 5 (some .int)) (rm 1 0 0) (zPc D (tyl tI tZ tN tM) b N k [.ref (b + 255), .int x]) (zQi D b N (fun z k2 => (0 ≤ so f9 x ∧ f7 (sd (so f9 x).toNatClampNeg) < f11 (so f9 x).toNatClampNeg → z = 1 ∧ (RW tI tZ b N k2 kk dv nc ms f0 f1 f2 f3 f4 f5 f6 (upd f7 (sd (so f9 x).toNatClampNeg) (f11 (so f9 x).toNatClampNeg)) (pr (12 * (sd (so f9 x).toNatClampNeg)) 12 (fun l => f12 (12 * (so f9 x).toNatClampNeg + l)) f8) (upd f9 (so f9 x).toNatClampNeg 0) f10 f11 f12 f13 f14 f15 f16 f17) ∧ ∀ q, q < b + 255 → k2 q = k q) ∧ (0 ≤ so f9 x ∧ ¬ f7 (sd (so f9 x).toNatClampNeg) < f11 (so f9 x).toNatClampNeg → z = 0 ∧ (RW tI tZ b N k2 kk dv nc ms f0 f1 f2 f3 f4 f5 f6 f7 f8 (upd f9 (so f9 x).toNatClampNeg 0) f10 f11 f12 f13 f14 f15 f16 f17) ∧ ∀ q, q < b + 255 → k2 q = k q) ∧ (¬ 0 ≤ so f9 x → z = -1 ∧ k2 = k))) 0 0 (zA b) := by
  refine z_met (own := R_R) (by decide) rfl rfl (Nat.le_of_ble_eq_true rfl) [some (.ref (b + 255)), some (.int x), none, none, none] rfl ?_
  intro p e s m args below meth c X hin
  have ⟨ho, r0, r1, r2, r3, r4, r5, r6, r7, r8, r9, r10, r11, r12, r13, r14, r15, r16, r17⟩ := hR
  have hfr : ∀ q, q < b + 255 → k q = k q := fun _ _ => rfl
  refine z_aload_n X d_R_deliver_0 rfl ?_
  refine z_iload_n X d_R_deliver_1 rfl ?_
  refine z_callVi X (c_R_placeOf hR) ho rfl (cwV 1 X.1.2.2.2.2 (gi_V lm_R_96 vi_R_placeOf ve_R_placeOf vn_R vc_R_placeOf) rfl rfl rfl (by decide +kernel) ⟨Nat.le_of_ble_eq_true rfl, Nat.le_of_ble_eq_true rfl⟩) (As := [.int x]) (st := []) rfl rfl (Nat.le_of_ble_eq_true rfl) d_R_deliver_2 ⟨Nat.le_of_ble_eq_true rfl, Nat.le_of_ble_eq_true rfl⟩ (fun z k2 hq => ?_)
  obtain ⟨rfl, hk9⟩ := hq
  have hk9 := hk9.symm
  subst hk9
  refine z_istore_n X d_R_deliver_5 (by decide) rfl ?_
  refine z_lv (lv2 := [some (.ref (b + 255)), some (.int x), some (.int (so f9 x)), none, none]) (fun _ _ q => q) ?_
  rcases so_cases f9 x with hs | ⟨p, hp, hs, hq⟩
  · rw [hs]
    refine z_lv (lv2 := [some (.ref (b + 255)), some (.int x), some (.int (-1)), none, none]) (fun _ _ q => q) ?_
    refine z_iload_n X d_R_deliver_6 rfl ?_
    refine z_if_ge X d_R_deliver_7 (tgt := 12) (by decide) (fun h => absurd h (by decide)) (fun _ => ?_)
    refine z_iconst X d_R_deliver_10 (v := -1) (by decide +kernel) ?_
    exact z_iret X d_R_deliver_11 (by omega) (by omega) (⟨fun q => absurd q.1 (by decide), fun q => absurd q.1 (by decide), fun _ => ⟨rfl, rfl⟩⟩)
  · rw [hs]
    rw [nI_clamp (by omega)]
    refine z_lv (lv2 := [some (.ref (b + 255)), some (.int x), some (.int (nI p)), none, none]) (fun _ _ q => q) ?_
    obtain ⟨e1, e2⟩ := hsd p hp
    refine z_iload_n X d_R_deliver_6 rfl ?_
    refine z_if_geN X d_R_deliver_7 (tgt := 12) (by decide) (by omega) (fun _ => ?_) (fun h => absurd h (by omega))
    refine z_aload_n X d_R_deliver_12 rfl ?_
    refine z_get X ho rfl in_R 13 (by decide) (wq lf_R_42) rfl d_R_deliver_13 ?_
    refine z_iload_n X d_R_deliver_16 rfl ?_
    refine z_iconst X d_R_deliver_17 (v := nI 0) (by decide +kernel) ?_
    refine z_iast X r9 0 rfl (j := p) rfl (by omega) (by omega) d_R_deliver_18 ?_
    refine z_named (fun k_1 hk9 => ?_)
    have hR := hR.st9 hk9
    rw [show (upd f9 p (nI 0)) = upd f9 p 0 from by rw [nI_0]] at hR
    have hfr : ∀ q, q < b + 255 → k_1 q = k q := fun q hq => by rw [hk9]; exact (up_ne (by omega)).trans (hfr q hq)
    clear hk9
    have ⟨ho, r0, r1, r2, r3, r4, r5, r6, r7, r8, r9, r10, r11, r12, r13, r14, r15, r16, r17⟩ := hR
    refine z_aload_n X d_R_deliver_19 rfl ?_
    refine z_get X ho rfl in_R 14 (by decide) (wq lf_R_45) rfl d_R_deliver_20 ?_
    refine z_iload_n X d_R_deliver_23 rfl ?_
    refine z_iald X r10 0 rfl (j := p) rfl (by omega) (by omega) d_R_deliver_24 ?_
    refine z_top (y := .int (nI (sd p))) (by rw [e1]) ?_
    refine z_istore_n X d_R_deliver_25 (by decide) rfl ?_
    refine z_lv (lv2 := [some (.ref (b + 255)), some (.int x), some (.int (nI p)), some (.int (nI (sd p))), none]) (fun _ _ q => q) ?_
    refine z_aload_n X d_R_deliver_26 rfl ?_
    refine z_get X ho rfl in_R 10 (by decide) (wq lf_R_36) rfl d_R_deliver_27 ?_
    refine z_iload_n X d_R_deliver_30 rfl ?_
    refine z_iald X r7 0 rfl (j := sd p) rfl (by omega) (by omega) d_R_deliver_31 ?_
    refine z_aload_n X d_R_deliver_32 rfl ?_
    refine z_get X ho rfl in_R 15 (by decide) (wq lf_R_48) rfl d_R_deliver_33 ?_
    refine z_iload_n X d_R_deliver_36 rfl ?_
    refine z_iald X r11 0 rfl (j := p) rfl (by omega) (by omega) d_R_deliver_37 ?_
    refine z_icmp_lt X d_R_deliver_38 (tgt := 43) (by decide) (fun hD => ?_) (fun hD => ?_)
    · skip
      refine z_aload_n X d_R_deliver_43 rfl ?_
      refine z_get X ho rfl in_R 10 (by decide) (wq lf_R_36) rfl d_R_deliver_44 ?_
      refine z_iload_n X d_R_deliver_47 rfl ?_
      refine z_aload_n X d_R_deliver_48 rfl ?_
      refine z_get X ho rfl in_R 15 (by decide) (wq lf_R_48) rfl d_R_deliver_49 ?_
      refine z_iload_n X d_R_deliver_52 rfl ?_
      refine z_iald X r11 0 rfl (j := p) rfl (by omega) (by omega) d_R_deliver_53 ?_
      refine z_iast X r7 0 rfl (j := sd p) rfl (by omega) (by omega) d_R_deliver_54 ?_
      refine z_named (fun k_2 hk9 => ?_)
      have hR := hR.st7 hk9
      have hfr : ∀ q, q < b + 255 → k_2 q = k q := fun q hq => by rw [hk9]; exact (up_ne (by omega)).trans (hfr q hq)
      clear hk9
      have ⟨ho, r0, r1, r2, r3, r4, r5, r6, r7, r8, r9, r10, r11, r12, r13, r14, r15, r16, r17⟩ := hR
      refine z_iconst X d_R_deliver_55 (v := nI 0) (by decide +kernel) ?_
      refine z_istore X d_R_deliver_56 (by decide) rfl ?_
      refine z_lv (lv2 := [some (.ref (b + 255)), some (.int x), some (.int (nI p)), some (.int (nI (sd p))), some (.int (nI 0))]) (fun _ _ q => q) ?_
      refine z_loop (σ := Nat → va_E) (K := fun _ k9 => k9) (LV := fun v _ => [some (.ref (b + 255)), some (.int x), some (.int (nI p)), some (.int (nI (sd p))), some (.int (nI v))]) (I := fun v k9 => (RW tI tZ b N k9 kk dv nc ms f0 f1 f2 f3 f4 f5 f6 (upd f7 (sd p) (f11 p)) (pr (12 * sd p) v (fun l => f12 (12 * p + l)) f8) (upd f9 p 0) f10 f11 f12 f13 f14 f15 f16 f17) ∧ (∀ q, q < b + 255 → k9 q = k q)) 12 0 k_2 (by omega) (⟨by rw [pr_0]; exact hR, hfr⟩) (rfl) (rfl) ?_ ?_
      · intro k9 hI
        obtain ⟨hR, hfr⟩ := hI
        have ⟨ho, r0, r1, r2, r3, r4, r5, r6, r7, r8, r9, r10, r11, r12, r13, r14, r15, r16, r17⟩ := hR
        refine z_lv (lv2 := [some (.ref (b + 255)), some (.int x), some (.int (nI p)), some (.int (nI (sd p))), some (.int (nI 12))]) (fun _ _ q => q) ?_
        refine z_iload X d_R_deliver_58 rfl ?_
        refine z_bipush X d_R_deliver_60 (v := nI 12) (by decide +kernel) ?_
        refine z_icmp_geN X d_R_deliver_62 (tgt := 95) (by decide) (by omega) (by omega) (fun _ => ?_) (fun h => absurd h (by omega))
        refine z_iconst X d_R_deliver_95 (v := nI 1) (by decide +kernel) ?_
        exact z_iret X d_R_deliver_96 (by omega) (by omega) (⟨fun _ => ⟨rfl, hR, hfr⟩, fun q => absurd hD q.2, fun q => absurd (nI_pos' (by omega)) q⟩)
      · intro v k9 hv hI ih
        obtain ⟨hR, hfr⟩ := hI
        have ⟨ho, r0, r1, r2, r3, r4, r5, r6, r7, r8, r9, r10, r11, r12, r13, r14, r15, r16, r17⟩ := hR
        refine z_lv (lv2 := [some (.ref (b + 255)), some (.int x), some (.int (nI p)), some (.int (nI (sd p))), some (.int (nI v))]) (fun _ _ q => q) ?_
        refine z_iload X d_R_deliver_58 rfl ?_
        refine z_bipush X d_R_deliver_60 (v := nI 12) (by decide +kernel) ?_
        refine z_icmp_geN X d_R_deliver_62 (tgt := 95) (by decide) (by omega) (by omega) (fun h => absurd h (by omega)) (fun _ => ?_)
        refine z_aload_n X d_R_deliver_65 rfl ?_
        refine z_get X ho rfl in_R 11 (by decide) (wq lf_R_39) rfl d_R_deliver_66 ?_
        refine z_bipush X d_R_deliver_69 (v := nI 12) (by decide +kernel) ?_
        refine z_iload_n X d_R_deliver_71 rfl ?_
        refine z_imulN X d_R_deliver_72 ?_
        refine z_iload X d_R_deliver_73 rfl ?_
        refine z_iaddN X d_R_deliver_75 ?_
        refine z_aload_n X d_R_deliver_76 rfl ?_
        refine z_get X ho rfl in_R 16 (by decide) (wq lf_R_51) rfl d_R_deliver_77 ?_
        refine z_bipush X d_R_deliver_80 (v := nI 12) (by decide +kernel) ?_
        refine z_iload_n X d_R_deliver_82 rfl ?_
        refine z_imulN X d_R_deliver_83 ?_
        refine z_iload X d_R_deliver_84 rfl ?_
        refine z_iaddN X d_R_deliver_86 ?_
        refine z_iald X r12 0 rfl (j := (12 * p) + v) rfl (by omega) (by omega) d_R_deliver_87 ?_
        refine z_iast X r8 0 rfl (j := (12 * (sd p)) + v) rfl (by omega) (by omega) d_R_deliver_88 ?_
        refine z_named (fun k_3 hk9 => ?_)
        have hR := hR.st8 hk9
        rw [show (upd (pr (12 * sd p) v (fun l => f12 (12 * p + l)) f8) ((12 * (sd p)) + v) (f12 ((12 * p) + v))) = pr (12 * sd p) (v + 1) (fun l => f12 (12 * p + l)) f8 from pr_succ _ _ _ _ rfl] at hR
        have hfr : ∀ q, q < b + 255 → k_3 q = k q := fun q hq => by rw [hk9]; exact (up_ne (by omega)).trans (hfr q hq)
        clear hk9
        have ⟨ho, r0, r1, r2, r3, r4, r5, r6, r7, r8, r9, r10, r11, r12, r13, r14, r15, r16, r17⟩ := hR
        refine z_iincU X d_R_deliver_89 rfl (by decide) rfl ?_
        refine z_lv (lv2 := [some (.ref (b + 255)), some (.int x), some (.int (nI p)), some (.int (nI (sd p))), some (.int (nI (v + 1)))]) (fun _ _ q => q) ?_
        refine z_goto X d_R_deliver_92 (tgt := 58) (by decide) ?_
        exact z_at (ih k_3 ⟨hR, hfr⟩) rfl rfl
    · skip
      refine z_iconst X d_R_deliver_41 (v := nI 0) (by decide +kernel) ?_
      exact z_iret X d_R_deliver_42 (by omega) (by omega) (⟨fun q => absurd q.2 hD, fun _ => ⟨rfl, hR, hfr⟩, fun q => absurd (nI_pos' (by omega)) q⟩)
end
