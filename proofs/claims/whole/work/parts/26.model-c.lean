/-! Contracts of the reference, 3: take, merge, compress -/
section
variable {l : Launch} {D : va_G} {tI tZ tN tM : ClassId} {b N : Nat} {k : Nat → va_E}
set_option maxHeartbeats 4000000 in
set_option maxRecDepth 100000 in
/-- R_compress -/
theorem c_R_compress {kk nc : Nat} {dv ms : Int32} {f0 f1 f2 f3 f4 f5 f6 f7 f8 f9 f10 f11 f12 f13 f14 f15 f16 f17 : Nat → Int32} {j : Nat} (hR : RW tI tZ b N k kk dv nc ms f0 f1 f2 f3 f4 f5 f6 f7 f8 f9 f10 f11 f12 f13 f14 f15 f16 f17) (hj : j < 12) (hd : ¬ dv = 0)  : Met l y_R_compress (wy y_R_compress b_R_compress 9 none) (rm 0 0 0) (zPc D (tyl tI tZ tN tM) b N k [.ref (b + 255), .int (nI j)]) (zQv D b N (fun k2 => RW tI tZ b N k2 kk dv nc ms f0 f1 f2 f3 f4 f5 f6 f7 f8 f9 f10 f11 f12 f13 f14 f15 (pr (64 * j) 64 (cpr (f14 j / dv) 4000 (rw_ 64 f16 j)) f16) f17 ∧ ∀ q, q < b + 255 → k2 q = k q)) 0 0 (zA b) := by
  refine z_met (own := R_R) (by decide) rfl rfl (Nat.le_of_ble_eq_true rfl) [some (.ref (b + 255)), some (.int (nI j)), none, none, none, none, none, none, none] rfl ?_
  intro p e s m args below meth c X hin
  have ⟨ho, r0, r1, r2, r3, r4, r5, r6, r7, r8, r9, r10, r11, r12, r13, r14, r15, r16, r17⟩ := hR
  have hfr : ∀ q, q < b + 255 → k q = k q := fun _ _ => rfl
  refine z_aload_n X d_R_compress_0 rfl ?_
  refine z_get X ho rfl in_R 18 (by decide) (wq lf_R_57) rfl d_R_compress_1 ?_
  refine z_iload_n X d_R_compress_4 rfl ?_
  refine z_iald X r14 0 rfl (j := j) rfl (by omega) (by omega) d_R_compress_5 ?_
  refine z_aload_n X d_R_compress_6 rfl ?_
  refine z_get X ho rfl in_R 1 (by decide) (wq lf_R_72) rfl d_R_compress_7 ?_
  refine z_idiv X d_R_compress_10 hd ?_
  refine z_istore_n X d_R_compress_11 (by decide) rfl ?_
  refine z_lv (lv2 := [some (.ref (b + 255)), some (.int (nI j)), some (.int ((f14 j) / dv)), none, none, none, none, none, none]) (fun _ _ q => q) ?_
  refine z_iconst X d_R_compress_12 (v := nI 1) (by decide +kernel) ?_
  refine z_istore_n X d_R_compress_13 (by decide) rfl ?_
  refine z_lv (lv2 := [some (.ref (b + 255)), some (.int (nI j)), some (.int ((f14 j) / dv)), some (.int (nI 1)), none, none, none, none, none]) (fun _ _ q => q) ?_
  refine z_iconst X d_R_compress_14 (v := nI 0) (by decide +kernel) ?_
  refine z_istore X d_R_compress_15 (by decide) rfl ?_
  refine z_lv (lv2 := [some (.ref (b + 255)), some (.int (nI j)), some (.int ((f14 j) / dv)), some (.int (nI 1)), some (.int (nI 0)), none, none, none, none]) (fun _ _ q => q) ?_
  refine z_loop (σ := (Nat → va_E) × (Nat → Int32) × Bool) (K := fun _ (q : (Nat → va_E) × (Nat → Int32) × Bool) => q.1) (LV := fun v (q : (Nat → va_E) × (Nat → Int32) × Bool) => [some (.ref (b + 255)), some (.int (nI j)), some (.int (f14 j / dv)), some (.int (nI (cb q.2.2))), some (.int (nI v)), none, none, none, none]) (I := fun v (q : (Nat → va_E) × (Nat → Int32) × Bool) => (RW tI tZ b N q.1 kk dv nc ms f0 f1 f2 f3 f4 f5 f6 f7 f8 f9 f10 f11 f12 f13 f14 f15 (pr (64 * j) 64 q.2.1 f16) f17) ∧ (∀ q2, q2 < b + 255 → q.1 q2 = k q2) ∧ cpr (f14 j / dv) 4000 (rw_ 64 f16 j) = if q.2.2 = true then cpr (f14 j / dv) (4000 - v) q.2.1 else q.2.1) 4000 0 (k, (rw_ 64 f16 j), true) (by omega) (⟨by rw [pr_rw]; exact hR, hfr, (if_pos rfl).symm⟩) (rfl) (rfl) ?_ ?_
  · intro q hI
    obtain ⟨k9, g, ch⟩ := q
    obtain ⟨hR, hfr, hI⟩ := hI
    try dsimp only at hR hfr hI
    have ⟨ho, r0, r1, r2, r3, r4, r5, r6, r7, r8, r9, r10, r11, r12, r13, r14, r15, r16, r17⟩ := hR
    refine z_k (k2 := k9) (fun _ _ _ => rfl) ?_
    refine z_lv (lv2 := [some (.ref (b + 255)), some (.int (nI j)), some (.int (f14 j / dv)), some (.int (nI (cb ch))), some (.int (nI 4000)), none, none, none, none]) (fun _ _ q => q) ?_
    refine z_iload X d_R_compress_17 rfl ?_
    refine z_sipush X d_R_compress_19 (v := nI 4000) (by decide +kernel) ?_
    refine z_icmp_geN X d_R_compress_22 (tgt := 148) (by decide) (by omega) (by omega) (fun _ => ?_) (fun h => absurd h (by omega))
    exact z_vret X d_R_compress_148 (by omega) (by omega) (⟨by rw [hI]; cases ch <;> exact hR, hfr⟩)
  · intro v q hv hI ih
    obtain ⟨k9, g, ch⟩ := q
    obtain ⟨hR, hfr, hI⟩ := hI
    try dsimp only at hR hfr hI
    have ⟨ho, r0, r1, r2, r3, r4, r5, r6, r7, r8, r9, r10, r11, r12, r13, r14, r15, r16, r17⟩ := hR
    refine z_k (k2 := k9) (fun _ _ _ => rfl) ?_
    cases ch
    · skip
      refine z_lv (lv2 := [some (.ref (b + 255)), some (.int (nI j)), some (.int (f14 j / dv)), some (.int (nI (cb false))), some (.int (nI v)), none, none, none, none]) (fun _ _ q => q) ?_
      refine z_iload X d_R_compress_17 rfl ?_
      refine z_sipush X d_R_compress_19 (v := nI 4000) (by decide +kernel) ?_
      refine z_icmp_geN X d_R_compress_22 (tgt := 148) (by decide) (by omega) (by omega) (fun h => absurd h (by omega)) (fun _ => ?_)
      refine z_iload_n X d_R_compress_25 rfl ?_
      refine z_if_eqN X d_R_compress_26 (tgt := 148) (by decide) (by decide) (fun _ => ?_) (fun h => absurd h (by decide))
      exact z_vret X d_R_compress_148 (by omega) (by omega) (⟨by rw [hI]; exact hR, hfr⟩)
    · skip
      refine z_lv (lv2 := [some (.ref (b + 255)), some (.int (nI j)), some (.int (f14 j / dv)), some (.int (nI (cb true))), some (.int (nI v)), none, none, none, none]) (fun _ _ q => q) ?_
      refine z_iload X d_R_compress_17 rfl ?_
      refine z_sipush X d_R_compress_19 (v := nI 4000) (by decide +kernel) ?_
      refine z_icmp_geN X d_R_compress_22 (tgt := 148) (by decide) (by omega) (by omega) (fun h => absurd h (by omega)) (fun _ => ?_)
      refine z_iload_n X d_R_compress_25 rfl ?_
      refine z_if_eqN X d_R_compress_26 (tgt := 148) (by decide) (by decide) (fun h => absurd h (by decide)) (fun _ => ?_)
      refine z_iconst X d_R_compress_29 (v := nI 0) (by decide +kernel) ?_
      refine z_istore_n X d_R_compress_30 (by decide) rfl ?_
      refine z_lv (lv2 := [some (.ref (b + 255)), some (.int (nI j)), some (.int (f14 j / dv)), some (.int (nI 0)), some (.int (nI v)), none, none, none, none]) (fun _ _ q => q) ?_
      refine z_bipush X d_R_compress_31 (v := nI 31) (by decide +kernel) ?_
      refine z_istore X d_R_compress_33 (by decide) rfl ?_
      refine z_lv (lv2 := [some (.ref (b + 255)), some (.int (nI j)), some (.int (f14 j / dv)), some (.int (nI 0)), some (.int (nI v)), some (.int (nI 31)), none, none, none]) (fun _ _ q => q) ?_
      rw [if_pos rfl, show 4000 - v = (4000 - (v + 1)) + 1 by omega] at hI
      refine z_loopD (σ := (Nat → va_E) × (Nat → Int32) × Bool) (K := fun _ (q : (Nat → va_E) × (Nat → Int32) × Bool) => q.1) (LV := fun x (q : (Nat → va_E) × (Nat → Int32) × Bool) => [some (.ref (b + 255)), some (.int (nI j)), some (.int (f14 j / dv)), some (.int (nI (cb q.2.2))), some (.int (nI v)), some (.int (nI x)), none, none, none]) (I := fun x (q : (Nat → va_E) × (Nat → Int32) × Bool) => x < 32 ∧ (RW tI tZ b N q.1 kk dv nc ms f0 f1 f2 f3 f4 f5 f6 f7 f8 f9 f10 f11 f12 f13 f14 f15 (pr (64 * j) 64 q.2.1 f16) f17) ∧ (∀ q2, q2 < b + 255 → q.1 q2 = k q2) ∧ ps (f14 j / dv) 31 g false = ps (f14 j / dv) x q.2.1 q.2.2) 31 (k9, g, false) (⟨by omega, hR, hfr, rfl⟩) (rfl) (rfl) ?_ ?_
      · intro q hI2
        obtain ⟨k8, g2, ch⟩ := q
        obtain ⟨hx, hR, hfr, hI2⟩ := hI2
        try dsimp only at hx hR hfr hI2
        have ⟨ho, r0, r1, r2, r3, r4, r5, r6, r7, r8, r9, r10, r11, r12, r13, r14, r15, r16, r17⟩ := hR
        refine z_k (k2 := k8) (fun _ _ _ => rfl) ?_
        refine z_lv (lv2 := [some (.ref (b + 255)), some (.int (nI j)), some (.int (f14 j / dv)), some (.int (nI (cb ch))), some (.int (nI v)), some (.int (nI 0)), none, none, none]) (fun _ _ q => q) ?_
        refine z_iload X d_R_compress_35 rfl ?_
        refine z_iconst X d_R_compress_37 (v := nI 1) (by decide +kernel) ?_
        refine z_icmp_ltN X d_R_compress_38 (tgt := 142) (by decide) (by omega) (by omega) (fun _ => ?_) (fun h => absurd h (by omega))
        refine z_iincU X d_R_compress_142 rfl (by decide) rfl ?_
        refine z_lv (lv2 := [some (.ref (b + 255)), some (.int (nI j)), some (.int (f14 j / dv)), some (.int (nI (cb ch))), some (.int (nI (v + 1))), some (.int (nI 0)), none, none, none]) (fun _ _ q => q) ?_
        refine z_goto X d_R_compress_145 (tgt := 17) (by decide) ?_
        refine z_drop 5 ?_
        exact z_at (ih (k8, g2, ch) ⟨hR, hfr, by rw [hI]; show (if (ps _ 31 g false).2 = true then _ else _) = _; rw [hI2]; rfl⟩) rfl rfl
      · intro x q hI2 ih2
        obtain ⟨k8, g2, ch⟩ := q
        obtain ⟨hx, hR, hfr, hI2⟩ := hI2
        try dsimp only at hx hR hfr hI2
        have ⟨ho, r0, r1, r2, r3, r4, r5, r6, r7, r8, r9, r10, r11, r12, r13, r14, r15, r16, r17⟩ := hR
        refine z_k (k2 := k8) (fun _ _ _ => rfl) ?_
        refine z_lv (lv2 := [some (.ref (b + 255)), some (.int (nI j)), some (.int (f14 j / dv)), some (.int (nI (cb ch))), some (.int (nI v)), some (.int (nI (x + 1))), none, none, none]) (fun _ _ q => q) ?_
        refine z_iload X d_R_compress_35 rfl ?_
        refine z_iconst X d_R_compress_37 (v := nI 1) (by decide +kernel) ?_
        refine z_icmp_ltN X d_R_compress_38 (tgt := 142) (by decide) (by omega) (by omega) (fun h => absurd h (by omega)) (fun _ => ?_)
        refine z_bipush X d_R_compress_41 (v := nI 64) (by decide +kernel) ?_
        refine z_iload_n X d_R_compress_43 rfl ?_
        refine z_imulN X d_R_compress_44 ?_
        refine z_iload X d_R_compress_45 rfl ?_
        refine z_iaddN X d_R_compress_47 ?_
        refine z_istore X d_R_compress_48 (by decide) rfl ?_
        refine z_lv (lv2 := [some (.ref (b + 255)), some (.int (nI j)), some (.int (f14 j / dv)), some (.int (nI (cb ch))), some (.int (nI v)), some (.int (nI (x + 1))), some (.int (nI ((64 * j) + (x + 1)))), none, none]) (fun _ _ q => q) ?_
        refine z_bipush X d_R_compress_50 (v := nI 64) (by decide +kernel) ?_
        refine z_iload_n X d_R_compress_52 rfl ?_
        refine z_imulN X d_R_compress_53 ?_
        refine z_iconst X d_R_compress_54 (v := nI 2) (by decide +kernel) ?_
        refine z_iload X d_R_compress_55 rfl ?_
        refine z_imulN X d_R_compress_57 ?_
        refine z_iaddN X d_R_compress_58 ?_
        refine z_istore X d_R_compress_59 (by decide) rfl ?_
        refine z_lv (lv2 := [some (.ref (b + 255)), some (.int (nI j)), some (.int (f14 j / dv)), some (.int (nI (cb ch))), some (.int (nI v)), some (.int (nI (x + 1))), some (.int (nI ((64 * j) + (x + 1)))), some (.int (nI ((64 * j) + (2 * (x + 1))))), none]) (fun _ _ q => q) ?_
        refine z_aload_n X d_R_compress_61 rfl ?_
        refine z_get X ho rfl in_R 20 (by decide) (wq lf_R_63) rfl d_R_compress_62 ?_
        refine z_iload X d_R_compress_65 rfl ?_
        refine z_iald X r16 0 rfl (j := (64 * j) + (2 * (x + 1))) rfl (by omega) (by omega) d_R_compress_67 ?_
        refine z_top (y := .int (g2 (2 * (x + 1)))) (by rw [pr_in (by omega)]) ?_
        refine z_aload_n X d_R_compress_68 rfl ?_
        refine z_get X ho rfl in_R 20 (by decide) (wq lf_R_63) rfl d_R_compress_69 ?_
        refine z_iload X d_R_compress_72 rfl ?_
        refine z_iconst X d_R_compress_74 (v := nI 1) (by decide +kernel) ?_
        refine z_iaddN X d_R_compress_75 ?_
        refine z_iald X r16 0 rfl (j := 64 * j + (2 * (x + 1) + 1)) (by rw [Nat.add_assoc]) (by omega) (by omega) d_R_compress_76 ?_
        refine z_top (y := .int (g2 (2 * (x + 1) + 1))) (by rw [pr_in (by omega)]) ?_
        refine z_iadd X d_R_compress_77 ?_
        refine z_top (y := .int (bl g2 (x + 1))) (rfl) ?_
        refine z_istore X d_R_compress_78 (by decide) rfl ?_
        refine z_lv (lv2 := [some (.ref (b + 255)), some (.int (nI j)), some (.int (f14 j / dv)), some (.int (nI (cb ch))), some (.int (nI v)), some (.int (nI (x + 1))), some (.int (nI ((64 * j) + (x + 1)))), some (.int (nI ((64 * j) + (2 * (x + 1))))), some (.int (bl g2 (x + 1)))]) (fun _ _ q => q) ?_
        refine z_iload X d_R_compress_80 rfl ?_
        refine z_if_le X d_R_compress_82 (tgt := 136) (by decide) (fun hA => ?_) (fun hA => ?_)
        · skip
          refine z_iincD X d_R_compress_136 rfl (by decide) rfl ?_
          refine z_lv (lv2 := [some (.ref (b + 255)), some (.int (nI j)), some (.int (f14 j / dv)), some (.int (nI (cb ch))), some (.int (nI v)), some (.int (nI x)), some (.int (nI ((64 * j) + (x + 1)))), some (.int (nI ((64 * j) + (2 * (x + 1))))), some (.int (bl g2 (x + 1)))]) (fun _ _ q => q) ?_
          refine z_goto X d_R_compress_139 (tgt := 35) (by decide) ?_
          refine z_drop 8 ?_
          refine z_drop 7 ?_
          refine z_drop 6 ?_
          exact z_at (ih2 (k8, g2, ch) ⟨by omega, hR, hfr, by rw [hI2]; show (if _ then _ else _) = _; rw [if_neg (by simp [pok, i32_le_n hA])]⟩) rfl rfl
        · skip
          refine z_aload_n X d_R_compress_85 rfl ?_
          refine z_get X ho rfl in_R 20 (by decide) (wq lf_R_63) rfl d_R_compress_86 ?_
          refine z_iload X d_R_compress_89 rfl ?_
          refine z_iald X r16 0 rfl (j := (64 * j) + (x + 1)) rfl (by omega) (by omega) d_R_compress_91 ?_
          refine z_top (y := .int (g2 (x + 1))) (by rw [pr_in (by omega)]) ?_
          refine z_iload X d_R_compress_92 rfl ?_
          refine z_iadd X d_R_compress_94 ?_
          refine z_iload_n X d_R_compress_95 rfl ?_
          refine z_icmp_gt X d_R_compress_96 (tgt := 136) (by decide) (fun hB => ?_) (fun hB => ?_)
          · skip
            refine z_iincD X d_R_compress_136 rfl (by decide) rfl ?_
            refine z_lv (lv2 := [some (.ref (b + 255)), some (.int (nI j)), some (.int (f14 j / dv)), some (.int (nI (cb ch))), some (.int (nI v)), some (.int (nI x)), some (.int (nI ((64 * j) + (x + 1)))), some (.int (nI ((64 * j) + (2 * (x + 1))))), some (.int (bl g2 (x + 1)))]) (fun _ _ q => q) ?_
            refine z_goto X d_R_compress_139 (tgt := 35) (by decide) ?_
            refine z_drop 8 ?_
            refine z_drop 7 ?_
            refine z_drop 6 ?_
            exact z_at (ih2 (k8, g2, ch) ⟨by omega, hR, hfr, by rw [hI2]; show (if _ then _ else _) = _; rw [if_neg (by simp only [pok, Bool.and_eq_true, decide_eq_true_eq]; exact fun q => i32_lt_n hB q.2)]⟩) rfl rfl
          · skip
            refine z_aload_n X d_R_compress_99 rfl ?_
            refine z_get X ho rfl in_R 20 (by decide) (wq lf_R_63) rfl d_R_compress_100 ?_
            refine z_iload X d_R_compress_103 rfl ?_
            refine z_aload_n X d_R_compress_105 rfl ?_
            refine z_get X ho rfl in_R 20 (by decide) (wq lf_R_63) rfl d_R_compress_106 ?_
            refine z_iload X d_R_compress_109 rfl ?_
            refine z_iald X r16 0 rfl (j := (64 * j) + (x + 1)) rfl (by omega) (by omega) d_R_compress_111 ?_
            refine z_top (y := .int (g2 (x + 1))) (by rw [pr_in (by omega)]) ?_
            refine z_iload X d_R_compress_112 rfl ?_
            refine z_iadd X d_R_compress_114 ?_
            refine z_iast X r16 0 rfl (j := (64 * j) + (x + 1)) rfl (by omega) (by omega) d_R_compress_115 ?_
            refine z_named (fun k_1 hk9 => ?_)
            have hR := hR.st16 hk9
            rw [show (upd (pr (64 * j) 64 g2 f16) ((64 * j) + (x + 1)) ((g2 (x + 1)) + (bl g2 (x + 1)))) = pr (64 * j) 64 (upd g2 (x + 1) (g2 (x + 1) + bl g2 (x + 1))) f16 from pr_upd (by omega)] at hR
            have hfr : ∀ q, q < b + 255 → k_1 q = k q := fun q hq => by rw [hk9]; exact (up_ne (by omega)).trans (hfr q hq)
            clear hk9
            have ⟨ho, r0, r1, r2, r3, r4, r5, r6, r7, r8, r9, r10, r11, r12, r13, r14, r15, r16, r17⟩ := hR
            refine z_aload_n X d_R_compress_116 rfl ?_
            refine z_get X ho rfl in_R 20 (by decide) (wq lf_R_63) rfl d_R_compress_117 ?_
            refine z_iload X d_R_compress_120 rfl ?_
            refine z_iconst X d_R_compress_122 (v := nI 0) (by decide +kernel) ?_
            refine z_iast X r16 0 rfl (j := (64 * j) + (2 * (x + 1))) rfl (by omega) (by omega) d_R_compress_123 ?_
            refine z_named (fun k_2 hk9 => ?_)
            have hR := hR.st16 hk9
            rw [show (upd (pr (64 * j) 64 (upd g2 (x + 1) (g2 (x + 1) + bl g2 (x + 1))) f16) ((64 * j) + (2 * (x + 1))) (nI 0)) = pr (64 * j) 64 (upd (upd g2 (x + 1) (g2 (x + 1) + bl g2 (x + 1))) (2 * (x + 1)) 0) f16 from by rw [nI_0]; exact pr_upd (by omega)] at hR
            have hfr : ∀ q, q < b + 255 → k_2 q = k q := fun q hq => by rw [hk9]; exact (up_ne (by omega)).trans (hfr q hq)
            clear hk9
            have ⟨ho, r0, r1, r2, r3, r4, r5, r6, r7, r8, r9, r10, r11, r12, r13, r14, r15, r16, r17⟩ := hR
            refine z_aload_n X d_R_compress_124 rfl ?_
            refine z_get X ho rfl in_R 20 (by decide) (wq lf_R_63) rfl d_R_compress_125 ?_
            refine z_iload X d_R_compress_128 rfl ?_
            refine z_iconst X d_R_compress_130 (v := nI 1) (by decide +kernel) ?_
            refine z_iaddN X d_R_compress_131 ?_
            refine z_iconst X d_R_compress_132 (v := nI 0) (by decide +kernel) ?_
            refine z_iast X r16 0 rfl (j := 64 * j + (2 * (x + 1) + 1)) (by rw [Nat.add_assoc]) (by omega) (by omega) d_R_compress_133 ?_
            refine z_named (fun k_3 hk9 => ?_)
            have hR := hR.st16 hk9
            rw [show (upd (pr (64 * j) 64 (upd (upd g2 (x + 1) (g2 (x + 1) + bl g2 (x + 1))) (2 * (x + 1)) 0) f16) (64 * j + (2 * (x + 1) + 1)) (nI 0)) = pr (64 * j) 64 (pst g2 (x + 1)) f16 from by rw [nI_0]; exact pr_upd (by omega)] at hR
            have hfr : ∀ q, q < b + 255 → k_3 q = k q := fun q hq => by rw [hk9]; exact (up_ne (by omega)).trans (hfr q hq)
            clear hk9
            have ⟨ho, r0, r1, r2, r3, r4, r5, r6, r7, r8, r9, r10, r11, r12, r13, r14, r15, r16, r17⟩ := hR
            refine z_iconst X d_R_compress_134 (v := nI 1) (by decide +kernel) ?_
            refine z_istore_n X d_R_compress_135 (by decide) rfl ?_
            refine z_lv (lv2 := [some (.ref (b + 255)), some (.int (nI j)), some (.int (f14 j / dv)), some (.int (nI 1)), some (.int (nI v)), some (.int (nI (x + 1))), some (.int (nI ((64 * j) + (x + 1)))), some (.int (nI ((64 * j) + (2 * (x + 1))))), some (.int (bl g2 (x + 1)))]) (fun _ _ q => q) ?_
            refine z_iincD X d_R_compress_136 rfl (by decide) rfl ?_
            refine z_lv (lv2 := [some (.ref (b + 255)), some (.int (nI j)), some (.int (f14 j / dv)), some (.int (nI 1)), some (.int (nI v)), some (.int (nI x)), some (.int (nI ((64 * j) + (x + 1)))), some (.int (nI ((64 * j) + (2 * (x + 1))))), some (.int (bl g2 (x + 1)))]) (fun _ _ q => q) ?_
            refine z_goto X d_R_compress_139 (tgt := 35) (by decide) ?_
            refine z_drop 8 ?_
            refine z_drop 7 ?_
            refine z_drop 6 ?_
            exact z_at (ih2 (k_3, pst g2 (x + 1), true) ⟨by omega, hR, hfr, by rw [hI2]; show (if _ then _ else _) = _; rw [if_pos (by simp only [pok, Bool.and_eq_true, decide_eq_true_eq]; exact ⟨i32_nle hA, i32_nlt hB⟩)]⟩) rfl rfl
set_option maxHeartbeats 4000000 in
set_option maxRecDepth 100000 in
/-- R_take -/
theorem c_R_take {kk nc : Nat} {dv ms : Int32} {f0 f1 f2 f3 f4 f5 f6 f7 f8 f9 f10 f11 f12 f13 f14 f15 f16 f17 : Nat → Int32} {j v : Nat} (hR : RW tI tZ b N k kk dv nc ms f0 f1 f2 f3 f4 f5 f6 f7 f8 f9 f10 f11 f12 f13 f14 f15 f16 f17) (hj : j < 12) (hv : v < 32) (hd : ¬ dv = 0) (hk6 : kk ≤ 6)  : Met l y_R_take (wy y_R_take b_R_take 3 none) (rm 1 0 0) (zPc D (tyl tI tZ tN tM) b N k [.ref (b + 255), .int (nI j), .int (nI v)]) (zQv D b N (fun k2 => RW tI tZ b N k2 kk dv nc ms f0 f1 f2 f3 f4 f5 f6 f7 f8 f9 f10 f11 f12 f13 (upd f14 j (f14 j + 1)) (pr (32 * j) 32 (tkC kk (rw_ 32 f15 j) v) f15) (pr (64 * j) 64 (cpr ((f14 j + 1) / dv) 4000 (upd (rw_ 64 f16 j) (32 + v) ((rw_ 64 f16 j) (32 + v) + 1))) f16) f17 ∧ ∀ q, q < b + 255 → k2 q = k q)) 0 0 (zA b) := by
  refine z_met (own := R_R) (by decide) rfl rfl (Nat.le_of_ble_eq_true rfl) [some (.ref (b + 255)), some (.int (nI j)), some (.int (nI v))] rfl ?_
  intro p e s m args below meth c X hin
  have ⟨ho, r0, r1, r2, r3, r4, r5, r6, r7, r8, r9, r10, r11, r12, r13, r14, r15, r16, r17⟩ := hR
  have hfr : ∀ q, q < b + 255 → k q = k q := fun _ _ => rfl
  refine z_aload_n X d_R_take_0 rfl ?_
  refine z_get X ho rfl in_R 18 (by decide) (wq lf_R_57) rfl d_R_take_1 ?_
  refine z_iload_n X d_R_take_4 rfl ?_
  refine z_dup2 X d_R_take_5 rfl rfl ?_
  refine z_iald X r14 0 rfl (j := j) rfl (by omega) (by omega) d_R_take_6 ?_
  refine z_iconst X d_R_take_7 (v := nI 1) (by decide +kernel) ?_
  refine z_iadd X d_R_take_8 ?_
  refine z_iast X r14 0 rfl (j := j) rfl (by omega) (by omega) d_R_take_9 ?_
  refine z_named (fun k_1 hk9 => ?_)
  have hR := hR.st14 hk9
  rw [show (upd f14 j ((f14 j) + (nI 1))) = upd f14 j (f14 j + 1) from by rw [nI_one]] at hR
  have hfr : ∀ q, q < b + 255 → k_1 q = k q := fun q hq => by rw [hk9]; exact (up_ne (by omega)).trans (hfr q hq)
  clear hk9
  have ⟨ho, r0, r1, r2, r3, r4, r5, r6, r7, r8, r9, r10, r11, r12, r13, r14, r15, r16, r17⟩ := hR
  refine z_aload_n X d_R_take_10 rfl ?_
  refine z_get X ho rfl in_R 19 (by decide) (wq lf_R_60) rfl d_R_take_11 ?_
  refine z_bipush X d_R_take_14 (v := nI 32) (by decide +kernel) ?_
  refine z_iload_n X d_R_take_16 rfl ?_
  refine z_imulN X d_R_take_17 ?_
  refine z_iload_n X d_R_take_18 rfl ?_
  refine z_iaddN X d_R_take_19 ?_
  refine z_iald X r15 0 rfl (j := (32 * j) + v) rfl (by omega) (by omega) d_R_take_20 ?_
  refine z_top (y := .int ((rw_ 32 f15 j) v)) (by rw [rw_in hv]) ?_
  refine z_if_gt X d_R_take_21 (tgt := 36) (by decide) (fun hA => ?_) (fun hA => ?_)
  · skip
    refine z_aload_n X d_R_take_36 rfl ?_
    refine z_get X ho rfl in_R 19 (by decide) (wq lf_R_60) rfl d_R_take_37 ?_
    refine z_bipush X d_R_take_40 (v := nI 32) (by decide +kernel) ?_
    refine z_iload_n X d_R_take_42 rfl ?_
    refine z_imulN X d_R_take_43 ?_
    refine z_iload_n X d_R_take_44 rfl ?_
    refine z_iaddN X d_R_take_45 ?_
    refine z_dup2 X d_R_take_46 rfl rfl ?_
    refine z_iald X r15 0 rfl (j := (32 * j) + v) rfl (by omega) (by omega) d_R_take_47 ?_
    refine z_top (y := .int ((rw_ 32 f15 j) v)) (by rw [rw_in hv]) ?_
    refine z_iconst X d_R_take_48 (v := nI 1) (by decide +kernel) ?_
    refine z_iadd X d_R_take_49 ?_
    refine z_iast X r15 0 rfl (j := (32 * j) + v) rfl (by omega) (by omega) d_R_take_50 ?_
    refine z_named (fun k_2 hk9 => ?_)
    have hR := hR.st15 hk9
    rw [show (upd f15 ((32 * j) + v) (((rw_ 32 f15 j) v) + (nI 1))) = pr (32 * j) 32 (tkC kk (rw_ 32 f15 j) v) f15 from by unfold tkC; rw [if_pos (Or.inl hA), nI_one, ← pr_upd hv, pr_rw]] at hR
    have hfr : ∀ q, q < b + 255 → k_2 q = k q := fun q hq => by rw [hk9]; exact (up_ne (by omega)).trans (hfr q hq)
    clear hk9
    have ⟨ho, r0, r1, r2, r3, r4, r5, r6, r7, r8, r9, r10, r11, r12, r13, r14, r15, r16, r17⟩ := hR
    refine z_goto X d_R_take_51 (tgt := 60) (by decide) ?_
    refine z_aload_n X d_R_take_60 rfl ?_
    refine z_get X ho rfl in_R 20 (by decide) (wq lf_R_63) rfl d_R_take_61 ?_
    refine z_bipush X d_R_take_64 (v := nI 64) (by decide +kernel) ?_
    refine z_iload_n X d_R_take_66 rfl ?_
    refine z_imulN X d_R_take_67 ?_
    refine z_bipush X d_R_take_68 (v := nI 32) (by decide +kernel) ?_
    refine z_iaddN X d_R_take_70 ?_
    refine z_iload_n X d_R_take_71 rfl ?_
    refine z_iaddN X d_R_take_72 ?_
    refine z_dup2 X d_R_take_73 rfl rfl ?_
    refine z_iald X r16 0 rfl (j := 64 * j + (32 + v)) (by rw [Nat.add_assoc]) (by omega) (by omega) d_R_take_74 ?_
    refine z_top (y := .int ((rw_ 64 f16 j) (32 + v))) (by rw [rw_in (by omega)]) ?_
    refine z_iconst X d_R_take_75 (v := nI 1) (by decide +kernel) ?_
    refine z_iadd X d_R_take_76 ?_
    refine z_iast X r16 0 rfl (j := 64 * j + (32 + v)) (by rw [Nat.add_assoc]) (by omega) (by omega) d_R_take_77 ?_
    refine z_named (fun k_3 hk9 => ?_)
    have hR := hR.st16 hk9
    rw [show (upd f16 (64 * j + (32 + v)) (((rw_ 64 f16 j) (32 + v)) + (nI 1))) = pr (64 * j) 64 (upd (rw_ 64 f16 j) (32 + v) ((rw_ 64 f16 j) (32 + v) + 1)) f16 from by rw [nI_one, ← pr_upd (by omega), pr_rw]] at hR
    have hfr : ∀ q, q < b + 255 → k_3 q = k q := fun q hq => by rw [hk9]; exact (up_ne (by omega)).trans (hfr q hq)
    clear hk9
    have ⟨ho, r0, r1, r2, r3, r4, r5, r6, r7, r8, r9, r10, r11, r12, r13, r14, r15, r16, r17⟩ := hR
    refine z_aload_n X d_R_take_78 rfl ?_
    refine z_iload_n X d_R_take_79 rfl ?_
    refine z_callVv X (c_R_compress hR hj hd) ho rfl (cwV 1 X.1.2.2.2.2 (gi_V lm_R_116 vi_R_compress ve_R_compress vn_R vc_R_compress) rfl rfl rfl (by decide +kernel) ⟨Nat.le_of_ble_eq_true rfl, Nat.le_of_ble_eq_true rfl⟩) (As := [.int (nI j)]) (st := []) rfl rfl (Nat.le_of_ble_eq_true rfl) d_R_take_80 ⟨Nat.le_of_ble_eq_true rfl, Nat.le_of_ble_eq_true rfl⟩ (fun k2 hq => ?_)
    obtain ⟨hR9, hf9⟩ := hq
    rw [upd_eq, pr_pr, rw_pr (w := 64) (fun i hi => by rw [upd_ne (by omega)]; unfold rw_; rw [if_neg (by omega)])] at hR9
    exact z_vret X d_R_take_83 (by omega) (by omega) (⟨hR9, fun q hq => (hf9 q hq).trans (hfr q hq)⟩)
  · skip
    refine z_aload_n X d_R_take_24 rfl ?_
    refine z_iload_n X d_R_take_25 rfl ?_
    refine z_callVi X (c_R_counters hR hj) ho rfl (cwV 1 X.1.2.2.2.2 (gi_V lm_R_110 vi_R_counters ve_R_counters vn_R vc_R_counters) rfl rfl rfl (by decide +kernel) ⟨Nat.le_of_ble_eq_true rfl, Nat.le_of_ble_eq_true rfl⟩) (As := [.int (nI j)]) (st := []) rfl rfl (Nat.le_of_ble_eq_true rfl) d_R_take_26 ⟨Nat.le_of_ble_eq_true rfl, Nat.le_of_ble_eq_true rfl⟩ (fun z k2 hq => ?_)
    obtain ⟨rfl, hk9⟩ := hq
    have hk9 := hk9.symm
    subst hk9
    have hc32 : cn (rw_ 32 f15 j) ≤ 32 := ct_le _ _
    refine z_aload_n X d_R_take_29 rfl ?_
    refine z_get X ho rfl in_R 0 (by decide) (wq lf_R_69) rfl d_R_take_30 ?_
    refine z_icmp_geN X d_R_take_33 (tgt := 54) (by decide) (by omega) (by omega) (fun hB => ?_) (fun hB => ?_)
    · skip
      refine z_aload_n X d_R_take_54 rfl ?_
      refine z_iload_n X d_R_take_55 rfl ?_
      refine z_iconst X d_R_take_56 (v := nI 1) (by decide +kernel) ?_
      refine z_callVv X (c_R_lower hR hj) ho rfl (cwV 2 X.1.2.2.2.2 (gi_V lm_R_113 vi_R_lower ve_R_lower vn_R vc_R_lower) rfl rfl rfl (by decide +kernel) ⟨Nat.le_of_ble_eq_true rfl, Nat.le_of_ble_eq_true rfl⟩) (As := [.int (nI j), .int (nI 1)]) (st := []) rfl rfl (Nat.le_of_ble_eq_true rfl) d_R_take_57 ⟨Nat.le_of_ble_eq_true rfl, Nat.le_of_ble_eq_true rfl⟩ (fun k2 hq => ?_)
      obtain ⟨hR9, hf9⟩ := hq
      rw [show lw (rw_ 32 f15 j) (nI 1) = tkC kk (rw_ 32 f15 j) v by unfold tkC; rw [if_neg (fun q => q.elim hA (fun q => by omega)), nI_one]] at hR9
      have hR := hR9
      have hfr : ∀ q, q < b + 255 → k2 q = k q := fun q hq => (hf9 q hq).trans (hfr q hq)
      have ⟨ho, r0, r1, r2, r3, r4, r5, r6, r7, r8, r9, r10, r11, r12, r13, r14, r15, r16, r17⟩ := hR
      refine z_aload_n X d_R_take_60 rfl ?_
      refine z_get X ho rfl in_R 20 (by decide) (wq lf_R_63) rfl d_R_take_61 ?_
      refine z_bipush X d_R_take_64 (v := nI 64) (by decide +kernel) ?_
      refine z_iload_n X d_R_take_66 rfl ?_
      refine z_imulN X d_R_take_67 ?_
      refine z_bipush X d_R_take_68 (v := nI 32) (by decide +kernel) ?_
      refine z_iaddN X d_R_take_70 ?_
      refine z_iload_n X d_R_take_71 rfl ?_
      refine z_iaddN X d_R_take_72 ?_
      refine z_dup2 X d_R_take_73 rfl rfl ?_
      refine z_iald X r16 0 rfl (j := 64 * j + (32 + v)) (by rw [Nat.add_assoc]) (by omega) (by omega) d_R_take_74 ?_
      refine z_top (y := .int ((rw_ 64 f16 j) (32 + v))) (by rw [rw_in (by omega)]) ?_
      refine z_iconst X d_R_take_75 (v := nI 1) (by decide +kernel) ?_
      refine z_iadd X d_R_take_76 ?_
      refine z_iast X r16 0 rfl (j := 64 * j + (32 + v)) (by rw [Nat.add_assoc]) (by omega) (by omega) d_R_take_77 ?_
      refine z_named (fun k_4 hk9 => ?_)
      have hR := hR.st16 hk9
      rw [show (upd f16 (64 * j + (32 + v)) (((rw_ 64 f16 j) (32 + v)) + (nI 1))) = pr (64 * j) 64 (upd (rw_ 64 f16 j) (32 + v) ((rw_ 64 f16 j) (32 + v) + 1)) f16 from by rw [nI_one, ← pr_upd (by omega), pr_rw]] at hR
      have hfr : ∀ q, q < b + 255 → k_4 q = k q := fun q hq => by rw [hk9]; exact (up_ne (by omega)).trans (hfr q hq)
      clear hk9
      have ⟨ho, r0, r1, r2, r3, r4, r5, r6, r7, r8, r9, r10, r11, r12, r13, r14, r15, r16, r17⟩ := hR
      refine z_aload_n X d_R_take_78 rfl ?_
      refine z_iload_n X d_R_take_79 rfl ?_
      refine z_callVv X (c_R_compress hR hj hd) ho rfl (cwV 1 X.1.2.2.2.2 (gi_V lm_R_116 vi_R_compress ve_R_compress vn_R vc_R_compress) rfl rfl rfl (by decide +kernel) ⟨Nat.le_of_ble_eq_true rfl, Nat.le_of_ble_eq_true rfl⟩) (As := [.int (nI j)]) (st := []) rfl rfl (Nat.le_of_ble_eq_true rfl) d_R_take_80 ⟨Nat.le_of_ble_eq_true rfl, Nat.le_of_ble_eq_true rfl⟩ (fun k2 hq => ?_)
      obtain ⟨hR9, hf9⟩ := hq
      rw [upd_eq, pr_pr, rw_pr (w := 64) (fun i hi => by rw [upd_ne (by omega)]; unfold rw_; rw [if_neg (by omega)])] at hR9
      exact z_vret X d_R_take_83 (by omega) (by omega) (⟨hR9, fun q hq => (hf9 q hq).trans (hfr q hq)⟩)
    · skip
      refine z_aload_n X d_R_take_36 rfl ?_
      refine z_get X ho rfl in_R 19 (by decide) (wq lf_R_60) rfl d_R_take_37 ?_
      refine z_bipush X d_R_take_40 (v := nI 32) (by decide +kernel) ?_
      refine z_iload_n X d_R_take_42 rfl ?_
      refine z_imulN X d_R_take_43 ?_
      refine z_iload_n X d_R_take_44 rfl ?_
      refine z_iaddN X d_R_take_45 ?_
      refine z_dup2 X d_R_take_46 rfl rfl ?_
      refine z_iald X r15 0 rfl (j := (32 * j) + v) rfl (by omega) (by omega) d_R_take_47 ?_
      refine z_top (y := .int ((rw_ 32 f15 j) v)) (by rw [rw_in hv]) ?_
      refine z_iconst X d_R_take_48 (v := nI 1) (by decide +kernel) ?_
      refine z_iadd X d_R_take_49 ?_
      refine z_iast X r15 0 rfl (j := (32 * j) + v) rfl (by omega) (by omega) d_R_take_50 ?_
      refine z_named (fun k_5 hk9 => ?_)
      have hR := hR.st15 hk9
      rw [show (upd f15 ((32 * j) + v) (((rw_ 32 f15 j) v) + (nI 1))) = pr (32 * j) 32 (tkC kk (rw_ 32 f15 j) v) f15 from by unfold tkC; rw [if_pos (Or.inr hB), nI_one, ← pr_upd hv, pr_rw]] at hR
      have hfr : ∀ q, q < b + 255 → k_5 q = k q := fun q hq => by rw [hk9]; exact (up_ne (by omega)).trans (hfr q hq)
      clear hk9
      have ⟨ho, r0, r1, r2, r3, r4, r5, r6, r7, r8, r9, r10, r11, r12, r13, r14, r15, r16, r17⟩ := hR
      refine z_goto X d_R_take_51 (tgt := 60) (by decide) ?_
      refine z_aload_n X d_R_take_60 rfl ?_
      refine z_get X ho rfl in_R 20 (by decide) (wq lf_R_63) rfl d_R_take_61 ?_
      refine z_bipush X d_R_take_64 (v := nI 64) (by decide +kernel) ?_
      refine z_iload_n X d_R_take_66 rfl ?_
      refine z_imulN X d_R_take_67 ?_
      refine z_bipush X d_R_take_68 (v := nI 32) (by decide +kernel) ?_
      refine z_iaddN X d_R_take_70 ?_
      refine z_iload_n X d_R_take_71 rfl ?_
      refine z_iaddN X d_R_take_72 ?_
      refine z_dup2 X d_R_take_73 rfl rfl ?_
      refine z_iald X r16 0 rfl (j := 64 * j + (32 + v)) (by rw [Nat.add_assoc]) (by omega) (by omega) d_R_take_74 ?_
      refine z_top (y := .int ((rw_ 64 f16 j) (32 + v))) (by rw [rw_in (by omega)]) ?_
      refine z_iconst X d_R_take_75 (v := nI 1) (by decide +kernel) ?_
      refine z_iadd X d_R_take_76 ?_
      refine z_iast X r16 0 rfl (j := 64 * j + (32 + v)) (by rw [Nat.add_assoc]) (by omega) (by omega) d_R_take_77 ?_
      refine z_named (fun k_6 hk9 => ?_)
      have hR := hR.st16 hk9
      rw [show (upd f16 (64 * j + (32 + v)) (((rw_ 64 f16 j) (32 + v)) + (nI 1))) = pr (64 * j) 64 (upd (rw_ 64 f16 j) (32 + v) ((rw_ 64 f16 j) (32 + v) + 1)) f16 from by rw [nI_one, ← pr_upd (by omega), pr_rw]] at hR
      have hfr : ∀ q, q < b + 255 → k_6 q = k q := fun q hq => by rw [hk9]; exact (up_ne (by omega)).trans (hfr q hq)
      clear hk9
      have ⟨ho, r0, r1, r2, r3, r4, r5, r6, r7, r8, r9, r10, r11, r12, r13, r14, r15, r16, r17⟩ := hR
      refine z_aload_n X d_R_take_78 rfl ?_
      refine z_iload_n X d_R_take_79 rfl ?_
      refine z_callVv X (c_R_compress hR hj hd) ho rfl (cwV 1 X.1.2.2.2.2 (gi_V lm_R_116 vi_R_compress ve_R_compress vn_R vc_R_compress) rfl rfl rfl (by decide +kernel) ⟨Nat.le_of_ble_eq_true rfl, Nat.le_of_ble_eq_true rfl⟩) (As := [.int (nI j)]) (st := []) rfl rfl (Nat.le_of_ble_eq_true rfl) d_R_take_80 ⟨Nat.le_of_ble_eq_true rfl, Nat.le_of_ble_eq_true rfl⟩ (fun k2 hq => ?_)
      obtain ⟨hR9, hf9⟩ := hq
      rw [upd_eq, pr_pr, rw_pr (w := 64) (fun i hi => by rw [upd_ne (by omega)]; unfold rw_; rw [if_neg (by omega)])] at hR9
      exact z_vret X d_R_take_83 (by omega) (by omega) (⟨hR9, fun q hq => (hf9 q hq).trans (hfr q hq)⟩)
end
