/-! Contracts of the reference, 7: report, copy, the exact questions -/
def s12 (f : Nat → Int32) : Nat → Int32
  | 0 => 0
  | l + 1 => s12 f l + f l
def sj (jl : Nat → Int32) (a : Int64) : Nat → Int64
  | 0 => a
  | i + 1 => sj jl a i + (jl i).toInt64
def sjs (f3 : Nat → Int32) (kn : Nat → Nat) : Nat → Int64
  | 0 => 0
  | l + 1 => sj (fun i => f3 (48 * l + i)) (sjs f3 kn l) (kn l)
def xs1 (g : Bool) (best v : Int32) : Int32 := if best < 0 ∨ (if g = true then best < v else v < best) then v else best
def xj (g : Bool) (jl : Nat → Int32) (a : Int32) : Nat → Int32
  | 0 => a
  | i + 1 => xs1 g (xj g jl a i) (jl i)
def xjs (g : Bool) (f3 : Nat → Int32) (kn : Nat → Nat) : Nat → Int32
  | 0 => -1
  | l + 1 => xj g (fun i => f3 (48 * l + i)) (xjs g f3 kn l) (kn l)
section
variable {l : Launch} {D : va_G} {tI tZ tN tM : ClassId} {b N : Nat} {k : Nat → va_E}
set_option maxHeartbeats 4000000 in
set_option maxRecDepth 100000 in
/-- R_report -/
theorem c_R_report {kk nc : Nat} {dv ms : Int32} {f0 f1 f2 f3 f4 f5 f6 f7 f8 f9 f10 f11 f12 f13 f14 f15 f16 f17 : Nat → Int32} {x : Int32} (hR : RW tI tZ b N k kk dv nc ms f0 f1 f2 f3 f4 f5 f6 f7 f8 f9 f10 f11 f12 f13 f14 f15 f16 f17) (hnc : nc ≤ 12) (hn1 : 1 ≤ nc)  : Met l y_R_report (wy y_R_report b_R_report 4 (some .int)) (rm 1 0 0) (zPc D (tyl tI tZ tN tM) b N k [.ref (b + 255), .int x]) (zQi D b N (fun z k2 => (isn nc x = true ∧ ¬ x = 0 ∧ 0 ≤ sw f9 0 12 → z = ms + 1 ∧ (RW tI tZ b N k2 kk dv nc (ms + 1) f0 f1 (upd f2 x.toNatClampNeg (f2 x.toNatClampNeg + 1)) f3 f4 f5 f6 f7 f8 (upd f9 (sw f9 0 12).toNatClampNeg (ms + 1)) (upd f10 (sw f9 0 12).toNatClampNeg x) (upd f11 (sw f9 0 12).toNatClampNeg (f2 x.toNatClampNeg + 1)) (pr (12 * (sw f9 0 12).toNatClampNeg) 12 (knw f0 f1 f4 f7 f8 f13 nc x.toNatClampNeg) f12) (knw f0 f1 f4 f7 f8 f13 nc x.toNatClampNeg) f14 f15 f16 f17) ∧ ∀ q, q < b + 255 → k2 q = k q) ∧ (¬ (isn nc x = true ∧ ¬ x = 0 ∧ 0 ≤ sw f9 0 12) → z = -1 ∧ k2 = k))) 0 0 (zA b) := by
  refine z_met (own := R_R) (by decide) rfl rfl (Nat.le_of_ble_eq_true rfl) [some (.ref (b + 255)), some (.int x), none, none] rfl ?_
  intro p e s m args below meth c X hin
  have ⟨ho, r0, r1, r2, r3, r4, r5, r6, r7, r8, r9, r10, r11, r12, r13, r14, r15, r16, r17⟩ := hR
  have hfr : ∀ q, q < b + 255 → k q = k q := fun _ _ => rfl
  refine z_aload_n X d_R_report_0 rfl ?_
  refine z_callVi X (c_R_freePlace hR) ho rfl (cwV 0 X.1.2.2.2.2 (gi_V lm_R_86 vi_R_freePlace ve_R_freePlace vn_R vc_R_freePlace) rfl rfl rfl (by decide +kernel) ⟨Nat.le_of_ble_eq_true rfl, Nat.le_of_ble_eq_true rfl⟩) (As := []) (st := []) rfl rfl (Nat.le_of_ble_eq_true rfl) d_R_report_1 ⟨Nat.le_of_ble_eq_true rfl, Nat.le_of_ble_eq_true rfl⟩ (fun z k2 hq => ?_)
  obtain ⟨rfl, hk9⟩ := hq
  have hk9 := hk9.symm
  subst hk9
  refine z_istore_n X d_R_report_4 (by decide) rfl ?_
  refine z_lv (lv2 := [some (.ref (b + 255)), some (.int x), some (.int (sw f9 0 12)), none]) (fun _ _ q => q) ?_
  refine z_aload_n X d_R_report_5 rfl ?_
  refine z_iload_n X d_R_report_6 rfl ?_
  refine z_callVi X (c_R_isNode hR) ho rfl (cwV 1 X.1.2.2.2.2 (gi_V lm_R_75 vi_R_isNode ve_R_isNode vn_R vc_R_isNode) rfl rfl rfl (by decide +kernel) ⟨Nat.le_of_ble_eq_true rfl, Nat.le_of_ble_eq_true rfl⟩) (As := [.int x]) (st := []) rfl rfl (Nat.le_of_ble_eq_true rfl) d_R_report_7 ⟨Nat.le_of_ble_eq_true rfl, Nat.le_of_ble_eq_true rfl⟩ (fun z k2 hq => ?_)
  obtain ⟨rfl, hk9⟩ := hq
  have hk9 := hk9.symm
  subst hk9
  cases hx : isn nc x
  · skip
    refine z_if_eqN X d_R_report_10 (tgt := 21) (by decide) (by decide) (fun _ => ?_) (fun h => absurd h (by decide))
    refine z_iconst X d_R_report_21 (v := -1) (by decide +kernel) ?_
    exact z_iret X d_R_report_22 (by omega) (by omega) (⟨fun q => absurd q (by simp), fun _ => ⟨rfl, rfl⟩⟩)
  · skip
    refine z_if_eqN X d_R_report_10 (tgt := 21) (by decide) (by decide) (fun h => absurd h (by decide)) (fun _ => ?_)
    refine z_iload_n X d_R_report_13 rfl ?_
    refine z_if_eq X d_R_report_14 (tgt := 21) (by decide) (fun hB => ?_) (fun hB => ?_)
    · skip
      refine z_iconst X d_R_report_21 (v := -1) (by decide +kernel) ?_
      exact z_iret X d_R_report_22 (by omega) (by omega) (⟨fun q => absurd q (fun q => q.2.1 hB), fun _ => ⟨rfl, rfl⟩⟩)
    · skip
      obtain ⟨j, hj, rfl⟩ := isn_t (by omega) hx
      rw [nI_clamp (n := j) (by omega)]
      rcases sw_cases f9 0 12 (by omega) with ⟨hs, -⟩ | ⟨p, hp, hs, hq⟩
      · rw [hs]
        refine z_lv (lv2 := [some (.ref (b + 255)), some (.int (nI j)), some (.int (-1)), none]) (fun _ _ q => q) ?_
        refine z_iload_n X d_R_report_17 rfl ?_
        refine z_if_ge X d_R_report_18 (tgt := 23) (by decide) (fun h => absurd h (by decide)) (fun _ => ?_)
        refine z_iconst X d_R_report_21 (v := -1) (by decide +kernel) ?_
        exact z_iret X d_R_report_22 (by omega) (by omega) (⟨fun q => absurd q (fun q => absurd q.2.2 (by decide)), fun _ => ⟨rfl, rfl⟩⟩)
      · rw [hs, nI_clamp (n := p) (by omega)]
        refine z_lv (lv2 := [some (.ref (b + 255)), some (.int (nI j)), some (.int (nI p)), none]) (fun _ _ q => q) ?_
        refine z_iload_n X d_R_report_17 rfl ?_
        refine z_if_geN X d_R_report_18 (tgt := 23) (by decide) (by omega) (fun _ => ?_) (fun h => absurd h (by omega))
        refine z_aload_n X d_R_report_23 rfl ?_
        refine z_iload_n X d_R_report_24 rfl ?_
        refine z_callVv X (c_R_know hR (j := j) (by omega) hnc hn1) ho rfl (cwV 1 X.1.2.2.2.2 (gi_V lm_R_90 vi_R_know ve_R_know vn_R vc_R_know) rfl rfl rfl (by decide +kernel) ⟨Nat.le_of_ble_eq_true rfl, Nat.le_of_ble_eq_true rfl⟩) (As := [.int (nI j)]) (st := []) rfl rfl (Nat.le_of_ble_eq_true rfl) d_R_report_25 ⟨Nat.le_of_ble_eq_true rfl, Nat.le_of_ble_eq_true rfl⟩ (fun k2 hq => ?_)
        obtain ⟨hR9, hf9⟩ := hq
        have hR := hR9
        have hfr : ∀ q, q < b + 255 → k2 q = k q := fun q hq => (hf9 q hq).trans (hfr q hq)
        have ⟨ho, r0, r1, r2, r3, r4, r5, r6, r7, r8, r9, r10, r11, r12, r13, r14, r15, r16, r17⟩ := hR
        refine z_aload_n X d_R_report_28 rfl ?_
        refine z_get X ho rfl in_R 5 (by decide) (wq lf_R_21) rfl d_R_report_29 ?_
        refine z_iload_n X d_R_report_32 rfl ?_
        refine z_dup2 X d_R_report_33 rfl rfl ?_
        refine z_iald X r2 0 rfl (j := j) rfl (by omega) (by omega) d_R_report_34 ?_
        refine z_iconst X d_R_report_35 (v := nI 1) (by decide +kernel) ?_
        refine z_iadd X d_R_report_36 ?_
        refine z_iast X r2 0 rfl (j := j) rfl (by omega) (by omega) d_R_report_37 ?_
        refine z_named (fun k_1 hk9 => ?_)
        have hR := hR.st2 hk9
        rw [show (upd f2 j ((f2 j) + (nI 1))) = upd f2 j (f2 j + 1) from by rw [nI_one]] at hR
        have hfr : ∀ q, q < b + 255 → k_1 q = k q := fun q hq => by rw [hk9]; exact (up_ne (by omega)).trans (hfr q hq)
        clear hk9
        have ⟨ho, r0, r1, r2, r3, r4, r5, r6, r7, r8, r9, r10, r11, r12, r13, r14, r15, r16, r17⟩ := hR
        refine z_aload_n X d_R_report_38 rfl ?_
        refine z_dup X d_R_report_39 rfl ?_
        refine z_get X ho rfl in_R 12 (by decide) (wq lf_R_93) rfl d_R_report_40 ?_
        refine z_iconst X d_R_report_43 (v := nI 1) (by decide +kernel) ?_
        refine z_iadd X d_R_report_44 ?_
        refine z_put X ho rfl in_R ty_R_ok n_R 12 (by decide) (wq lf_R_93) rfl rfl rfl (Nat.le_of_ble_eq_true rfl) d_R_report_45 ?_
        refine z_named (fun k_2 hk9 => ?_)
        have hR := hR.obj hk9
        have hfr : ∀ q, q < b + 255 → k_2 q = k q := fun q hq => by rw [hk9]; exact (up_ne (by omega)).trans (hfr q hq)
        clear hk9
        have ⟨ho, r0, r1, r2, r3, r4, r5, r6, r7, r8, r9, r10, r11, r12, r13, r14, r15, r16, r17⟩ := hR
        refine z_aload_n X d_R_report_48 rfl ?_
        refine z_get X ho rfl in_R 13 (by decide) (wq lf_R_42) rfl d_R_report_49 ?_
        refine z_iload_n X d_R_report_52 rfl ?_
        refine z_aload_n X d_R_report_53 rfl ?_
        refine z_get X ho rfl in_R 12 (by decide) (wq lf_R_93) rfl d_R_report_54 ?_
        refine z_iast X r9 0 rfl (j := p) rfl (by omega) (by omega) d_R_report_57 ?_
        refine z_named (fun k_3 hk9 => ?_)
        have hR := hR.st9 hk9
        rw [show (upd f9 p (ms + (nI 1))) = upd f9 p (ms + 1) from by rw [nI_one]] at hR
        have hfr : ∀ q, q < b + 255 → k_3 q = k q := fun q hq => by rw [hk9]; exact (up_ne (by omega)).trans (hfr q hq)
        clear hk9
        have ⟨ho, r0, r1, r2, r3, r4, r5, r6, r7, r8, r9, r10, r11, r12, r13, r14, r15, r16, r17⟩ := hR
        refine z_aload_n X d_R_report_58 rfl ?_
        refine z_get X ho rfl in_R 14 (by decide) (wq lf_R_45) rfl d_R_report_59 ?_
        refine z_iload_n X d_R_report_62 rfl ?_
        refine z_iload_n X d_R_report_63 rfl ?_
        refine z_iast X r10 0 rfl (j := p) rfl (by omega) (by omega) d_R_report_64 ?_
        refine z_named (fun k_4 hk9 => ?_)
        have hR := hR.st10 hk9
        have hfr : ∀ q, q < b + 255 → k_4 q = k q := fun q hq => by rw [hk9]; exact (up_ne (by omega)).trans (hfr q hq)
        clear hk9
        have ⟨ho, r0, r1, r2, r3, r4, r5, r6, r7, r8, r9, r10, r11, r12, r13, r14, r15, r16, r17⟩ := hR
        refine z_aload_n X d_R_report_65 rfl ?_
        refine z_get X ho rfl in_R 15 (by decide) (wq lf_R_48) rfl d_R_report_66 ?_
        refine z_iload_n X d_R_report_69 rfl ?_
        refine z_aload_n X d_R_report_70 rfl ?_
        refine z_get X ho rfl in_R 5 (by decide) (wq lf_R_21) rfl d_R_report_71 ?_
        refine z_iload_n X d_R_report_74 rfl ?_
        refine z_iald X r2 0 rfl (j := j) rfl (by omega) (by omega) d_R_report_75 ?_
        refine z_top (y := .int (f2 j + 1)) (by rw [upd_eq]) ?_
        refine z_iast X r11 0 rfl (j := p) rfl (by omega) (by omega) d_R_report_76 ?_
        refine z_named (fun k_5 hk9 => ?_)
        have hR := hR.st11 hk9
        have hfr : ∀ q, q < b + 255 → k_5 q = k q := fun q hq => by rw [hk9]; exact (up_ne (by omega)).trans (hfr q hq)
        clear hk9
        have ⟨ho, r0, r1, r2, r3, r4, r5, r6, r7, r8, r9, r10, r11, r12, r13, r14, r15, r16, r17⟩ := hR
        refine z_iconst X d_R_report_77 (v := nI 0) (by decide +kernel) ?_
        refine z_istore_n X d_R_report_78 (by decide) rfl ?_
        refine z_lv (lv2 := [some (.ref (b + 255)), some (.int (nI j)), some (.int (nI p)), some (.int (nI 0))]) (fun _ _ q => q) ?_
        rw [nI_one] at hR
        have ⟨ho, r0, r1, r2, r3, r4, r5, r6, r7, r8, r9, r10, r11, r12, r13, r14, r15, r16, r17⟩ := hR
        refine z_loop (σ := Nat → va_E) (K := fun _ k9 => k9) (LV := fun v _ => [some (.ref (b + 255)), some (.int (nI j)), some (.int (nI p)), some (.int (nI v))]) (I := fun v k9 => (RW tI tZ b N k9 kk dv nc (ms + 1) f0 f1 (upd f2 j (f2 j + 1)) f3 f4 f5 f6 f7 f8 (upd f9 p (ms + 1)) (upd f10 p (nI j)) (upd f11 p (f2 j + 1)) (pr (12 * p) v (knw f0 f1 f4 f7 f8 f13 nc j) f12) (knw f0 f1 f4 f7 f8 f13 nc j) f14 f15 f16 f17) ∧ (∀ q, q < b + 255 → k9 q = k q)) 12 0 k_5 (by omega) (⟨by rw [pr_0]; exact hR, hfr⟩) (rfl) (rfl) ?_ ?_
        · intro k9 hI
          obtain ⟨hR, hfr⟩ := hI
          have ⟨ho, r0, r1, r2, r3, r4, r5, r6, r7, r8, r9, r10, r11, r12, r13, r14, r15, r16, r17⟩ := hR
          refine z_lv (lv2 := [some (.ref (b + 255)), some (.int (nI j)), some (.int (nI p)), some (.int (nI 12))]) (fun _ _ q => q) ?_
          refine z_iload_n X d_R_report_79 rfl ?_
          refine z_bipush X d_R_report_80 (v := nI 12) (by decide +kernel) ?_
          refine z_icmp_geN X d_R_report_82 (tgt := 108) (by decide) (by omega) (by omega) (fun _ => ?_) (fun h => absurd h (by omega))
          refine z_aload_n X d_R_report_108 rfl ?_
          refine z_get X ho rfl in_R 12 (by decide) (wq lf_R_93) rfl d_R_report_109 ?_
          exact z_iret X d_R_report_112 (by omega) (by omega) (⟨fun _ => ⟨rfl, hR, hfr⟩, fun q => absurd ⟨rfl, hB, nI_pos' (by omega)⟩ q⟩)
        · intro v k9 hv hI ih
          obtain ⟨hR, hfr⟩ := hI
          have ⟨ho, r0, r1, r2, r3, r4, r5, r6, r7, r8, r9, r10, r11, r12, r13, r14, r15, r16, r17⟩ := hR
          refine z_lv (lv2 := [some (.ref (b + 255)), some (.int (nI j)), some (.int (nI p)), some (.int (nI v))]) (fun _ _ q => q) ?_
          refine z_iload_n X d_R_report_79 rfl ?_
          refine z_bipush X d_R_report_80 (v := nI 12) (by decide +kernel) ?_
          refine z_icmp_geN X d_R_report_82 (tgt := 108) (by decide) (by omega) (by omega) (fun h => absurd h (by omega)) (fun _ => ?_)
          refine z_aload_n X d_R_report_85 rfl ?_
          refine z_get X ho rfl in_R 16 (by decide) (wq lf_R_51) rfl d_R_report_86 ?_
          refine z_bipush X d_R_report_89 (v := nI 12) (by decide +kernel) ?_
          refine z_iload_n X d_R_report_91 rfl ?_
          refine z_imulN X d_R_report_92 ?_
          refine z_iload_n X d_R_report_93 rfl ?_
          refine z_iaddN X d_R_report_94 ?_
          refine z_aload_n X d_R_report_95 rfl ?_
          refine z_get X ho rfl in_R 17 (by decide) (wq lf_R_54) rfl d_R_report_96 ?_
          refine z_iload_n X d_R_report_99 rfl ?_
          refine z_iald X r13 0 rfl (j := v) rfl (by omega) (by omega) d_R_report_100 ?_
          refine z_iast X r12 0 rfl (j := (12 * p) + v) rfl (by omega) (by omega) d_R_report_101 ?_
          refine z_named (fun k_6 hk9 => ?_)
          have hR := hR.st12 hk9
          rw [show (upd (pr (12 * p) v (knw f0 f1 f4 f7 f8 f13 nc j) f12) ((12 * p) + v) ((knw f0 f1 f4 f7 f8 f13 nc j) v)) = pr (12 * p) (v + 1) (knw f0 f1 f4 f7 f8 f13 nc j) f12 from pr_succ _ _ _ _ rfl] at hR
          have hfr : ∀ q, q < b + 255 → k_6 q = k q := fun q hq => by rw [hk9]; exact (up_ne (by omega)).trans (hfr q hq)
          clear hk9
          have ⟨ho, r0, r1, r2, r3, r4, r5, r6, r7, r8, r9, r10, r11, r12, r13, r14, r15, r16, r17⟩ := hR
          refine z_iincU X d_R_report_102 rfl (by decide) rfl ?_
          refine z_lv (lv2 := [some (.ref (b + 255)), some (.int (nI j)), some (.int (nI p)), some (.int (nI (v + 1)))]) (fun _ _ q => q) ?_
          refine z_goto X d_R_report_105 (tgt := 79) (by decide) ?_
          exact z_at (ih k_6 ⟨hR, hfr⟩) rfl rfl
set_option maxHeartbeats 4000000 in
set_option maxRecDepth 100000 in
/-- R_copy -/
theorem c_R_copy {kk nc : Nat} {dv ms : Int32} {f0 f1 f2 f3 f4 f5 f6 f7 f8 f9 f10 f11 f12 f13 f14 f15 f16 f17 : Nat → Int32} {x : Int32} (hR : RW tI tZ b N k kk dv nc ms f0 f1 f2 f3 f4 f5 f6 f7 f8 f9 f10 f11 f12 f13 f14 f15 f16 f17)  : Met l y_R_copy (wy y_R_copy b_R_copy 5 (some .int)) (rm 1 0 0) (zPc D (tyl tI tZ tN tM) b N k [.ref (b + 255), .int x]) (zQi D b N (fun z k2 => (0 ≤ so f9 x ∧ 0 ≤ sw f9 0 12 → z = ms + 1 ∧ (RW tI tZ b N k2 kk dv nc (ms + 1) f0 f1 f2 f3 f4 f5 f6 f7 f8 (upd f9 (sw f9 0 12).toNatClampNeg (ms + 1)) (upd f10 (sw f9 0 12).toNatClampNeg (f10 (so f9 x).toNatClampNeg)) (upd f11 (sw f9 0 12).toNatClampNeg (f11 (so f9 x).toNatClampNeg)) (pr (12 * (sw f9 0 12).toNatClampNeg) 12 (fun l => f12 (12 * (so f9 x).toNatClampNeg + l)) f12) f13 f14 f15 f16 f17) ∧ ∀ q, q < b + 255 → k2 q = k q) ∧ (¬ (0 ≤ so f9 x ∧ 0 ≤ sw f9 0 12) → z = -1 ∧ k2 = k))) 0 0 (zA b) := by
  refine z_met (own := R_R) (by decide) rfl rfl (Nat.le_of_ble_eq_true rfl) [some (.ref (b + 255)), some (.int x), none, none, none] rfl ?_
  intro p e s m args below meth c X hin
  have ⟨ho, r0, r1, r2, r3, r4, r5, r6, r7, r8, r9, r10, r11, r12, r13, r14, r15, r16, r17⟩ := hR
  have hfr : ∀ q, q < b + 255 → k q = k q := fun _ _ => rfl
  refine z_aload_n X d_R_copy_0 rfl ?_
  refine z_iload_n X d_R_copy_1 rfl ?_
  refine z_callVi X (c_R_placeOf hR) ho rfl (cwV 1 X.1.2.2.2.2 (gi_V lm_R_96 vi_R_placeOf ve_R_placeOf vn_R vc_R_placeOf) rfl rfl rfl (by decide +kernel) ⟨Nat.le_of_ble_eq_true rfl, Nat.le_of_ble_eq_true rfl⟩) (As := [.int x]) (st := []) rfl rfl (Nat.le_of_ble_eq_true rfl) d_R_copy_2 ⟨Nat.le_of_ble_eq_true rfl, Nat.le_of_ble_eq_true rfl⟩ (fun z k2 hq => ?_)
  obtain ⟨rfl, hk9⟩ := hq
  have hk9 := hk9.symm
  subst hk9
  refine z_istore_n X d_R_copy_5 (by decide) rfl ?_
  refine z_lv (lv2 := [some (.ref (b + 255)), some (.int x), some (.int (so f9 x)), none, none]) (fun _ _ q => q) ?_
  refine z_aload_n X d_R_copy_6 rfl ?_
  refine z_callVi X (c_R_freePlace hR) ho rfl (cwV 0 X.1.2.2.2.2 (gi_V lm_R_86 vi_R_freePlace ve_R_freePlace vn_R vc_R_freePlace) rfl rfl rfl (by decide +kernel) ⟨Nat.le_of_ble_eq_true rfl, Nat.le_of_ble_eq_true rfl⟩) (As := []) (st := []) rfl rfl (Nat.le_of_ble_eq_true rfl) d_R_copy_7 ⟨Nat.le_of_ble_eq_true rfl, Nat.le_of_ble_eq_true rfl⟩ (fun z k2 hq => ?_)
  obtain ⟨rfl, hk9⟩ := hq
  have hk9 := hk9.symm
  subst hk9
  refine z_istore_n X d_R_copy_10 (by decide) rfl ?_
  refine z_lv (lv2 := [some (.ref (b + 255)), some (.int x), some (.int (so f9 x)), some (.int (sw f9 0 12)), none]) (fun _ _ q => q) ?_
  rcases so_cases f9 x with hs | ⟨o, ho2, hs, hq1, hq2⟩
  · rw [hs]
    refine z_lv (lv2 := [some (.ref (b + 255)), some (.int x), some (.int (-1)), some (.int (sw f9 0 12)), none]) (fun _ _ q => q) ?_
    refine z_iload_n X d_R_copy_11 rfl ?_
    refine z_if_lt X d_R_copy_12 (tgt := 19) (by decide) (fun _ => ?_) (fun h => absurd h (by decide))
    refine z_iconst X d_R_copy_19 (v := -1) (by decide +kernel) ?_
    exact z_iret X d_R_copy_20 (by omega) (by omega) (⟨fun q => absurd q (fun q => absurd q.1 (by decide)), fun _ => ⟨rfl, rfl⟩⟩)
  · rw [hs]
    rcases sw_cases f9 0 12 (by omega) with ⟨hs2, -⟩ | ⟨p, hp, hs2, hq3⟩
    · rw [hs2]
      refine z_lv (lv2 := [some (.ref (b + 255)), some (.int x), some (.int (nI o)), some (.int (-1)), none]) (fun _ _ q => q) ?_
      refine z_iload_n X d_R_copy_11 rfl ?_
      refine z_if_ltN X d_R_copy_12 (tgt := 19) (by decide) (by omega) (fun h => absurd h (by omega)) (fun _ => ?_)
      refine z_iload_n X d_R_copy_15 rfl ?_
      refine z_if_ge X d_R_copy_16 (tgt := 21) (by decide) (fun h => absurd h (by decide)) (fun _ => ?_)
      refine z_iconst X d_R_copy_19 (v := -1) (by decide +kernel) ?_
      exact z_iret X d_R_copy_20 (by omega) (by omega) (⟨fun q => absurd q (fun q => absurd q.2 (by decide)), fun _ => ⟨rfl, rfl⟩⟩)
    · rw [hs2, nI_clamp (n := p) (by omega), nI_clamp (n := o) (by omega)]
      refine z_lv (lv2 := [some (.ref (b + 255)), some (.int x), some (.int (nI o)), some (.int (nI p)), none]) (fun _ _ q => q) ?_
      have hop : o ≠ p := fun h => by subst h; rw [hq3] at hq1; rw [← hq1] at hq2; exact absurd hq2 (by decide)
      refine z_iload_n X d_R_copy_11 rfl ?_
      refine z_if_ltN X d_R_copy_12 (tgt := 19) (by decide) (by omega) (fun h => absurd h (by omega)) (fun _ => ?_)
      refine z_iload_n X d_R_copy_15 rfl ?_
      refine z_if_geN X d_R_copy_16 (tgt := 21) (by decide) (by omega) (fun _ => ?_) (fun h => absurd h (by omega))
      refine z_aload_n X d_R_copy_21 rfl ?_
      refine z_dup X d_R_copy_22 rfl ?_
      refine z_get X ho rfl in_R 12 (by decide) (wq lf_R_93) rfl d_R_copy_23 ?_
      refine z_iconst X d_R_copy_26 (v := nI 1) (by decide +kernel) ?_
      refine z_iadd X d_R_copy_27 ?_
      refine z_put X ho rfl in_R ty_R_ok n_R 12 (by decide) (wq lf_R_93) rfl rfl rfl (Nat.le_of_ble_eq_true rfl) d_R_copy_28 ?_
      refine z_named (fun k_1 hk9 => ?_)
      have hR := hR.obj hk9
      have hfr : ∀ q, q < b + 255 → k_1 q = k q := fun q hq => by rw [hk9]; exact (up_ne (by omega)).trans (hfr q hq)
      clear hk9
      have ⟨ho, r0, r1, r2, r3, r4, r5, r6, r7, r8, r9, r10, r11, r12, r13, r14, r15, r16, r17⟩ := hR
      refine z_aload_n X d_R_copy_31 rfl ?_
      refine z_get X ho rfl in_R 13 (by decide) (wq lf_R_42) rfl d_R_copy_32 ?_
      refine z_iload_n X d_R_copy_35 rfl ?_
      refine z_aload_n X d_R_copy_36 rfl ?_
      refine z_get X ho rfl in_R 12 (by decide) (wq lf_R_93) rfl d_R_copy_37 ?_
      refine z_iast X r9 0 rfl (j := p) rfl (by omega) (by omega) d_R_copy_40 ?_
      refine z_named (fun k_2 hk9 => ?_)
      have hR := hR.st9 hk9
      rw [show (upd f9 p (ms + (nI 1))) = upd f9 p (ms + 1) from by rw [nI_one]] at hR
      have hfr : ∀ q, q < b + 255 → k_2 q = k q := fun q hq => by rw [hk9]; exact (up_ne (by omega)).trans (hfr q hq)
      clear hk9
      have ⟨ho, r0, r1, r2, r3, r4, r5, r6, r7, r8, r9, r10, r11, r12, r13, r14, r15, r16, r17⟩ := hR
      refine z_aload_n X d_R_copy_41 rfl ?_
      refine z_get X ho rfl in_R 14 (by decide) (wq lf_R_45) rfl d_R_copy_42 ?_
      refine z_iload_n X d_R_copy_45 rfl ?_
      refine z_aload_n X d_R_copy_46 rfl ?_
      refine z_get X ho rfl in_R 14 (by decide) (wq lf_R_45) rfl d_R_copy_47 ?_
      refine z_iload_n X d_R_copy_50 rfl ?_
      refine z_iald X r10 0 rfl (j := o) rfl (by omega) (by omega) d_R_copy_51 ?_
      refine z_iast X r10 0 rfl (j := p) rfl (by omega) (by omega) d_R_copy_52 ?_
      refine z_named (fun k_3 hk9 => ?_)
      have hR := hR.st10 hk9
      have hfr : ∀ q, q < b + 255 → k_3 q = k q := fun q hq => by rw [hk9]; exact (up_ne (by omega)).trans (hfr q hq)
      clear hk9
      have ⟨ho, r0, r1, r2, r3, r4, r5, r6, r7, r8, r9, r10, r11, r12, r13, r14, r15, r16, r17⟩ := hR
      refine z_aload_n X d_R_copy_53 rfl ?_
      refine z_get X ho rfl in_R 15 (by decide) (wq lf_R_48) rfl d_R_copy_54 ?_
      refine z_iload_n X d_R_copy_57 rfl ?_
      refine z_aload_n X d_R_copy_58 rfl ?_
      refine z_get X ho rfl in_R 15 (by decide) (wq lf_R_48) rfl d_R_copy_59 ?_
      refine z_iload_n X d_R_copy_62 rfl ?_
      refine z_iald X r11 0 rfl (j := o) rfl (by omega) (by omega) d_R_copy_63 ?_
      refine z_iast X r11 0 rfl (j := p) rfl (by omega) (by omega) d_R_copy_64 ?_
      refine z_named (fun k_4 hk9 => ?_)
      have hR := hR.st11 hk9
      have hfr : ∀ q, q < b + 255 → k_4 q = k q := fun q hq => by rw [hk9]; exact (up_ne (by omega)).trans (hfr q hq)
      clear hk9
      have ⟨ho, r0, r1, r2, r3, r4, r5, r6, r7, r8, r9, r10, r11, r12, r13, r14, r15, r16, r17⟩ := hR
      refine z_iconst X d_R_copy_65 (v := nI 0) (by decide +kernel) ?_
      refine z_istore X d_R_copy_66 (by decide) rfl ?_
      refine z_lv (lv2 := [some (.ref (b + 255)), some (.int x), some (.int (nI o)), some (.int (nI p)), some (.int (nI 0))]) (fun _ _ q => q) ?_
      rw [nI_one] at hR
      have ⟨ho, r0, r1, r2, r3, r4, r5, r6, r7, r8, r9, r10, r11, r12, r13, r14, r15, r16, r17⟩ := hR
      refine z_loop (σ := Nat → va_E) (K := fun _ k9 => k9) (LV := fun v _ => [some (.ref (b + 255)), some (.int x), some (.int (nI o)), some (.int (nI p)), some (.int (nI v))]) (I := fun v k9 => (RW tI tZ b N k9 kk dv nc (ms + 1) f0 f1 f2 f3 f4 f5 f6 f7 f8 (upd f9 p (ms + 1)) (upd f10 p (f10 o)) (upd f11 p (f11 o)) (pr (12 * p) v (fun l => f12 (12 * o + l)) f12) f13 f14 f15 f16 f17) ∧ (∀ q, q < b + 255 → k9 q = k q)) 12 0 k_4 (by omega) (⟨by rw [pr_0]; exact hR, hfr⟩) (rfl) (rfl) ?_ ?_
      · intro k9 hI
        obtain ⟨hR, hfr⟩ := hI
        have ⟨ho, r0, r1, r2, r3, r4, r5, r6, r7, r8, r9, r10, r11, r12, r13, r14, r15, r16, r17⟩ := hR
        refine z_lv (lv2 := [some (.ref (b + 255)), some (.int x), some (.int (nI o)), some (.int (nI p)), some (.int (nI 12))]) (fun _ _ q => q) ?_
        refine z_iload X d_R_copy_68 rfl ?_
        refine z_bipush X d_R_copy_70 (v := nI 12) (by decide +kernel) ?_
        refine z_icmp_geN X d_R_copy_72 (tgt := 105) (by decide) (by omega) (by omega) (fun _ => ?_) (fun h => absurd h (by omega))
        refine z_aload_n X d_R_copy_105 rfl ?_
        refine z_get X ho rfl in_R 12 (by decide) (wq lf_R_93) rfl d_R_copy_106 ?_
        exact z_iret X d_R_copy_109 (by omega) (by omega) (⟨fun _ => ⟨rfl, hR, hfr⟩, fun q => absurd ⟨nI_pos' (by omega), nI_pos' (by omega)⟩ q⟩)
      · intro v k9 hv hI ih
        obtain ⟨hR, hfr⟩ := hI
        have ⟨ho, r0, r1, r2, r3, r4, r5, r6, r7, r8, r9, r10, r11, r12, r13, r14, r15, r16, r17⟩ := hR
        refine z_lv (lv2 := [some (.ref (b + 255)), some (.int x), some (.int (nI o)), some (.int (nI p)), some (.int (nI v))]) (fun _ _ q => q) ?_
        refine z_iload X d_R_copy_68 rfl ?_
        refine z_bipush X d_R_copy_70 (v := nI 12) (by decide +kernel) ?_
        refine z_icmp_geN X d_R_copy_72 (tgt := 105) (by decide) (by omega) (by omega) (fun h => absurd h (by omega)) (fun _ => ?_)
        refine z_aload_n X d_R_copy_75 rfl ?_
        refine z_get X ho rfl in_R 16 (by decide) (wq lf_R_51) rfl d_R_copy_76 ?_
        refine z_bipush X d_R_copy_79 (v := nI 12) (by decide +kernel) ?_
        refine z_iload_n X d_R_copy_81 rfl ?_
        refine z_imulN X d_R_copy_82 ?_
        refine z_iload X d_R_copy_83 rfl ?_
        refine z_iaddN X d_R_copy_85 ?_
        refine z_aload_n X d_R_copy_86 rfl ?_
        refine z_get X ho rfl in_R 16 (by decide) (wq lf_R_51) rfl d_R_copy_87 ?_
        refine z_bipush X d_R_copy_90 (v := nI 12) (by decide +kernel) ?_
        refine z_iload_n X d_R_copy_92 rfl ?_
        refine z_imulN X d_R_copy_93 ?_
        refine z_iload X d_R_copy_94 rfl ?_
        refine z_iaddN X d_R_copy_96 ?_
        refine z_iald X r12 0 rfl (j := (12 * o) + v) rfl (by omega) (by omega) d_R_copy_97 ?_
        refine z_top (y := .int (f12 (12 * o + v))) (by rw [pr_out (by omega)]) ?_
        refine z_iast X r12 0 rfl (j := (12 * p) + v) rfl (by omega) (by omega) d_R_copy_98 ?_
        refine z_named (fun k_5 hk9 => ?_)
        have hR := hR.st12 hk9
        rw [show (upd (pr (12 * p) v (fun l => f12 (12 * o + l)) f12) ((12 * p) + v) ((f12 (12 * o + v)))) = pr (12 * p) (v + 1) (fun l => f12 (12 * o + l)) f12 from pr_succ _ _ _ _ rfl] at hR
        have hfr : ∀ q, q < b + 255 → k_5 q = k q := fun q hq => by rw [hk9]; exact (up_ne (by omega)).trans (hfr q hq)
        clear hk9
        have ⟨ho, r0, r1, r2, r3, r4, r5, r6, r7, r8, r9, r10, r11, r12, r13, r14, r15, r16, r17⟩ := hR
        refine z_iincU X d_R_copy_99 rfl (by decide) rfl ?_
        refine z_lv (lv2 := [some (.ref (b + 255)), some (.int x), some (.int (nI o)), some (.int (nI p)), some (.int (nI (v + 1)))]) (fun _ _ q => q) ?_
        refine z_goto X d_R_copy_102 (tgt := 68) (by decide) ?_
        exact z_at (ih k_5 ⟨hR, hfr⟩) rfl rfl
set_option maxHeartbeats 4000000 in
set_option maxRecDepth 100000 in
/-- R_total -/
theorem c_R_total {kk nc : Nat} {dv ms : Int32} {f0 f1 f2 f3 f4 f5 f6 f7 f8 f9 f10 f11 f12 f13 f14 f15 f16 f17 : Nat → Int32} {x : Int32} (hR : RW tI tZ b N k kk dv nc ms f0 f1 f2 f3 f4 f5 f6 f7 f8 f9 f10 f11 f12 f13 f14 f15 f16 f17) (hnc : nc ≤ 12) (hn1 : 1 ≤ nc)  : Met l y_R_total (wy y_R_total b_R_total 4 (some .int)) (rm 1 0 0) (zPc D (tyl tI tZ tN tM) b N k [.ref (b + 255), .int x]) (zQi D b N (fun z k2 => z = (if isn nc x = true then s12 (knw f0 f1 f4 f7 f8 f13 nc x.toNatClampNeg) 12 else -1) ∧ ∃ g13, (RW tI tZ b N k2 kk dv nc ms f0 f1 f2 f3 f4 f5 f6 f7 f8 f9 f10 f11 f12 g13 f14 f15 f16 f17) ∧ ∀ q, q < b + 255 → k2 q = k q)) 0 0 (zA b) := by
  refine z_met (own := R_R) (by decide) rfl rfl (Nat.le_of_ble_eq_true rfl) [some (.ref (b + 255)), some (.int x), none, none] rfl ?_
  intro p e s m args below meth c X hin
  have ⟨ho, r0, r1, r2, r3, r4, r5, r6, r7, r8, r9, r10, r11, r12, r13, r14, r15, r16, r17⟩ := hR
  have hfr : ∀ q, q < b + 255 → k q = k q := fun _ _ => rfl
  refine z_aload_n X d_R_total_0 rfl ?_
  refine z_iload_n X d_R_total_1 rfl ?_
  refine z_callVi X (c_R_isNode hR) ho rfl (cwV 1 X.1.2.2.2.2 (gi_V lm_R_75 vi_R_isNode ve_R_isNode vn_R vc_R_isNode) rfl rfl rfl (by decide +kernel) ⟨Nat.le_of_ble_eq_true rfl, Nat.le_of_ble_eq_true rfl⟩) (As := [.int x]) (st := []) rfl rfl (Nat.le_of_ble_eq_true rfl) d_R_total_2 ⟨Nat.le_of_ble_eq_true rfl, Nat.le_of_ble_eq_true rfl⟩ (fun z k2 hq => ?_)
  obtain ⟨rfl, hk9⟩ := hq
  have hk9 := hk9.symm
  subst hk9
  cases hx : isn nc x
  · skip
    refine z_if_neN X d_R_total_5 (tgt := 10) (by decide) (by decide) (fun h => absurd h (by decide)) (fun _ => ?_)
    refine z_iconst X d_R_total_8 (v := -1) (by decide +kernel) ?_
    exact z_iret X d_R_total_9 (by omega) (by omega) (⟨by rw [if_neg (by simp)], _, hR, hfr⟩)
  · skip
    refine z_if_neN X d_R_total_5 (tgt := 10) (by decide) (by decide) (fun _ => ?_) (fun h => absurd h (by decide))
    obtain ⟨j, hj, rfl⟩ := isn_t (by omega) hx
    refine z_lv (lv2 := [some (.ref (b + 255)), some (.int (nI j)), none, none]) (fun _ _ q => q) ?_
    rw [nI_clamp (n := j) (by omega)]
    refine z_aload_n X d_R_total_10 rfl ?_
    refine z_iload_n X d_R_total_11 rfl ?_
    refine z_callVv X (c_R_know hR (j := j) (by omega) hnc hn1) ho rfl (cwV 1 X.1.2.2.2.2 (gi_V lm_R_90 vi_R_know ve_R_know vn_R vc_R_know) rfl rfl rfl (by decide +kernel) ⟨Nat.le_of_ble_eq_true rfl, Nat.le_of_ble_eq_true rfl⟩) (As := [.int (nI j)]) (st := []) rfl rfl (Nat.le_of_ble_eq_true rfl) d_R_total_12 ⟨Nat.le_of_ble_eq_true rfl, Nat.le_of_ble_eq_true rfl⟩ (fun k2 hq => ?_)
    obtain ⟨hR9, hf9⟩ := hq
    have hR := hR9
    have hfr : ∀ q, q < b + 255 → k2 q = k q := fun q hq => (hf9 q hq).trans (hfr q hq)
    have ⟨ho, r0, r1, r2, r3, r4, r5, r6, r7, r8, r9, r10, r11, r12, r13, r14, r15, r16, r17⟩ := hR
    refine z_iconst X d_R_total_15 (v := nI 0) (by decide +kernel) ?_
    refine z_istore_n X d_R_total_16 (by decide) rfl ?_
    refine z_lv (lv2 := [some (.ref (b + 255)), some (.int (nI j)), some (.int (nI 0)), none]) (fun _ _ q => q) ?_
    refine z_iconst X d_R_total_17 (v := nI 0) (by decide +kernel) ?_
    refine z_istore_n X d_R_total_18 (by decide) rfl ?_
    refine z_lv (lv2 := [some (.ref (b + 255)), some (.int (nI j)), some (.int (nI 0)), some (.int (nI 0))]) (fun _ _ q => q) ?_
    refine z_loop (σ := Unit) (K := fun _ _ => k2) (LV := fun v _ => [some (.ref (b + 255)), some (.int (nI j)), some (.int (s12 (knw f0 f1 f4 f7 f8 f13 nc j) v)), some (.int (nI v))]) (I := fun _ _ => True) 12 0 () (by omega) (trivial) (rfl) (by rw [nI_0]; rfl) ?_ ?_
    · intro s1 _
      refine z_lv (lv2 := [some (.ref (b + 255)), some (.int (nI j)), some (.int (s12 (knw f0 f1 f4 f7 f8 f13 nc j) 12)), some (.int (nI 12))]) (fun _ _ q => q) ?_
      refine z_iload_n X d_R_total_19 rfl ?_
      refine z_bipush X d_R_total_20 (v := nI 12) (by decide +kernel) ?_
      refine z_icmp_geN X d_R_total_22 (tgt := 40) (by decide) (by omega) (by omega) (fun _ => ?_) (fun h => absurd h (by omega))
      refine z_iload_n X d_R_total_40 rfl ?_
      exact z_iret X d_R_total_41 (by omega) (by omega) (⟨by rw [if_pos rfl], _, hR, hfr⟩)
    · intro v s1 hv _ ih
      refine z_lv (lv2 := [some (.ref (b + 255)), some (.int (nI j)), some (.int (s12 (knw f0 f1 f4 f7 f8 f13 nc j) v)), some (.int (nI v))]) (fun _ _ q => q) ?_
      refine z_iload_n X d_R_total_19 rfl ?_
      refine z_bipush X d_R_total_20 (v := nI 12) (by decide +kernel) ?_
      refine z_icmp_geN X d_R_total_22 (tgt := 40) (by decide) (by omega) (by omega) (fun h => absurd h (by omega)) (fun _ => ?_)
      refine z_iload_n X d_R_total_25 rfl ?_
      refine z_aload_n X d_R_total_26 rfl ?_
      refine z_get X ho rfl in_R 17 (by decide) (wq lf_R_54) rfl d_R_total_27 ?_
      refine z_iload_n X d_R_total_30 rfl ?_
      refine z_iald X r13 0 rfl (j := v) rfl (by omega) (by omega) d_R_total_31 ?_
      refine z_iadd X d_R_total_32 ?_
      refine z_istore_n X d_R_total_33 (by decide) rfl ?_
      refine z_lv (lv2 := [some (.ref (b + 255)), some (.int (nI j)), some (.int ((s12 (knw f0 f1 f4 f7 f8 f13 nc j) v) + ((knw f0 f1 f4 f7 f8 f13 nc j) v))), some (.int (nI v))]) (fun _ _ q => q) ?_
      refine z_iincU X d_R_total_34 rfl (by decide) rfl ?_
      refine z_lv (lv2 := [some (.ref (b + 255)), some (.int (nI j)), some (.int ((s12 (knw f0 f1 f4 f7 f8 f13 nc j) v) + ((knw f0 f1 f4 f7 f8 f13 nc j) v))), some (.int (nI (v + 1)))]) (fun _ _ q => q) ?_
      refine z_goto X d_R_total_37 (tgt := 19) (by decide) ?_
      exact z_at (ih () trivial) rfl rfl
set_option maxHeartbeats 4000000 in
set_option maxRecDepth 100000 in
/-- R_sum -/
theorem c_R_sum {kk nc : Nat} {dv ms : Int32} {f0 f1 f2 f3 f4 f5 f6 f7 f8 f9 f10 f11 f12 f13 f14 f15 f16 f17 : Nat → Int32} {x : Int32} {kn : Nat → Nat} (hR : RW tI tZ b N k kk dv nc ms f0 f1 f2 f3 f4 f5 f6 f7 f8 f9 f10 f11 f12 f13 f14 f15 f16 f17) (hnc : nc ≤ 12) (hn1 : 1 ≤ nc) (hkn : isn nc x = true → ∀ l, l < 12 → knw f0 f1 f4 f7 f8 f13 nc x.toNatClampNeg l = nI (kn l) ∧ kn l ≤ 48)  : Met l y_R_sum (wy y_R_sum b_R_sum 6 (some .long)) (rm 1 0 0) (zPc D (tyl tI tZ tN tM) b N k [.ref (b + 255), .int x]) (zQl D b N (fun z k2 => z = (if isn nc x = true then sjs f3 kn 12 else -1) ∧ ∃ g13, (RW tI tZ b N k2 kk dv nc ms f0 f1 f2 f3 f4 f5 f6 f7 f8 f9 f10 f11 f12 g13 f14 f15 f16 f17) ∧ ∀ q, q < b + 255 → k2 q = k q)) 0 0 (zA b) := by
  refine z_met (own := R_R) (by decide) rfl rfl (Nat.le_of_ble_eq_true rfl) [some (.ref (b + 255)), some (.int x), none, none, none, none] rfl ?_
  intro p e s m args below meth c X hin
  have ⟨ho, r0, r1, r2, r3, r4, r5, r6, r7, r8, r9, r10, r11, r12, r13, r14, r15, r16, r17⟩ := hR
  have hfr : ∀ q, q < b + 255 → k q = k q := fun _ _ => rfl
  refine z_aload_n X d_R_sum_0 rfl ?_
  refine z_iload_n X d_R_sum_1 rfl ?_
  refine z_callVi X (c_R_isNode hR) ho rfl (cwV 1 X.1.2.2.2.2 (gi_V lm_R_75 vi_R_isNode ve_R_isNode vn_R vc_R_isNode) rfl rfl rfl (by decide +kernel) ⟨Nat.le_of_ble_eq_true rfl, Nat.le_of_ble_eq_true rfl⟩) (As := [.int x]) (st := []) rfl rfl (Nat.le_of_ble_eq_true rfl) d_R_sum_2 ⟨Nat.le_of_ble_eq_true rfl, Nat.le_of_ble_eq_true rfl⟩ (fun z k2 hq => ?_)
  obtain ⟨rfl, hk9⟩ := hq
  have hk9 := hk9.symm
  subst hk9
  cases hx : isn nc x
  · skip
    refine z_if_neN X d_R_sum_5 (tgt := 12) (by decide) (by decide) (fun h => absurd h (by decide)) (fun _ => ?_)
    refine z_ldc2 X d_R_sum_8 (wq lk_R_125) ?_
    exact z_lret X d_R_sum_11 (by omega) (by omega) (⟨by rw [if_neg (by simp)], _, hR, hfr⟩)
  · skip
    refine z_if_neN X d_R_sum_5 (tgt := 12) (by decide) (by decide) (fun _ => ?_) (fun h => absurd h (by decide))
    obtain ⟨j, hj, rfl⟩ := isn_t (by omega) hx
    refine z_lv (lv2 := [some (.ref (b + 255)), some (.int (nI j)), none, none, none, none]) (fun _ _ q => q) ?_
    rw [nI_clamp (n := j) (by omega)] at *
    have hkn := hkn hx
    refine z_aload_n X d_R_sum_12 rfl ?_
    refine z_iload_n X d_R_sum_13 rfl ?_
    refine z_callVv X (c_R_know hR (j := j) (by omega) hnc hn1) ho rfl (cwV 1 X.1.2.2.2.2 (gi_V lm_R_90 vi_R_know ve_R_know vn_R vc_R_know) rfl rfl rfl (by decide +kernel) ⟨Nat.le_of_ble_eq_true rfl, Nat.le_of_ble_eq_true rfl⟩) (As := [.int (nI j)]) (st := []) rfl rfl (Nat.le_of_ble_eq_true rfl) d_R_sum_14 ⟨Nat.le_of_ble_eq_true rfl, Nat.le_of_ble_eq_true rfl⟩ (fun k2 hq => ?_)
    obtain ⟨hR9, hf9⟩ := hq
    have hR := hR9
    have hfr : ∀ q, q < b + 255 → k2 q = k q := fun q hq => (hf9 q hq).trans (hfr q hq)
    have ⟨ho, r0, r1, r2, r3, r4, r5, r6, r7, r8, r9, r10, r11, r12, r13, r14, r15, r16, r17⟩ := hR
    refine z_lconst X d_R_sum_17 (v := 0) (by decide +kernel) ?_
    refine z_lstore_n X d_R_sum_18 (by decide) rfl ?_
    refine z_lv (lv2 := [some (.ref (b + 255)), some (.int (nI j)), some (.long 0), none, none, none]) (fun _ _ q => q) ?_
    refine z_iconst X d_R_sum_19 (v := nI 0) (by decide +kernel) ?_
    refine z_istore X d_R_sum_20 (by decide) rfl ?_
    refine z_lv (lv2 := [some (.ref (b + 255)), some (.int (nI j)), some (.long 0), none, some (.int (nI 0)), none]) (fun _ _ q => q) ?_
    refine z_loop (σ := Unit) (K := fun _ _ => k2) (LV := fun v _ => [some (.ref (b + 255)), some (.int (nI j)), some (.long (sjs f3 kn v)), none, some (.int (nI v)), none]) (I := fun _ _ => True) 12 0 () (by omega) (trivial) (rfl) (rfl) ?_ ?_
    · intro s1 _
      refine z_lv (lv2 := [some (.ref (b + 255)), some (.int (nI j)), some (.long (sjs f3 kn 12)), none, some (.int (nI 12)), none]) (fun _ _ q => q) ?_
      refine z_iload X d_R_sum_22 rfl ?_
      refine z_bipush X d_R_sum_24 (v := nI 12) (by decide +kernel) ?_
      refine z_icmp_geN X d_R_sum_26 (tgt := 73) (by decide) (by omega) (by omega) (fun _ => ?_) (fun h => absurd h (by omega))
      refine z_lload_n X d_R_sum_73 rfl ?_
      exact z_lret X d_R_sum_74 (by omega) (by omega) (⟨by rw [if_pos rfl], _, hR, hfr⟩)
    · intro v s1 hv _ ih
      obtain ⟨e1, e2⟩ := hkn v hv
      refine z_lv (lv2 := [some (.ref (b + 255)), some (.int (nI j)), some (.long (sjs f3 kn v)), none, some (.int (nI v)), none]) (fun _ _ q => q) ?_
      refine z_iload X d_R_sum_22 rfl ?_
      refine z_bipush X d_R_sum_24 (v := nI 12) (by decide +kernel) ?_
      refine z_icmp_geN X d_R_sum_26 (tgt := 73) (by decide) (by omega) (by omega) (fun h => absurd h (by omega)) (fun _ => ?_)
      refine z_iconst X d_R_sum_29 (v := nI 0) (by decide +kernel) ?_
      refine z_istore X d_R_sum_30 (by decide) rfl ?_
      refine z_lv (lv2 := [some (.ref (b + 255)), some (.int (nI j)), some (.long (sjs f3 kn v)), none, some (.int (nI v)), some (.int (nI 0))]) (fun _ _ q => q) ?_
      refine z_loop (σ := Unit) (K := fun _ _ => k2) (LV := fun x _ => [some (.ref (b + 255)), some (.int (nI j)), some (.long (sj (fun i => f3 (48 * v + i)) (sjs f3 kn v) x)), none, some (.int (nI v)), some (.int (nI x))]) (I := fun _ _ => True) (kn v) 0 () (by omega) (trivial) (rfl) (rfl) ?_ ?_
      · intro s2 _
        refine z_lv (lv2 := [some (.ref (b + 255)), some (.int (nI j)), some (.long (sj (fun i => f3 (48 * v + i)) (sjs f3 kn v) (kn v))), none, some (.int (nI v)), some (.int (nI (kn v)))]) (fun _ _ q => q) ?_
        refine z_iload X d_R_sum_32 rfl ?_
        refine z_aload_n X d_R_sum_34 rfl ?_
        refine z_get X ho rfl in_R 17 (by decide) (wq lf_R_54) rfl d_R_sum_35 ?_
        refine z_iload X d_R_sum_38 rfl ?_
        refine z_iald X r13 0 rfl (j := v) rfl (by omega) (by omega) d_R_sum_40 ?_
        refine z_top (y := .int (nI (kn v))) (by rw [e1]) ?_
        refine z_icmp_geN X d_R_sum_41 (tgt := 67) (by decide) (by omega) (by omega) (fun _ => ?_) (fun h => absurd h (by omega))
        refine z_iincU X d_R_sum_67 rfl (by decide) rfl ?_
        refine z_lv (lv2 := [some (.ref (b + 255)), some (.int (nI j)), some (.long (sj (fun i => f3 (48 * v + i)) (sjs f3 kn v) (kn v))), none, some (.int (nI (v + 1))), some (.int (nI (kn v)))]) (fun _ _ q => q) ?_
        refine z_goto X d_R_sum_70 (tgt := 22) (by decide) ?_
        refine z_drop 5 ?_
        exact z_at (ih () trivial) rfl rfl
      · intro x s2 hx2 _ ih2
        refine z_lv (lv2 := [some (.ref (b + 255)), some (.int (nI j)), some (.long (sj (fun i => f3 (48 * v + i)) (sjs f3 kn v) x)), none, some (.int (nI v)), some (.int (nI x))]) (fun _ _ q => q) ?_
        refine z_iload X d_R_sum_32 rfl ?_
        refine z_aload_n X d_R_sum_34 rfl ?_
        refine z_get X ho rfl in_R 17 (by decide) (wq lf_R_54) rfl d_R_sum_35 ?_
        refine z_iload X d_R_sum_38 rfl ?_
        refine z_iald X r13 0 rfl (j := v) rfl (by omega) (by omega) d_R_sum_40 ?_
        refine z_top (y := .int (nI (kn v))) (by rw [e1]) ?_
        refine z_icmp_geN X d_R_sum_41 (tgt := 67) (by decide) (by omega) (by omega) (fun h => absurd h (by omega)) (fun _ => ?_)
        refine z_lload_n X d_R_sum_44 rfl ?_
        refine z_aload_n X d_R_sum_45 rfl ?_
        refine z_get X ho rfl in_R 6 (by decide) (wq lf_R_24) rfl d_R_sum_46 ?_
        refine z_bipush X d_R_sum_49 (v := nI 48) (by decide +kernel) ?_
        refine z_iload X d_R_sum_51 rfl ?_
        refine z_imulN X d_R_sum_53 ?_
        refine z_iload X d_R_sum_54 rfl ?_
        refine z_iaddN X d_R_sum_56 ?_
        refine z_iald X r3 0 rfl (j := (48 * v) + x) rfl (by omega) (by omega) d_R_sum_57 ?_
        refine z_i2l X d_R_sum_58 ?_
        refine z_ladd X d_R_sum_59 ?_
        refine z_lstore_n X d_R_sum_60 (by decide) rfl ?_
        refine z_lv (lv2 := [some (.ref (b + 255)), some (.int (nI j)), some (.long ((sj (fun i => f3 (48 * v + i)) (sjs f3 kn v) x) + ((f3 ((48 * v) + x)).toInt64))), none, some (.int (nI v)), some (.int (nI x))]) (fun _ _ q => q) ?_
        refine z_iincU X d_R_sum_61 rfl (by decide) rfl ?_
        refine z_lv (lv2 := [some (.ref (b + 255)), some (.int (nI j)), some (.long ((sj (fun i => f3 (48 * v + i)) (sjs f3 kn v) x) + ((f3 ((48 * v) + x)).toInt64))), none, some (.int (nI v)), some (.int (nI (x + 1)))]) (fun _ _ q => q) ?_
        refine z_goto X d_R_sum_64 (tgt := 32) (by decide) ?_
        exact z_at (ih2 () trivial) rfl rfl
set_option maxHeartbeats 4000000 in
set_option maxRecDepth 100000 in
/-- R_covered -/
theorem c_R_covered {kk nc : Nat} {dv ms : Int32} {f0 f1 f2 f3 f4 f5 f6 f7 f8 f9 f10 f11 f12 f13 f14 f15 f16 f17 : Nat → Int32} {x y : Int32} (hR : RW tI tZ b N k kk dv nc ms f0 f1 f2 f3 f4 f5 f6 f7 f8 f9 f10 f11 f12 f13 f14 f15 f16 f17) (hnc : nc ≤ 12) (hn1 : 1 ≤ nc)  : Met l y_R_covered (wy y_R_covered b_R_covered 3 (some .int)) (rm 2 0 0) (zPc D (tyl tI tZ tN tM) b N k [.ref (b + 255), .int x, .int y]) (zQi D b N (fun z k2 => z = (if isn nc x = true ∧ isl nc f1 y = true then knw f0 f1 f4 f7 f8 f13 nc x.toNatClampNeg y.toNatClampNeg else -1) ∧ ∃ g13, (RW tI tZ b N k2 kk dv nc ms f0 f1 f2 f3 f4 f5 f6 f7 f8 f9 f10 f11 f12 g13 f14 f15 f16 f17) ∧ ∀ q, q < b + 255 → k2 q = k q)) 0 0 (zA b) := by
  refine z_met (own := R_R) (by decide) rfl rfl (Nat.le_of_ble_eq_true rfl) [some (.ref (b + 255)), some (.int x), some (.int y)] rfl ?_
  intro p e s m args below meth c X hin
  have ⟨ho, r0, r1, r2, r3, r4, r5, r6, r7, r8, r9, r10, r11, r12, r13, r14, r15, r16, r17⟩ := hR
  have hfr : ∀ q, q < b + 255 → k q = k q := fun _ _ => rfl
  refine z_aload_n X d_R_covered_0 rfl ?_
  refine z_iload_n X d_R_covered_1 rfl ?_
  refine z_callVi X (c_R_isNode hR) ho rfl (cwV 1 X.1.2.2.2.2 (gi_V lm_R_75 vi_R_isNode ve_R_isNode vn_R vc_R_isNode) rfl rfl rfl (by decide +kernel) ⟨Nat.le_of_ble_eq_true rfl, Nat.le_of_ble_eq_true rfl⟩) (As := [.int x]) (st := []) rfl rfl (Nat.le_of_ble_eq_true rfl) d_R_covered_2 ⟨Nat.le_of_ble_eq_true rfl, Nat.le_of_ble_eq_true rfl⟩ (fun z k2 hq => ?_)
  obtain ⟨rfl, hk9⟩ := hq
  have hk9 := hk9.symm
  subst hk9
  cases hx : isn nc x
  · skip
    refine z_if_eqN X d_R_covered_5 (tgt := 16) (by decide) (by decide) (fun _ => ?_) (fun h => absurd h (by decide))
    refine z_iconst X d_R_covered_16 (v := -1) (by decide +kernel) ?_
    exact z_iret X d_R_covered_17 (by omega) (by omega) (⟨by rw [if_neg (by simp)], _, hR, hfr⟩)
  · skip
    refine z_if_eqN X d_R_covered_5 (tgt := 16) (by decide) (by decide) (fun h => absurd h (by decide)) (fun _ => ?_)
    obtain ⟨j, hj, rfl⟩ := isn_t (by omega) hx
    refine z_lv (lv2 := [some (.ref (b + 255)), some (.int (nI j)), some (.int y)]) (fun _ _ q => q) ?_
    rw [nI_clamp (n := j) (by omega)]
    refine z_aload_n X d_R_covered_8 rfl ?_
    refine z_iload_n X d_R_covered_9 rfl ?_
    refine z_callVi X (c_R_leafNode hR hnc) ho rfl (cwV 1 X.1.2.2.2.2 (gi_V lm_R_79 vi_R_leafNode ve_R_leafNode vn_R vc_R_leafNode) rfl rfl rfl (by decide +kernel) ⟨Nat.le_of_ble_eq_true rfl, Nat.le_of_ble_eq_true rfl⟩) (As := [.int y]) (st := []) rfl rfl (Nat.le_of_ble_eq_true rfl) d_R_covered_10 ⟨Nat.le_of_ble_eq_true rfl, Nat.le_of_ble_eq_true rfl⟩ (fun z k2 hq => ?_)
    obtain ⟨rfl, hk9⟩ := hq
    have hk9 := hk9.symm
    subst hk9
    cases hy : isl nc f1 y
    · skip
      refine z_if_neN X d_R_covered_13 (tgt := 18) (by decide) (by decide) (fun h => absurd h (by decide)) (fun _ => ?_)
      refine z_iconst X d_R_covered_16 (v := -1) (by decide +kernel) ?_
      exact z_iret X d_R_covered_17 (by omega) (by omega) (⟨by rw [if_neg (by simp)], _, hR, hfr⟩)
    · skip
      refine z_if_neN X d_R_covered_13 (tgt := 18) (by decide) (by decide) (fun _ => ?_) (fun h => absurd h (by decide))
      have hy2 : isn nc y = true := by cases hz : isn nc y with | true => rfl | false => rw [isl, hz] at hy; simp at hy
      obtain ⟨v, hv, rfl⟩ := isn_t (by omega) hy2
      refine z_lv (lv2 := [some (.ref (b + 255)), some (.int (nI j)), some (.int (nI v))]) (fun _ _ q => q) ?_
      rw [nI_clamp (n := v) (by omega)]
      refine z_aload_n X d_R_covered_18 rfl ?_
      refine z_iload_n X d_R_covered_19 rfl ?_
      refine z_callVv X (c_R_know hR (j := j) (by omega) hnc hn1) ho rfl (cwV 1 X.1.2.2.2.2 (gi_V lm_R_90 vi_R_know ve_R_know vn_R vc_R_know) rfl rfl rfl (by decide +kernel) ⟨Nat.le_of_ble_eq_true rfl, Nat.le_of_ble_eq_true rfl⟩) (As := [.int (nI j)]) (st := []) rfl rfl (Nat.le_of_ble_eq_true rfl) d_R_covered_20 ⟨Nat.le_of_ble_eq_true rfl, Nat.le_of_ble_eq_true rfl⟩ (fun k2 hq => ?_)
      obtain ⟨hR9, hf9⟩ := hq
      have hR := hR9
      have hfr : ∀ q, q < b + 255 → k2 q = k q := fun q hq => (hf9 q hq).trans (hfr q hq)
      have ⟨ho, r0, r1, r2, r3, r4, r5, r6, r7, r8, r9, r10, r11, r12, r13, r14, r15, r16, r17⟩ := hR
      refine z_aload_n X d_R_covered_23 rfl ?_
      refine z_get X ho rfl in_R 17 (by decide) (wq lf_R_54) rfl d_R_covered_24 ?_
      refine z_iload_n X d_R_covered_27 rfl ?_
      refine z_iald X r13 0 rfl (j := v) rfl (by omega) (by omega) d_R_covered_28 ?_
      exact z_iret X d_R_covered_29 (by omega) (by omega) (⟨by rw [if_pos ⟨rfl, rfl⟩], _, hR, hfr⟩)
end
