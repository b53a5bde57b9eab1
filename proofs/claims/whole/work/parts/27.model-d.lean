/-! Contracts of the reference, 4: merge, know -/
theorem rw_z {w j i : Nat} {C : Nat → Int32} (h : w ≤ i) : rw_ w C j i = 0 := by
  unfold rw_
  rw [if_neg (by omega)]
theorem us_succ {h f : Nat → Int32} {i x : Nat} (hx : x < 32) (hg : gu (pu h i) h 32 = some x) : upd (pr 0 32 (fun w9 => nI (cb (pu h i w9))) f) x (vp_nar .boolean (nI 1)) = pr 0 32 (fun v => nI (cb (pu h (i + 1) v))) f := by
  have e := pr_upd (w := 0) (m := 32) (i := x) (F := fun v => nI (cb (pu h i v))) (C := f) (x := vp_nar .boolean (nI 1)) hx
  rw [Nat.zero_add] at e
  rw [e]
  refine pr_congr (fun v hv => ?_)
  by_cases hvx : v = x
  · subst hvx
    rw [upd_eq, zn1]
    simp [pu, hg, cb]
  · rw [upd_ne hvx]
    simp [pu, hg, Ne.symm hvx]
def kac (f0 f7 f8 : Nat → Int32) (x : Int32) (z : Nat → Int32) : Nat → Nat → Int32
  | 0 => z
  | c + 1 => if f0 (c + 1) = x ∧ 0 < f7 (c + 1) then pr 0 12 (fun l => kac f0 f7 f8 x z c l + f8 (12 * (c + 1) + l)) (kac f0 f7 f8 x z c) else kac f0 f7 f8 x z c
def knw (f0 f1 f4 f7 f8 f13 : Nat → Int32) (nc j : Nat) : Nat → Int32 := if f1 j = 0 then kac f0 f7 f8 (nI j) (pr 0 12 (fun _ => 0) f13) (nc - 1) else upd (pr 0 12 (fun _ => 0) f13) j (f4 j)
section
variable {l : Launch} {D : va_G} {tI tZ tN tM : ClassId} {b N : Nat} {k : Nat → va_E}
set_option maxHeartbeats 4000000 in
set_option maxRecDepth 100000 in
/-- R_merge -/
theorem c_R_merge {kk nc : Nat} {dv ms : Int32} {f0 f1 f2 f3 f4 f5 f6 f7 f8 f9 f10 f11 f12 f13 f14 f15 f16 f17 : Nat → Int32} {j c2 : Nat} (hR : RW tI tZ b N k kk dv nc ms f0 f1 f2 f3 f4 f5 f6 f7 f8 f9 f10 f11 f12 f13 f14 f15 f16 f17) (hjc : j < c2) (hc : c2 < 12) (hd : ¬ dv = 0) (hk6 : kk ≤ 6) (h00 : rw_ 64 f16 c2 0 = 0)  : Met l y_R_merge (wy y_R_merge b_R_merge 6 none) (rm 1 0 0) (zPc D (tyl tI tZ tN tM) b N k [.ref (b + 255), .int (nI j), .int (nI c2)]) (zQv D b N (fun k2 => ∃ u2, RW tI tZ b N k2 kk dv nc ms f0 f1 f2 f3 f4 f5 f6 f7 f8 f9 f10 f11 f12 f13 (upd f14 j (f14 j + f14 c2)) (pr (32 * j) 32 (mgC kk (rw_ 32 f15 j) (rw_ 32 f15 c2)) f15) (pr (64 * j) 64 (cpr ((f14 j + f14 c2) / dv) 4000 (ad (rw_ 64 f16 j) (rw_ 64 f16 c2))) f16) u2 ∧ ∀ q, q < b + 255 → k2 q = k q)) 0 0 (zA b) := by
  refine z_met (own := R_R) (by decide) rfl rfl (Nat.le_of_ble_eq_true rfl) [some (.ref (b + 255)), some (.int (nI j)), some (.int (nI c2)), none, none, none] rfl ?_
  intro p e s m args below meth c X hin
  have ⟨ho, r0, r1, r2, r3, r4, r5, r6, r7, r8, r9, r10, r11, r12, r13, r14, r15, r16, r17⟩ := hR
  have hfr : ∀ q, q < b + 255 → k q = k q := fun _ _ => rfl
  refine z_aload_n X d_R_merge_0 rfl ?_
  refine z_get X ho rfl in_R 18 (by decide) (wq lf_R_57) rfl d_R_merge_1 ?_
  refine z_iload_n X d_R_merge_4 rfl ?_
  refine z_aload_n X d_R_merge_5 rfl ?_
  refine z_get X ho rfl in_R 18 (by decide) (wq lf_R_57) rfl d_R_merge_6 ?_
  refine z_iload_n X d_R_merge_9 rfl ?_
  refine z_iald X r14 0 rfl (j := j) rfl (by omega) (by omega) d_R_merge_10 ?_
  refine z_aload_n X d_R_merge_11 rfl ?_
  refine z_get X ho rfl in_R 18 (by decide) (wq lf_R_57) rfl d_R_merge_12 ?_
  refine z_iload_n X d_R_merge_15 rfl ?_
  refine z_iald X r14 0 rfl (j := c2) rfl (by omega) (by omega) d_R_merge_16 ?_
  refine z_iadd X d_R_merge_17 ?_
  refine z_iast X r14 0 rfl (j := j) rfl (by omega) (by omega) d_R_merge_18 ?_
  refine z_named (fun k_1 hk9 => ?_)
  have hR := hR.st14 hk9
  have hfr : ∀ q, q < b + 255 → k_1 q = k q := fun q hq => by rw [hk9]; exact (up_ne (by omega)).trans (hfr q hq)
  clear hk9
  have ⟨ho, r0, r1, r2, r3, r4, r5, r6, r7, r8, r9, r10, r11, r12, r13, r14, r15, r16, r17⟩ := hR
  refine z_iconst X d_R_merge_19 (v := nI 0) (by decide +kernel) ?_
  refine z_istore_n X d_R_merge_20 (by decide) rfl ?_
  refine z_lv (lv2 := [some (.ref (b + 255)), some (.int (nI j)), some (.int (nI c2)), some (.int (nI 0)), none, none]) (fun _ _ q => q) ?_
  refine z_loop (σ := Nat → va_E) (K := fun _ k9 => k9) (LV := fun v _ => [some (.ref (b + 255)), some (.int (nI j)), some (.int (nI c2)), some (.int (nI v)), none, none]) (I := fun v k9 => (RW tI tZ b N k9 kk dv nc ms f0 f1 f2 f3 f4 f5 f6 f7 f8 f9 f10 f11 f12 f13 (upd f14 j (f14 j + f14 c2)) (pr (32 * j) v (ad (rw_ 32 f15 j) (rw_ 32 f15 c2)) f15) f16 f17) ∧ (∀ q, q < b + 255 → k9 q = k q)) 32 0 k_1 (by omega) (⟨by rw [pr_0]; exact hR, hfr⟩) (rfl) (rfl) ?_ ?_
  · intro k9 hI
    obtain ⟨hR, hfr⟩ := hI
    have ⟨ho, r0, r1, r2, r3, r4, r5, r6, r7, r8, r9, r10, r11, r12, r13, r14, r15, r16, r17⟩ := hR
    refine z_lv (lv2 := [some (.ref (b + 255)), some (.int (nI j)), some (.int (nI c2)), some (.int (nI 32)), none, none]) (fun _ _ q => q) ?_
    refine z_iload_n X d_R_merge_21 rfl ?_
    refine z_bipush X d_R_merge_22 (v := nI 32) (by decide +kernel) ?_
    refine z_icmp_geN X d_R_merge_24 (tgt := 67) (by decide) (by omega) (by omega) (fun _ => ?_) (fun h => absurd h (by omega))
    refine z_aload_n X d_R_merge_67 rfl ?_
    refine z_iload_n X d_R_merge_68 rfl ?_
    have hz : ∀ i, 32 ≤ i → (ad (rw_ 32 f15 j) (rw_ 32 f15 c2)) i = 0 := fun i hi => ad_z (rw_z hi) (rw_z hi)
    have hrow : rw_ 32 (pr (32 * j) 32 (ad (rw_ 32 f15 j) (rw_ 32 f15 c2)) f15) j = (ad (rw_ 32 f15 j) (rw_ 32 f15 c2)) := rw_pr hz
    refine z_callVi X (c_R_counters hR (by omega)) ho rfl (cwV 1 X.1.2.2.2.2 (gi_V lm_R_110 vi_R_counters ve_R_counters vn_R vc_R_counters) rfl rfl rfl (by decide +kernel) ⟨Nat.le_of_ble_eq_true rfl, Nat.le_of_ble_eq_true rfl⟩) (As := [.int (nI j)]) (st := []) rfl rfl (Nat.le_of_ble_eq_true rfl) d_R_merge_69 ⟨Nat.le_of_ble_eq_true rfl, Nat.le_of_ble_eq_true rfl⟩ (fun z k2 hq => ?_)
    rw [hrow] at hq
    obtain ⟨rfl, hk9⟩ := hq
    have hk9 := hk9.symm
    subst hk9
    have hc32 : cn (ad (rw_ 32 f15 j) (rw_ 32 f15 c2)) ≤ 32 := ct_le _ _
    refine z_drop 3 ?_
    refine z_aload_n X d_R_merge_72 rfl ?_
    refine z_get X ho rfl in_R 0 (by decide) (wq lf_R_69) rfl d_R_merge_73 ?_
    refine z_icmp_leN X d_R_merge_76 (tgt := 137) (by decide) (by omega) (by omega) (fun hA => ?_) (fun hA => ?_)
    · skip
      rw [show (ad (rw_ 32 f15 j) (rw_ 32 f15 c2)) = mgC kk (rw_ 32 f15 j) (rw_ 32 f15 c2) by unfold mgC; rw [if_neg (by omega)]] at hR
      have ⟨ho, r0, r1, r2, r3, r4, r5, r6, r7, r8, r9, r10, r11, r12, r13, r14, r15, r16, r17⟩ := hR
      refine z_iconst X d_R_merge_137 (v := nI 1) (by decide +kernel) ?_
      refine z_istore_n X d_R_merge_138 (by decide) rfl ?_
      refine z_lv (lv2 := [some (.ref (b + 255)), some (.int (nI j)), some (.int (nI c2)), some (.int (nI 1)), none, none]) (fun _ _ q => q) ?_
      refine z_loop (σ := Nat → va_E) (K := fun _ k9 => k9) (LV := fun v _ => [some (.ref (b + 255)), some (.int (nI j)), some (.int (nI c2)), some (.int (nI (v + 1))), none, none]) (I := fun v k9 => (RW tI tZ b N k9 kk dv nc ms f0 f1 f2 f3 f4 f5 f6 f7 f8 f9 f10 f11 f12 f13 (upd f14 j (f14 j + f14 c2)) (pr (32 * j) 32 (mgC kk (rw_ 32 f15 j) (rw_ 32 f15 c2)) f15) (pr (64 * j + 1) v (fun r => ad (rw_ 64 f16 j) (rw_ 64 f16 c2) (r + 1)) f16) f17) ∧ (∀ q, q < b + 255 → k9 q = k q)) 63 0 k9 (by omega) (⟨by rw [pr_0]; exact hR, hfr⟩) (rfl) (rfl) ?_ ?_
      · intro k9 hI
        obtain ⟨hR, hfr⟩ := hI
        have ⟨ho, r0, r1, r2, r3, r4, r5, r6, r7, r8, r9, r10, r11, r12, r13, r14, r15, r16, r17⟩ := hR
        refine z_lv (lv2 := [some (.ref (b + 255)), some (.int (nI j)), some (.int (nI c2)), some (.int (nI (63 + 1))), none, none]) (fun _ _ q => q) ?_
        refine z_iload_n X d_R_merge_139 rfl ?_
        refine z_bipush X d_R_merge_140 (v := nI 64) (by decide +kernel) ?_
        refine z_icmp_geN X d_R_merge_142 (tgt := 185) (by decide) (by omega) (by omega) (fun _ => ?_) (fun h => absurd h (by omega))
        rw [pr_row1 (g := (rw_ 64 f16 j)) (g2 := (rw_ 64 f16 c2)) rfl h00] at hR
        have ⟨ho, r0, r1, r2, r3, r4, r5, r6, r7, r8, r9, r10, r11, r12, r13, r14, r15, r16, r17⟩ := hR
        refine z_aload_n X d_R_merge_185 rfl ?_
        refine z_iload_n X d_R_merge_186 rfl ?_
        refine z_callVv X (c_R_compress hR (by omega) hd) ho rfl (cwV 1 X.1.2.2.2.2 (gi_V lm_R_116 vi_R_compress ve_R_compress vn_R vc_R_compress) rfl rfl rfl (by decide +kernel) ⟨Nat.le_of_ble_eq_true rfl, Nat.le_of_ble_eq_true rfl⟩) (As := [.int (nI j)]) (st := []) rfl rfl (Nat.le_of_ble_eq_true rfl) d_R_merge_187 ⟨Nat.le_of_ble_eq_true rfl, Nat.le_of_ble_eq_true rfl⟩ (fun k2 hq => ?_)
        obtain ⟨hR9, hf9⟩ := hq
        rw [upd_eq, pr_pr, rw_pr (w := 64) (fun i hi => ad_z (rw_z hi) (rw_z hi))] at hR9
        exact z_vret X d_R_merge_190 (by omega) (by omega) (⟨_, hR9, fun q hq => (hf9 q hq).trans (hfr q hq)⟩)
      · intro v k9 hv hI ih
        obtain ⟨hR, hfr⟩ := hI
        have ⟨ho, r0, r1, r2, r3, r4, r5, r6, r7, r8, r9, r10, r11, r12, r13, r14, r15, r16, r17⟩ := hR
        refine z_lv (lv2 := [some (.ref (b + 255)), some (.int (nI j)), some (.int (nI c2)), some (.int (nI (v + 1))), none, none]) (fun _ _ q => q) ?_
        refine z_iload_n X d_R_merge_139 rfl ?_
        refine z_bipush X d_R_merge_140 (v := nI 64) (by decide +kernel) ?_
        refine z_icmp_geN X d_R_merge_142 (tgt := 185) (by decide) (by omega) (by omega) (fun h => absurd h (by omega)) (fun _ => ?_)
        refine z_aload_n X d_R_merge_145 rfl ?_
        refine z_get X ho rfl in_R 20 (by decide) (wq lf_R_63) rfl d_R_merge_146 ?_
        refine z_bipush X d_R_merge_149 (v := nI 64) (by decide +kernel) ?_
        refine z_iload_n X d_R_merge_151 rfl ?_
        refine z_imulN X d_R_merge_152 ?_
        refine z_iload_n X d_R_merge_153 rfl ?_
        refine z_iaddN X d_R_merge_154 ?_
        refine z_aload_n X d_R_merge_155 rfl ?_
        refine z_get X ho rfl in_R 20 (by decide) (wq lf_R_63) rfl d_R_merge_156 ?_
        refine z_bipush X d_R_merge_159 (v := nI 64) (by decide +kernel) ?_
        refine z_iload_n X d_R_merge_161 rfl ?_
        refine z_imulN X d_R_merge_162 ?_
        refine z_iload_n X d_R_merge_163 rfl ?_
        refine z_iaddN X d_R_merge_164 ?_
        refine z_iald X r16 0 rfl (j := (64 * j) + (v + 1)) rfl (by omega) (by omega) d_R_merge_165 ?_
        refine z_top (y := .int ((rw_ 64 f16 j) (v + 1))) (by rw [rw_in (by omega), pr_out (Or.inr (by omega))]) ?_
        refine z_aload_n X d_R_merge_166 rfl ?_
        refine z_get X ho rfl in_R 20 (by decide) (wq lf_R_63) rfl d_R_merge_167 ?_
        refine z_bipush X d_R_merge_170 (v := nI 64) (by decide +kernel) ?_
        refine z_iload_n X d_R_merge_172 rfl ?_
        refine z_imulN X d_R_merge_173 ?_
        refine z_iload_n X d_R_merge_174 rfl ?_
        refine z_iaddN X d_R_merge_175 ?_
        refine z_iald X r16 0 rfl (j := (64 * c2) + (v + 1)) rfl (by omega) (by omega) d_R_merge_176 ?_
        refine z_top (y := .int ((rw_ 64 f16 c2) (v + 1))) (by rw [rw_in (by omega), pr_out (Or.inr (by omega))]) ?_
        refine z_iadd X d_R_merge_177 ?_
        refine z_iast X r16 0 rfl (j := 64 * j + 1 + v) (by congr 1; omega) (by omega) (by omega) d_R_merge_178 ?_
        refine z_named (fun k_2 hk9 => ?_)
        have hR := hR.st16 hk9
        have hfr : ∀ q, q < b + 255 → k_2 q = k q := fun q hq => by rw [hk9]; exact (up_ne (by omega)).trans (hfr q hq)
        clear hk9
        have ⟨ho, r0, r1, r2, r3, r4, r5, r6, r7, r8, r9, r10, r11, r12, r13, r14, r15, r16, r17⟩ := hR
        refine z_iincU X d_R_merge_179 rfl (by decide) rfl ?_
        refine z_lv (lv2 := [some (.ref (b + 255)), some (.int (nI j)), some (.int (nI c2)), some (.int (nI (v + 1 + 1))), none, none]) (fun _ _ q => q) ?_
        refine z_goto X d_R_merge_182 (tgt := 139) (by decide) ?_
        exact z_at (ih k_2 ⟨by rw [pr_succ (64 * j + 1) v (fun r => ad (rw_ 64 f16 j) (rw_ 64 f16 c2) (r + 1)) f16 (x := (rw_ 64 f16 j) (v + 1) + (rw_ 64 f16 c2) (v + 1)) rfl] at hR; exact hR, hfr⟩) rfl rfl
    · skip
      refine z_iconst X d_R_merge_79 (v := nI 0) (by decide +kernel) ?_
      refine z_istore_n X d_R_merge_80 (by decide) rfl ?_
      refine z_lv (lv2 := [some (.ref (b + 255)), some (.int (nI j)), some (.int (nI c2)), some (.int (nI 0)), none, none]) (fun _ _ q => q) ?_
      refine z_aload_n X d_R_merge_81 rfl ?_
      refine z_callVv X (c_R_clearUsed hR) ho rfl (cwV 0 X.1.2.2.2.2 (gi_V lm_R_119 vi_R_clearUsed ve_R_clearUsed vn_R vc_R_clearUsed) rfl rfl rfl (by decide +kernel) ⟨Nat.le_of_ble_eq_true rfl, Nat.le_of_ble_eq_true rfl⟩) (As := []) (st := []) rfl rfl (Nat.le_of_ble_eq_true rfl) d_R_merge_82 ⟨Nat.le_of_ble_eq_true rfl, Nat.le_of_ble_eq_true rfl⟩ (fun k2 hq => ?_)
      obtain ⟨hR9, hf9⟩ := hq
      have hR := hR9
      have hfr : ∀ q, q < b + 255 → k2 q = k q := fun q hq => (hf9 q hq).trans (hfr q hq)
      have ⟨ho, r0, r1, r2, r3, r4, r5, r6, r7, r8, r9, r10, r11, r12, r13, r14, r15, r16, r17⟩ := hR
      refine z_iconst X d_R_merge_85 (v := nI 0) (by decide +kernel) ?_
      refine z_istore X d_R_merge_86 (by decide) rfl ?_
      refine z_lv (lv2 := [some (.ref (b + 255)), some (.int (nI j)), some (.int (nI c2)), some (.int (nI 0)), some (.int (nI 0)), none]) (fun _ _ q => q) ?_
      refine z_loop (σ := (Nat → va_E) × Int32) (K := fun _ (q : (Nat → va_E) × Int32) => q.1) (LV := fun v (q : (Nat → va_E) × Int32) => [some (.ref (b + 255)), some (.int (nI j)), some (.int (nI c2)), some (.int q.2), some (.int (nI v)), none]) (I := fun v (q : (Nat → va_E) × Int32) => (RW tI tZ b N q.1 kk dv nc ms f0 f1 f2 f3 f4 f5 f6 f7 f8 f9 f10 f11 f12 f13 (upd f14 j (f14 j + f14 c2)) (pr (32 * j) 32 (ad (rw_ 32 f15 j) (rw_ 32 f15 c2)) f15) f16 (pr 0 32 (fun w9 => nI (cb (pu (ad (rw_ 32 f15 j) (rw_ 32 f15 c2)) v w9))) f17)) ∧ (∀ q2, q2 < b + 255 → q.1 q2 = k q2) ∧ (1 ≤ v → q.2 = (ad (rw_ 32 f15 j) (rw_ 32 f15 c2)) ((gu (pu (ad (rw_ 32 f15 j) (rw_ 32 f15 c2)) (v - 1)) (ad (rw_ 32 f15 j) (rw_ 32 f15 c2)) 32).getD 0))) (kk + 1) 0 (k2, nI 0) (by omega) (⟨hR, hfr, fun q => absurd q (by omega)⟩) (rfl) (rfl) ?_ ?_
      · intro q hI
        obtain ⟨k9, nx⟩ := q
        obtain ⟨hR, hfr, hI⟩ := hI
        try dsimp only at hR hfr hI
        have ⟨ho, r0, r1, r2, r3, r4, r5, r6, r7, r8, r9, r10, r11, r12, r13, r14, r15, r16, r17⟩ := hR
        refine z_k (k2 := k9) (fun _ _ _ => rfl) ?_
        refine z_lv (lv2 := [some (.ref (b + 255)), some (.int (nI j)), some (.int (nI c2)), some (.int nx), some (.int (nI (kk + 1))), none]) (fun _ _ q => q) ?_
        refine z_iload X d_R_merge_88 rfl ?_
        refine z_aload_n X d_R_merge_90 rfl ?_
        refine z_get X ho rfl in_R 0 (by decide) (wq lf_R_69) rfl d_R_merge_91 ?_
        refine z_icmp_gtN X d_R_merge_94 (tgt := 131) (by decide) (by omega) (by omega) (fun _ => ?_) (fun h => absurd h (by omega))
        refine z_aload_n X d_R_merge_131 rfl ?_
        refine z_iload_n X d_R_merge_132 rfl ?_
        refine z_iload_n X d_R_merge_133 rfl ?_
        refine z_callVv X (c_R_lower hR (by omega)) ho rfl (cwV 2 X.1.2.2.2.2 (gi_V lm_R_113 vi_R_lower ve_R_lower vn_R vc_R_lower) rfl rfl rfl (by decide +kernel) ⟨Nat.le_of_ble_eq_true rfl, Nat.le_of_ble_eq_true rfl⟩) (As := [.int (nI j), .int nx]) (st := []) rfl rfl (Nat.le_of_ble_eq_true rfl) d_R_merge_134 ⟨Nat.le_of_ble_eq_true rfl, Nat.le_of_ble_eq_true rfl⟩ (fun k2 hq => ?_)
        obtain ⟨hR9, hf9⟩ := hq
        rw [pr_pr, hrow, show lw (ad (rw_ 32 f15 j) (rw_ 32 f15 c2)) nx = mgC kk (rw_ 32 f15 j) (rw_ 32 f15 c2) by unfold mgC; rw [if_pos (by omega), hI (by omega)]; rfl] at hR9
        have hR := hR9
        have hfr : ∀ q, q < b + 255 → k2 q = k q := fun q hq => (hf9 q hq).trans (hfr q hq)
        have ⟨ho, r0, r1, r2, r3, r4, r5, r6, r7, r8, r9, r10, r11, r12, r13, r14, r15, r16, r17⟩ := hR
        refine z_drop 4 ?_
        refine z_iconst X d_R_merge_137 (v := nI 1) (by decide +kernel) ?_
        refine z_istore_n X d_R_merge_138 (by decide) rfl ?_
        refine z_lv (lv2 := [some (.ref (b + 255)), some (.int (nI j)), some (.int (nI c2)), some (.int (nI 1)), none, none]) (fun _ _ q => q) ?_
        refine z_loop (σ := Nat → va_E) (K := fun _ k9 => k9) (LV := fun v _ => [some (.ref (b + 255)), some (.int (nI j)), some (.int (nI c2)), some (.int (nI (v + 1))), none, none]) (I := fun v k9 => (RW tI tZ b N k9 kk dv nc ms f0 f1 f2 f3 f4 f5 f6 f7 f8 f9 f10 f11 f12 f13 (upd f14 j (f14 j + f14 c2)) (pr (32 * j) 32 (mgC kk (rw_ 32 f15 j) (rw_ 32 f15 c2)) f15) (pr (64 * j + 1) v (fun r => ad (rw_ 64 f16 j) (rw_ 64 f16 c2) (r + 1)) f16) (pr 0 32 (fun w9 => nI (cb (pu (ad (rw_ 32 f15 j) (rw_ 32 f15 c2)) (kk + 1) w9))) f17)) ∧ (∀ q, q < b + 255 → k9 q = k q)) 63 0 k2 (by omega) (⟨by rw [pr_0]; exact hR, hfr⟩) (rfl) (rfl) ?_ ?_
        · intro k9 hI
          obtain ⟨hR, hfr⟩ := hI
          have ⟨ho, r0, r1, r2, r3, r4, r5, r6, r7, r8, r9, r10, r11, r12, r13, r14, r15, r16, r17⟩ := hR
          refine z_lv (lv2 := [some (.ref (b + 255)), some (.int (nI j)), some (.int (nI c2)), some (.int (nI (63 + 1))), none, none]) (fun _ _ q => q) ?_
          refine z_iload_n X d_R_merge_139 rfl ?_
          refine z_bipush X d_R_merge_140 (v := nI 64) (by decide +kernel) ?_
          refine z_icmp_geN X d_R_merge_142 (tgt := 185) (by decide) (by omega) (by omega) (fun _ => ?_) (fun h => absurd h (by omega))
          rw [pr_row1 (g := (rw_ 64 f16 j)) (g2 := (rw_ 64 f16 c2)) rfl h00] at hR
          have ⟨ho, r0, r1, r2, r3, r4, r5, r6, r7, r8, r9, r10, r11, r12, r13, r14, r15, r16, r17⟩ := hR
          refine z_aload_n X d_R_merge_185 rfl ?_
          refine z_iload_n X d_R_merge_186 rfl ?_
          refine z_callVv X (c_R_compress hR (by omega) hd) ho rfl (cwV 1 X.1.2.2.2.2 (gi_V lm_R_116 vi_R_compress ve_R_compress vn_R vc_R_compress) rfl rfl rfl (by decide +kernel) ⟨Nat.le_of_ble_eq_true rfl, Nat.le_of_ble_eq_true rfl⟩) (As := [.int (nI j)]) (st := []) rfl rfl (Nat.le_of_ble_eq_true rfl) d_R_merge_187 ⟨Nat.le_of_ble_eq_true rfl, Nat.le_of_ble_eq_true rfl⟩ (fun k2 hq => ?_)
          obtain ⟨hR9, hf9⟩ := hq
          rw [upd_eq, pr_pr, rw_pr (w := 64) (fun i hi => ad_z (rw_z hi) (rw_z hi))] at hR9
          exact z_vret X d_R_merge_190 (by omega) (by omega) (⟨_, hR9, fun q hq => (hf9 q hq).trans (hfr q hq)⟩)
        · intro v k9 hv hI ih
          obtain ⟨hR, hfr⟩ := hI
          have ⟨ho, r0, r1, r2, r3, r4, r5, r6, r7, r8, r9, r10, r11, r12, r13, r14, r15, r16, r17⟩ := hR
          refine z_lv (lv2 := [some (.ref (b + 255)), some (.int (nI j)), some (.int (nI c2)), some (.int (nI (v + 1))), none, none]) (fun _ _ q => q) ?_
          refine z_iload_n X d_R_merge_139 rfl ?_
          refine z_bipush X d_R_merge_140 (v := nI 64) (by decide +kernel) ?_
          refine z_icmp_geN X d_R_merge_142 (tgt := 185) (by decide) (by omega) (by omega) (fun h => absurd h (by omega)) (fun _ => ?_)
          refine z_aload_n X d_R_merge_145 rfl ?_
          refine z_get X ho rfl in_R 20 (by decide) (wq lf_R_63) rfl d_R_merge_146 ?_
          refine z_bipush X d_R_merge_149 (v := nI 64) (by decide +kernel) ?_
          refine z_iload_n X d_R_merge_151 rfl ?_
          refine z_imulN X d_R_merge_152 ?_
          refine z_iload_n X d_R_merge_153 rfl ?_
          refine z_iaddN X d_R_merge_154 ?_
          refine z_aload_n X d_R_merge_155 rfl ?_
          refine z_get X ho rfl in_R 20 (by decide) (wq lf_R_63) rfl d_R_merge_156 ?_
          refine z_bipush X d_R_merge_159 (v := nI 64) (by decide +kernel) ?_
          refine z_iload_n X d_R_merge_161 rfl ?_
          refine z_imulN X d_R_merge_162 ?_
          refine z_iload_n X d_R_merge_163 rfl ?_
          refine z_iaddN X d_R_merge_164 ?_
          refine z_iald X r16 0 rfl (j := (64 * j) + (v + 1)) rfl (by omega) (by omega) d_R_merge_165 ?_
          refine z_top (y := .int ((rw_ 64 f16 j) (v + 1))) (by rw [rw_in (by omega), pr_out (Or.inr (by omega))]) ?_
          refine z_aload_n X d_R_merge_166 rfl ?_
          refine z_get X ho rfl in_R 20 (by decide) (wq lf_R_63) rfl d_R_merge_167 ?_
          refine z_bipush X d_R_merge_170 (v := nI 64) (by decide +kernel) ?_
          refine z_iload_n X d_R_merge_172 rfl ?_
          refine z_imulN X d_R_merge_173 ?_
          refine z_iload_n X d_R_merge_174 rfl ?_
          refine z_iaddN X d_R_merge_175 ?_
          refine z_iald X r16 0 rfl (j := (64 * c2) + (v + 1)) rfl (by omega) (by omega) d_R_merge_176 ?_
          refine z_top (y := .int ((rw_ 64 f16 c2) (v + 1))) (by rw [rw_in (by omega), pr_out (Or.inr (by omega))]) ?_
          refine z_iadd X d_R_merge_177 ?_
          refine z_iast X r16 0 rfl (j := 64 * j + 1 + v) (by congr 1; omega) (by omega) (by omega) d_R_merge_178 ?_
          refine z_named (fun k_3 hk9 => ?_)
          have hR := hR.st16 hk9
          have hfr : ∀ q, q < b + 255 → k_3 q = k q := fun q hq => by rw [hk9]; exact (up_ne (by omega)).trans (hfr q hq)
          clear hk9
          have ⟨ho, r0, r1, r2, r3, r4, r5, r6, r7, r8, r9, r10, r11, r12, r13, r14, r15, r16, r17⟩ := hR
          refine z_iincU X d_R_merge_179 rfl (by decide) rfl ?_
          refine z_lv (lv2 := [some (.ref (b + 255)), some (.int (nI j)), some (.int (nI c2)), some (.int (nI (v + 1 + 1))), none, none]) (fun _ _ q => q) ?_
          refine z_goto X d_R_merge_182 (tgt := 139) (by decide) ?_
          exact z_at (ih k_3 ⟨by rw [pr_succ (64 * j + 1) v (fun r => ad (rw_ 64 f16 j) (rw_ 64 f16 c2) (r + 1)) f16 (x := (rw_ 64 f16 j) (v + 1) + (rw_ 64 f16 c2) (v + 1)) rfl] at hR; exact hR, hfr⟩) rfl rfl
      · intro v q hv hI ih
        obtain ⟨k9, nx⟩ := q
        obtain ⟨hR, hfr, hI⟩ := hI
        try dsimp only at hR hfr hI
        have ⟨ho, r0, r1, r2, r3, r4, r5, r6, r7, r8, r9, r10, r11, r12, r13, r14, r15, r16, r17⟩ := hR
        refine z_k (k2 := k9) (fun _ _ _ => rfl) ?_
        refine z_lv (lv2 := [some (.ref (b + 255)), some (.int (nI j)), some (.int (nI c2)), some (.int nx), some (.int (nI v)), none]) (fun _ _ q => q) ?_
        refine z_iload X d_R_merge_88 rfl ?_
        refine z_aload_n X d_R_merge_90 rfl ?_
        refine z_get X ho rfl in_R 0 (by decide) (wq lf_R_69) rfl d_R_merge_91 ?_
        refine z_icmp_gtN X d_R_merge_94 (tgt := 131) (by decide) (by omega) (by omega) (fun h => absurd h (by omega)) (fun _ => ?_)
        refine z_aload_n X d_R_merge_97 rfl ?_
        refine z_iload_n X d_R_merge_98 rfl ?_
        obtain ⟨x, hg, hx, -, -⟩ := pick (ad (rw_ 32 f15 j) (rw_ 32 f15 c2)) (q := v) (by omega)
        refine z_callVi X (c_R_greatestUnused hR (u := pu (ad (rw_ 32 f15 j) (rw_ 32 f15 c2)) v) (by omega) (fun v2 hv2 => pr_i0 hv2)) ho rfl (cwV 1 X.1.2.2.2.2 (gi_V lm_R_122 vi_R_greatestUnused ve_R_greatestUnused vn_R vc_R_greatestUnused) rfl rfl rfl (by decide +kernel) ⟨Nat.le_of_ble_eq_true rfl, Nat.le_of_ble_eq_true rfl⟩) (As := [.int (nI j)]) (st := []) rfl rfl (Nat.le_of_ble_eq_true rfl) d_R_merge_99 ⟨Nat.le_of_ble_eq_true rfl, Nat.le_of_ble_eq_true rfl⟩ (fun z k2 hq => ?_)
        rw [hrow, hg] at hq
        obtain ⟨rfl, hk9⟩ := hq
        have hk9 := hk9.symm
        subst hk9
        refine z_top (y := .int (nI x)) rfl ?_
        refine z_istore X d_R_merge_102 (by decide) rfl ?_
        refine z_lv (lv2 := [some (.ref (b + 255)), some (.int (nI j)), some (.int (nI c2)), some (.int nx), some (.int (nI v)), some (.int (nI x))]) (fun _ _ q => q) ?_
        refine z_aload_n X d_R_merge_104 rfl ?_
        refine z_get X ho rfl in_R 21 (by decide) (wq lf_R_66) rfl d_R_merge_105 ?_
        refine z_iload X d_R_merge_108 rfl ?_
        refine z_iconst X d_R_merge_110 (v := nI 1) (by decide +kernel) ?_
        refine z_zast X r17 1 rfl (j := x) rfl (by omega) (by omega) d_R_merge_111 ?_
        refine z_named (fun k_4 hk9 => ?_)
        have hR := hR.st17 hk9
        rw [show (upd (pr 0 32 (fun w9 => nI (cb (pu (ad (rw_ 32 f15 j) (rw_ 32 f15 c2)) v w9))) f17) x (vp_nar .boolean (nI 1))) = pr 0 32 (fun w9 => nI (cb (pu (ad (rw_ 32 f15 j) (rw_ 32 f15 c2)) (v + 1) w9))) f17 from us_succ hx hg] at hR
        have hfr : ∀ q, q < b + 255 → k_4 q = k q := fun q hq => by rw [hk9]; exact (up_ne (by omega)).trans (hfr q hq)
        clear hk9
        have ⟨ho, r0, r1, r2, r3, r4, r5, r6, r7, r8, r9, r10, r11, r12, r13, r14, r15, r16, r17⟩ := hR
        refine z_aload_n X d_R_merge_112 rfl ?_
        refine z_get X ho rfl in_R 19 (by decide) (wq lf_R_60) rfl d_R_merge_113 ?_
        refine z_bipush X d_R_merge_116 (v := nI 32) (by decide +kernel) ?_
        refine z_iload_n X d_R_merge_118 rfl ?_
        refine z_imulN X d_R_merge_119 ?_
        refine z_iload X d_R_merge_120 rfl ?_
        refine z_iaddN X d_R_merge_122 ?_
        refine z_iald X r15 0 rfl (j := (32 * j) + x) rfl (by omega) (by omega) d_R_merge_123 ?_
        refine z_top (y := .int ((ad (rw_ 32 f15 j) (rw_ 32 f15 c2)) x)) (by rw [pr_in hx]) ?_
        refine z_istore_n X d_R_merge_124 (by decide) rfl ?_
        refine z_lv (lv2 := [some (.ref (b + 255)), some (.int (nI j)), some (.int (nI c2)), some (.int ((ad (rw_ 32 f15 j) (rw_ 32 f15 c2)) x)), some (.int (nI v)), some (.int (nI x))]) (fun _ _ q => q) ?_
        refine z_iincU X d_R_merge_125 rfl (by decide) rfl ?_
        refine z_lv (lv2 := [some (.ref (b + 255)), some (.int (nI j)), some (.int (nI c2)), some (.int ((ad (rw_ 32 f15 j) (rw_ 32 f15 c2)) x)), some (.int (nI (v + 1))), some (.int (nI x))]) (fun _ _ q => q) ?_
        refine z_goto X d_R_merge_128 (tgt := 88) (by decide) ?_
        refine z_drop 5 ?_
        exact z_at (ih (k_4, (ad (rw_ 32 f15 j) (rw_ 32 f15 c2)) x) ⟨hR, hfr, fun _ => by show (ad (rw_ 32 f15 j) (rw_ 32 f15 c2)) x = _; rw [Nat.add_sub_cancel, hg]; rfl⟩) rfl rfl
  · intro v k9 hv hI ih
    obtain ⟨hR, hfr⟩ := hI
    have ⟨ho, r0, r1, r2, r3, r4, r5, r6, r7, r8, r9, r10, r11, r12, r13, r14, r15, r16, r17⟩ := hR
    refine z_lv (lv2 := [some (.ref (b + 255)), some (.int (nI j)), some (.int (nI c2)), some (.int (nI v)), none, none]) (fun _ _ q => q) ?_
    refine z_iload_n X d_R_merge_21 rfl ?_
    refine z_bipush X d_R_merge_22 (v := nI 32) (by decide +kernel) ?_
    refine z_icmp_geN X d_R_merge_24 (tgt := 67) (by decide) (by omega) (by omega) (fun h => absurd h (by omega)) (fun _ => ?_)
    refine z_aload_n X d_R_merge_27 rfl ?_
    refine z_get X ho rfl in_R 19 (by decide) (wq lf_R_60) rfl d_R_merge_28 ?_
    refine z_bipush X d_R_merge_31 (v := nI 32) (by decide +kernel) ?_
    refine z_iload_n X d_R_merge_33 rfl ?_
    refine z_imulN X d_R_merge_34 ?_
    refine z_iload_n X d_R_merge_35 rfl ?_
    refine z_iaddN X d_R_merge_36 ?_
    refine z_aload_n X d_R_merge_37 rfl ?_
    refine z_get X ho rfl in_R 19 (by decide) (wq lf_R_60) rfl d_R_merge_38 ?_
    refine z_bipush X d_R_merge_41 (v := nI 32) (by decide +kernel) ?_
    refine z_iload_n X d_R_merge_43 rfl ?_
    refine z_imulN X d_R_merge_44 ?_
    refine z_iload_n X d_R_merge_45 rfl ?_
    refine z_iaddN X d_R_merge_46 ?_
    refine z_iald X r15 0 rfl (j := (32 * j) + v) rfl (by omega) (by omega) d_R_merge_47 ?_
    refine z_top (y := .int ((rw_ 32 f15 j) v)) (by rw [rw_in hv, pr_out (Or.inr (by omega))]) ?_
    refine z_aload_n X d_R_merge_48 rfl ?_
    refine z_get X ho rfl in_R 19 (by decide) (wq lf_R_60) rfl d_R_merge_49 ?_
    refine z_bipush X d_R_merge_52 (v := nI 32) (by decide +kernel) ?_
    refine z_iload_n X d_R_merge_54 rfl ?_
    refine z_imulN X d_R_merge_55 ?_
    refine z_iload_n X d_R_merge_56 rfl ?_
    refine z_iaddN X d_R_merge_57 ?_
    refine z_iald X r15 0 rfl (j := (32 * c2) + v) rfl (by omega) (by omega) d_R_merge_58 ?_
    refine z_top (y := .int ((rw_ 32 f15 c2) v)) (by rw [rw_in hv, pr_out (Or.inr (by omega))]) ?_
    refine z_iadd X d_R_merge_59 ?_
    refine z_iast X r15 0 rfl (j := (32 * j) + v) rfl (by omega) (by omega) d_R_merge_60 ?_
    refine z_named (fun k_5 hk9 => ?_)
    have hR := hR.st15 hk9
    have hfr : ∀ q, q < b + 255 → k_5 q = k q := fun q hq => by rw [hk9]; exact (up_ne (by omega)).trans (hfr q hq)
    clear hk9
    have ⟨ho, r0, r1, r2, r3, r4, r5, r6, r7, r8, r9, r10, r11, r12, r13, r14, r15, r16, r17⟩ := hR
    refine z_iincU X d_R_merge_61 rfl (by decide) rfl ?_
    refine z_lv (lv2 := [some (.ref (b + 255)), some (.int (nI j)), some (.int (nI c2)), some (.int (nI (v + 1))), none, none]) (fun _ _ q => q) ?_
    refine z_goto X d_R_merge_64 (tgt := 21) (by decide) ?_
    exact z_at (ih k_5 ⟨by rw [pr_succ (32 * j) v (ad (rw_ 32 f15 j) (rw_ 32 f15 c2)) f15 (x := (rw_ 32 f15 j) v + (rw_ 32 f15 c2) v) rfl] at hR; exact hR, hfr⟩) rfl rfl
set_option maxHeartbeats 4000000 in
set_option maxRecDepth 100000 in
/-- R_know -/
theorem c_R_know {kk nc : Nat} {dv ms : Int32} {f0 f1 f2 f3 f4 f5 f6 f7 f8 f9 f10 f11 f12 f13 f14 f15 f16 f17 : Nat → Int32} {j : Nat} (hR : RW tI tZ b N k kk dv nc ms f0 f1 f2 f3 f4 f5 f6 f7 f8 f9 f10 f11 f12 f13 f14 f15 f16 f17) (hj : j < 12) (hnc : nc ≤ 12) (hn1 : 1 ≤ nc)  : Met l y_R_know (wy y_R_know b_R_know 4 none) (rm 0 0 0) (zPc D (tyl tI tZ tN tM) b N k [.ref (b + 255), .int (nI j)]) (zQv D b N (fun k2 => RW tI tZ b N k2 kk dv nc ms f0 f1 f2 f3 f4 f5 f6 f7 f8 f9 f10 f11 f12 (knw f0 f1 f4 f7 f8 f13 nc j) f14 f15 f16 f17 ∧ ∀ q, q < b + 255 → k2 q = k q)) 0 0 (zA b) := by
  refine z_met (own := R_R) (by decide) rfl rfl (Nat.le_of_ble_eq_true rfl) [some (.ref (b + 255)), some (.int (nI j)), none, none] rfl ?_
  intro p e s m args below meth c X hin
  have ⟨ho, r0, r1, r2, r3, r4, r5, r6, r7, r8, r9, r10, r11, r12, r13, r14, r15, r16, r17⟩ := hR
  have hfr : ∀ q, q < b + 255 → k q = k q := fun _ _ => rfl
  refine z_iconst X d_R_know_0 (v := nI 0) (by decide +kernel) ?_
  refine z_istore_n X d_R_know_1 (by decide) rfl ?_
  refine z_lv (lv2 := [some (.ref (b + 255)), some (.int (nI j)), some (.int (nI 0)), none]) (fun _ _ q => q) ?_
  refine z_loop (σ := Nat → va_E) (K := fun _ k9 => k9) (LV := fun v _ => [some (.ref (b + 255)), some (.int (nI j)), some (.int (nI v)), none]) (I := fun v k9 => (RW tI tZ b N k9 kk dv nc ms f0 f1 f2 f3 f4 f5 f6 f7 f8 f9 f10 f11 f12 (pr 0 v (fun _ => 0) f13) f14 f15 f16 f17) ∧ (∀ q, q < b + 255 → k9 q = k q)) 12 0 k (by omega) (⟨by rw [pr_0]; exact hR, hfr⟩) (rfl) (rfl) ?_ ?_
  · intro k9 hI
    obtain ⟨hR, hfr⟩ := hI
    have ⟨ho, r0, r1, r2, r3, r4, r5, r6, r7, r8, r9, r10, r11, r12, r13, r14, r15, r16, r17⟩ := hR
    refine z_lv (lv2 := [some (.ref (b + 255)), some (.int (nI j)), some (.int (nI 12)), none]) (fun _ _ q => q) ?_
    refine z_iload_n X d_R_know_2 rfl ?_
    refine z_bipush X d_R_know_3 (v := nI 12) (by decide +kernel) ?_
    refine z_icmp_geN X d_R_know_5 (tgt := 21) (by decide) (by omega) (by omega) (fun _ => ?_) (fun h => absurd h (by omega))
    refine z_aload_n X d_R_know_21 rfl ?_
    refine z_get X ho rfl in_R 4 (by decide) (wq lf_R_17) rfl d_R_know_22 ?_
    refine z_iload_n X d_R_know_25 rfl ?_
    refine z_zald X r1 1 rfl (j := j) rfl (by omega) (by omega) d_R_know_26 ?_
    refine z_if_eq X d_R_know_27 (tgt := 43) (by decide) (fun hA => ?_) (fun hA => ?_)
    · skip
      refine z_iconst X d_R_know_43 (v := nI 1) (by decide +kernel) ?_
      refine z_istore_n X d_R_know_44 (by decide) rfl ?_
      refine z_lv (lv2 := [some (.ref (b + 255)), some (.int (nI j)), some (.int (nI 1)), none]) (fun _ _ q => q) ?_
      refine z_loop (σ := Nat → va_E) (K := fun _ k9 => k9) (LV := fun v _ => [some (.ref (b + 255)), some (.int (nI j)), some (.int (nI (v + 1))), none]) (I := fun v k9 => (RW tI tZ b N k9 kk dv nc ms f0 f1 f2 f3 f4 f5 f6 f7 f8 f9 f10 f11 f12 (kac f0 f7 f8 (nI j) (pr 0 12 (fun _ => 0) f13) v) f14 f15 f16 f17) ∧ (∀ q, q < b + 255 → k9 q = k q)) (nc - 1) 0 k9 (by omega) (⟨hR, hfr⟩) (rfl) (rfl) ?_ ?_
      · intro k9 hI
        obtain ⟨hR, hfr⟩ := hI
        have ⟨ho, r0, r1, r2, r3, r4, r5, r6, r7, r8, r9, r10, r11, r12, r13, r14, r15, r16, r17⟩ := hR
        refine z_lv (lv2 := [some (.ref (b + 255)), some (.int (nI j)), some (.int (nI (nc - 1 + 1))), none]) (fun _ _ q => q) ?_
        refine z_iload_n X d_R_know_45 rfl ?_
        refine z_aload_n X d_R_know_46 rfl ?_
        refine z_get X ho rfl in_R 2 (by decide) (wq lf_R_7) rfl d_R_know_47 ?_
        refine z_icmp_geN X d_R_know_50 (tgt := 116) (by decide) (by omega) (by omega) (fun _ => ?_) (fun h => absurd h (by omega))
        exact z_vret X d_R_know_116 (by omega) (by omega) (⟨by unfold knw; rw [if_pos hA]; exact hR, hfr⟩)
      · intro v k9 hv hI ih
        obtain ⟨hR, hfr⟩ := hI
        have ⟨ho, r0, r1, r2, r3, r4, r5, r6, r7, r8, r9, r10, r11, r12, r13, r14, r15, r16, r17⟩ := hR
        refine z_lv (lv2 := [some (.ref (b + 255)), some (.int (nI j)), some (.int (nI (v + 1))), none]) (fun _ _ q => q) ?_
        refine z_iload_n X d_R_know_45 rfl ?_
        refine z_aload_n X d_R_know_46 rfl ?_
        refine z_get X ho rfl in_R 2 (by decide) (wq lf_R_7) rfl d_R_know_47 ?_
        refine z_icmp_geN X d_R_know_50 (tgt := 116) (by decide) (by omega) (by omega) (fun h => absurd h (by omega)) (fun _ => ?_)
        refine z_aload_n X d_R_know_53 rfl ?_
        refine z_get X ho rfl in_R 3 (by decide) (wq lf_R_13) rfl d_R_know_54 ?_
        refine z_iload_n X d_R_know_57 rfl ?_
        refine z_iald X r0 0 rfl (j := v + 1) rfl (by omega) (by omega) d_R_know_58 ?_
        refine z_iload_n X d_R_know_59 rfl ?_
        refine z_icmp_ne X d_R_know_60 (tgt := 110) (by decide) (fun hB => ?_) (fun hB => ?_)
        · skip
          refine z_iincU X d_R_know_110 rfl (by decide) rfl ?_
          refine z_lv (lv2 := [some (.ref (b + 255)), some (.int (nI j)), some (.int (nI (v + 1 + 1))), none]) (fun _ _ q => q) ?_
          refine z_goto X d_R_know_113 (tgt := 45) (by decide) ?_
          exact z_at (ih k9 ⟨by simp only [kac]; rw [if_neg (fun q => hB q.1)]; exact hR, hfr⟩) rfl rfl
        · skip
          refine z_aload_n X d_R_know_63 rfl ?_
          refine z_get X ho rfl in_R 10 (by decide) (wq lf_R_36) rfl d_R_know_64 ?_
          refine z_iload_n X d_R_know_67 rfl ?_
          refine z_iald X r7 0 rfl (j := v + 1) rfl (by omega) (by omega) d_R_know_68 ?_
          refine z_if_le X d_R_know_69 (tgt := 110) (by decide) (fun hD => ?_) (fun hD => ?_)
          · skip
            refine z_iincU X d_R_know_110 rfl (by decide) rfl ?_
            refine z_lv (lv2 := [some (.ref (b + 255)), some (.int (nI j)), some (.int (nI (v + 1 + 1))), none]) (fun _ _ q => q) ?_
            refine z_goto X d_R_know_113 (tgt := 45) (by decide) ?_
            exact z_at (ih k9 ⟨by simp only [kac]; rw [if_neg (fun q => i32_le_n hD q.2)]; exact hR, hfr⟩) rfl rfl
          · skip
            refine z_iconst X d_R_know_72 (v := nI 0) (by decide +kernel) ?_
            refine z_istore_n X d_R_know_73 (by decide) rfl ?_
            refine z_lv (lv2 := [some (.ref (b + 255)), some (.int (nI j)), some (.int (nI (v + 1))), some (.int (nI 0))]) (fun _ _ q => q) ?_
            refine z_loop (σ := Nat → va_E) (K := fun _ k8 => k8) (LV := fun x _ => [some (.ref (b + 255)), some (.int (nI j)), some (.int (nI (v + 1))), some (.int (nI x))]) (I := fun x k8 => (RW tI tZ b N k8 kk dv nc ms f0 f1 f2 f3 f4 f5 f6 f7 f8 f9 f10 f11 f12 (pr 0 x (fun l => kac f0 f7 f8 (nI j) (pr 0 12 (fun _ => 0) f13) v l + f8 (12 * (v + 1) + l)) (kac f0 f7 f8 (nI j) (pr 0 12 (fun _ => 0) f13) v)) f14 f15 f16 f17) ∧ (∀ q, q < b + 255 → k8 q = k q)) 12 0 k9 (by omega) (⟨by rw [pr_0]; exact hR, hfr⟩) (rfl) (rfl) ?_ ?_
            · intro k8 hI2
              obtain ⟨hR, hfr⟩ := hI2
              have ⟨ho, r0, r1, r2, r3, r4, r5, r6, r7, r8, r9, r10, r11, r12, r13, r14, r15, r16, r17⟩ := hR
              refine z_lv (lv2 := [some (.ref (b + 255)), some (.int (nI j)), some (.int (nI (v + 1))), some (.int (nI 12))]) (fun _ _ q => q) ?_
              refine z_iload_n X d_R_know_74 rfl ?_
              refine z_bipush X d_R_know_75 (v := nI 12) (by decide +kernel) ?_
              refine z_icmp_geN X d_R_know_77 (tgt := 110) (by decide) (by omega) (by omega) (fun _ => ?_) (fun h => absurd h (by omega))
              refine z_iincU X d_R_know_110 rfl (by decide) rfl ?_
              refine z_lv (lv2 := [some (.ref (b + 255)), some (.int (nI j)), some (.int (nI (v + 1 + 1))), some (.int (nI 12))]) (fun _ _ q => q) ?_
              refine z_goto X d_R_know_113 (tgt := 45) (by decide) ?_
              refine z_drop 3 ?_
              exact z_at (ih k8 ⟨by simp only [kac]; rw [if_pos ⟨hB, i32_nle hD⟩]; exact hR, hfr⟩) rfl rfl
            · intro x k8 hx hI2 ih2
              obtain ⟨hR, hfr⟩ := hI2
              have ⟨ho, r0, r1, r2, r3, r4, r5, r6, r7, r8, r9, r10, r11, r12, r13, r14, r15, r16, r17⟩ := hR
              refine z_lv (lv2 := [some (.ref (b + 255)), some (.int (nI j)), some (.int (nI (v + 1))), some (.int (nI x))]) (fun _ _ q => q) ?_
              refine z_iload_n X d_R_know_74 rfl ?_
              refine z_bipush X d_R_know_75 (v := nI 12) (by decide +kernel) ?_
              refine z_icmp_geN X d_R_know_77 (tgt := 110) (by decide) (by omega) (by omega) (fun h => absurd h (by omega)) (fun _ => ?_)
              refine z_aload_n X d_R_know_80 rfl ?_
              refine z_get X ho rfl in_R 17 (by decide) (wq lf_R_54) rfl d_R_know_81 ?_
              refine z_iload_n X d_R_know_84 rfl ?_
              refine z_aload_n X d_R_know_85 rfl ?_
              refine z_get X ho rfl in_R 17 (by decide) (wq lf_R_54) rfl d_R_know_86 ?_
              refine z_iload_n X d_R_know_89 rfl ?_
              refine z_iald X r13 0 rfl (j := x) rfl (by omega) (by omega) d_R_know_90 ?_
              refine z_top (y := .int (kac f0 f7 f8 (nI j) (pr 0 12 (fun _ => 0) f13) v x)) (by rw [pr_out (Or.inr (by omega))]) ?_
              refine z_aload_n X d_R_know_91 rfl ?_
              refine z_get X ho rfl in_R 11 (by decide) (wq lf_R_39) rfl d_R_know_92 ?_
              refine z_bipush X d_R_know_95 (v := nI 12) (by decide +kernel) ?_
              refine z_iload_n X d_R_know_97 rfl ?_
              refine z_imulN X d_R_know_98 ?_
              refine z_iload_n X d_R_know_99 rfl ?_
              refine z_iaddN X d_R_know_100 ?_
              refine z_iald X r8 0 rfl (j := (12 * (v + 1)) + x) rfl (by omega) (by omega) d_R_know_101 ?_
              refine z_iadd X d_R_know_102 ?_
              refine z_iast X r13 0 rfl (j := x) rfl (by omega) (by omega) d_R_know_103 ?_
              refine z_named (fun k_1 hk9 => ?_)
              have hR := hR.st13 hk9
              have hfr : ∀ q, q < b + 255 → k_1 q = k q := fun q hq => by rw [hk9]; exact (up_ne (by omega)).trans (hfr q hq)
              clear hk9
              have ⟨ho, r0, r1, r2, r3, r4, r5, r6, r7, r8, r9, r10, r11, r12, r13, r14, r15, r16, r17⟩ := hR
              refine z_iincU X d_R_know_104 rfl (by decide) rfl ?_
              refine z_lv (lv2 := [some (.ref (b + 255)), some (.int (nI j)), some (.int (nI (v + 1))), some (.int (nI (x + 1)))]) (fun _ _ q => q) ?_
              refine z_goto X d_R_know_107 (tgt := 74) (by decide) ?_
              exact z_at (ih2 k_1 ⟨by rw [pr_s0 x (fun l => kac f0 f7 f8 (nI j) (pr 0 12 (fun _ => 0) f13) v l + f8 (12 * (v + 1) + l)) _ (x := kac f0 f7 f8 (nI j) (pr 0 12 (fun _ => 0) f13) v x + f8 (12 * (v + 1) + x)) rfl] at hR; exact hR, hfr⟩) rfl rfl
    · skip
      refine z_aload_n X d_R_know_30 rfl ?_
      refine z_get X ho rfl in_R 17 (by decide) (wq lf_R_54) rfl d_R_know_31 ?_
      refine z_iload_n X d_R_know_34 rfl ?_
      refine z_aload_n X d_R_know_35 rfl ?_
      refine z_get X ho rfl in_R 7 (by decide) (wq lf_R_27) rfl d_R_know_36 ?_
      refine z_iload_n X d_R_know_39 rfl ?_
      refine z_iald X r4 0 rfl (j := j) rfl (by omega) (by omega) d_R_know_40 ?_
      refine z_iast X r13 0 rfl (j := j) rfl (by omega) (by omega) d_R_know_41 ?_
      refine z_named (fun k_2 hk9 => ?_)
      have hR := hR.st13 hk9
      have hfr : ∀ q, q < b + 255 → k_2 q = k q := fun q hq => by rw [hk9]; exact (up_ne (by omega)).trans (hfr q hq)
      clear hk9
      have ⟨ho, r0, r1, r2, r3, r4, r5, r6, r7, r8, r9, r10, r11, r12, r13, r14, r15, r16, r17⟩ := hR
      exact z_vret X d_R_know_42 (by omega) (by omega) (⟨by unfold knw; rw [if_neg hA]; exact hR, hfr⟩)
  · intro v k9 hv hI ih
    obtain ⟨hR, hfr⟩ := hI
    have ⟨ho, r0, r1, r2, r3, r4, r5, r6, r7, r8, r9, r10, r11, r12, r13, r14, r15, r16, r17⟩ := hR
    refine z_lv (lv2 := [some (.ref (b + 255)), some (.int (nI j)), some (.int (nI v)), none]) (fun _ _ q => q) ?_
    refine z_iload_n X d_R_know_2 rfl ?_
    refine z_bipush X d_R_know_3 (v := nI 12) (by decide +kernel) ?_
    refine z_icmp_geN X d_R_know_5 (tgt := 21) (by decide) (by omega) (by omega) (fun h => absurd h (by omega)) (fun _ => ?_)
    refine z_aload_n X d_R_know_8 rfl ?_
    refine z_get X ho rfl in_R 17 (by decide) (wq lf_R_54) rfl d_R_know_9 ?_
    refine z_iload_n X d_R_know_12 rfl ?_
    refine z_iconst X d_R_know_13 (v := nI 0) (by decide +kernel) ?_
    refine z_iast X r13 0 rfl (j := v) rfl (by omega) (by omega) d_R_know_14 ?_
    refine z_named (fun k_3 hk9 => ?_)
    have hR := hR.st13 hk9
    have hfr : ∀ q, q < b + 255 → k_3 q = k q := fun q hq => by rw [hk9]; exact (up_ne (by omega)).trans (hfr q hq)
    clear hk9
    have ⟨ho, r0, r1, r2, r3, r4, r5, r6, r7, r8, r9, r10, r11, r12, r13, r14, r15, r16, r17⟩ := hR
    refine z_iincU X d_R_know_15 rfl (by decide) rfl ?_
    refine z_lv (lv2 := [some (.ref (b + 255)), some (.int (nI j)), some (.int (nI (v + 1))), none]) (fun _ _ q => q) ?_
    refine z_goto X d_R_know_18 (tgt := 2) (by decide) ?_
    exact z_at (ih k_3 ⟨by rw [pr_s0 v _ f13 nI_0] at hR; exact hR, hfr⟩) rfl rfl
end
