/-! Contracts of the reference, 5: work -/
def rowOf (g14 g15 g16 : Nat → Int32) (j : Nat) : Row := (g14 j, rw_ 32 g15 j, rw_ 64 g16 j)
theorem row_ne {g14 g15 g16 C G : Nat → Int32} {x : Int32} {i j : Nat} (h : i ≠ j) : rowOf (upd g14 j x) (pr (32 * j) 32 C g15) (pr (64 * j) 64 G g16) i = rowOf g14 g15 g16 i := by
  unfold rowOf
  rw [upd_ne h, rw_pr_ne h, rw_pr_ne h]
theorem row_eq {g14 g15 g16 C G : Nat → Int32} {x : Int32} {j : Nat} (hC : ∀ i, 32 ≤ i → C i = 0) (hG : ∀ i, 64 ≤ i → G i = 0) : rowOf (upd g14 j x) (pr (32 * j) 32 C g15) (pr (64 * j) 64 G g16) j = (x, C, G) := by
  unfold rowOf
  rw [upd_eq, rw_pr hC, rw_pr hG]
theorem cpr_z {t : Int32} {n : Nat} {g : Nat → Int32} (h : ∀ i, 64 ≤ i → g i = 0) : ∀ i, 64 ≤ i → cpr t n g i = 0 := fun i hi => by rw [cpr_out (Or.inr hi)]; exact h i hi
theorem row_take {kk v j : Nat} {dv : Int32} {g14 g15 g16 : Nat → Int32} (hv : v < 32) : rowOf (upd g14 j (g14 j + 1)) (pr (32 * j) 32 (tkC kk (rw_ 32 g15 j) v) g15) (pr (64 * j) 64 (cpr ((g14 j + 1) / dv) 4000 (upd (rw_ 64 g16 j) (32 + v) (rw_ 64 g16 j (32 + v) + 1))) g16) j = tkR 4000 kk dv (rowOf g14 g15 g16 j) v := by
  rw [row_eq (tkC_z hv (fun i hi => rw_z hi)) (cpr_z (fun i hi => by rw [upd_ne (by omega)]; exact rw_z hi))]
  rfl
theorem row_merge {kk c j : Nat} {dv : Int32} {g14 g15 g16 : Nat → Int32} : rowOf (upd g14 j (g14 j + g14 c)) (pr (32 * j) 32 (mgC kk (rw_ 32 g15 j) (rw_ 32 g15 c)) g15) (pr (64 * j) 64 (cpr ((g14 j + g14 c) / dv) 4000 (ad (rw_ 64 g16 j) (rw_ 64 g16 c))) g16) j = mgR 4000 kk dv (rowOf g14 g15 g16 j) (rowOf g14 g15 g16 c) := by
  rw [row_eq (mgC_z (fun i hi => rw_z hi) (fun i hi => rw_z hi)) (cpr_z (fun i hi => ad_z (rw_z hi) (rw_z hi)))]
  rfl
theorem mgs_zr {kk : Nat} {d : Int32} {up : Nat → Nat} {G : Nat → Row} {j c0 : Nat} {base : Row} (h : zr base) : ∀ m, (∀ i, i < m → zr (G (c0 + i))) → zr (mgs kk d up G j base c0 m)
  | 0, _ => h
  | m + 1, hg => by
    simp only [mgs]
    split
    · exact mgR_zr (mgs_zr h m (fun i hi => hg i (by omega))) (hg m (by omega))
    · exact mgs_zr h m (fun i hi => hg i (by omega))
theorem FF_zr {kk : Nat} {d : Int32} {up : Nat → Nat} {nodes : Nat} {jr : Nat → Nat → Nat} {kn : Nat → Nat} (hN : nodes ≤ 12) (hj : ∀ l, l < 12 → kn l ≤ 48 ∧ ∀ i, i < kn l → jr l i < 32) : ∀ (f c : Nat), c < 12 → 12 ≤ f + c → zr (FF kk d up nodes jr kn c)
  | 0, c, hc, hf => by omega
  | f + 1, c, hc, hf => by
    rw [FF_eq hN hc]
    have h1 := hj c hc
    refine mgs_zr (tks_ok (kn c) h1.2 (by omega)).1 _ (fun i hi => ?_)
    exact FF_zr hN hj f _ (by omega) (by omega)
theorem wk_end : ∀ j, j < 12 → nI (j + 0) - nI 1 < nI j := by decide +kernel
theorem wk_at (j m : Nat) : nI (j + (m + 1)) - nI 1 = nI (j + m) := by rw [nI_one]; exact nI_pred (j + m)
theorem wk_dn (x : Int32) : x + Int32.ofInt (-1) = x - nI 1 := by rw [Int32.sub_eq_add_neg, show (-(nI 1)) = Int32.ofInt (-1) by decide +kernel]
section
variable {l : Launch} {D : va_G} {tI tZ tN tM : ClassId} {b N : Nat} {k : Nat → va_E}
set_option maxHeartbeats 4000000 in
set_option maxRecDepth 100000 in
/-- R_work -/
theorem c_R_work {kk nc : Nat} {dv ms : Int32} {f0 f1 f2 f3 f4 f5 f6 f7 f8 f9 f10 f11 f12 f13 f14 f15 f16 f17 : Nat → Int32} {j0 : Nat} {up : Nat → Nat} {jr : Nat → Nat → Nat} {kn : Nat → Nat} (hR : RW tI tZ b N k kk dv nc ms f0 f1 f2 f3 f4 f5 f6 f7 f8 f9 f10 f11 f12 f13 f14 f15 f16 f17) (hj : j0 < nc) (hnc : nc ≤ 12) (hd : ¬ dv = 0) (hk6 : kk ≤ 6) (hup : ∀ c, c < 12 → f0 c = nI (up c) ∧ up c < 12) (hkn : ∀ l, l < 12 → knw f0 f1 f4 f7 f8 f13 nc j0 l = nI (kn l) ∧ kn l ≤ 48) (hjr : ∀ l, l < 12 → ∀ i, i < kn l → f3 (48 * l + i) = nI (jr l i) ∧ jr l i < 32)  : Met l y_R_work (wy y_R_work b_R_work 4 none) (rm 2 0 0) (zPc D (tyl tI tZ tN tM) b N k [.ref (b + 255), .int (nI j0)]) (zQv D b N (fun k2 => ∃ g14 g15 g16 g17, (RW tI tZ b N k2 kk dv nc ms f0 f1 f2 f3 f4 f5 f6 f7 f8 f9 f10 f11 f12 (knw f0 f1 f4 f7 f8 f13 nc j0) g14 g15 g16 g17) ∧ (∀ q, q < b + 255 → k2 q = k q) ∧ ∀ i, j0 ≤ i → i < nc → rowOf g14 g15 g16 i = FF kk dv up nc jr kn i)) 0 0 (zA b) := by
  refine z_met (own := R_R) (by decide) rfl rfl (Nat.le_of_ble_eq_true rfl) [some (.ref (b + 255)), some (.int (nI j0)), none, none] rfl ?_
  intro p e s m args below meth c X hin
  have ⟨ho, r0, r1, r2, r3, r4, r5, r6, r7, r8, r9, r10, r11, r12, r13, r14, r15, r16, r17⟩ := hR
  have hfr : ∀ q, q < b + 255 → k q = k q := fun _ _ => rfl
  refine z_aload_n X d_R_work_0 rfl ?_
  refine z_iload_n X d_R_work_1 rfl ?_
  refine z_callVv X (c_R_know hR (j := j0) (by omega) hnc (by omega)) ho rfl (cwV 1 X.1.2.2.2.2 (gi_V lm_R_90 vi_R_know ve_R_know vn_R vc_R_know) rfl rfl rfl (by decide +kernel) ⟨Nat.le_of_ble_eq_true rfl, Nat.le_of_ble_eq_true rfl⟩) (As := [.int (nI j0)]) (st := []) rfl rfl (Nat.le_of_ble_eq_true rfl) d_R_work_2 ⟨Nat.le_of_ble_eq_true rfl, Nat.le_of_ble_eq_true rfl⟩ (fun k2 hq => ?_)
  obtain ⟨hR9, hf9⟩ := hq
  have hR := hR9
  have hfr : ∀ q, q < b + 255 → k2 q = k q := fun q hq => (hf9 q hq).trans (hfr q hq)
  have ⟨ho, r0, r1, r2, r3, r4, r5, r6, r7, r8, r9, r10, r11, r12, r13, r14, r15, r16, r17⟩ := hR
  have hzr : ∀ c, c < 12 → zr (FF kk dv up nc jr kn c) := fun c hc => FF_zr hnc (fun l hl => ⟨(hkn l hl).2, fun i hi => (hjr l hl i hi).2⟩) 12 c hc (by omega)
  refine z_aload_n X d_R_work_5 rfl ?_
  refine z_get X ho rfl in_R 2 (by decide) (wq lf_R_7) rfl d_R_work_6 ?_
  refine z_iconst X d_R_work_9 (v := nI 1) (by decide +kernel) ?_
  refine z_isub X d_R_work_10 ?_
  refine z_istore_n X d_R_work_11 (by decide) rfl ?_
  refine z_lv (lv2 := [some (.ref (b + 255)), some (.int (nI j0)), some (.int ((nI nc) - (nI 1))), none]) (fun _ _ q => q) ?_
  refine z_loopD (σ := (Nat → va_E) × (Nat → Int32) × (Nat → Int32) × (Nat → Int32) × (Nat → Int32)) (K := fun _ (q : (Nat → va_E) × (Nat → Int32) × (Nat → Int32) × (Nat → Int32) × (Nat → Int32)) => q.1) (LV := fun v (q : (Nat → va_E) × (Nat → Int32) × (Nat → Int32) × (Nat → Int32) × (Nat → Int32)) => [some (.ref (b + 255)), some (.int (nI j0)), some (.int (nI (j0 + v) - nI 1)), none]) (I := fun v (q : (Nat → va_E) × (Nat → Int32) × (Nat → Int32) × (Nat → Int32) × (Nat → Int32)) => v ≤ nc - j0 ∧ (RW tI tZ b N q.1 kk dv nc ms f0 f1 f2 f3 f4 f5 f6 f7 f8 f9 f10 f11 f12 (knw f0 f1 f4 f7 f8 f13 nc j0) q.2.1 q.2.2.1 q.2.2.2.1 q.2.2.2.2) ∧ (∀ q2, q2 < b + 255 → q.1 q2 = k q2) ∧ ∀ i, j0 + v ≤ i → i < nc → rowOf q.2.1 q.2.2.1 q.2.2.2.1 i = FF kk dv up nc jr kn i) (nc - j0) (k2, f14, f15, f16, f17) (⟨Nat.le_refl _, hR, hfr, fun i h1 h2 => by omega⟩) (rfl) (by rw [show j0 + (nc - j0) = nc by omega]) ?_ ?_
  · intro q hI2
    obtain ⟨k9, g14, g15, g16, g17⟩ := q
    obtain ⟨hm, hR, hfr, hrows⟩ := hI2
    try dsimp only at hR hfr hrows
    have ⟨ho, r0, r1, r2, r3, r4, r5, r6, r7, r8, r9, r10, r11, r12, r13, r14, r15, r16, r17⟩ := hR
    refine z_k (k2 := k9) (fun _ _ _ => rfl) ?_
    refine z_lv (lv2 := [some (.ref (b + 255)), some (.int (nI j0)), some (.int (nI (j0 + 0) - nI 1)), none]) (fun _ _ q => q) ?_
    refine z_iload_n X d_R_work_12 rfl ?_
    refine z_iload_n X d_R_work_13 rfl ?_
    refine z_icmp_lt X d_R_work_14 (tgt := 105) (by decide) (fun _ => ?_) (fun h => absurd h (fun q => q (wk_end j0 (by omega))))
    exact z_vret X d_R_work_105 (by omega) (by omega) (⟨_, _, _, _, hR, hfr, hrows⟩)
  · intro v q hI2 ih
    obtain ⟨k9, g14, g15, g16, g17⟩ := q
    obtain ⟨hm, hR, hfr, hrows⟩ := hI2
    try dsimp only at hR hfr hrows
    have ⟨ho, r0, r1, r2, r3, r4, r5, r6, r7, r8, r9, r10, r11, r12, r13, r14, r15, r16, r17⟩ := hR
    refine z_k (k2 := k9) (fun _ _ _ => rfl) ?_
    try dsimp only at hm
    refine z_at (lv2 := [some (.ref (b + 255)), some (.int (nI j0)), some (.int (nI (j0 + v))), none]) ?_ rfl (by rw [wk_at])
    obtain ⟨j, hjv⟩ : ∃ j, j = j0 + v := ⟨_, rfl⟩
    rw [← hjv]
    have hj12 : j < nc := by omega
    refine z_iload_n X d_R_work_12 rfl ?_
    refine z_iload_n X d_R_work_13 rfl ?_
    refine z_icmp_ltN X d_R_work_14 (tgt := 105) (by decide) (by omega) (by omega) (fun h => absurd h (by omega)) (fun _ => ?_)
    refine z_aload_n X d_R_work_17 rfl ?_
    refine z_iload_n X d_R_work_18 rfl ?_
    refine z_callVv X (c_R_clear hR (j := j) (by omega)) ho rfl (cwV 1 X.1.2.2.2.2 (gi_V lm_R_100 vi_R_clear ve_R_clear vn_R vc_R_clear) rfl rfl rfl (by decide +kernel) ⟨Nat.le_of_ble_eq_true rfl, Nat.le_of_ble_eq_true rfl⟩) (As := [.int (nI j)]) (st := []) rfl rfl (Nat.le_of_ble_eq_true rfl) d_R_work_19 ⟨Nat.le_of_ble_eq_true rfl, Nat.le_of_ble_eq_true rfl⟩ (fun k2 hq => ?_)
    obtain ⟨hR9, hf9⟩ := hq
    have hR := hR9
    have hfr : ∀ q, q < b + 255 → k2 q = k q := fun q hq => (hf9 q hq).trans (hfr q hq)
    have ⟨ho, r0, r1, r2, r3, r4, r5, r6, r7, r8, r9, r10, r11, r12, r13, r14, r15, r16, r17⟩ := hR
    obtain ⟨e1, e2⟩ := hkn j (by omega)
    refine z_iconst X d_R_work_22 (v := nI 0) (by decide +kernel) ?_
    refine z_istore_n X d_R_work_23 (by decide) rfl ?_
    refine z_lv (lv2 := [some (.ref (b + 255)), some (.int (nI j0)), some (.int (nI j)), some (.int (nI 0))]) (fun _ _ q => q) ?_
    refine z_loop (σ := (Nat → va_E) × (Nat → Int32) × (Nat → Int32) × (Nat → Int32)) (K := fun _ (q : (Nat → va_E) × (Nat → Int32) × (Nat → Int32) × (Nat → Int32)) => q.1) (LV := fun x (q : (Nat → va_E) × (Nat → Int32) × (Nat → Int32) × (Nat → Int32)) => [some (.ref (b + 255)), some (.int (nI j0)), some (.int (nI j)), some (.int (nI x))]) (I := fun x (q : (Nat → va_E) × (Nat → Int32) × (Nat → Int32) × (Nat → Int32)) => (RW tI tZ b N q.1 kk dv nc ms f0 f1 f2 f3 f4 f5 f6 f7 f8 f9 f10 f11 f12 (knw f0 f1 f4 f7 f8 f13 nc j0) q.2.1 q.2.2.1 q.2.2.2 g17) ∧ (∀ q2, q2 < b + 255 → q.1 q2 = k q2) ∧ rowOf q.2.1 q.2.2.1 q.2.2.2 j = tks kk dv (jr j) x ∧ ∀ i, j + 1 ≤ i → i < nc → rowOf q.2.1 q.2.2.1 q.2.2.2 i = FF kk dv up nc jr kn i) (kn j) 0 (k2, (upd g14 j 0), (pr (32 * j) 32 (fun _ => 0) g15), (pr (64 * j) 64 (fun _ => 0) g16)) (by omega) (⟨hR, hfr, row_eq (fun _ _ => rfl) (fun _ _ => rfl), fun i h1 h2 => by rw [row_ne (by omega)]; exact hrows i (by omega) h2⟩) (rfl) (rfl) ?_ ?_
    · intro q hI2
      obtain ⟨k8, h14, h15, h16⟩ := q
      obtain ⟨hR, hfr, hrow, hoth⟩ := hI2
      try dsimp only at hR hfr hrow hoth
      have ⟨ho, r0, r1, r2, r3, r4, r5, r6, r7, r8, r9, r10, r11, r12, r13, r14, r15, r16, r17⟩ := hR
      refine z_k (k2 := k8) (fun _ _ _ => rfl) ?_
      refine z_lv (lv2 := [some (.ref (b + 255)), some (.int (nI j0)), some (.int (nI j)), some (.int (nI (kn j)))]) (fun _ _ q => q) ?_
      refine z_iload_n X d_R_work_24 rfl ?_
      refine z_aload_n X d_R_work_25 rfl ?_
      refine z_get X ho rfl in_R 17 (by decide) (wq lf_R_54) rfl d_R_work_26 ?_
      refine z_iload_n X d_R_work_29 rfl ?_
      refine z_iald X r13 0 rfl (j := j) rfl (by omega) (by omega) d_R_work_30 ?_
      refine z_top (y := .int (nI (kn j))) (by rw [e1]) ?_
      refine z_icmp_geN X d_R_work_31 (tgt := 56) (by decide) (by omega) (by omega) (fun _ => ?_) (fun h => absurd h (by omega))
      refine z_iload_n X d_R_work_56 rfl ?_
      refine z_iconst X d_R_work_57 (v := nI 1) (by decide +kernel) ?_
      refine z_iaddN X d_R_work_58 ?_
      refine z_istore_n X d_R_work_59 (by decide) rfl ?_
      refine z_lv (lv2 := [some (.ref (b + 255)), some (.int (nI j0)), some (.int (nI j)), some (.int (nI (j + 1)))]) (fun _ _ q => q) ?_
      refine z_loop (σ := (Nat → va_E) × (Nat → Int32) × (Nat → Int32) × (Nat → Int32) × (Nat → Int32)) (K := fun _ (q : (Nat → va_E) × (Nat → Int32) × (Nat → Int32) × (Nat → Int32) × (Nat → Int32)) => q.1) (LV := fun x (q : (Nat → va_E) × (Nat → Int32) × (Nat → Int32) × (Nat → Int32) × (Nat → Int32)) => [some (.ref (b + 255)), some (.int (nI j0)), some (.int (nI j)), some (.int (nI (j + 1 + x)))]) (I := fun x (q : (Nat → va_E) × (Nat → Int32) × (Nat → Int32) × (Nat → Int32) × (Nat → Int32)) => (RW tI tZ b N q.1 kk dv nc ms f0 f1 f2 f3 f4 f5 f6 f7 f8 f9 f10 f11 f12 (knw f0 f1 f4 f7 f8 f13 nc j0) q.2.1 q.2.2.1 q.2.2.2.1 q.2.2.2.2) ∧ (∀ q2, q2 < b + 255 → q.1 q2 = k q2) ∧ rowOf q.2.1 q.2.2.1 q.2.2.2.1 j = mgs kk dv up (FF kk dv up nc jr kn) j (tks kk dv (jr j) (kn j)) (j + 1) x ∧ ∀ i, j + 1 ≤ i → i < nc → rowOf q.2.1 q.2.2.1 q.2.2.2.1 i = FF kk dv up nc jr kn i) (nc - (j + 1)) 0 (k8, h14, h15, h16, g17) (by omega) (⟨hR, hfr, hrow, hoth⟩) (rfl) (rfl) ?_ ?_
      · intro q hI2
        obtain ⟨k7, l14, l15, l16, l17⟩ := q
        obtain ⟨hR, hfr, hrow, hoth⟩ := hI2
        try dsimp only at hR hfr hrow hoth
        have ⟨ho, r0, r1, r2, r3, r4, r5, r6, r7, r8, r9, r10, r11, r12, r13, r14, r15, r16, r17⟩ := hR
        refine z_k (k2 := k7) (fun _ _ _ => rfl) ?_
        refine z_lv (lv2 := [some (.ref (b + 255)), some (.int (nI j0)), some (.int (nI j)), some (.int (nI (j + 1 + (nc - (j + 1)))))]) (fun _ _ q => q) ?_
        refine z_iload_n X d_R_work_60 rfl ?_
        refine z_aload_n X d_R_work_61 rfl ?_
        refine z_get X ho rfl in_R 2 (by decide) (wq lf_R_7) rfl d_R_work_62 ?_
        refine z_icmp_geN X d_R_work_65 (tgt := 99) (by decide) (by omega) (by omega) (fun _ => ?_) (fun h => absurd h (by omega))
        rw [← FF_eq (kk := kk) (d := dv) (up := up) (jr := jr) (kn := kn) hnc (show j < 12 by omega)] at hrow
        refine z_iinc X d_R_work_99 rfl rfl (by decide) rfl ?_
        refine z_lv (lv2 := [some (.ref (b + 255)), some (.int (nI j0)), some (.int ((nI j) + Int32.ofInt (-1))), some (.int (nI (j + 1 + (nc - (j + 1)))))]) (fun _ _ q => q) ?_
        refine z_goto X d_R_work_102 (tgt := 12) (by decide) ?_
        refine z_drop 3 ?_
        refine z_at (ih (k7, l14, l15, l16, l17) ⟨by omega, hR, hfr, fun i h1 h2 => ?_⟩) rfl (by rw [wk_dn, hjv]; rfl)
        by_cases hij : i = j
        · subst hij; exact hrow
        · exact hoth i (by omega) h2
      · intro x q hx hI2 ih2
        obtain ⟨k7, l14, l15, l16, l17⟩ := q
        obtain ⟨hR, hfr, hrow, hoth⟩ := hI2
        try dsimp only at hR hfr hrow hoth
        have ⟨ho, r0, r1, r2, r3, r4, r5, r6, r7, r8, r9, r10, r11, r12, r13, r14, r15, r16, r17⟩ := hR
        refine z_k (k2 := k7) (fun _ _ _ => rfl) ?_
        refine z_lv (lv2 := [some (.ref (b + 255)), some (.int (nI j0)), some (.int (nI j)), some (.int (nI (j + 1 + x)))]) (fun _ _ q => q) ?_
        refine z_iload_n X d_R_work_60 rfl ?_
        refine z_aload_n X d_R_work_61 rfl ?_
        refine z_get X ho rfl in_R 2 (by decide) (wq lf_R_7) rfl d_R_work_62 ?_
        refine z_icmp_geN X d_R_work_65 (tgt := 99) (by decide) (by omega) (by omega) (fun h => absurd h (by omega)) (fun _ => ?_)
        obtain ⟨c, hcx⟩ : ∃ c, c = j + 1 + x := ⟨_, rfl⟩
        rw [← hcx]
        obtain ⟨u1, u2⟩ := hup c (by omega)
        have hrc := hoth c (by omega) (by omega)
        refine z_aload_n X d_R_work_68 rfl ?_
        refine z_get X ho rfl in_R 3 (by decide) (wq lf_R_13) rfl d_R_work_69 ?_
        refine z_iload_n X d_R_work_72 rfl ?_
        refine z_iald X r0 0 rfl (j := c) rfl (by omega) (by omega) d_R_work_73 ?_
        refine z_top (y := .int (nI (up c))) (by rw [u1]) ?_
        refine z_iload_n X d_R_work_74 rfl ?_
        refine z_icmp_neN X d_R_work_75 (tgt := 93) (by decide) (by omega) (by omega) (fun hA => ?_) (fun hA => ?_)
        · skip
          refine z_iincU X d_R_work_93 rfl (by decide) rfl ?_
          refine z_lv (lv2 := [some (.ref (b + 255)), some (.int (nI j0)), some (.int (nI j)), some (.int (nI (c + 1)))]) (fun _ _ q => q) ?_
          refine z_goto X d_R_work_96 (tgt := 60) (by decide) ?_
          exact z_at (ih2 (k7, l14, l15, l16, l17) ⟨hR, hfr, by simp only [mgs]; rw [← hcx, if_neg (fun q => hA q.1)]; exact hrow, hoth⟩) rfl (by rw [hcx]; rfl)
        · skip
          refine z_aload_n X d_R_work_78 rfl ?_
          refine z_get X ho rfl in_R 18 (by decide) (wq lf_R_57) rfl d_R_work_79 ?_
          refine z_iload_n X d_R_work_82 rfl ?_
          refine z_iald X r14 0 rfl (j := c) rfl (by omega) (by omega) d_R_work_83 ?_
          refine z_top (y := .int ((FF kk dv up nc jr kn c).1)) (by rw [← hrc]; rfl) ?_
          refine z_if_le X d_R_work_84 (tgt := 93) (by decide) (fun hB => ?_) (fun hB => ?_)
          · skip
            refine z_iincU X d_R_work_93 rfl (by decide) rfl ?_
            refine z_lv (lv2 := [some (.ref (b + 255)), some (.int (nI j0)), some (.int (nI j)), some (.int (nI (c + 1)))]) (fun _ _ q => q) ?_
            refine z_goto X d_R_work_96 (tgt := 60) (by decide) ?_
            exact z_at (ih2 (k7, l14, l15, l16, l17) ⟨hR, hfr, by simp only [mgs]; rw [← hcx, if_neg (fun q => i32_le_n hB q.2)]; exact hrow, hoth⟩) rfl (by rw [hcx]; rfl)
          · skip
            refine z_aload_n X d_R_work_87 rfl ?_
            refine z_iload_n X d_R_work_88 rfl ?_
            refine z_iload_n X d_R_work_89 rfl ?_
            refine z_callVv X (c_R_merge hR (j := j) (c2 := c) (by omega) (by omega) hd hk6 (by have := (hzr c (by omega)).2.2; rw [← hrc] at this; exact this)) ho rfl (cwV 2 X.1.2.2.2.2 (gi_V lm_R_107 vi_R_merge ve_R_merge vn_R vc_R_merge) rfl rfl rfl (by decide +kernel) ⟨Nat.le_of_ble_eq_true rfl, Nat.le_of_ble_eq_true rfl⟩) (As := [.int (nI j), .int (nI c)]) (st := []) rfl rfl (Nat.le_of_ble_eq_true rfl) d_R_work_90 ⟨Nat.le_of_ble_eq_true rfl, Nat.le_of_ble_eq_true rfl⟩ (fun k6 hq => ?_)
            obtain ⟨u9, hR9, hf9⟩ := hq
            refine z_iincU X d_R_work_93 rfl (by decide) rfl ?_
            refine z_lv (lv2 := [some (.ref (b + 255)), some (.int (nI j0)), some (.int (nI j)), some (.int (nI (c + 1)))]) (fun _ _ q => q) ?_
            refine z_goto X d_R_work_96 (tgt := 60) (by decide) ?_
            refine z_at (ih2 (k6, _, _, _, u9) ⟨hR9, fun q hq => (hf9 q hq).trans (hfr q hq), ?_, fun i h1 h2 => ?_⟩) rfl (by rw [hcx]; rfl)
            · simp only [mgs]
              rw [← hcx, if_pos ⟨hA, i32_nle hB⟩, ← hrow, ← hrc]
              exact row_merge
            · exact (row_ne (by omega)).trans (hoth i h1 h2)
    · intro x q hx hI2 ih2
      obtain ⟨k8, h14, h15, h16⟩ := q
      obtain ⟨hR, hfr, hrow, hoth⟩ := hI2
      try dsimp only at hR hfr hrow hoth
      have ⟨ho, r0, r1, r2, r3, r4, r5, r6, r7, r8, r9, r10, r11, r12, r13, r14, r15, r16, r17⟩ := hR
      refine z_k (k2 := k8) (fun _ _ _ => rfl) ?_
      refine z_lv (lv2 := [some (.ref (b + 255)), some (.int (nI j0)), some (.int (nI j)), some (.int (nI x))]) (fun _ _ q => q) ?_
      refine z_iload_n X d_R_work_24 rfl ?_
      refine z_aload_n X d_R_work_25 rfl ?_
      refine z_get X ho rfl in_R 17 (by decide) (wq lf_R_54) rfl d_R_work_26 ?_
      refine z_iload_n X d_R_work_29 rfl ?_
      refine z_iald X r13 0 rfl (j := j) rfl (by omega) (by omega) d_R_work_30 ?_
      refine z_top (y := .int (nI (kn j))) (by rw [e1]) ?_
      refine z_icmp_geN X d_R_work_31 (tgt := 56) (by decide) (by omega) (by omega) (fun h => absurd h (by omega)) (fun _ => ?_)
      obtain ⟨w1, w2⟩ := hjr j (by omega) x hx
      refine z_aload_n X d_R_work_34 rfl ?_
      refine z_iload_n X d_R_work_35 rfl ?_
      refine z_aload_n X d_R_work_36 rfl ?_
      refine z_get X ho rfl in_R 6 (by decide) (wq lf_R_24) rfl d_R_work_37 ?_
      refine z_bipush X d_R_work_40 (v := nI 48) (by decide +kernel) ?_
      refine z_iload_n X d_R_work_42 rfl ?_
      refine z_imulN X d_R_work_43 ?_
      refine z_iload_n X d_R_work_44 rfl ?_
      refine z_iaddN X d_R_work_45 ?_
      refine z_iald X r3 0 rfl (j := (48 * j) + x) rfl (by omega) (by omega) d_R_work_46 ?_
      refine z_top (y := .int (nI (jr j x))) (by rw [w1]) ?_
      refine z_callVv X (c_R_take hR (j := j) (v := jr j x) (by omega) w2 hd hk6) ho rfl (cwV 2 X.1.2.2.2.2 (gi_V lm_R_103 vi_R_take ve_R_take vn_R vc_R_take) rfl rfl rfl (by decide +kernel) ⟨Nat.le_of_ble_eq_true rfl, Nat.le_of_ble_eq_true rfl⟩) (As := [.int (nI j), .int (nI (jr j x))]) (st := []) rfl rfl (Nat.le_of_ble_eq_true rfl) d_R_work_47 ⟨Nat.le_of_ble_eq_true rfl, Nat.le_of_ble_eq_true rfl⟩ (fun k6 hq => ?_)
      obtain ⟨hR9, hf9⟩ := hq
      refine z_iincU X d_R_work_50 rfl (by decide) rfl ?_
      refine z_lv (lv2 := [some (.ref (b + 255)), some (.int (nI j0)), some (.int (nI j)), some (.int (nI (x + 1)))]) (fun _ _ q => q) ?_
      refine z_goto X d_R_work_53 (tgt := 24) (by decide) ?_
      refine z_at (ih2 (k6, _, _, _) ⟨hR9, fun q hq => (hf9 q hq).trans (hfr q hq), ?_, fun i h1 h2 => ?_⟩) rfl rfl
      · simp only [tks]
        rw [← hrow]
        exact row_take w2
      · exact (row_ne (by omega)).trans (hoth i h1 h2)
end
