/-! Contracts of the reference, 8: the other questions -/
theorem eb_le (g : Nat → Int32) {v : Nat} (hv : v < 32) : sel (fun r => decide (en r ≤ v)) g 63 = eb g (v + 1) := by
  rw [eb_sel g (v + 1) (by omega)]
  refine sel_congr 63 (fun r _ => ?_)
  simp [Nat.lt_succ_iff]
theorem wd_ok : ∀ r, r < 64 → 1 ≤ r → 1 ≤ wd r ∧ wd r ≤ 32 ∧ 32 / wd r ≤ r ∧ fs_ r ≤ 31 ∧ fs_ r + wd r ≤ 32 := by decide +kernel
theorem xs_a {g : Bool} {bst v : Int32} (h : bst < 0) : xs1 g bst v = v := by unfold xs1; rw [if_pos (Or.inl h)]
theorem xs_b {y bst v : Int32} (hn : ¬ bst < 0) (hy : y = 0) (h : bst ≤ v) : xs1 (!decide (y = 0)) bst v = bst := by
  unfold xs1
  rw [if_neg]
  simp [hy, hn, Int32.not_lt.mpr h]
theorem xs_c {y bst v : Int32} (hy : y = 0) (h : ¬ bst ≤ v) : xs1 (!decide (y = 0)) bst v = v := by
  unfold xs1
  rw [if_pos]
  simp [hy, Int32.not_le.mp h]
theorem xs_d {y bst v : Int32} (hn : ¬ bst < 0) (hy : ¬ y = 0) (h : v ≤ bst) : xs1 (!decide (y = 0)) bst v = bst := by
  unfold xs1
  rw [if_neg]
  simp [hy, hn, Int32.not_lt.mpr h]
theorem xs_e {y bst v : Int32} (hy : ¬ y = 0) (h : ¬ v ≤ bst) : xs1 (!decide (y = 0)) bst v = v := by
  unfold xs1
  rw [if_pos]
  simp [hy, Int32.not_le.mp h]
section
variable {l : Launch} {D : va_G} {tI tZ tN tM : ClassId} {b N : Nat} {k : Nat → va_E}
set_option maxHeartbeats 4000000 in
set_option maxRecDepth 100000 in
/-- width -/
theorem c_R_width {x : Nat} (hx : x < 64) : Met l y_R_width (wy y_R_width b_R_width 1 (some .int)) (rm 0 0 0) (zPc D (tyl tI tZ tN tM) b N k [.int (nI x)]) (zQi D b N (fun z k2 => z = nI (wd x) ∧ k2 = k)) 0 0 (zA b) := by
  refine z_met (own := R_R) (by decide) rfl rfl (Nat.le_of_ble_eq_true rfl) [some (.int (nI x))] rfl ?_
  intro p e s m args below meth c X hin
  refine z_iload_n X d_R_width_0 rfl ?_
  refine z_bipush X d_R_width_1 (v := nI 32) (by decide +kernel) ?_
  refine z_icmp_ltN X d_R_width_3 (tgt := 10) (by decide) (by omega) (by omega) (fun h32 => ?_) (fun h32 => ?_)
  · skip
    refine z_iload_n X d_R_width_10 rfl ?_
    refine z_bipush X d_R_width_11 (v := nI 16) (by decide +kernel) ?_
    refine z_icmp_ltN X d_R_width_13 (tgt := 20) (by decide) (by omega) (by omega) (fun h16 => ?_) (fun h16 => ?_)
    · skip
      refine z_iload_n X d_R_width_20 rfl ?_
      refine z_bipush X d_R_width_21 (v := nI 8) (by decide +kernel) ?_
      refine z_icmp_ltN X d_R_width_23 (tgt := 30) (by decide) (by omega) (by omega) (fun h8 => ?_) (fun h8 => ?_)
      · skip
        refine z_iload_n X d_R_width_30 rfl ?_
        refine z_iconst X d_R_width_31 (v := nI 4) (by decide +kernel) ?_
        refine z_icmp_ltN X d_R_width_32 (tgt := 40) (by decide) (by omega) (by omega) (fun h4 => ?_) (fun h4 => ?_)
        · skip
          refine z_iload_n X d_R_width_40 rfl ?_
          refine z_iconst X d_R_width_41 (v := nI 2) (by decide +kernel) ?_
          refine z_icmp_ltN X d_R_width_42 (tgt := 50) (by decide) (by omega) (by omega) (fun h2 => ?_) (fun h2 => ?_)
          · skip
            refine z_bipush X d_R_width_50 (v := nI 32) (by decide +kernel) ?_
            exact z_iret X d_R_width_52 (by omega) (by omega) (⟨by unfold wd; rw [if_neg (by omega)]; rw [if_neg (by omega)]; rw [if_neg (by omega)]; rw [if_neg (by omega)]; rw [if_neg (by omega)]; skip, rfl⟩)
          · skip
            refine z_bipush X d_R_width_45 (v := nI 16) (by decide +kernel) ?_
            refine z_goto X d_R_width_47 (tgt := 52) (by decide) ?_
            exact z_iret X d_R_width_52 (by omega) (by omega) (⟨by unfold wd; rw [if_neg (by omega)]; rw [if_neg (by omega)]; rw [if_neg (by omega)]; rw [if_neg (by omega)]; rw [if_pos (by omega)], rfl⟩)
        · skip
          refine z_bipush X d_R_width_35 (v := nI 8) (by decide +kernel) ?_
          refine z_goto X d_R_width_37 (tgt := 52) (by decide) ?_
          exact z_iret X d_R_width_52 (by omega) (by omega) (⟨by unfold wd; rw [if_neg (by omega)]; rw [if_neg (by omega)]; rw [if_neg (by omega)]; rw [if_pos (by omega)], rfl⟩)
      · skip
        refine z_iconst X d_R_width_26 (v := nI 4) (by decide +kernel) ?_
        refine z_goto X d_R_width_27 (tgt := 52) (by decide) ?_
        exact z_iret X d_R_width_52 (by omega) (by omega) (⟨by unfold wd; rw [if_neg (by omega)]; rw [if_neg (by omega)]; rw [if_pos (by omega)], rfl⟩)
    · skip
      refine z_iconst X d_R_width_16 (v := nI 2) (by decide +kernel) ?_
      refine z_goto X d_R_width_17 (tgt := 52) (by decide) ?_
      exact z_iret X d_R_width_52 (by omega) (by omega) (⟨by unfold wd; rw [if_neg (by omega)]; rw [if_pos (by omega)], rfl⟩)
  · skip
    refine z_iconst X d_R_width_6 (v := nI 1) (by decide +kernel) ?_
    refine z_goto X d_R_width_7 (tgt := 52) (by decide) ?_
    exact z_iret X d_R_width_52 (by omega) (by omega) (⟨by unfold wd; rw [if_pos (by omega)], rfl⟩)
set_option maxHeartbeats 4000000 in
set_option maxRecDepth 100000 in
/-- least -/
theorem c_R_least {x : Nat} (hx : x < 64) (h1 : 1 ≤ x) : Met l y_R_least (wy y_R_least b_R_least 2 (some .int)) (rm 1 0 0) (zPc D (tyl tI tZ tN tM) b N k [.int (nI x)]) (zQi D b N (fun z k2 => z = nI (fs_ x) ∧ k2 = k)) 0 0 (zA b) := by
  refine z_met (own := R_R) (by decide) rfl rfl (Nat.le_of_ble_eq_true rfl) [some (.int (nI x)), none] rfl ?_
  intro p e s m args below meth c X hin
  obtain ⟨w1, w2, w3, -⟩ := wd_ok x hx h1
  refine z_iload_n X d_R_least_0 rfl ?_
  refine z_callSi X (a := 0) (c_R_width hx) (cwS 1 X.1.2.2.2.2 (gi_S lm_R_130 vs_R_width vn_R vc_R_width) rfl rfl rfl (by decide +kernel) ⟨Nat.le_of_ble_eq_true rfl, Nat.le_of_ble_eq_true rfl⟩) (As := [.int (nI x)]) (st := []) rfl rfl (Nat.le_of_ble_eq_true rfl) d_R_least_1 ⟨Nat.le_of_ble_eq_true rfl, Nat.le_of_ble_eq_true rfl⟩ (fun z k2 hq => ?_)
  obtain ⟨rfl, hk9⟩ := hq
  have hk9 := hk9.symm
  subst hk9
  refine z_istore_n X d_R_least_4 (by decide) rfl ?_
  refine z_lv (lv2 := [some (.int (nI x)), some (.int (nI (wd x)))]) (fun _ _ q => q) ?_
  refine z_iload_n X d_R_least_5 rfl ?_
  refine z_bipush X d_R_least_6 (v := nI 32) (by decide +kernel) ?_
  refine z_iload_n X d_R_least_8 rfl ?_
  refine z_idivN X d_R_least_9 (by omega) (by omega) (by omega) ?_
  refine z_isubN X d_R_least_10 w3 ?_
  refine z_iload_n X d_R_least_11 rfl ?_
  refine z_imulN X d_R_least_12 ?_
  exact z_iret X d_R_least_13 (by omega) (by omega) (⟨rfl, rfl⟩)
set_option maxHeartbeats 4000000 in
set_option maxRecDepth 100000 in
/-- R_estimate -/
theorem c_R_estimate {kk nc : Nat} {dv ms : Int32} {f0 f1 f2 f3 f4 f5 f6 f7 f8 f9 f10 f11 f12 f13 f14 f15 f16 f17 : Nat → Int32} {x y : Int32} {up : Nat → Nat} {jr : Nat → Nat → Nat} {kn : Nat → Nat} (hR : RW tI tZ b N k kk dv nc ms f0 f1 f2 f3 f4 f5 f6 f7 f8 f9 f10 f11 f12 f13 f14 f15 f16 f17) (hnc : nc ≤ 12) (hn1 : 1 ≤ nc) (hd : ¬ dv = 0) (hk6 : kk ≤ 6) (hup : ∀ c, c < 12 → f0 c = nI (up c) ∧ up c < 12) (hkn : isn nc x = true → ∀ l, l < 12 → knw f0 f1 f4 f7 f8 f13 nc x.toNatClampNeg l = nI (kn l) ∧ kn l ≤ 48) (hjr : isn nc x = true → ∀ l, l < 12 → ∀ i, i < kn l → f3 (48 * l + i) = nI (jr l i) ∧ jr l i < 32)  : Met l y_R_estimate (wy y_R_estimate b_R_estimate 3 (some .int)) (rm 3 0 0) (zPc D (tyl tI tZ tN tM) b N k [.ref (b + 255), .int x, .int y]) (zQi D b N (fun z k2 => z = (if isn nc x = true ∧ isn 32 y = true then (FF kk dv up nc jr kn x.toNatClampNeg).2.1 y.toNatClampNeg else -1) ∧ ∃ g13 g14 g15 g16 g17, (RW tI tZ b N k2 kk dv nc ms f0 f1 f2 f3 f4 f5 f6 f7 f8 f9 f10 f11 f12 g13 g14 g15 g16 g17) ∧ ∀ q, q < b + 255 → k2 q = k q)) 0 0 (zA b) := by
  refine z_met (own := R_R) (by decide) rfl rfl (Nat.le_of_ble_eq_true rfl) [some (.ref (b + 255)), some (.int x), some (.int y)] rfl ?_
  intro p e s m args below meth c X hin
  have ⟨ho, r0, r1, r2, r3, r4, r5, r6, r7, r8, r9, r10, r11, r12, r13, r14, r15, r16, r17⟩ := hR
  have hfr : ∀ q, q < b + 255 → k q = k q := fun _ _ => rfl
  refine z_aload_n X d_R_estimate_0 rfl ?_
  refine z_iload_n X d_R_estimate_1 rfl ?_
  refine z_callVi X (c_R_isNode hR) ho rfl (cwV 1 X.1.2.2.2.2 (gi_V lm_R_75 vi_R_isNode ve_R_isNode vn_R vc_R_isNode) rfl rfl rfl (by decide +kernel) ⟨Nat.le_of_ble_eq_true rfl, Nat.le_of_ble_eq_true rfl⟩) (As := [.int x]) (st := []) rfl rfl (Nat.le_of_ble_eq_true rfl) d_R_estimate_2 ⟨Nat.le_of_ble_eq_true rfl, Nat.le_of_ble_eq_true rfl⟩ (fun z k2 hq => ?_)
  obtain ⟨rfl, hk9⟩ := hq
  have hk9 := hk9.symm
  subst hk9
  cases hx : isn nc x
  · skip
    refine z_if_eqN X d_R_estimate_5 (tgt := 18) (by decide) (by decide) (fun _ => ?_) (fun h => absurd h (by decide))
    refine z_iconst X d_R_estimate_18 (v := -1) (by decide +kernel) ?_
    exact z_iret X d_R_estimate_19 (by omega) (by omega) (⟨by rw [if_neg (by simp)], _, _, _, _, _, hR, hfr⟩)
  · skip
    refine z_if_eqN X d_R_estimate_5 (tgt := 18) (by decide) (by decide) (fun h => absurd h (by decide)) (fun _ => ?_)
    have hkn1 := hkn hx
    have hjr1 := hjr hx
    obtain ⟨j, hj, rfl⟩ := isn_t (by omega) hx
    rw [nI_clamp (n := j) (by omega)] at hkn1 ⊢
    refine z_lv (lv2 := [some (.ref (b + 255)), some (.int (nI j)), some (.int y)]) (fun _ _ q => q) ?_
    refine z_iload_n X d_R_estimate_8 rfl ?_
    refine z_if_lt X d_R_estimate_9 (tgt := 18) (by decide) (fun hA => ?_) (fun hA => ?_)
    · skip
      refine z_iconst X d_R_estimate_18 (v := -1) (by decide +kernel) ?_
      exact z_iret X d_R_estimate_19 (by omega) (by omega) (⟨by rw [if_neg (fun q => by have := q.2; rw [isn_neg hA] at this; cases this)], _, _, _, _, _, hR, hfr⟩)
    · skip
      refine z_iload_n X d_R_estimate_12 rfl ?_
      refine z_bipush X d_R_estimate_13 (v := nI 31) (by decide +kernel) ?_
      rcases pk_ix y (n := 32) (by omega) with hbig | hbig | ⟨v, hv, rfl⟩
      · exact absurd hbig hA
      · skip
        refine z_icmp_le X d_R_estimate_15 (tgt := 20) (by decide) (fun h => absurd h (le_big (by omega) hbig)) (fun _ => ?_)
        refine z_iconst X d_R_estimate_18 (v := -1) (by decide +kernel) ?_
        exact z_iret X d_R_estimate_19 (by omega) (by omega) (⟨by rw [if_neg (fun z => by have := z.2; rw [isn_big hbig] at this; cases this)], _, _, _, _, _, hR, hfr⟩)
      · skip
        refine z_icmp_leN X d_R_estimate_15 (tgt := 20) (by decide) (by omega) (by omega) (fun _ => ?_) (fun h => absurd h (by omega))
        refine z_lv (lv2 := [some (.ref (b + 255)), some (.int (nI j)), some (.int (nI v))]) (fun _ _ q => q) ?_
        try rw [nI_clamp (n := v) (by omega)]
        rw [if_pos ⟨rfl, isn_n (nc := 32) (by omega) hv⟩]
        refine z_aload_n X d_R_estimate_20 rfl ?_
        refine z_iload_n X d_R_estimate_21 rfl ?_
        refine z_callVv X (c_R_work hR hj hnc hd hk6 hup hkn1 hjr1) ho rfl (cwV 1 X.1.2.2.2.2 (gi_V lm_R_127 vi_R_work ve_R_work vn_R vc_R_work) rfl rfl rfl (by decide +kernel) ⟨Nat.le_of_ble_eq_true rfl, Nat.le_of_ble_eq_true rfl⟩) (As := [.int (nI j)]) (st := []) rfl rfl (Nat.le_of_ble_eq_true rfl) d_R_estimate_22 ⟨Nat.le_of_ble_eq_true rfl, Nat.le_of_ble_eq_true rfl⟩ (fun k2 hq => ?_)
        obtain ⟨g14, g15, g16, g17, hR9, hf9, hrows⟩ := hq
        have hrow := hrows j (Nat.le_refl _) hj
        have hR := hR9
        have hfr : ∀ q, q < b + 255 → k2 q = k q := fun q hq => (hf9 q hq).trans (hfr q hq)
        have ⟨ho, r0, r1, r2, r3, r4, r5, r6, r7, r8, r9, r10, r11, r12, r13, r14, r15, r16, r17⟩ := hR
        have hc : rw_ 32 g15 j = (FF kk dv up nc jr kn j).2.1 := by rw [← hrow]; rfl
        have hg : rw_ 64 g16 j = (FF kk dv up nc jr kn j).2.2 := by rw [← hrow]; rfl
        have hn : g14 j = (FF kk dv up nc jr kn j).1 := by rw [← hrow]; rfl
        refine z_aload_n X d_R_estimate_25 rfl ?_
        refine z_get X ho rfl in_R 19 (by decide) (wq lf_R_60) rfl d_R_estimate_26 ?_
        refine z_bipush X d_R_estimate_29 (v := nI 32) (by decide +kernel) ?_
        refine z_iload_n X d_R_estimate_31 rfl ?_
        refine z_imulN X d_R_estimate_32 ?_
        refine z_iload_n X d_R_estimate_33 rfl ?_
        refine z_iaddN X d_R_estimate_34 ?_
        refine z_iald X r15 0 rfl (j := (32 * j) + v) rfl (by omega) (by omega) d_R_estimate_35 ?_
        refine z_top (y := .int ((FF kk dv up nc jr kn j).2.1 v)) (by rw [← hc, rw_in hv]) ?_
        exact z_iret X d_R_estimate_36 (by omega) (by omega) (⟨rfl, _, _, _, _, _, hR, hfr⟩)
set_option maxHeartbeats 4000000 in
set_option maxRecDepth 100000 in
/-- R_digestSize -/
theorem c_R_digestSize {kk nc : Nat} {dv ms : Int32} {f0 f1 f2 f3 f4 f5 f6 f7 f8 f9 f10 f11 f12 f13 f14 f15 f16 f17 : Nat → Int32} {x : Int32} {up : Nat → Nat} {jr : Nat → Nat → Nat} {kn : Nat → Nat} (hR : RW tI tZ b N k kk dv nc ms f0 f1 f2 f3 f4 f5 f6 f7 f8 f9 f10 f11 f12 f13 f14 f15 f16 f17) (hnc : nc ≤ 12) (hn1 : 1 ≤ nc) (hd : ¬ dv = 0) (hk6 : kk ≤ 6) (hup : ∀ c, c < 12 → f0 c = nI (up c) ∧ up c < 12) (hkn : isn nc x = true → ∀ l, l < 12 → knw f0 f1 f4 f7 f8 f13 nc x.toNatClampNeg l = nI (kn l) ∧ kn l ≤ 48) (hjr : isn nc x = true → ∀ l, l < 12 → ∀ i, i < kn l → f3 (48 * l + i) = nI (jr l i) ∧ jr l i < 32)  : Met l y_R_digestSize (wy y_R_digestSize b_R_digestSize 4 (some .int)) (rm 3 0 0) (zPc D (tyl tI tZ tN tM) b N k [.ref (b + 255), .int x]) (zQi D b N (fun z k2 => z = (if isn nc x = true then nI (ct (fun q => decide (0 < (FF kk dv up nc jr kn x.toNatClampNeg).2.2 (q + 1))) 63) else -1) ∧ ∃ g13 g14 g15 g16 g17, (RW tI tZ b N k2 kk dv nc ms f0 f1 f2 f3 f4 f5 f6 f7 f8 f9 f10 f11 f12 g13 g14 g15 g16 g17) ∧ ∀ q, q < b + 255 → k2 q = k q)) 0 0 (zA b) := by
  refine z_met (own := R_R) (by decide) rfl rfl (Nat.le_of_ble_eq_true rfl) [some (.ref (b + 255)), some (.int x), none, none] rfl ?_
  intro p e s m args below meth c X hin
  have ⟨ho, r0, r1, r2, r3, r4, r5, r6, r7, r8, r9, r10, r11, r12, r13, r14, r15, r16, r17⟩ := hR
  have hfr : ∀ q, q < b + 255 → k q = k q := fun _ _ => rfl
  refine z_aload_n X d_R_digestSize_0 rfl ?_
  refine z_iload_n X d_R_digestSize_1 rfl ?_
  refine z_callVi X (c_R_isNode hR) ho rfl (cwV 1 X.1.2.2.2.2 (gi_V lm_R_75 vi_R_isNode ve_R_isNode vn_R vc_R_isNode) rfl rfl rfl (by decide +kernel) ⟨Nat.le_of_ble_eq_true rfl, Nat.le_of_ble_eq_true rfl⟩) (As := [.int x]) (st := []) rfl rfl (Nat.le_of_ble_eq_true rfl) d_R_digestSize_2 ⟨Nat.le_of_ble_eq_true rfl, Nat.le_of_ble_eq_true rfl⟩ (fun z k2 hq => ?_)
  obtain ⟨rfl, hk9⟩ := hq
  have hk9 := hk9.symm
  subst hk9
  cases hx : isn nc x
  · skip
    refine z_if_neN X d_R_digestSize_5 (tgt := 10) (by decide) (by decide) (fun h => absurd h (by decide)) (fun _ => ?_)
    refine z_iconst X d_R_digestSize_8 (v := -1) (by decide +kernel) ?_
    exact z_iret X d_R_digestSize_9 (by omega) (by omega) (⟨by rw [if_neg (by simp)], _, _, _, _, _, hR, hfr⟩)
  · skip
    refine z_if_neN X d_R_digestSize_5 (tgt := 10) (by decide) (by decide) (fun _ => ?_) (fun h => absurd h (by decide))
    have hkn1 := hkn hx
    have hjr1 := hjr hx
    obtain ⟨j, hj, rfl⟩ := isn_t (by omega) hx
    rw [nI_clamp (n := j) (by omega)] at hkn1 ⊢
    refine z_lv (lv2 := [some (.ref (b + 255)), some (.int (nI j)), none, none]) (fun _ _ q => q) ?_
    refine z_aload_n X d_R_digestSize_10 rfl ?_
    refine z_iload_n X d_R_digestSize_11 rfl ?_
    refine z_callVv X (c_R_work hR hj hnc hd hk6 hup hkn1 hjr1) ho rfl (cwV 1 X.1.2.2.2.2 (gi_V lm_R_127 vi_R_work ve_R_work vn_R vc_R_work) rfl rfl rfl (by decide +kernel) ⟨Nat.le_of_ble_eq_true rfl, Nat.le_of_ble_eq_true rfl⟩) (As := [.int (nI j)]) (st := []) rfl rfl (Nat.le_of_ble_eq_true rfl) d_R_digestSize_12 ⟨Nat.le_of_ble_eq_true rfl, Nat.le_of_ble_eq_true rfl⟩ (fun k2 hq => ?_)
    obtain ⟨g14, g15, g16, g17, hR9, hf9, hrows⟩ := hq
    have hrow := hrows j (Nat.le_refl _) hj
    have hR := hR9
    have hfr : ∀ q, q < b + 255 → k2 q = k q := fun q hq => (hf9 q hq).trans (hfr q hq)
    have ⟨ho, r0, r1, r2, r3, r4, r5, r6, r7, r8, r9, r10, r11, r12, r13, r14, r15, r16, r17⟩ := hR
    have hc : rw_ 32 g15 j = (FF kk dv up nc jr kn j).2.1 := by rw [← hrow]; rfl
    have hg : rw_ 64 g16 j = (FF kk dv up nc jr kn j).2.2 := by rw [← hrow]; rfl
    have hn : g14 j = (FF kk dv up nc jr kn j).1 := by rw [← hrow]; rfl
    refine z_iconst X d_R_digestSize_15 (v := nI 0) (by decide +kernel) ?_
    refine z_istore_n X d_R_digestSize_16 (by decide) rfl ?_
    refine z_lv (lv2 := [some (.ref (b + 255)), some (.int (nI j)), some (.int (nI 0)), none]) (fun _ _ q => q) ?_
    refine z_iconst X d_R_digestSize_17 (v := nI 1) (by decide +kernel) ?_
    refine z_istore_n X d_R_digestSize_18 (by decide) rfl ?_
    refine z_lv (lv2 := [some (.ref (b + 255)), some (.int (nI j)), some (.int (nI 0)), some (.int (nI 1))]) (fun _ _ q => q) ?_
    refine z_loop (σ := Unit) (K := fun _ _ => k2) (LV := fun v _ => [some (.ref (b + 255)), some (.int (nI j)), some (.int (nI (ct (fun q => decide (0 < (FF kk dv up nc jr kn j).2.2 (q + 1))) v))), some (.int (nI (v + 1)))]) (I := fun _ _ => True) 63 0 () (by omega) (trivial) (rfl) (rfl) ?_ ?_
    · intro s1 _
      refine z_lv (lv2 := [some (.ref (b + 255)), some (.int (nI j)), some (.int (nI (ct (fun q => decide (0 < (FF kk dv up nc jr kn j).2.2 (q + 1))) 63))), some (.int (nI (63 + 1)))]) (fun _ _ q => q) ?_
      refine z_iload_n X d_R_digestSize_19 rfl ?_
      refine z_bipush X d_R_digestSize_20 (v := nI 64) (by decide +kernel) ?_
      refine z_icmp_geN X d_R_digestSize_22 (tgt := 53) (by decide) (by omega) (by omega) (fun _ => ?_) (fun h => absurd h (by omega))
      refine z_iload_n X d_R_digestSize_53 rfl ?_
      exact z_iret X d_R_digestSize_54 (by omega) (by omega) (⟨by rw [if_pos rfl], _, _, _, _, _, hR, hfr⟩)
    · intro v s1 hv _ ih
      refine z_lv (lv2 := [some (.ref (b + 255)), some (.int (nI j)), some (.int (nI (ct (fun q => decide (0 < (FF kk dv up nc jr kn j).2.2 (q + 1))) v))), some (.int (nI (v + 1)))]) (fun _ _ q => q) ?_
      refine z_iload_n X d_R_digestSize_19 rfl ?_
      refine z_bipush X d_R_digestSize_20 (v := nI 64) (by decide +kernel) ?_
      refine z_icmp_geN X d_R_digestSize_22 (tgt := 53) (by decide) (by omega) (by omega) (fun h => absurd h (by omega)) (fun _ => ?_)
      refine z_aload_n X d_R_digestSize_25 rfl ?_
      refine z_get X ho rfl in_R 20 (by decide) (wq lf_R_63) rfl d_R_digestSize_26 ?_
      refine z_bipush X d_R_digestSize_29 (v := nI 64) (by decide +kernel) ?_
      refine z_iload_n X d_R_digestSize_31 rfl ?_
      refine z_imulN X d_R_digestSize_32 ?_
      refine z_iload_n X d_R_digestSize_33 rfl ?_
      refine z_iaddN X d_R_digestSize_34 ?_
      refine z_iald X r16 0 rfl (j := (64 * j) + (v + 1)) rfl (by omega) (by omega) d_R_digestSize_35 ?_
      refine z_top (y := .int ((FF kk dv up nc jr kn j).2.2 (v + 1))) (by rw [← hg, rw_in (by omega)]) ?_
      refine z_if_le X d_R_digestSize_36 (tgt := 45) (by decide) (fun hA => ?_) (fun hA => ?_)
      · skip
        refine z_iload_n X d_R_digestSize_45 rfl ?_
        refine z_istore_n X d_R_digestSize_46 (by decide) rfl ?_
        refine z_lv (lv2 := [some (.ref (b + 255)), some (.int (nI j)), some (.int (nI (ct (fun q => decide (0 < (FF kk dv up nc jr kn j).2.2 (q + 1))) v))), some (.int (nI (v + 1)))]) (fun _ _ q => q) ?_
        refine z_iincU X d_R_digestSize_47 rfl (by decide) rfl ?_
        refine z_lv (lv2 := [some (.ref (b + 255)), some (.int (nI j)), some (.int (nI (ct (fun q => decide (0 < (FF kk dv up nc jr kn j).2.2 (q + 1))) v))), some (.int (nI (v + 1 + 1)))]) (fun _ _ q => q) ?_
        refine z_goto X d_R_digestSize_50 (tgt := 19) (by decide) ?_
        exact z_at (ih () trivial) rfl (by simp only [ct]; rw [if_neg (by simp [i32_le_n hA])]; rfl)
      · skip
        refine z_iload_n X d_R_digestSize_39 rfl ?_
        refine z_iconst X d_R_digestSize_40 (v := nI 1) (by decide +kernel) ?_
        refine z_iaddN X d_R_digestSize_41 ?_
        refine z_goto X d_R_digestSize_42 (tgt := 46) (by decide) ?_
        refine z_istore_n X d_R_digestSize_46 (by decide) rfl ?_
        refine z_lv (lv2 := [some (.ref (b + 255)), some (.int (nI j)), some (.int (nI ((ct (fun q => decide (0 < (FF kk dv up nc jr kn j).2.2 (q + 1))) v) + 1))), some (.int (nI (v + 1)))]) (fun _ _ q => q) ?_
        refine z_iincU X d_R_digestSize_47 rfl (by decide) rfl ?_
        refine z_lv (lv2 := [some (.ref (b + 255)), some (.int (nI j)), some (.int (nI ((ct (fun q => decide (0 < (FF kk dv up nc jr kn j).2.2 (q + 1))) v) + 1))), some (.int (nI (v + 1 + 1)))]) (fun _ _ q => q) ?_
        refine z_goto X d_R_digestSize_50 (tgt := 19) (by decide) ?_
        exact z_at (ih () trivial) rfl (by simp only [ct]; rw [if_pos (by simp [i32_nle hA])])
set_option maxHeartbeats 4000000 in
set_option maxRecDepth 100000 in
/-- R_extreme -/
theorem c_R_extreme {kk nc : Nat} {dv ms : Int32} {f0 f1 f2 f3 f4 f5 f6 f7 f8 f9 f10 f11 f12 f13 f14 f15 f16 f17 : Nat → Int32} {x y : Int32} {kn : Nat → Nat} (hR : RW tI tZ b N k kk dv nc ms f0 f1 f2 f3 f4 f5 f6 f7 f8 f9 f10 f11 f12 f13 f14 f15 f16 f17) (hnc : nc ≤ 12) (hn1 : 1 ≤ nc) (hkn : isn nc x = true → ∀ l, l < 12 → knw f0 f1 f4 f7 f8 f13 nc x.toNatClampNeg l = nI (kn l) ∧ kn l ≤ 48)  : Met l y_R_extreme (wy y_R_extreme b_R_extreme 7 (some .int)) (rm 1 0 0) (zPc D (tyl tI tZ tN tM) b N k [.ref (b + 255), .int x, .int y]) (zQi D b N (fun z k2 => z = (if isn nc x = true then xjs (!decide (y = 0)) f3 kn 12 else -1) ∧ ∃ g13, (RW tI tZ b N k2 kk dv nc ms f0 f1 f2 f3 f4 f5 f6 f7 f8 f9 f10 f11 f12 g13 f14 f15 f16 f17) ∧ ∀ q, q < b + 255 → k2 q = k q)) 0 0 (zA b) := by
  refine z_met (own := R_R) (by decide) rfl rfl (Nat.le_of_ble_eq_true rfl) [some (.ref (b + 255)), some (.int x), some (.int y), none, none, none, none] rfl ?_
  intro p e s m args below meth c X hin
  have ⟨ho, r0, r1, r2, r3, r4, r5, r6, r7, r8, r9, r10, r11, r12, r13, r14, r15, r16, r17⟩ := hR
  have hfr : ∀ q, q < b + 255 → k q = k q := fun _ _ => rfl
  refine z_aload_n X d_R_extreme_0 rfl ?_
  refine z_iload_n X d_R_extreme_1 rfl ?_
  refine z_callVi X (c_R_isNode hR) ho rfl (cwV 1 X.1.2.2.2.2 (gi_V lm_R_75 vi_R_isNode ve_R_isNode vn_R vc_R_isNode) rfl rfl rfl (by decide +kernel) ⟨Nat.le_of_ble_eq_true rfl, Nat.le_of_ble_eq_true rfl⟩) (As := [.int x]) (st := []) rfl rfl (Nat.le_of_ble_eq_true rfl) d_R_extreme_2 ⟨Nat.le_of_ble_eq_true rfl, Nat.le_of_ble_eq_true rfl⟩ (fun z k2 hq => ?_)
  obtain ⟨rfl, hk9⟩ := hq
  have hk9 := hk9.symm
  subst hk9
  cases hx : isn nc x
  · skip
    refine z_if_neN X d_R_extreme_5 (tgt := 10) (by decide) (by decide) (fun h => absurd h (by decide)) (fun _ => ?_)
    refine z_iconst X d_R_extreme_8 (v := -1) (by decide +kernel) ?_
    exact z_iret X d_R_extreme_9 (by omega) (by omega) (⟨by rw [if_neg (by simp)], _, hR, hfr⟩)
  · skip
    refine z_if_neN X d_R_extreme_5 (tgt := 10) (by decide) (by decide) (fun _ => ?_) (fun h => absurd h (by decide))
    have hkn1 := hkn hx
    obtain ⟨j, hj, rfl⟩ := isn_t (by omega) hx
    rw [nI_clamp (n := j) (by omega)] at hkn1
    refine z_lv (lv2 := [some (.ref (b + 255)), some (.int (nI j)), some (.int y), none, none, none, none]) (fun _ _ q => q) ?_
    refine z_aload_n X d_R_extreme_10 rfl ?_
    refine z_iload_n X d_R_extreme_11 rfl ?_
    refine z_callVv X (c_R_know hR (j := j) (by omega) hnc hn1) ho rfl (cwV 1 X.1.2.2.2.2 (gi_V lm_R_90 vi_R_know ve_R_know vn_R vc_R_know) rfl rfl rfl (by decide +kernel) ⟨Nat.le_of_ble_eq_true rfl, Nat.le_of_ble_eq_true rfl⟩) (As := [.int (nI j)]) (st := []) rfl rfl (Nat.le_of_ble_eq_true rfl) d_R_extreme_12 ⟨Nat.le_of_ble_eq_true rfl, Nat.le_of_ble_eq_true rfl⟩ (fun k2 hq => ?_)
    obtain ⟨hR9, hf9⟩ := hq
    have hR := hR9
    have hfr : ∀ q, q < b + 255 → k2 q = k q := fun q hq => (hf9 q hq).trans (hfr q hq)
    have ⟨ho, r0, r1, r2, r3, r4, r5, r6, r7, r8, r9, r10, r11, r12, r13, r14, r15, r16, r17⟩ := hR
    refine z_iconst X d_R_extreme_15 (v := -1) (by decide +kernel) ?_
    refine z_istore_n X d_R_extreme_16 (by decide) rfl ?_
    refine z_lv (lv2 := [some (.ref (b + 255)), some (.int (nI j)), some (.int y), some (.int (-1)), none, none, none]) (fun _ _ q => q) ?_
    refine z_iconst X d_R_extreme_17 (v := nI 0) (by decide +kernel) ?_
    refine z_istore X d_R_extreme_18 (by decide) rfl ?_
    refine z_lv (lv2 := [some (.ref (b + 255)), some (.int (nI j)), some (.int y), some (.int (-1)), some (.int (nI 0)), none, none]) (fun _ _ q => q) ?_
    refine z_loop (σ := Unit) (K := fun _ _ => k2) (LV := fun v _ => [some (.ref (b + 255)), some (.int (nI j)), some (.int y), some (.int (xjs (!decide (y = 0)) f3 kn v)), some (.int (nI v)), none, none]) (I := fun _ _ => True) 12 0 () (by omega) (trivial) (rfl) (rfl) ?_ ?_
    · intro s1 _
      refine z_lv (lv2 := [some (.ref (b + 255)), some (.int (nI j)), some (.int y), some (.int (xjs (!decide (y = 0)) f3 kn 12)), some (.int (nI 12)), none, none]) (fun _ _ q => q) ?_
      refine z_iload X d_R_extreme_20 rfl ?_
      refine z_bipush X d_R_extreme_22 (v := nI 12) (by decide +kernel) ?_
      refine z_icmp_geN X d_R_extreme_24 (tgt := 99) (by decide) (by omega) (by omega) (fun _ => ?_) (fun h => absurd h (by omega))
      refine z_iload_n X d_R_extreme_99 rfl ?_
      exact z_iret X d_R_extreme_100 (by omega) (by omega) (⟨by rw [if_pos rfl], _, hR, hfr⟩)
    · intro v s1 hv _ ih
      obtain ⟨e1, e2⟩ := hkn1 v hv
      refine z_lv (lv2 := [some (.ref (b + 255)), some (.int (nI j)), some (.int y), some (.int (xjs (!decide (y = 0)) f3 kn v)), some (.int (nI v)), none, none]) (fun _ _ q => q) ?_
      refine z_iload X d_R_extreme_20 rfl ?_
      refine z_bipush X d_R_extreme_22 (v := nI 12) (by decide +kernel) ?_
      refine z_icmp_geN X d_R_extreme_24 (tgt := 99) (by decide) (by omega) (by omega) (fun h => absurd h (by omega)) (fun _ => ?_)
      refine z_iconst X d_R_extreme_27 (v := nI 0) (by decide +kernel) ?_
      refine z_istore X d_R_extreme_28 (by decide) rfl ?_
      refine z_lv (lv2 := [some (.ref (b + 255)), some (.int (nI j)), some (.int y), some (.int (xjs (!decide (y = 0)) f3 kn v)), some (.int (nI v)), some (.int (nI 0)), none]) (fun _ _ q => q) ?_
      refine z_loop (σ := Unit) (K := fun _ _ => k2) (LV := fun x _ => [some (.ref (b + 255)), some (.int (nI j)), some (.int y), some (.int (xj (!decide (y = 0)) (fun i => f3 (48 * v + i)) (xjs (!decide (y = 0)) f3 kn v) x)), some (.int (nI v)), some (.int (nI x)), none]) (I := fun _ _ => True) (kn v) 0 () (by omega) (trivial) (rfl) (rfl) ?_ ?_
      · intro s2 _
        refine z_lv (lv2 := [some (.ref (b + 255)), some (.int (nI j)), some (.int y), some (.int (xj (!decide (y = 0)) (fun i => f3 (48 * v + i)) (xjs (!decide (y = 0)) f3 kn v) (kn v))), some (.int (nI v)), some (.int (nI (kn v))), none]) (fun _ _ q => q) ?_
        refine z_iload X d_R_extreme_30 rfl ?_
        refine z_aload_n X d_R_extreme_32 rfl ?_
        refine z_get X ho rfl in_R 17 (by decide) (wq lf_R_54) rfl d_R_extreme_33 ?_
        refine z_iload X d_R_extreme_36 rfl ?_
        refine z_iald X r13 0 rfl (j := v) rfl (by omega) (by omega) d_R_extreme_38 ?_
        refine z_top (y := .int (nI (kn v))) (by rw [e1]) ?_
        refine z_icmp_geN X d_R_extreme_39 (tgt := 93) (by decide) (by omega) (by omega) (fun _ => ?_) (fun h => absurd h (by omega))
        refine z_iincU X d_R_extreme_93 rfl (by decide) rfl ?_
        refine z_lv (lv2 := [some (.ref (b + 255)), some (.int (nI j)), some (.int y), some (.int (xj (!decide (y = 0)) (fun i => f3 (48 * v + i)) (xjs (!decide (y = 0)) f3 kn v) (kn v))), some (.int (nI (v + 1))), some (.int (nI (kn v))), none]) (fun _ _ q => q) ?_
        refine z_goto X d_R_extreme_96 (tgt := 20) (by decide) ?_
        refine z_drop 5 ?_
        exact z_at (ih () trivial) rfl rfl
      · intro x s2 hx2 _ ih2
        refine z_lv (lv2 := [some (.ref (b + 255)), some (.int (nI j)), some (.int y), some (.int (xj (!decide (y = 0)) (fun i => f3 (48 * v + i)) (xjs (!decide (y = 0)) f3 kn v) x)), some (.int (nI v)), some (.int (nI x)), none]) (fun _ _ q => q) ?_
        refine z_iload X d_R_extreme_30 rfl ?_
        refine z_aload_n X d_R_extreme_32 rfl ?_
        refine z_get X ho rfl in_R 17 (by decide) (wq lf_R_54) rfl d_R_extreme_33 ?_
        refine z_iload X d_R_extreme_36 rfl ?_
        refine z_iald X r13 0 rfl (j := v) rfl (by omega) (by omega) d_R_extreme_38 ?_
        refine z_top (y := .int (nI (kn v))) (by rw [e1]) ?_
        refine z_icmp_geN X d_R_extreme_39 (tgt := 93) (by decide) (by omega) (by omega) (fun h => absurd h (by omega)) (fun _ => ?_)
        refine z_aload_n X d_R_extreme_42 rfl ?_
        refine z_get X ho rfl in_R 6 (by decide) (wq lf_R_24) rfl d_R_extreme_43 ?_
        refine z_bipush X d_R_extreme_46 (v := nI 48) (by decide +kernel) ?_
        refine z_iload X d_R_extreme_48 rfl ?_
        refine z_imulN X d_R_extreme_50 ?_
        refine z_iload X d_R_extreme_51 rfl ?_
        refine z_iaddN X d_R_extreme_53 ?_
        refine z_iald X r3 0 rfl (j := (48 * v) + x) rfl (by omega) (by omega) d_R_extreme_54 ?_
        refine z_istore X d_R_extreme_55 (by decide) rfl ?_
        refine z_lv (lv2 := [some (.ref (b + 255)), some (.int (nI j)), some (.int y), some (.int (xj (!decide (y = 0)) (fun i => f3 (48 * v + i)) (xjs (!decide (y = 0)) f3 kn v) x)), some (.int (nI v)), some (.int (nI x)), some (.int (f3 ((48 * v) + x)))]) (fun _ _ q => q) ?_
        refine z_iload_n X d_R_extreme_57 rfl ?_
        refine z_if_lt X d_R_extreme_58 (tgt := 80) (by decide) (fun hA => ?_) (fun hA => ?_)
        · skip
          refine z_iload X d_R_extreme_80 rfl ?_
          refine z_goto X d_R_extreme_82 (tgt := 86) (by decide) ?_
          refine z_istore_n X d_R_extreme_86 (by decide) rfl ?_
          refine z_lv (lv2 := [some (.ref (b + 255)), some (.int (nI j)), some (.int y), some (.int (f3 ((48 * v) + x))), some (.int (nI v)), some (.int (nI x)), some (.int (f3 ((48 * v) + x)))]) (fun _ _ q => q) ?_
          refine z_iincU X d_R_extreme_87 rfl (by decide) rfl ?_
          refine z_lv (lv2 := [some (.ref (b + 255)), some (.int (nI j)), some (.int y), some (.int (f3 ((48 * v) + x))), some (.int (nI v)), some (.int (nI (x + 1))), some (.int (f3 ((48 * v) + x)))]) (fun _ _ q => q) ?_
          refine z_goto X d_R_extreme_90 (tgt := 30) (by decide) ?_
          refine z_drop 6 ?_
          exact z_at (ih2 () trivial) rfl (by simp only [xj]; rw [xs_a hA]; first | done | rfl)
        · skip
          refine z_iload_n X d_R_extreme_61 rfl ?_
          refine z_if_eq X d_R_extreme_62 (tgt := 74) (by decide) (fun hB => ?_) (fun hB => ?_)
          · skip
            refine z_iload X d_R_extreme_74 rfl ?_
            refine z_iload_n X d_R_extreme_76 rfl ?_
            refine z_icmp_ge X d_R_extreme_77 (tgt := 85) (by decide) (fun hD => ?_) (fun hD => ?_)
            · skip
              refine z_iload_n X d_R_extreme_85 rfl ?_
              refine z_istore_n X d_R_extreme_86 (by decide) rfl ?_
              refine z_lv (lv2 := [some (.ref (b + 255)), some (.int (nI j)), some (.int y), some (.int (xj (!decide (y = 0)) (fun i => f3 (48 * v + i)) (xjs (!decide (y = 0)) f3 kn v) x)), some (.int (nI v)), some (.int (nI x)), some (.int (f3 ((48 * v) + x)))]) (fun _ _ q => q) ?_
              refine z_iincU X d_R_extreme_87 rfl (by decide) rfl ?_
              refine z_lv (lv2 := [some (.ref (b + 255)), some (.int (nI j)), some (.int y), some (.int (xj (!decide (y = 0)) (fun i => f3 (48 * v + i)) (xjs (!decide (y = 0)) f3 kn v) x)), some (.int (nI v)), some (.int (nI (x + 1))), some (.int (f3 ((48 * v) + x)))]) (fun _ _ q => q) ?_
              refine z_goto X d_R_extreme_90 (tgt := 30) (by decide) ?_
              refine z_drop 6 ?_
              exact z_at (ih2 () trivial) rfl (by simp only [xj]; rw [xs_b hA hB hD]; first | done | rfl)
            · skip
              refine z_iload X d_R_extreme_80 rfl ?_
              refine z_goto X d_R_extreme_82 (tgt := 86) (by decide) ?_
              refine z_istore_n X d_R_extreme_86 (by decide) rfl ?_
              refine z_lv (lv2 := [some (.ref (b + 255)), some (.int (nI j)), some (.int y), some (.int (f3 ((48 * v) + x))), some (.int (nI v)), some (.int (nI x)), some (.int (f3 ((48 * v) + x)))]) (fun _ _ q => q) ?_
              refine z_iincU X d_R_extreme_87 rfl (by decide) rfl ?_
              refine z_lv (lv2 := [some (.ref (b + 255)), some (.int (nI j)), some (.int y), some (.int (f3 ((48 * v) + x))), some (.int (nI v)), some (.int (nI (x + 1))), some (.int (f3 ((48 * v) + x)))]) (fun _ _ q => q) ?_
              refine z_goto X d_R_extreme_90 (tgt := 30) (by decide) ?_
              refine z_drop 6 ?_
              exact z_at (ih2 () trivial) rfl (by simp only [xj]; rw [xs_c hB hD]; first | done | rfl)
          · skip
            refine z_iload X d_R_extreme_65 rfl ?_
            refine z_iload_n X d_R_extreme_67 rfl ?_
            refine z_icmp_le X d_R_extreme_68 (tgt := 85) (by decide) (fun hD => ?_) (fun hD => ?_)
            · skip
              refine z_iload_n X d_R_extreme_85 rfl ?_
              refine z_istore_n X d_R_extreme_86 (by decide) rfl ?_
              refine z_lv (lv2 := [some (.ref (b + 255)), some (.int (nI j)), some (.int y), some (.int (xj (!decide (y = 0)) (fun i => f3 (48 * v + i)) (xjs (!decide (y = 0)) f3 kn v) x)), some (.int (nI v)), some (.int (nI x)), some (.int (f3 ((48 * v) + x)))]) (fun _ _ q => q) ?_
              refine z_iincU X d_R_extreme_87 rfl (by decide) rfl ?_
              refine z_lv (lv2 := [some (.ref (b + 255)), some (.int (nI j)), some (.int y), some (.int (xj (!decide (y = 0)) (fun i => f3 (48 * v + i)) (xjs (!decide (y = 0)) f3 kn v) x)), some (.int (nI v)), some (.int (nI (x + 1))), some (.int (f3 ((48 * v) + x)))]) (fun _ _ q => q) ?_
              refine z_goto X d_R_extreme_90 (tgt := 30) (by decide) ?_
              refine z_drop 6 ?_
              exact z_at (ih2 () trivial) rfl (by simp only [xj]; rw [xs_d hA hB hD]; first | done | rfl)
            · skip
              refine z_goto X d_R_extreme_71 (tgt := 80) (by decide) ?_
              refine z_iload X d_R_extreme_80 rfl ?_
              refine z_goto X d_R_extreme_82 (tgt := 86) (by decide) ?_
              refine z_istore_n X d_R_extreme_86 (by decide) rfl ?_
              refine z_lv (lv2 := [some (.ref (b + 255)), some (.int (nI j)), some (.int y), some (.int (f3 ((48 * v) + x))), some (.int (nI v)), some (.int (nI x)), some (.int (f3 ((48 * v) + x)))]) (fun _ _ q => q) ?_
              refine z_iincU X d_R_extreme_87 rfl (by decide) rfl ?_
              refine z_lv (lv2 := [some (.ref (b + 255)), some (.int (nI j)), some (.int y), some (.int (f3 ((48 * v) + x))), some (.int (nI v)), some (.int (nI (x + 1))), some (.int (f3 ((48 * v) + x)))]) (fun _ _ q => q) ?_
              refine z_goto X d_R_extreme_90 (tgt := 30) (by decide) ?_
              refine z_drop 6 ?_
              exact z_at (ih2 () trivial) rfl (by simp only [xj]; rw [xs_e hB hD]; first | done | rfl)
set_option maxHeartbeats 4000000 in
set_option maxRecDepth 100000 in
/-- R_top -/
theorem c_R_top {kk nc : Nat} {dv ms : Int32} {f0 f1 f2 f3 f4 f5 f6 f7 f8 f9 f10 f11 f12 f13 f14 f15 f16 f17 : Nat → Int32} {x y : Int32} {up : Nat → Nat} {jr : Nat → Nat → Nat} {kn : Nat → Nat} (hR : RW tI tZ b N k kk dv nc ms f0 f1 f2 f3 f4 f5 f6 f7 f8 f9 f10 f11 f12 f13 f14 f15 f16 f17) (hnc : nc ≤ 12) (hn1 : 1 ≤ nc) (hd : ¬ dv = 0) (hk6 : kk ≤ 6) (hup : ∀ c, c < 12 → f0 c = nI (up c) ∧ up c < 12) (hkn : isn nc x = true → ∀ l, l < 12 → knw f0 f1 f4 f7 f8 f13 nc x.toNatClampNeg l = nI (kn l) ∧ kn l ≤ 48) (hjr : isn nc x = true → ∀ l, l < 12 → ∀ i, i < kn l → f3 (48 * l + i) = nI (jr l i) ∧ jr l i < 32)  : Met l y_R_top (wy y_R_top b_R_top 5 (some .int)) (rm 3 0 0) (zPc D (tyl tI tZ tN tM) b N k [.ref (b + 255), .int x, .int y]) (zQi D b N (fun z k2 => z = (if isn nc x = true ∧ ¬ y < 0 ∧ y < nI (cn (FF kk dv up nc jr kn x.toNatClampNeg).2.1) then oI (gu (pu (FF kk dv up nc jr kn x.toNatClampNeg).2.1 y.toNatClampNeg) (FF kk dv up nc jr kn x.toNatClampNeg).2.1 32) else -1) ∧ ∃ g13 g14 g15 g16 g17, (RW tI tZ b N k2 kk dv nc ms f0 f1 f2 f3 f4 f5 f6 f7 f8 f9 f10 f11 f12 g13 g14 g15 g16 g17) ∧ ∀ q, q < b + 255 → k2 q = k q)) 0 0 (zA b) := by
  refine z_met (own := R_R) (by decide) rfl rfl (Nat.le_of_ble_eq_true rfl) [some (.ref (b + 255)), some (.int x), some (.int y), none, none] rfl ?_
  intro p e s m args below meth c X hin
  have ⟨ho, r0, r1, r2, r3, r4, r5, r6, r7, r8, r9, r10, r11, r12, r13, r14, r15, r16, r17⟩ := hR
  have hfr : ∀ q, q < b + 255 → k q = k q := fun _ _ => rfl
  refine z_aload_n X d_R_top_0 rfl ?_
  refine z_iload_n X d_R_top_1 rfl ?_
  refine z_callVi X (c_R_isNode hR) ho rfl (cwV 1 X.1.2.2.2.2 (gi_V lm_R_75 vi_R_isNode ve_R_isNode vn_R vc_R_isNode) rfl rfl rfl (by decide +kernel) ⟨Nat.le_of_ble_eq_true rfl, Nat.le_of_ble_eq_true rfl⟩) (As := [.int x]) (st := []) rfl rfl (Nat.le_of_ble_eq_true rfl) d_R_top_2 ⟨Nat.le_of_ble_eq_true rfl, Nat.le_of_ble_eq_true rfl⟩ (fun z k2 hq => ?_)
  obtain ⟨rfl, hk9⟩ := hq
  have hk9 := hk9.symm
  subst hk9
  cases hx : isn nc x
  · skip
    refine z_if_eqN X d_R_top_5 (tgt := 12) (by decide) (by decide) (fun _ => ?_) (fun h => absurd h (by decide))
    refine z_iconst X d_R_top_12 (v := -1) (by decide +kernel) ?_
    exact z_iret X d_R_top_13 (by omega) (by omega) (⟨by rw [if_neg (by simp)], _, _, _, _, _, hR, hfr⟩)
  · skip
    refine z_if_eqN X d_R_top_5 (tgt := 12) (by decide) (by decide) (fun h => absurd h (by decide)) (fun _ => ?_)
    have hkn1 := hkn hx
    have hjr1 := hjr hx
    obtain ⟨j, hj, rfl⟩ := isn_t (by omega) hx
    rw [nI_clamp (n := j) (by omega)] at hkn1 ⊢
    refine z_lv (lv2 := [some (.ref (b + 255)), some (.int (nI j)), some (.int y), none, none]) (fun _ _ q => q) ?_
    refine z_iload_n X d_R_top_8 rfl ?_
    refine z_if_ge X d_R_top_9 (tgt := 14) (by decide) (fun hA => ?_) (fun hA => ?_)
    · skip
      obtain ⟨v, hv, rfl⟩ := nI_of (i32_ge_n hA)
      refine z_lv (lv2 := [some (.ref (b + 255)), some (.int (nI j)), some (.int (nI v)), none, none]) (fun _ _ q => q) ?_
      refine z_aload_n X d_R_top_14 rfl ?_
      refine z_iload_n X d_R_top_15 rfl ?_
      refine z_callVv X (c_R_work hR hj hnc hd hk6 hup hkn1 hjr1) ho rfl (cwV 1 X.1.2.2.2.2 (gi_V lm_R_127 vi_R_work ve_R_work vn_R vc_R_work) rfl rfl rfl (by decide +kernel) ⟨Nat.le_of_ble_eq_true rfl, Nat.le_of_ble_eq_true rfl⟩) (As := [.int (nI j)]) (st := []) rfl rfl (Nat.le_of_ble_eq_true rfl) d_R_top_16 ⟨Nat.le_of_ble_eq_true rfl, Nat.le_of_ble_eq_true rfl⟩ (fun k2 hq => ?_)
      obtain ⟨g14, g15, g16, g17, hR9, hf9, hrows⟩ := hq
      have hrow := hrows j (Nat.le_refl _) hj
      have hR := hR9
      have hfr : ∀ q, q < b + 255 → k2 q = k q := fun q hq => (hf9 q hq).trans (hfr q hq)
      have ⟨ho, r0, r1, r2, r3, r4, r5, r6, r7, r8, r9, r10, r11, r12, r13, r14, r15, r16, r17⟩ := hR
      have hc : rw_ 32 g15 j = (FF kk dv up nc jr kn j).2.1 := by rw [← hrow]; rfl
      have hg : rw_ 64 g16 j = (FF kk dv up nc jr kn j).2.2 := by rw [← hrow]; rfl
      have hn : g14 j = (FF kk dv up nc jr kn j).1 := by rw [← hrow]; rfl
      refine z_iload_n X d_R_top_19 rfl ?_
      refine z_aload_n X d_R_top_20 rfl ?_
      refine z_iload_n X d_R_top_21 rfl ?_
      refine z_callVi X (c_R_counters hR (j := j) (by omega)) ho rfl (cwV 1 X.1.2.2.2.2 (gi_V lm_R_110 vi_R_counters ve_R_counters vn_R vc_R_counters) rfl rfl rfl (by decide +kernel) ⟨Nat.le_of_ble_eq_true rfl, Nat.le_of_ble_eq_true rfl⟩) (As := [.int (nI j)]) (st := [.int (nI v)]) rfl rfl (Nat.le_of_ble_eq_true rfl) d_R_top_22 ⟨Nat.le_of_ble_eq_true rfl, Nat.le_of_ble_eq_true rfl⟩ (fun z k2 hq => ?_)
      rw [hc] at hq
      obtain ⟨rfl, hk9⟩ := hq
      have hk9 := hk9.symm
      subst hk9
      have hc32 : cn ((FF kk dv up nc jr kn j).2.1) ≤ 32 := ct_le _ _
      refine z_icmp_ltN X d_R_top_25 (tgt := 30) (by decide) (by omega) (by omega) (fun hB => ?_) (fun hB => ?_)
      · skip
        rw [nI_clamp (n := v) (by omega)]
        refine z_aload_n X d_R_top_30 rfl ?_
        refine z_callVv X (c_R_clearUsed hR) ho rfl (cwV 0 X.1.2.2.2.2 (gi_V lm_R_119 vi_R_clearUsed ve_R_clearUsed vn_R vc_R_clearUsed) rfl rfl rfl (by decide +kernel) ⟨Nat.le_of_ble_eq_true rfl, Nat.le_of_ble_eq_true rfl⟩) (As := []) (st := []) rfl rfl (Nat.le_of_ble_eq_true rfl) d_R_top_31 ⟨Nat.le_of_ble_eq_true rfl, Nat.le_of_ble_eq_true rfl⟩ (fun k2 hq => ?_)
        obtain ⟨hR9, hf9⟩ := hq
        have hR := hR9
        have hfr : ∀ q, q < b + 255 → k2 q = k q := fun q hq => (hf9 q hq).trans (hfr q hq)
        have ⟨ho, r0, r1, r2, r3, r4, r5, r6, r7, r8, r9, r10, r11, r12, r13, r14, r15, r16, r17⟩ := hR
        refine z_iconst X d_R_top_34 (v := -1) (by decide +kernel) ?_
        refine z_istore_n X d_R_top_35 (by decide) rfl ?_
        refine z_lv (lv2 := [some (.ref (b + 255)), some (.int (nI j)), some (.int (nI v)), some (.int (-1)), none]) (fun _ _ q => q) ?_
        refine z_iconst X d_R_top_36 (v := nI 0) (by decide +kernel) ?_
        refine z_istore X d_R_top_37 (by decide) rfl ?_
        refine z_lv (lv2 := [some (.ref (b + 255)), some (.int (nI j)), some (.int (nI v)), some (.int (-1)), some (.int (nI 0))]) (fun _ _ q => q) ?_
        refine z_loop (σ := (Nat → va_E) × Int32) (K := fun _ (q : (Nat → va_E) × Int32) => q.1) (LV := fun x (q : (Nat → va_E) × Int32) => [some (.ref (b + 255)), some (.int (nI j)), some (.int (nI v)), some (.int q.2), some (.int (nI x))]) (I := fun x (q : (Nat → va_E) × Int32) => (RW tI tZ b N q.1 kk dv nc ms f0 f1 f2 f3 f4 f5 f6 f7 f8 f9 f10 f11 f12 (knw f0 f1 f4 f7 f8 f13 nc j) g14 g15 g16 (pr 0 32 (fun w9 => nI (cb (pu ((FF kk dv up nc jr kn j).2.1) x w9))) g17)) ∧ (∀ q2, q2 < b + 255 → q.1 q2 = k q2) ∧ (1 ≤ x → q.2 = oI (gu (pu ((FF kk dv up nc jr kn j).2.1) (x - 1)) ((FF kk dv up nc jr kn j).2.1) 32))) (v + 1) 0 (k2, -1) (by omega) (⟨hR, hfr, fun q => absurd q (by omega)⟩) (rfl) (rfl) ?_ ?_
        · intro q hI
          obtain ⟨k9, bx⟩ := q
          obtain ⟨hR, hfr, hI⟩ := hI
          try dsimp only at hR hfr hI
          have ⟨ho, r0, r1, r2, r3, r4, r5, r6, r7, r8, r9, r10, r11, r12, r13, r14, r15, r16, r17⟩ := hR
          refine z_k (k2 := k9) (fun _ _ _ => rfl) ?_
          refine z_lv (lv2 := [some (.ref (b + 255)), some (.int (nI j)), some (.int (nI v)), some (.int bx), some (.int (nI (v + 1)))]) (fun _ _ q => q) ?_
          refine z_iload X d_R_top_39 rfl ?_
          refine z_iload_n X d_R_top_41 rfl ?_
          refine z_icmp_gtN X d_R_top_42 (tgt := 64) (by decide) (by omega) (by omega) (fun _ => ?_) (fun h => absurd h (by omega))
          refine z_iload_n X d_R_top_64 rfl ?_
          exact z_iret X d_R_top_65 (by omega) (by omega) (⟨by rw [if_pos ⟨rfl, nI_pos (by omega), (nI_ltI (by omega) (by omega)).mpr hB⟩]; exact hI (by omega), _, _, _, _, _, hR, hfr⟩)
        · intro x q hx2 hI ih
          obtain ⟨k9, bx⟩ := q
          obtain ⟨hR, hfr, hI⟩ := hI
          try dsimp only at hR hfr hI
          have ⟨ho, r0, r1, r2, r3, r4, r5, r6, r7, r8, r9, r10, r11, r12, r13, r14, r15, r16, r17⟩ := hR
          refine z_k (k2 := k9) (fun _ _ _ => rfl) ?_
          refine z_lv (lv2 := [some (.ref (b + 255)), some (.int (nI j)), some (.int (nI v)), some (.int bx), some (.int (nI x))]) (fun _ _ q => q) ?_
          refine z_iload X d_R_top_39 rfl ?_
          refine z_iload_n X d_R_top_41 rfl ?_
          refine z_icmp_gtN X d_R_top_42 (tgt := 64) (by decide) (by omega) (by omega) (fun h => absurd h (by omega)) (fun _ => ?_)
          refine z_aload_n X d_R_top_45 rfl ?_
          refine z_iload_n X d_R_top_46 rfl ?_
          obtain ⟨x9, hgu, hx9, -, -⟩ := pick ((FF kk dv up nc jr kn j).2.1) (q := x) (by omega)
          refine z_callVi X (c_R_greatestUnused hR (j := j) (u := pu ((FF kk dv up nc jr kn j).2.1) x) (by omega) (fun v2 hv2 => pr_i0 hv2)) ho rfl (cwV 1 X.1.2.2.2.2 (gi_V lm_R_122 vi_R_greatestUnused ve_R_greatestUnused vn_R vc_R_greatestUnused) rfl rfl rfl (by decide +kernel) ⟨Nat.le_of_ble_eq_true rfl, Nat.le_of_ble_eq_true rfl⟩) (As := [.int (nI j)]) (st := []) rfl rfl (Nat.le_of_ble_eq_true rfl) d_R_top_47 ⟨Nat.le_of_ble_eq_true rfl, Nat.le_of_ble_eq_true rfl⟩ (fun z k2 hq => ?_)
          rw [hc, hgu] at hq
          obtain ⟨rfl, hk9⟩ := hq
          have hk9 := hk9.symm
          subst hk9
          refine z_top (y := .int (nI x9)) rfl ?_
          refine z_istore_n X d_R_top_50 (by decide) rfl ?_
          refine z_lv (lv2 := [some (.ref (b + 255)), some (.int (nI j)), some (.int (nI v)), some (.int (nI x9)), some (.int (nI x))]) (fun _ _ q => q) ?_
          refine z_aload_n X d_R_top_51 rfl ?_
          refine z_get X ho rfl in_R 21 (by decide) (wq lf_R_66) rfl d_R_top_52 ?_
          refine z_iload_n X d_R_top_55 rfl ?_
          refine z_iconst X d_R_top_56 (v := nI 1) (by decide +kernel) ?_
          refine z_zast X r17 1 rfl (j := x9) rfl (by omega) (by omega) d_R_top_57 ?_
          refine z_named (fun k_1 hk9 => ?_)
          have hR := hR.st17 hk9
          rw [show (upd (pr 0 32 (fun w9 => nI (cb (pu ((FF kk dv up nc jr kn j).2.1) x w9))) g17) x9 (vp_nar .boolean (nI 1))) = pr 0 32 (fun w9 => nI (cb (pu ((FF kk dv up nc jr kn j).2.1) (x + 1) w9))) g17 from us_succ hx9 hgu] at hR
          have hfr : ∀ q, q < b + 255 → k_1 q = k q := fun q hq => by rw [hk9]; exact (up_ne (by omega)).trans (hfr q hq)
          clear hk9
          have ⟨ho, r0, r1, r2, r3, r4, r5, r6, r7, r8, r9, r10, r11, r12, r13, r14, r15, r16, r17⟩ := hR
          refine z_iincU X d_R_top_58 rfl (by decide) rfl ?_
          refine z_lv (lv2 := [some (.ref (b + 255)), some (.int (nI j)), some (.int (nI v)), some (.int (nI x9)), some (.int (nI (x + 1)))]) (fun _ _ q => q) ?_
          refine z_goto X d_R_top_61 (tgt := 39) (by decide) ?_
          exact z_at (ih (k_1, nI x9) ⟨hR, hfr, fun _ => by show nI x9 = _; rw [Nat.add_sub_cancel, hgu]; rfl⟩) rfl rfl
      · skip
        refine z_iconst X d_R_top_28 (v := -1) (by decide +kernel) ?_
        exact z_iret X d_R_top_29 (by omega) (by omega) (⟨by rw [if_neg (fun q => absurd ((nI_ltI (by omega) (by omega)).mp q.2.2) (by omega))], _, _, _, _, _, hR, hfr⟩)
    · skip
      refine z_iconst X d_R_top_12 (v := -1) (by decide +kernel) ?_
      exact z_iret X d_R_top_13 (by omega) (by omega) (⟨by rw [if_neg (fun q => q.2.1 (i32_nge hA))], _, _, _, _, _, hR, hfr⟩)
set_option maxHeartbeats 4000000 in
set_option maxRecDepth 100000 in
/-- R_below -/
theorem c_R_below {kk nc : Nat} {dv ms : Int32} {f0 f1 f2 f3 f4 f5 f6 f7 f8 f9 f10 f11 f12 f13 f14 f15 f16 f17 : Nat → Int32} {x y w : Int32} {up : Nat → Nat} {jr : Nat → Nat → Nat} {kn : Nat → Nat} (hR : RW tI tZ b N k kk dv nc ms f0 f1 f2 f3 f4 f5 f6 f7 f8 f9 f10 f11 f12 f13 f14 f15 f16 f17) (hnc : nc ≤ 12) (hn1 : 1 ≤ nc) (hd : ¬ dv = 0) (hk6 : kk ≤ 6) (hup : ∀ c, c < 12 → f0 c = nI (up c) ∧ up c < 12) (hkn : isn nc x = true → ∀ l, l < 12 → knw f0 f1 f4 f7 f8 f13 nc x.toNatClampNeg l = nI (kn l) ∧ kn l ≤ 48) (hjr : isn nc x = true → ∀ l, l < 12 → ∀ i, i < kn l → f3 (48 * l + i) = nI (jr l i) ∧ jr l i < 32)  : Met l y_R_below (wy y_R_below b_R_below 9 (some .int)) (rm 3 0 0) (zPc D (tyl tI tZ tN tM) b N k [.ref (b + 255), .int x, .int y, .int w]) (zQi D b N (fun z k2 => z = (if isn nc x = true ∧ isn 33 y = true then sel (fun r => if w = 0 then decide (en r < y.toNatClampNeg) else decide (fs_ r < y.toNatClampNeg)) (FF kk dv up nc jr kn x.toNatClampNeg).2.2 63 else -1) ∧ ∃ g13 g14 g15 g16 g17, (RW tI tZ b N k2 kk dv nc ms f0 f1 f2 f3 f4 f5 f6 f7 f8 f9 f10 f11 f12 g13 g14 g15 g16 g17) ∧ ∀ q, q < b + 255 → k2 q = k q)) 0 0 (zA b) := by
  refine z_met (own := R_R) (by decide) rfl rfl (Nat.le_of_ble_eq_true rfl) [some (.ref (b + 255)), some (.int x), some (.int y), some (.int w), none, none, none, none, none] rfl ?_
  intro p e s m args below meth c X hin
  have ⟨ho, r0, r1, r2, r3, r4, r5, r6, r7, r8, r9, r10, r11, r12, r13, r14, r15, r16, r17⟩ := hR
  have hfr : ∀ q, q < b + 255 → k q = k q := fun _ _ => rfl
  refine z_aload_n X d_R_below_0 rfl ?_
  refine z_iload_n X d_R_below_1 rfl ?_
  refine z_callVi X (c_R_isNode hR) ho rfl (cwV 1 X.1.2.2.2.2 (gi_V lm_R_75 vi_R_isNode ve_R_isNode vn_R vc_R_isNode) rfl rfl rfl (by decide +kernel) ⟨Nat.le_of_ble_eq_true rfl, Nat.le_of_ble_eq_true rfl⟩) (As := [.int x]) (st := []) rfl rfl (Nat.le_of_ble_eq_true rfl) d_R_below_2 ⟨Nat.le_of_ble_eq_true rfl, Nat.le_of_ble_eq_true rfl⟩ (fun z k2 hq => ?_)
  obtain ⟨rfl, hk9⟩ := hq
  have hk9 := hk9.symm
  subst hk9
  cases hx : isn nc x
  · skip
    refine z_if_eqN X d_R_below_5 (tgt := 18) (by decide) (by decide) (fun _ => ?_) (fun h => absurd h (by decide))
    refine z_iconst X d_R_below_18 (v := -1) (by decide +kernel) ?_
    exact z_iret X d_R_below_19 (by omega) (by omega) (⟨by rw [if_neg (by simp)], _, _, _, _, _, hR, hfr⟩)
  · skip
    refine z_if_eqN X d_R_below_5 (tgt := 18) (by decide) (by decide) (fun h => absurd h (by decide)) (fun _ => ?_)
    have hkn1 := hkn hx
    have hjr1 := hjr hx
    obtain ⟨j, hj, rfl⟩ := isn_t (by omega) hx
    rw [nI_clamp (n := j) (by omega)] at hkn1 ⊢
    refine z_lv (lv2 := [some (.ref (b + 255)), some (.int (nI j)), some (.int y), some (.int w), none, none, none, none, none]) (fun _ _ q => q) ?_
    refine z_iload_n X d_R_below_8 rfl ?_
    refine z_if_lt X d_R_below_9 (tgt := 18) (by decide) (fun hA => ?_) (fun hA => ?_)
    · skip
      refine z_iconst X d_R_below_18 (v := -1) (by decide +kernel) ?_
      exact z_iret X d_R_below_19 (by omega) (by omega) (⟨by rw [if_neg (fun q => by have := q.2; rw [isn_neg hA] at this; cases this)], _, _, _, _, _, hR, hfr⟩)
    · skip
      refine z_iload_n X d_R_below_12 rfl ?_
      refine z_bipush X d_R_below_13 (v := nI 32) (by decide +kernel) ?_
      rcases pk_ix y (n := 33) (by omega) with hbig | hbig | ⟨v, hv, rfl⟩
      · exact absurd hbig hA
      · skip
        refine z_icmp_le X d_R_below_15 (tgt := 20) (by decide) (fun h => absurd h (le_big (by omega) hbig)) (fun _ => ?_)
        refine z_iconst X d_R_below_18 (v := -1) (by decide +kernel) ?_
        exact z_iret X d_R_below_19 (by omega) (by omega) (⟨by rw [if_neg (fun z => by have := z.2; rw [isn_big hbig] at this; cases this)], _, _, _, _, _, hR, hfr⟩)
      · skip
        refine z_icmp_leN X d_R_below_15 (tgt := 20) (by decide) (by omega) (by omega) (fun _ => ?_) (fun h => absurd h (by omega))
        refine z_lv (lv2 := [some (.ref (b + 255)), some (.int (nI j)), some (.int (nI v)), some (.int w), none, none, none, none, none]) (fun _ _ q => q) ?_
        try rw [nI_clamp (n := v) (by omega)]
        rw [if_pos ⟨rfl, isn_n (nc := 33) (by omega) hv⟩]
        refine z_aload_n X d_R_below_20 rfl ?_
        refine z_iload_n X d_R_below_21 rfl ?_
        refine z_callVv X (c_R_work hR hj hnc hd hk6 hup hkn1 hjr1) ho rfl (cwV 1 X.1.2.2.2.2 (gi_V lm_R_127 vi_R_work ve_R_work vn_R vc_R_work) rfl rfl rfl (by decide +kernel) ⟨Nat.le_of_ble_eq_true rfl, Nat.le_of_ble_eq_true rfl⟩) (As := [.int (nI j)]) (st := []) rfl rfl (Nat.le_of_ble_eq_true rfl) d_R_below_22 ⟨Nat.le_of_ble_eq_true rfl, Nat.le_of_ble_eq_true rfl⟩ (fun k2 hq => ?_)
        obtain ⟨g14, g15, g16, g17, hR9, hf9, hrows⟩ := hq
        have hrow := hrows j (Nat.le_refl _) hj
        have hR := hR9
        have hfr : ∀ q, q < b + 255 → k2 q = k q := fun q hq => (hf9 q hq).trans (hfr q hq)
        have ⟨ho, r0, r1, r2, r3, r4, r5, r6, r7, r8, r9, r10, r11, r12, r13, r14, r15, r16, r17⟩ := hR
        have hc : rw_ 32 g15 j = (FF kk dv up nc jr kn j).2.1 := by rw [← hrow]; rfl
        have hg : rw_ 64 g16 j = (FF kk dv up nc jr kn j).2.2 := by rw [← hrow]; rfl
        have hn : g14 j = (FF kk dv up nc jr kn j).1 := by rw [← hrow]; rfl
        refine z_iconst X d_R_below_25 (v := nI 0) (by decide +kernel) ?_
        refine z_istore X d_R_below_26 (by decide) rfl ?_
        refine z_lv (lv2 := [some (.ref (b + 255)), some (.int (nI j)), some (.int (nI v)), some (.int w), some (.int (nI 0)), none, none, none, none]) (fun _ _ q => q) ?_
        refine z_iconst X d_R_below_28 (v := nI 1) (by decide +kernel) ?_
        refine z_istore X d_R_below_29 (by decide) rfl ?_
        refine z_lv (lv2 := [some (.ref (b + 255)), some (.int (nI j)), some (.int (nI v)), some (.int w), some (.int (nI 0)), some (.int (nI 1)), none, none, none]) (fun _ _ q => q) ?_
        refine z_loop (σ := Unit) (K := fun _ _ => k2) (LV := fun x _ => [some (.ref (b + 255)), some (.int (nI j)), some (.int (nI v)), some (.int w), some (.int (sel (fun r => if w = 0 then decide (en r < v) else decide (fs_ r < v)) (FF kk dv up nc jr kn j).2.2 x)), some (.int (nI (x + 1))), none, none, none]) (I := fun _ _ => True) 63 0 () (by omega) (trivial) (rfl) (by rw [nI_0]; rfl) ?_ ?_
        · intro s1 _
          refine z_lv (lv2 := [some (.ref (b + 255)), some (.int (nI j)), some (.int (nI v)), some (.int w), some (.int (sel (fun r => if w = 0 then decide (en r < v) else decide (fs_ r < v)) (FF kk dv up nc jr kn j).2.2 63)), some (.int (nI (63 + 1))), none, none, none]) (fun _ _ q => q) ?_
          refine z_iload X d_R_below_31 rfl ?_
          refine z_bipush X d_R_below_33 (v := nI 64) (by decide +kernel) ?_
          refine z_icmp_geN X d_R_below_35 (tgt := 121) (by decide) (by omega) (by omega) (fun _ => ?_) (fun h => absurd h (by omega))
          refine z_iload X d_R_below_121 rfl ?_
          exact z_iret X d_R_below_123 (by omega) (by omega) (⟨rfl, _, _, _, _, _, hR, hfr⟩)
        · intro x s1 hx2 _ ih
          refine z_lv (lv2 := [some (.ref (b + 255)), some (.int (nI j)), some (.int (nI v)), some (.int w), some (.int (sel (fun r => if w = 0 then decide (en r < v) else decide (fs_ r < v)) (FF kk dv up nc jr kn j).2.2 x)), some (.int (nI (x + 1))), none, none, none]) (fun _ _ q => q) ?_
          obtain ⟨w1, w2, w3, w4, w5⟩ := wd_ok (x + 1) (by omega) (by omega)
          refine z_iload X d_R_below_31 rfl ?_
          refine z_bipush X d_R_below_33 (v := nI 64) (by decide +kernel) ?_
          refine z_icmp_geN X d_R_below_35 (tgt := 121) (by decide) (by omega) (by omega) (fun h => absurd h (by omega)) (fun _ => ?_)
          refine z_iload X d_R_below_38 rfl ?_
          refine z_callSi X (a := 0) (c_R_width (x := x + 1) (by omega)) (cwS 1 X.1.2.2.2.2 (gi_S lm_R_130 vs_R_width vn_R vc_R_width) rfl rfl rfl (by decide +kernel) ⟨Nat.le_of_ble_eq_true rfl, Nat.le_of_ble_eq_true rfl⟩) (As := [.int (nI (x + 1))]) (st := []) rfl rfl (Nat.le_of_ble_eq_true rfl) d_R_below_40 ⟨Nat.le_of_ble_eq_true rfl, Nat.le_of_ble_eq_true rfl⟩ (fun z k2 hq => ?_)
          obtain ⟨rfl, hk9⟩ := hq
          have hk9 := hk9.symm
          subst hk9
          refine z_istore X d_R_below_43 (by decide) rfl ?_
          refine z_lv (lv2 := [some (.ref (b + 255)), some (.int (nI j)), some (.int (nI v)), some (.int w), some (.int (sel (fun r => if w = 0 then decide (en r < v) else decide (fs_ r < v)) (FF kk dv up nc jr kn j).2.2 x)), some (.int (nI (x + 1))), some (.int (nI (wd (x + 1)))), none, none]) (fun _ _ q => q) ?_
          refine z_iload X d_R_below_45 rfl ?_
          refine z_callSi X (a := 0) (c_R_least (x := x + 1) (by omega) (by omega)) (cwS 1 X.1.2.2.2.2 (gi_S lm_R_133 vs_R_least vn_R vc_R_least) rfl rfl rfl (by decide +kernel) ⟨Nat.le_of_ble_eq_true rfl, Nat.le_of_ble_eq_true rfl⟩) (As := [.int (nI (x + 1))]) (st := []) rfl rfl (Nat.le_of_ble_eq_true rfl) d_R_below_47 ⟨Nat.le_of_ble_eq_true rfl, Nat.le_of_ble_eq_true rfl⟩ (fun z k2 hq => ?_)
          obtain ⟨rfl, hk9⟩ := hq
          have hk9 := hk9.symm
          subst hk9
          refine z_istore X d_R_below_50 (by decide) rfl ?_
          refine z_lv (lv2 := [some (.ref (b + 255)), some (.int (nI j)), some (.int (nI v)), some (.int w), some (.int (sel (fun r => if w = 0 then decide (en r < v) else decide (fs_ r < v)) (FF kk dv up nc jr kn j).2.2 x)), some (.int (nI (x + 1))), some (.int (nI (wd (x + 1)))), some (.int (nI (fs_ (x + 1)))), none]) (fun _ _ q => q) ?_
          refine z_iload_n X d_R_below_52 rfl ?_
          refine z_if_eq X d_R_below_53 (tgt := 70) (by decide) (fun hW => ?_) (fun hW => ?_)
          · skip
            refine z_iload X d_R_below_70 rfl ?_
            refine z_iload X d_R_below_72 rfl ?_
            refine z_iaddN X d_R_below_74 ?_
            refine z_iconst X d_R_below_75 (v := nI 1) (by decide +kernel) ?_
            refine z_isubN X d_R_below_76 (by omega) ?_
            refine z_iload_n X d_R_below_77 rfl ?_
            refine z_icmp_geN X d_R_below_78 (tgt := 85) (by decide) (by omega) (by omega) (fun hE => ?_) (fun hE => ?_)
            · skip
              refine z_iconst X d_R_below_85 (v := nI 0) (by decide +kernel) ?_
              refine z_istore X d_R_below_86 (by decide) rfl ?_
              refine z_lv (lv2 := [some (.ref (b + 255)), some (.int (nI j)), some (.int (nI v)), some (.int w), some (.int (sel (fun r => if w = 0 then decide (en r < v) else decide (fs_ r < v)) (FF kk dv up nc jr kn j).2.2 x)), some (.int (nI (x + 1))), some (.int (nI (wd (x + 1)))), some (.int (nI (fs_ (x + 1)))), some (.int (nI 0))]) (fun _ _ q => q) ?_
              refine z_iload X d_R_below_88 rfl ?_
              refine z_if_eqN X d_R_below_90 (tgt := 111) (by decide) (by decide) (fun _ => ?_) (fun h => absurd h (by decide))
              refine z_iload X d_R_below_111 rfl ?_
              refine z_istore X d_R_below_113 (by decide) rfl ?_
              refine z_lv (lv2 := [some (.ref (b + 255)), some (.int (nI j)), some (.int (nI v)), some (.int w), some (.int (sel (fun r => if w = 0 then decide (en r < v) else decide (fs_ r < v)) (FF kk dv up nc jr kn j).2.2 x)), some (.int (nI (x + 1))), some (.int (nI (wd (x + 1)))), some (.int (nI (fs_ (x + 1)))), some (.int (nI 0))]) (fun _ _ q => q) ?_
              refine z_iincU X d_R_below_115 rfl (by decide) rfl ?_
              refine z_lv (lv2 := [some (.ref (b + 255)), some (.int (nI j)), some (.int (nI v)), some (.int w), some (.int (sel (fun r => if w = 0 then decide (en r < v) else decide (fs_ r < v)) (FF kk dv up nc jr kn j).2.2 x)), some (.int (nI (x + 1 + 1))), some (.int (nI (wd (x + 1)))), some (.int (nI (fs_ (x + 1)))), some (.int (nI 0))]) (fun _ _ q => q) ?_
              refine z_goto X d_R_below_118 (tgt := 31) (by decide) ?_
              refine z_drop 8 ?_
              refine z_drop 7 ?_
              refine z_drop 6 ?_
              exact z_at (ih () trivial) rfl (by simp only [sel]; rw [if_neg (by unfold en; simp [hW]; omega)]; first | done | rfl)
            · skip
              refine z_iconst X d_R_below_81 (v := nI 1) (by decide +kernel) ?_
              refine z_goto X d_R_below_82 (tgt := 86) (by decide) ?_
              refine z_istore X d_R_below_86 (by decide) rfl ?_
              refine z_lv (lv2 := [some (.ref (b + 255)), some (.int (nI j)), some (.int (nI v)), some (.int w), some (.int (sel (fun r => if w = 0 then decide (en r < v) else decide (fs_ r < v)) (FF kk dv up nc jr kn j).2.2 x)), some (.int (nI (x + 1))), some (.int (nI (wd (x + 1)))), some (.int (nI (fs_ (x + 1)))), some (.int (nI 1))]) (fun _ _ q => q) ?_
              refine z_iload X d_R_below_88 rfl ?_
              refine z_if_eqN X d_R_below_90 (tgt := 111) (by decide) (by decide) (fun h => absurd h (by decide)) (fun _ => ?_)
              refine z_iload X d_R_below_93 rfl ?_
              refine z_aload_n X d_R_below_95 rfl ?_
              refine z_get X ho rfl in_R 20 (by decide) (wq lf_R_63) rfl d_R_below_96 ?_
              refine z_bipush X d_R_below_99 (v := nI 64) (by decide +kernel) ?_
              refine z_iload_n X d_R_below_101 rfl ?_
              refine z_imulN X d_R_below_102 ?_
              refine z_iload X d_R_below_103 rfl ?_
              refine z_iaddN X d_R_below_105 ?_
              refine z_iald X r16 0 rfl (j := (64 * j) + (x + 1)) rfl (by omega) (by omega) d_R_below_106 ?_
              refine z_top (y := .int ((FF kk dv up nc jr kn j).2.2 (x + 1))) (by rw [← hg, rw_in (by omega)]) ?_
              refine z_iadd X d_R_below_107 ?_
              refine z_goto X d_R_below_108 (tgt := 113) (by decide) ?_
              refine z_istore X d_R_below_113 (by decide) rfl ?_
              refine z_lv (lv2 := [some (.ref (b + 255)), some (.int (nI j)), some (.int (nI v)), some (.int w), some (.int ((sel (fun r => if w = 0 then decide (en r < v) else decide (fs_ r < v)) (FF kk dv up nc jr kn j).2.2 x) + ((FF kk dv up nc jr kn j).2.2 (x + 1)))), some (.int (nI (x + 1))), some (.int (nI (wd (x + 1)))), some (.int (nI (fs_ (x + 1)))), some (.int (nI 1))]) (fun _ _ q => q) ?_
              refine z_iincU X d_R_below_115 rfl (by decide) rfl ?_
              refine z_lv (lv2 := [some (.ref (b + 255)), some (.int (nI j)), some (.int (nI v)), some (.int w), some (.int ((sel (fun r => if w = 0 then decide (en r < v) else decide (fs_ r < v)) (FF kk dv up nc jr kn j).2.2 x) + ((FF kk dv up nc jr kn j).2.2 (x + 1)))), some (.int (nI (x + 1 + 1))), some (.int (nI (wd (x + 1)))), some (.int (nI (fs_ (x + 1)))), some (.int (nI 1))]) (fun _ _ q => q) ?_
              refine z_goto X d_R_below_118 (tgt := 31) (by decide) ?_
              refine z_drop 8 ?_
              refine z_drop 7 ?_
              refine z_drop 6 ?_
              exact z_at (ih () trivial) rfl (by simp only [sel]; rw [if_pos (by unfold en; simp [hW]; omega)]; first | done | rfl)
          · skip
            refine z_iload X d_R_below_56 rfl ?_
            refine z_iload_n X d_R_below_58 rfl ?_
            refine z_icmp_geN X d_R_below_59 (tgt := 66) (by decide) (by omega) (by omega) (fun hE => ?_) (fun hE => ?_)
            · skip
              refine z_iconst X d_R_below_66 (v := nI 0) (by decide +kernel) ?_
              refine z_goto X d_R_below_67 (tgt := 86) (by decide) ?_
              refine z_istore X d_R_below_86 (by decide) rfl ?_
              refine z_lv (lv2 := [some (.ref (b + 255)), some (.int (nI j)), some (.int (nI v)), some (.int w), some (.int (sel (fun r => if w = 0 then decide (en r < v) else decide (fs_ r < v)) (FF kk dv up nc jr kn j).2.2 x)), some (.int (nI (x + 1))), some (.int (nI (wd (x + 1)))), some (.int (nI (fs_ (x + 1)))), some (.int (nI 0))]) (fun _ _ q => q) ?_
              refine z_iload X d_R_below_88 rfl ?_
              refine z_if_eqN X d_R_below_90 (tgt := 111) (by decide) (by decide) (fun _ => ?_) (fun h => absurd h (by decide))
              refine z_iload X d_R_below_111 rfl ?_
              refine z_istore X d_R_below_113 (by decide) rfl ?_
              refine z_lv (lv2 := [some (.ref (b + 255)), some (.int (nI j)), some (.int (nI v)), some (.int w), some (.int (sel (fun r => if w = 0 then decide (en r < v) else decide (fs_ r < v)) (FF kk dv up nc jr kn j).2.2 x)), some (.int (nI (x + 1))), some (.int (nI (wd (x + 1)))), some (.int (nI (fs_ (x + 1)))), some (.int (nI 0))]) (fun _ _ q => q) ?_
              refine z_iincU X d_R_below_115 rfl (by decide) rfl ?_
              refine z_lv (lv2 := [some (.ref (b + 255)), some (.int (nI j)), some (.int (nI v)), some (.int w), some (.int (sel (fun r => if w = 0 then decide (en r < v) else decide (fs_ r < v)) (FF kk dv up nc jr kn j).2.2 x)), some (.int (nI (x + 1 + 1))), some (.int (nI (wd (x + 1)))), some (.int (nI (fs_ (x + 1)))), some (.int (nI 0))]) (fun _ _ q => q) ?_
              refine z_goto X d_R_below_118 (tgt := 31) (by decide) ?_
              refine z_drop 8 ?_
              refine z_drop 7 ?_
              refine z_drop 6 ?_
              exact z_at (ih () trivial) rfl (by simp only [sel]; rw [if_neg (by simp [hW]; omega)]; first | done | rfl)
            · skip
              refine z_iconst X d_R_below_62 (v := nI 1) (by decide +kernel) ?_
              refine z_goto X d_R_below_63 (tgt := 86) (by decide) ?_
              refine z_istore X d_R_below_86 (by decide) rfl ?_
              refine z_lv (lv2 := [some (.ref (b + 255)), some (.int (nI j)), some (.int (nI v)), some (.int w), some (.int (sel (fun r => if w = 0 then decide (en r < v) else decide (fs_ r < v)) (FF kk dv up nc jr kn j).2.2 x)), some (.int (nI (x + 1))), some (.int (nI (wd (x + 1)))), some (.int (nI (fs_ (x + 1)))), some (.int (nI 1))]) (fun _ _ q => q) ?_
              refine z_iload X d_R_below_88 rfl ?_
              refine z_if_eqN X d_R_below_90 (tgt := 111) (by decide) (by decide) (fun h => absurd h (by decide)) (fun _ => ?_)
              refine z_iload X d_R_below_93 rfl ?_
              refine z_aload_n X d_R_below_95 rfl ?_
              refine z_get X ho rfl in_R 20 (by decide) (wq lf_R_63) rfl d_R_below_96 ?_
              refine z_bipush X d_R_below_99 (v := nI 64) (by decide +kernel) ?_
              refine z_iload_n X d_R_below_101 rfl ?_
              refine z_imulN X d_R_below_102 ?_
              refine z_iload X d_R_below_103 rfl ?_
              refine z_iaddN X d_R_below_105 ?_
              refine z_iald X r16 0 rfl (j := (64 * j) + (x + 1)) rfl (by omega) (by omega) d_R_below_106 ?_
              refine z_top (y := .int ((FF kk dv up nc jr kn j).2.2 (x + 1))) (by rw [← hg, rw_in (by omega)]) ?_
              refine z_iadd X d_R_below_107 ?_
              refine z_goto X d_R_below_108 (tgt := 113) (by decide) ?_
              refine z_istore X d_R_below_113 (by decide) rfl ?_
              refine z_lv (lv2 := [some (.ref (b + 255)), some (.int (nI j)), some (.int (nI v)), some (.int w), some (.int ((sel (fun r => if w = 0 then decide (en r < v) else decide (fs_ r < v)) (FF kk dv up nc jr kn j).2.2 x) + ((FF kk dv up nc jr kn j).2.2 (x + 1)))), some (.int (nI (x + 1))), some (.int (nI (wd (x + 1)))), some (.int (nI (fs_ (x + 1)))), some (.int (nI 1))]) (fun _ _ q => q) ?_
              refine z_iincU X d_R_below_115 rfl (by decide) rfl ?_
              refine z_lv (lv2 := [some (.ref (b + 255)), some (.int (nI j)), some (.int (nI v)), some (.int w), some (.int ((sel (fun r => if w = 0 then decide (en r < v) else decide (fs_ r < v)) (FF kk dv up nc jr kn j).2.2 x) + ((FF kk dv up nc jr kn j).2.2 (x + 1)))), some (.int (nI (x + 1 + 1))), some (.int (nI (wd (x + 1)))), some (.int (nI (fs_ (x + 1)))), some (.int (nI 1))]) (fun _ _ q => q) ?_
              refine z_goto X d_R_below_118 (tgt := 31) (by decide) ?_
              refine z_drop 8 ?_
              refine z_drop 7 ?_
              refine z_drop 6 ?_
              exact z_at (ih () trivial) rfl (by simp only [sel]; rw [if_pos (by simp [hW]; omega)]; first | done | rfl)
set_option maxHeartbeats 4000000 in
set_option maxRecDepth 100000 in
/-- R_quantile -/
theorem c_R_quantile {kk nc : Nat} {dv ms : Int32} {f0 f1 f2 f3 f4 f5 f6 f7 f8 f9 f10 f11 f12 f13 f14 f15 f16 f17 : Nat → Int32} {x y : Int32} {up : Nat → Nat} {jr : Nat → Nat → Nat} {kn : Nat → Nat} (hR : RW tI tZ b N k kk dv nc ms f0 f1 f2 f3 f4 f5 f6 f7 f8 f9 f10 f11 f12 f13 f14 f15 f16 f17) (hnc : nc ≤ 12) (hn1 : 1 ≤ nc) (hd : ¬ dv = 0) (hk6 : kk ≤ 6) (hup : ∀ c, c < 12 → f0 c = nI (up c) ∧ up c < 12) (hkn : isn nc x = true → ∀ l, l < 12 → knw f0 f1 f4 f7 f8 f13 nc x.toNatClampNeg l = nI (kn l) ∧ kn l ≤ 48) (hjr : isn nc x = true → ∀ l, l < 12 → ∀ i, i < kn l → f3 (48 * l + i) = nI (jr l i) ∧ jr l i < 32)  : Met l y_R_quantile (wy y_R_quantile b_R_quantile 8 (some .int)) (rm 3 0 0) (zPc D (tyl tI tZ tN tM) b N k [.ref (b + 255), .int x, .int y]) (zQi D b N (fun z k2 => z = (if isn nc x = true ∧ isn 1001 y = true then vq (FF kk dv up nc jr kn x.toNatClampNeg).2.2 (y * (FF kk dv up nc jr kn x.toNatClampNeg).1) 32 else -1) ∧ ∃ g13 g14 g15 g16 g17, (RW tI tZ b N k2 kk dv nc ms f0 f1 f2 f3 f4 f5 f6 f7 f8 f9 f10 f11 f12 g13 g14 g15 g16 g17) ∧ ∀ q, q < b + 255 → k2 q = k q)) 0 0 (zA b) := by
  refine z_met (own := R_R) (by decide) rfl rfl (Nat.le_of_ble_eq_true rfl) [some (.ref (b + 255)), some (.int x), some (.int y), none, none, none, none, none] rfl ?_
  intro p e s m args below meth c X hin
  have ⟨ho, r0, r1, r2, r3, r4, r5, r6, r7, r8, r9, r10, r11, r12, r13, r14, r15, r16, r17⟩ := hR
  have hfr : ∀ q, q < b + 255 → k q = k q := fun _ _ => rfl
  refine z_aload_n X d_R_quantile_0 rfl ?_
  refine z_iload_n X d_R_quantile_1 rfl ?_
  refine z_callVi X (c_R_isNode hR) ho rfl (cwV 1 X.1.2.2.2.2 (gi_V lm_R_75 vi_R_isNode ve_R_isNode vn_R vc_R_isNode) rfl rfl rfl (by decide +kernel) ⟨Nat.le_of_ble_eq_true rfl, Nat.le_of_ble_eq_true rfl⟩) (As := [.int x]) (st := []) rfl rfl (Nat.le_of_ble_eq_true rfl) d_R_quantile_2 ⟨Nat.le_of_ble_eq_true rfl, Nat.le_of_ble_eq_true rfl⟩ (fun z k2 hq => ?_)
  obtain ⟨rfl, hk9⟩ := hq
  have hk9 := hk9.symm
  subst hk9
  cases hx : isn nc x
  · skip
    refine z_if_eqN X d_R_quantile_5 (tgt := 19) (by decide) (by decide) (fun _ => ?_) (fun h => absurd h (by decide))
    refine z_iconst X d_R_quantile_19 (v := -1) (by decide +kernel) ?_
    exact z_iret X d_R_quantile_20 (by omega) (by omega) (⟨by rw [if_neg (by simp)], _, _, _, _, _, hR, hfr⟩)
  · skip
    refine z_if_eqN X d_R_quantile_5 (tgt := 19) (by decide) (by decide) (fun h => absurd h (by decide)) (fun _ => ?_)
    have hkn1 := hkn hx
    have hjr1 := hjr hx
    obtain ⟨j, hj, rfl⟩ := isn_t (by omega) hx
    rw [nI_clamp (n := j) (by omega)] at hkn1 ⊢
    refine z_lv (lv2 := [some (.ref (b + 255)), some (.int (nI j)), some (.int y), none, none, none, none, none]) (fun _ _ q => q) ?_
    refine z_iload_n X d_R_quantile_8 rfl ?_
    refine z_if_lt X d_R_quantile_9 (tgt := 19) (by decide) (fun hA => ?_) (fun hA => ?_)
    · skip
      refine z_iconst X d_R_quantile_19 (v := -1) (by decide +kernel) ?_
      exact z_iret X d_R_quantile_20 (by omega) (by omega) (⟨by rw [if_neg (fun q => by have := q.2; rw [isn_neg hA] at this; cases this)], _, _, _, _, _, hR, hfr⟩)
    · skip
      refine z_iload_n X d_R_quantile_12 rfl ?_
      refine z_sipush X d_R_quantile_13 (v := nI 1000) (by decide +kernel) ?_
      rcases pk_ix y (n := 1001) (by omega) with hbig | hbig | ⟨v, hv, rfl⟩
      · exact absurd hbig hA
      · skip
        refine z_icmp_le X d_R_quantile_16 (tgt := 21) (by decide) (fun h => absurd h (le_big (by omega) hbig)) (fun _ => ?_)
        refine z_iconst X d_R_quantile_19 (v := -1) (by decide +kernel) ?_
        exact z_iret X d_R_quantile_20 (by omega) (by omega) (⟨by rw [if_neg (fun z => by have := z.2; rw [isn_big hbig] at this; cases this)], _, _, _, _, _, hR, hfr⟩)
      · skip
        refine z_icmp_leN X d_R_quantile_16 (tgt := 21) (by decide) (by omega) (by omega) (fun _ => ?_) (fun h => absurd h (by omega))
        refine z_lv (lv2 := [some (.ref (b + 255)), some (.int (nI j)), some (.int (nI v)), none, none, none, none, none]) (fun _ _ q => q) ?_
        try rw [nI_clamp (n := v) (by omega)]
        rw [if_pos ⟨rfl, isn_n (nc := 1001) (by omega) hv⟩]
        refine z_aload_n X d_R_quantile_21 rfl ?_
        refine z_iload_n X d_R_quantile_22 rfl ?_
        refine z_callVv X (c_R_work hR hj hnc hd hk6 hup hkn1 hjr1) ho rfl (cwV 1 X.1.2.2.2.2 (gi_V lm_R_127 vi_R_work ve_R_work vn_R vc_R_work) rfl rfl rfl (by decide +kernel) ⟨Nat.le_of_ble_eq_true rfl, Nat.le_of_ble_eq_true rfl⟩) (As := [.int (nI j)]) (st := []) rfl rfl (Nat.le_of_ble_eq_true rfl) d_R_quantile_23 ⟨Nat.le_of_ble_eq_true rfl, Nat.le_of_ble_eq_true rfl⟩ (fun k2 hq => ?_)
        obtain ⟨g14, g15, g16, g17, hR9, hf9, hrows⟩ := hq
        have hrow := hrows j (Nat.le_refl _) hj
        have hR := hR9
        have hfr : ∀ q, q < b + 255 → k2 q = k q := fun q hq => (hf9 q hq).trans (hfr q hq)
        have ⟨ho, r0, r1, r2, r3, r4, r5, r6, r7, r8, r9, r10, r11, r12, r13, r14, r15, r16, r17⟩ := hR
        have hc : rw_ 32 g15 j = (FF kk dv up nc jr kn j).2.1 := by rw [← hrow]; rfl
        have hg : rw_ 64 g16 j = (FF kk dv up nc jr kn j).2.2 := by rw [← hrow]; rfl
        have hn : g14 j = (FF kk dv up nc jr kn j).1 := by rw [← hrow]; rfl
        refine z_iconst X d_R_quantile_26 (v := nI 0) (by decide +kernel) ?_
        refine z_istore_n X d_R_quantile_27 (by decide) rfl ?_
        refine z_lv (lv2 := [some (.ref (b + 255)), some (.int (nI j)), some (.int (nI v)), some (.int (nI 0)), none, none, none, none]) (fun _ _ q => q) ?_
        refine z_loop (σ := Unit) (K := fun _ _ => k2) (LV := fun x _ => [some (.ref (b + 255)), some (.int (nI j)), some (.int (nI v)), some (.int (nI x)), none, none, none, none]) (I := fun x _ => vq (FF kk dv up nc jr kn j).2.2 (nI v * (FF kk dv up nc jr kn j).1) 32 = vq (FF kk dv up nc jr kn j).2.2 (nI v * (FF kk dv up nc jr kn j).1) (32 - x)) 32 0 () (by omega) (rfl) (rfl) (rfl) ?_ ?_
        · intro s1 hI
          refine z_lv (lv2 := [some (.ref (b + 255)), some (.int (nI j)), some (.int (nI v)), some (.int (nI 32)), none, none, none, none]) (fun _ _ q => q) ?_
          refine z_iload_n X d_R_quantile_28 rfl ?_
          refine z_bipush X d_R_quantile_29 (v := nI 32) (by decide +kernel) ?_
          refine z_icmp_geN X d_R_quantile_31 (tgt := 131) (by decide) (by omega) (by omega) (fun _ => ?_) (fun h => absurd h (by omega))
          refine z_iconst X d_R_quantile_131 (v := -1) (by decide +kernel) ?_
          exact z_iret X d_R_quantile_132 (by omega) (by omega) (⟨hI.symm, _, _, _, _, _, hR, hfr⟩)
        · intro x s1 hx2 hI ih
          rw [vq_at (FF kk dv up nc jr kn j).2.2 (nI v * (FF kk dv up nc jr kn j).1) hx2] at hI
          refine z_lv (lv2 := [some (.ref (b + 255)), some (.int (nI j)), some (.int (nI v)), some (.int (nI x)), none, none, none, none]) (fun _ _ q => q) ?_
          refine z_iload_n X d_R_quantile_28 rfl ?_
          refine z_bipush X d_R_quantile_29 (v := nI 32) (by decide +kernel) ?_
          refine z_icmp_geN X d_R_quantile_31 (tgt := 131) (by decide) (by omega) (by omega) (fun h => absurd h (by omega)) (fun _ => ?_)
          refine z_iconst X d_R_quantile_34 (v := nI 0) (by decide +kernel) ?_
          refine z_istore X d_R_quantile_35 (by decide) rfl ?_
          refine z_lv (lv2 := [some (.ref (b + 255)), some (.int (nI j)), some (.int (nI v)), some (.int (nI x)), some (.int (nI 0)), none, none, none]) (fun _ _ q => q) ?_
          refine z_iconst X d_R_quantile_37 (v := nI 1) (by decide +kernel) ?_
          refine z_istore X d_R_quantile_38 (by decide) rfl ?_
          refine z_lv (lv2 := [some (.ref (b + 255)), some (.int (nI j)), some (.int (nI v)), some (.int (nI x)), some (.int (nI 0)), some (.int (nI 1)), none, none]) (fun _ _ q => q) ?_
          refine z_loop (σ := Unit) (K := fun _ _ => k2) (LV := fun z _ => [some (.ref (b + 255)), some (.int (nI j)), some (.int (nI v)), some (.int (nI x)), some (.int (sel (fun r => decide (en r ≤ x)) (FF kk dv up nc jr kn j).2.2 z)), some (.int (nI (z + 1))), none, none]) (I := fun _ _ => True) 63 0 () (by omega) (trivial) (rfl) (by rw [nI_0]; rfl) ?_ ?_
          · intro s2 _
            refine z_lv (lv2 := [some (.ref (b + 255)), some (.int (nI j)), some (.int (nI v)), some (.int (nI x)), some (.int (sel (fun r => decide (en r ≤ x)) (FF kk dv up nc jr kn j).2.2 63)), some (.int (nI (63 + 1))), none, none]) (fun _ _ q => q) ?_
            refine z_iload X d_R_quantile_40 rfl ?_
            refine z_bipush X d_R_quantile_42 (v := nI 64) (by decide +kernel) ?_
            refine z_icmp_geN X d_R_quantile_44 (tgt := 100) (by decide) (by omega) (by omega) (fun _ => ?_) (fun h => absurd h (by omega))
            rw [eb_le _ hx2]
            refine z_lv (lv2 := [some (.ref (b + 255)), some (.int (nI j)), some (.int (nI v)), some (.int (nI x)), some (.int (eb (FF kk dv up nc jr kn j).2.2 (x + 1))), some (.int (nI (63 + 1))), none, none]) (fun _ _ q => q) ?_
            refine z_iload X d_R_quantile_100 rfl ?_
            refine z_iconst X d_R_quantile_102 (v := nI 1) (by decide +kernel) ?_
            refine z_icmp_lt X d_R_quantile_103 (tgt := 125) (by decide) (fun hA => ?_) (fun hA => ?_)
            · skip
              refine z_iincU X d_R_quantile_125 rfl (by decide) rfl ?_
              refine z_lv (lv2 := [some (.ref (b + 255)), some (.int (nI j)), some (.int (nI v)), some (.int (nI (x + 1))), some (.int (eb (FF kk dv up nc jr kn j).2.2 (x + 1))), some (.int (nI (63 + 1))), none, none]) (fun _ _ q => q) ?_
              refine z_goto X d_R_quantile_128 (tgt := 28) (by decide) ?_
              refine z_drop 4 ?_
              refine z_drop 5 ?_
              exact z_at (ih () (by rw [hI, if_neg (fun q => q.1 hA)])) rfl rfl
            · skip
              refine z_sipush X d_R_quantile_106 (v := nI 1000) (by decide +kernel) ?_
              refine z_iload X d_R_quantile_109 rfl ?_
              refine z_imul X d_R_quantile_111 ?_
              refine z_iload_n X d_R_quantile_112 rfl ?_
              refine z_aload_n X d_R_quantile_113 rfl ?_
              refine z_get X ho rfl in_R 18 (by decide) (wq lf_R_57) rfl d_R_quantile_114 ?_
              refine z_iload_n X d_R_quantile_117 rfl ?_
              refine z_iald X r14 0 rfl (j := j) rfl (by omega) (by omega) d_R_quantile_118 ?_
              refine z_top (y := .int ((FF kk dv up nc jr kn j).1)) (by rw [hn]) ?_
              refine z_imul X d_R_quantile_119 ?_
              refine z_icmp_lt X d_R_quantile_120 (tgt := 125) (by decide) (fun hB => ?_) (fun hB => ?_)
              · skip
                refine z_iincU X d_R_quantile_125 rfl (by decide) rfl ?_
                refine z_lv (lv2 := [some (.ref (b + 255)), some (.int (nI j)), some (.int (nI v)), some (.int (nI (x + 1))), some (.int (eb (FF kk dv up nc jr kn j).2.2 (x + 1))), some (.int (nI (63 + 1))), none, none]) (fun _ _ q => q) ?_
                refine z_goto X d_R_quantile_128 (tgt := 28) (by decide) ?_
                refine z_drop 4 ?_
                refine z_drop 5 ?_
                exact z_at (ih () (by rw [hI, if_neg (fun q => q.2 hB)])) rfl rfl
              · skip
                refine z_iload_n X d_R_quantile_123 rfl ?_
                exact z_iret X d_R_quantile_124 (by omega) (by omega) (⟨by rw [hI, if_pos ⟨hA, hB⟩], _, _, _, _, _, hR, hfr⟩)
          · intro z s2 hz2 _ ih2
            refine z_lv (lv2 := [some (.ref (b + 255)), some (.int (nI j)), some (.int (nI v)), some (.int (nI x)), some (.int (sel (fun r => decide (en r ≤ x)) (FF kk dv up nc jr kn j).2.2 z)), some (.int (nI (z + 1))), none, none]) (fun _ _ q => q) ?_
            obtain ⟨w1, w2, w3, w4, w5⟩ := wd_ok (z + 1) (by omega) (by omega)
            refine z_iload X d_R_quantile_40 rfl ?_
            refine z_bipush X d_R_quantile_42 (v := nI 64) (by decide +kernel) ?_
            refine z_icmp_geN X d_R_quantile_44 (tgt := 100) (by decide) (by omega) (by omega) (fun h => absurd h (by omega)) (fun _ => ?_)
            refine z_iload X d_R_quantile_47 rfl ?_
            refine z_callSi X (a := 0) (c_R_width (x := z + 1) (by omega)) (cwS 1 X.1.2.2.2.2 (gi_S lm_R_130 vs_R_width vn_R vc_R_width) rfl rfl rfl (by decide +kernel) ⟨Nat.le_of_ble_eq_true rfl, Nat.le_of_ble_eq_true rfl⟩) (As := [.int (nI (z + 1))]) (st := []) rfl rfl (Nat.le_of_ble_eq_true rfl) d_R_quantile_49 ⟨Nat.le_of_ble_eq_true rfl, Nat.le_of_ble_eq_true rfl⟩ (fun z k2 hq => ?_)
            obtain ⟨rfl, hk9⟩ := hq
            have hk9 := hk9.symm
            subst hk9
            refine z_istore X d_R_quantile_52 (by decide) rfl ?_
            refine z_lv (lv2 := [some (.ref (b + 255)), some (.int (nI j)), some (.int (nI v)), some (.int (nI x)), some (.int (sel (fun r => decide (en r ≤ x)) (FF kk dv up nc jr kn j).2.2 z)), some (.int (nI (z + 1))), some (.int (nI (wd (z + 1)))), none]) (fun _ _ q => q) ?_
            refine z_iload X d_R_quantile_54 rfl ?_
            refine z_callSi X (a := 0) (c_R_least (x := z + 1) (by omega) (by omega)) (cwS 1 X.1.2.2.2.2 (gi_S lm_R_133 vs_R_least vn_R vc_R_least) rfl rfl rfl (by decide +kernel) ⟨Nat.le_of_ble_eq_true rfl, Nat.le_of_ble_eq_true rfl⟩) (As := [.int (nI (z + 1))]) (st := []) rfl rfl (Nat.le_of_ble_eq_true rfl) d_R_quantile_56 ⟨Nat.le_of_ble_eq_true rfl, Nat.le_of_ble_eq_true rfl⟩ (fun z k2 hq => ?_)
            obtain ⟨rfl, hk9⟩ := hq
            have hk9 := hk9.symm
            subst hk9
            refine z_istore X d_R_quantile_59 (by decide) rfl ?_
            refine z_lv (lv2 := [some (.ref (b + 255)), some (.int (nI j)), some (.int (nI v)), some (.int (nI x)), some (.int (sel (fun r => decide (en r ≤ x)) (FF kk dv up nc jr kn j).2.2 z)), some (.int (nI (z + 1))), some (.int (nI (wd (z + 1)))), some (.int (nI (fs_ (z + 1))))]) (fun _ _ q => q) ?_
            refine z_iload X d_R_quantile_61 rfl ?_
            refine z_iload X d_R_quantile_63 rfl ?_
            refine z_iaddN X d_R_quantile_65 ?_
            refine z_iconst X d_R_quantile_66 (v := nI 1) (by decide +kernel) ?_
            refine z_isubN X d_R_quantile_67 (by omega) ?_
            refine z_iload_n X d_R_quantile_68 rfl ?_
            refine z_icmp_gtN X d_R_quantile_69 (tgt := 90) (by decide) (by omega) (by omega) (fun hE => ?_) (fun hE => ?_)
            · skip
              refine z_iload X d_R_quantile_90 rfl ?_
              refine z_istore X d_R_quantile_92 (by decide) rfl ?_
              refine z_lv (lv2 := [some (.ref (b + 255)), some (.int (nI j)), some (.int (nI v)), some (.int (nI x)), some (.int (sel (fun r => decide (en r ≤ x)) (FF kk dv up nc jr kn j).2.2 z)), some (.int (nI (z + 1))), some (.int (nI (wd (z + 1)))), some (.int (nI (fs_ (z + 1))))]) (fun _ _ q => q) ?_
              refine z_iincU X d_R_quantile_94 rfl (by decide) rfl ?_
              refine z_lv (lv2 := [some (.ref (b + 255)), some (.int (nI j)), some (.int (nI v)), some (.int (nI x)), some (.int (sel (fun r => decide (en r ≤ x)) (FF kk dv up nc jr kn j).2.2 z)), some (.int (nI (z + 1 + 1))), some (.int (nI (wd (z + 1)))), some (.int (nI (fs_ (z + 1))))]) (fun _ _ q => q) ?_
              refine z_goto X d_R_quantile_97 (tgt := 40) (by decide) ?_
              refine z_drop 7 ?_
              refine z_drop 6 ?_
              exact z_at (ih2 () trivial) rfl (by simp only [sel]; rw [if_neg (by unfold en; simp; omega)]; first | done | rfl)
            · skip
              refine z_iload X d_R_quantile_72 rfl ?_
              refine z_aload_n X d_R_quantile_74 rfl ?_
              refine z_get X ho rfl in_R 20 (by decide) (wq lf_R_63) rfl d_R_quantile_75 ?_
              refine z_bipush X d_R_quantile_78 (v := nI 64) (by decide +kernel) ?_
              refine z_iload_n X d_R_quantile_80 rfl ?_
              refine z_imulN X d_R_quantile_81 ?_
              refine z_iload X d_R_quantile_82 rfl ?_
              refine z_iaddN X d_R_quantile_84 ?_
              refine z_iald X r16 0 rfl (j := (64 * j) + (z + 1)) rfl (by omega) (by omega) d_R_quantile_85 ?_
              refine z_top (y := .int ((FF kk dv up nc jr kn j).2.2 (z + 1))) (by rw [← hg, rw_in (by omega)]) ?_
              refine z_iadd X d_R_quantile_86 ?_
              refine z_goto X d_R_quantile_87 (tgt := 92) (by decide) ?_
              refine z_istore X d_R_quantile_92 (by decide) rfl ?_
              refine z_lv (lv2 := [some (.ref (b + 255)), some (.int (nI j)), some (.int (nI v)), some (.int (nI x)), some (.int ((sel (fun r => decide (en r ≤ x)) (FF kk dv up nc jr kn j).2.2 z) + ((FF kk dv up nc jr kn j).2.2 (z + 1)))), some (.int (nI (z + 1))), some (.int (nI (wd (z + 1)))), some (.int (nI (fs_ (z + 1))))]) (fun _ _ q => q) ?_
              refine z_iincU X d_R_quantile_94 rfl (by decide) rfl ?_
              refine z_lv (lv2 := [some (.ref (b + 255)), some (.int (nI j)), some (.int (nI v)), some (.int (nI x)), some (.int ((sel (fun r => decide (en r ≤ x)) (FF kk dv up nc jr kn j).2.2 z) + ((FF kk dv up nc jr kn j).2.2 (z + 1)))), some (.int (nI (z + 1 + 1))), some (.int (nI (wd (z + 1)))), some (.int (nI (fs_ (z + 1))))]) (fun _ _ q => q) ?_
              refine z_goto X d_R_quantile_97 (tgt := 40) (by decide) ?_
              refine z_drop 7 ?_
              refine z_drop 6 ?_
              exact z_at (ih2 () trivial) rfl (by simp only [sel]; rw [if_pos (by unfold en; simp; omega)]; first | done | rfl)
end
