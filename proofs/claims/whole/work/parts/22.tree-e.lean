/-! Contracts: the tree's changes, 3 -/
section
variable {l : Launch} {D : va_G} {tI tZ tN tM : ClassId} {b N : Nat} {k : Nat → va_E}
set_option maxHeartbeats 4000000 in
set_option maxRecDepth 100000 in
/-- T_copy -/
theorem c_T_copy {kk nc : Nat} {dv lm : Int32} {F : Cf} {op : Nat → Nat → Int32} {oc : Nat → Nat} {Sn Sk Sm : Nat → Sv} {x : Int32} (hC : CW tI tN tM b N k kk dv nc lm F op oc Sn Sk Sm) (hnc : nc ≤ 12) (hN : ∀ j, j < 12 → nS (Sn j) ∧ nS (Sk j) ∧ nS (Sm j))  : Met l y_T_copy (wy y_T_copy b_T_copy 5 (some .int)) (rm 3 0 0) (zPc D (tyl tI tZ tN tM) b N k [.ref b, .int x]) (zQi D b N (fun z k2 => (0 ≤ so (F 4) x ∧ 0 ≤ sw (F 4) (nI 0) 12 → z = lm + 1 ∧ CW tI tN tM b N k2 kk dv nc (lm + 1) (fU (fU (fU F 4 (sw (F 4) (nI 0) 12).toNatClampNeg (lm + 1)) 5 (sw (F 4) (nI 0) 12).toNatClampNeg (F 5 (so (F 4) x).toNatClampNeg)) 6 (sw (F 4) (nI 0) 12).toNatClampNeg (F 6 (so (F 4) x).toNatClampNeg)) op oc Sn Sk (va_up Sm (sw (F 4) (nI 0) 12).toNatClampNeg (Sm (so (F 4) x).toNatClampNeg)) ∧ ∀ q, b + 255 ≤ q → k2 q = k q) ∧ (¬ (0 ≤ so (F 4) x ∧ 0 ≤ sw (F 4) (nI 0) 12) → z = -1 ∧ k2 = k))) 0 0 (zA b) := by
  refine z_met (own := R_T) (by decide) rfl rfl (Nat.le_of_ble_eq_true rfl) [some (.ref b), some (.int x), none, none, none] rfl ?_
  intro p e s m args below meth c X hin
  have ⟨h0, ⟨g1, h1, e1⟩, ⟨g2, h2, e2⟩, h3, h4, h5, h6, h7, h8⟩ := hC
  refine z_aload_n X d_T_copy_0 rfl ?_
  refine z_iload_n X d_T_copy_1 rfl ?_
  refine z_callVi X (c_T_slotOf hC hnc) h0 rfl (cwV 1 X.1.2.2.2.2 (gi_V lm_T_94 vi_T_slotOf ve_T_slotOf vn_T vc_T_slotOf) rfl rfl rfl (by decide +kernel) ⟨Nat.le_of_ble_eq_true rfl, Nat.le_of_ble_eq_true rfl⟩) (As := [.int x]) (st := []) rfl rfl (Nat.le_of_ble_eq_true rfl) d_T_copy_2 ⟨Nat.le_of_ble_eq_true rfl, Nat.le_of_ble_eq_true rfl⟩ (fun z k2 hq => ?_)
  obtain ⟨rfl, hk9⟩ := hq
  have hk9 := hk9.symm
  subst hk9
  refine z_istore_n X d_T_copy_5 (by decide) rfl ?_
  refine z_lv (lv2 := [some (.ref b), some (.int x), some (.int (so (F 4) x)), none, none]) (fun _ _ q => q) ?_
  refine z_aload_n X d_T_copy_6 rfl ?_
  refine z_callVi X (c_T_freeSlot hC hnc) h0 rfl (cwV 0 X.1.2.2.2.2 (gi_V lm_T_80 vi_T_freeSlot ve_T_freeSlot vn_T vc_T_freeSlot) rfl rfl rfl (by decide +kernel) ⟨Nat.le_of_ble_eq_true rfl, Nat.le_of_ble_eq_true rfl⟩) (As := []) (st := []) rfl rfl (Nat.le_of_ble_eq_true rfl) d_T_copy_7 ⟨Nat.le_of_ble_eq_true rfl, Nat.le_of_ble_eq_true rfl⟩ (fun z k2 hq => ?_)
  obtain ⟨rfl, hk9⟩ := hq
  have hk9 := hk9.symm
  subst hk9
  have hfr : ∀ q, b + 255 ≤ q → k q = k q := fun _ _ => rfl
  refine z_istore_n X d_T_copy_10 (by decide) rfl ?_
  refine z_lv (lv2 := [some (.ref b), some (.int x), some (.int (so (F 4) x)), some (.int (sw (F 4) (nI 0) 12)), none]) (fun _ _ q => q) ?_
  rcases so_cases (F 4) x with hs | ⟨o, ho, hs, hq1, hq2⟩
  · rw [hs]
    refine z_lv (lv2 := [some (.ref b), some (.int x), some (.int (-1)), some (.int (sw (F 4) (nI 0) 12)), none]) (fun _ _ q => q) ?_
    refine z_iload_n X d_T_copy_11 rfl ?_
    refine z_if_lt X d_T_copy_12 (tgt := 19) (by decide) (fun _ => ?_) (fun h => absurd h (by decide))
    refine z_iconst X d_T_copy_19 (v := -1) (by decide +kernel) ?_
    exact z_iret X d_T_copy_20 (by omega) (by omega) (⟨fun q => absurd q (fun q => absurd q.1 (by decide)), fun _ => ⟨rfl, rfl⟩⟩)
  · rw [hs]
    rcases sw_cases (F 4) (nI 0) 12 (by omega) with ⟨hs2, -⟩ | ⟨p, hp, hs2, hq3⟩
    · rw [hs2]
      refine z_lv (lv2 := [some (.ref b), some (.int x), some (.int (nI o)), some (.int (-1)), none]) (fun _ _ q => q) ?_
      refine z_iload_n X d_T_copy_11 rfl ?_
      refine z_if_ltN X d_T_copy_12 (tgt := 19) (by decide) (by omega) (fun h => absurd h (by omega)) (fun _ => ?_)
      refine z_iload_n X d_T_copy_15 rfl ?_
      refine z_if_ge X d_T_copy_16 (tgt := 21) (by decide) (fun h => absurd h (by decide)) (fun _ => ?_)
      refine z_iconst X d_T_copy_19 (v := -1) (by decide +kernel) ?_
      exact z_iret X d_T_copy_20 (by omega) (by omega) (⟨fun q => absurd q (fun q => absurd q.2 (by decide)), fun _ => ⟨rfl, rfl⟩⟩)
    · rw [hs2, nI_clamp (n := p) (by omega), nI_clamp (n := o) (by omega)]
      refine z_lv (lv2 := [some (.ref b), some (.int x), some (.int (nI o)), some (.int (nI p)), none]) (fun _ _ q => q) ?_
      have hop : o ≠ p := fun h => by subst h; rw [hq3] at hq1; rw [← hq1] at hq2; exact absurd hq2 (by decide)
      refine z_iload_n X d_T_copy_11 rfl ?_
      refine z_if_ltN X d_T_copy_12 (tgt := 19) (by decide) (by omega) (fun h => absurd h (by omega)) (fun _ => ?_)
      refine z_iload_n X d_T_copy_15 rfl ?_
      refine z_if_geN X d_T_copy_16 (tgt := 21) (by decide) (by omega) (fun _ => ?_) (fun h => absurd h (by omega))
      refine z_aload_n X d_T_copy_21 rfl ?_
      refine z_get X h0 rfl in_T 2 (by decide) (wq lf_T_21) rfl d_T_copy_22 ?_
      refine z_iload_n X d_T_copy_25 rfl ?_
      refine z_aald X h2 3 rfl (j := o) (v := b + 171 + 7 * o) rfl (by omega) (by omega) (e2 _ (by omega)) d_T_copy_26 ?_
      refine z_astore X d_T_copy_27 (by decide) rfl ?_
      refine z_lv (lv2 := [some (.ref b), some (.int x), some (.int (nI o)), some (.int (nI p)), some (.ref (b + 171 + 7 * o))]) (fun _ _ q => q) ?_
      refine z_aload_n X d_T_copy_29 rfl ?_
      refine z_dup X d_T_copy_30 rfl ?_
      refine z_get X h0 rfl in_T 3 (by decide) (wq lf_T_25) rfl d_T_copy_31 ?_
      refine z_iconst X d_T_copy_34 (v := nI 1) (by decide +kernel) ?_
      refine z_iadd X d_T_copy_35 ?_
      refine z_put X h0 rfl in_T ty_T_ok n_T 3 (by decide) (wq lf_T_25) rfl rfl rfl (Nat.le_of_ble_eq_true rfl) d_T_copy_36 ?_
      refine z_named (fun k_1 hk9 => ?_)
      have hC := hC.putT (nc2 := nc) (lm2 := lm + nI 1) hk9
      have hfr : ∀ q, b + 255 ≤ q → k_1 q = k q := fun q hq => by rw [hk9]; exact (up_ne (by omega)).trans (hfr q hq)
      clear hk9
      have ⟨h0, ⟨g1, h1, e1⟩, ⟨g2, h2, e2⟩, h3, h4, h5, h6, h7, h8⟩ := hC
      refine z_aload_n X d_T_copy_39 rfl ?_
      refine z_get X h0 rfl in_T 2 (by decide) (wq lf_T_21) rfl d_T_copy_40 ?_
      refine z_iload_n X d_T_copy_43 rfl ?_
      refine z_aald X h2 3 rfl (j := p) (v := b + 171 + 7 * p) rfl (by omega) (by omega) (e2 _ (by omega)) d_T_copy_44 ?_
      refine z_aload_n X d_T_copy_45 rfl ?_
      refine z_get X h0 rfl in_T 3 (by decide) (wq lf_T_25) rfl d_T_copy_46 ?_
      refine z_aload X d_T_copy_49 rfl ?_
      refine z_get X (h7 o (by omega)) rfl in_M 1 (by decide) (wq lf_T_98) rfl d_T_copy_51 ?_
      refine z_aload X d_T_copy_54 rfl ?_
      refine z_get X (h7 o (by omega)) rfl in_M 2 (by decide) (wq lf_T_101) rfl d_T_copy_56 ?_
      refine z_aload X d_T_copy_59 rfl ?_
      refine z_get X (h7 o (by omega)) rfl in_M 3 (by decide) (wq lf_T_104) rfl d_T_copy_61 ?_
      refine z_callVv X (c_M_send (h7 p hp) (h8 p hp) (hN p hp).2.2 (h8 o ho) (hN o ho).2.2 (by omega)) (h7 p (by omega)) rfl (cwV 4 X.1.2.2.2.2 (gi_V lm_T_90 vi_M_send ve_M_send vn_M vc_M_send) rfl rfl rfl (by decide +kernel) ⟨Nat.le_of_ble_eq_true rfl, Nat.le_of_ble_eq_true rfl⟩) (As := [.int (lm + nI 1), .int (F 5 o), .int (F 6 o), .ref (b + 171 + 7 * o + 1)]) (st := []) rfl rfl (Nat.le_of_ble_eq_true rfl) d_T_copy_64 ⟨Nat.le_of_ble_eq_true rfl, Nat.le_of_ble_eq_true rfl⟩ (fun k2 hq => ?_)
      obtain ⟨q0, q1, q2⟩ := hq
      have hC2 := hC.setM hp q0 q1 q2
      have h02 := hC2.1
      refine z_aload_n X d_T_copy_67 rfl ?_
      refine z_get X h02 rfl in_T 3 (by decide) (wq lf_T_25) rfl d_T_copy_68 ?_
      rw [nI_one] at *
      exact z_iret X d_T_copy_71 (by omega) (by omega) (⟨fun _ => ⟨rfl, hC2, fun q hq => (q2 q (by omega)).trans (hfr q hq)⟩, fun q => absurd ⟨nI_pos' (by omega), nI_pos' (by omega)⟩ q⟩)
set_option maxHeartbeats 4000000 in
set_option maxRecDepth 100000 in
/-- T_deliver -/
theorem c_T_deliver {kk nc : Nat} {dv lm : Int32} {F : Cf} {op : Nat → Nat → Int32} {oc : Nat → Nat} {Sn Sk Sm : Nat → Sv} {x : Int32} {sd up : Nat → Nat} (hC : CW tI tN tM b N k kk dv nc lm F op oc Sn Sk Sm) (hnc : nc ≤ 12) (hn1 : 1 ≤ nc) (hN : ∀ j, j < 12 → nS (Sn j) ∧ nS (Sk j) ∧ nS (Sm j)) (hk6 : kk ≤ 6) (hd : ¬ dv = 0) (hsd : ∀ p, p < 12 → F 5 p = nI (sd p) ∧ sd p < 12) (hup : ∀ p, p < 12 → ¬ F 4 p = 0 → F 0 (sd p) = nI (up (sd p)) ∧ up (sd p) < 12)  : Met l y_T_deliver (wy y_T_deliver b_T_deliver 5 (some .int)) (rm 5 0 0) (zPc D (tyl tI tZ tN tM) b N k [.ref b, .int x]) (zQi D b N (fun z k2 => (0 ≤ so (F 4) x ∧ F 3 (sd (so (F 4) x).toNatClampNeg) < F 6 (so (F 4) x).toNatClampNeg → z = 1 ∧ CW tI tN tM b N k2 kk dv nc lm (fU (fU F 4 (so (F 4) x).toNatClampNeg 0) 3 (sd (so (F 4) x).toNatClampNeg) (F 6 (so (F 4) x).toNatClampNeg)) op oc (va_up Sn (up (sd (so (F 4) x).toNatClampNeg)) (mks kk dv (fU (fU F 4 (so (F 4) x).toNatClampNeg 0) 3 (sd (so (F 4) x).toNatClampNeg) (F 6 (so (F 4) x).toNatClampNeg)) (va_up Sk (sd (so (F 4) x).toNatClampNeg) (Sm (so (F 4) x).toNatClampNeg)) (nI (up (sd (so (F 4) x).toNatClampNeg))) (clS (Sn (up (sd (so (F 4) x).toNatClampNeg)))) (nc - 1))) (va_up Sk (sd (so (F 4) x).toNatClampNeg) (Sm (so (F 4) x).toNatClampNeg)) Sm ∧ ∀ q, b + 255 ≤ q → k2 q = k q) ∧ (0 ≤ so (F 4) x ∧ ¬ F 3 (sd (so (F 4) x).toNatClampNeg) < F 6 (so (F 4) x).toNatClampNeg → z = 0 ∧ CW tI tN tM b N k2 kk dv nc lm (fU F 4 (so (F 4) x).toNatClampNeg 0) op oc Sn Sk Sm ∧ ∀ q, b + 255 ≤ q → k2 q = k q) ∧ (¬ (0 ≤ so (F 4) x) → z = -1 ∧ k2 = k))) 0 0 (zA b) := by
  refine z_met (own := R_T) (by decide) rfl rfl (Nat.le_of_ble_eq_true rfl) [some (.ref b), some (.int x), none, none, none] rfl ?_
  intro p e s m args below meth c X hin
  have ⟨h0, ⟨g1, h1, e1⟩, ⟨g2, h2, e2⟩, h3, h4, h5, h6, h7, h8⟩ := hC
  refine z_aload_n X d_T_deliver_0 rfl ?_
  refine z_iload_n X d_T_deliver_1 rfl ?_
  refine z_callVi X (c_T_slotOf hC hnc) h0 rfl (cwV 1 X.1.2.2.2.2 (gi_V lm_T_94 vi_T_slotOf ve_T_slotOf vn_T vc_T_slotOf) rfl rfl rfl (by decide +kernel) ⟨Nat.le_of_ble_eq_true rfl, Nat.le_of_ble_eq_true rfl⟩) (As := [.int x]) (st := []) rfl rfl (Nat.le_of_ble_eq_true rfl) d_T_deliver_2 ⟨Nat.le_of_ble_eq_true rfl, Nat.le_of_ble_eq_true rfl⟩ (fun z k2 hq => ?_)
  obtain ⟨rfl, hk9⟩ := hq
  have hk9 := hk9.symm
  subst hk9
  have hfr : ∀ q, b + 255 ≤ q → k q = k q := fun _ _ => rfl
  refine z_istore_n X d_T_deliver_5 (by decide) rfl ?_
  refine z_lv (lv2 := [some (.ref b), some (.int x), some (.int (so (F 4) x)), none, none]) (fun _ _ q => q) ?_
  rcases so_cases (F 4) x with hs | ⟨p, hp, hs, hq1, hq2⟩
  · rw [hs]
    refine z_lv (lv2 := [some (.ref b), some (.int x), some (.int (-1)), none, none]) (fun _ _ q => q) ?_
    refine z_iload_n X d_T_deliver_6 rfl ?_
    refine z_if_ge X d_T_deliver_7 (tgt := 12) (by decide) (fun h => absurd h (by decide)) (fun _ => ?_)
    refine z_iconst X d_T_deliver_10 (v := -1) (by decide +kernel) ?_
    exact z_iret X d_T_deliver_11 (by omega) (by omega) (⟨fun q => absurd q.1 (by decide), fun q => absurd q.1 (by decide), fun _ => ⟨rfl, rfl⟩⟩)
  · rw [hs, nI_clamp (n := p) (by omega)]
    refine z_lv (lv2 := [some (.ref b), some (.int x), some (.int (nI p)), none, none]) (fun _ _ q => q) ?_
    obtain ⟨e5, e6⟩ := hsd p hp
    have hx0 : ¬ F 4 p = 0 := fun h => by rw [h] at hq1; rw [← hq1] at hq2; exact absurd hq2 (by decide)
    obtain ⟨u1, u2⟩ := hup p hp hx0
    refine z_iload_n X d_T_deliver_6 rfl ?_
    refine z_if_geN X d_T_deliver_7 (tgt := 12) (by decide) (by omega) (fun _ => ?_) (fun h => absurd h (by omega))
    refine z_aload_n X d_T_deliver_12 rfl ?_
    refine z_get X h0 rfl in_T 2 (by decide) (wq lf_T_21) rfl d_T_deliver_13 ?_
    refine z_iload_n X d_T_deliver_16 rfl ?_
    refine z_aald X h2 3 rfl (j := p) (v := b + 171 + 7 * p) rfl (by omega) (by omega) (e2 _ (by omega)) d_T_deliver_17 ?_
    refine z_astore_n X d_T_deliver_18 (by decide) rfl ?_
    refine z_lv (lv2 := [some (.ref b), some (.int x), some (.int (nI p)), some (.ref (b + 171 + 7 * p)), none]) (fun _ _ q => q) ?_
    refine z_aload_n X d_T_deliver_19 rfl ?_
    refine z_iconst X d_T_deliver_20 (v := nI 0) (by decide +kernel) ?_
    refine z_put X (h7 p (by omega)) rfl in_M ty_M_ok n_M 0 (by decide) (wq lf_T_105) rfl rfl rfl (Nat.le_of_ble_eq_true rfl) d_T_deliver_21 ?_
    refine z_named (fun k_1 hk9 => ?_)
    have hC := hC.put4 (p := p) (x := 0) hp hk9
    have hfr : ∀ q, b + 255 ≤ q → k_1 q = k q := fun q hq => by rw [hk9]; exact (up_ne (by omega)).trans (hfr q hq)
    clear hk9
    have ⟨h0, ⟨g1, h1, e1⟩, ⟨g2, h2, e2⟩, h3, h4, h5, h6, h7, h8⟩ := hC
    refine z_aload_n X d_T_deliver_24 rfl ?_
    refine z_get X h0 rfl in_T 0 (by decide) (wq lf_T_11) rfl d_T_deliver_25 ?_
    refine z_aload_n X d_T_deliver_28 rfl ?_
    refine z_get X (h7 p (by omega)) rfl in_M 1 (by decide) (wq lf_T_98) rfl d_T_deliver_29 ?_
    refine z_aald X h1 2 rfl (j := sd p) (v := b + 3 + 14 * (sd p)) (by rw [fU_c (by omega)]; exact e5) (by omega) (by omega) (e1 _ (by omega)) d_T_deliver_32 ?_
    refine z_astore X d_T_deliver_33 (by decide) rfl ?_
    refine z_lv (lv2 := [some (.ref b), some (.int x), some (.int (nI p)), some (.ref (b + 171 + 7 * p)), some (.ref (b + 3 + 14 * (sd p)))]) (fun _ _ q => q) ?_
    refine z_aload X d_T_deliver_35 rfl ?_
    refine z_get X (h3 (sd p) (by omega)) rfl in_N 8 (by decide) (wq lf_T_108) rfl d_T_deliver_37 ?_
    refine z_top (y := .int (F 3 (sd p))) (by rw [fU_c (by omega)]) ?_
    refine z_aload_n X d_T_deliver_40 rfl ?_
    refine z_get X (h7 p (by omega)) rfl in_M 2 (by decide) (wq lf_T_101) rfl d_T_deliver_41 ?_
    refine z_top (y := .int (F 6 p)) (by rw [fU_c (by omega)]) ?_
    refine z_icmp_lt X d_T_deliver_44 (tgt := 49) (by decide) (fun hD => ?_) (fun hD => ?_)
    · skip
      refine z_aload X d_T_deliver_49 rfl ?_
      refine z_aload_n X d_T_deliver_51 rfl ?_
      refine z_get X (h7 p (by omega)) rfl in_M 2 (by decide) (wq lf_T_101) rfl d_T_deliver_52 ?_
      refine z_top (y := .int (F 6 p)) (by rw [fU_c (by omega)]) ?_
      refine z_put X (h3 (sd p) (by omega)) rfl in_N ty_N_ok n_N 8 (by decide) (wq lf_T_108) rfl rfl rfl (Nat.le_of_ble_eq_true rfl) d_T_deliver_55 ?_
      refine z_named (fun k_2 hk9 => ?_)
      have hC := hC.put3 (j := sd p) (x := F 6 p) e6 hk9
      have hfr : ∀ q, b + 255 ≤ q → k_2 q = k q := fun q hq => by rw [hk9]; exact (up_ne (by omega)).trans (hfr q hq)
      clear hk9
      have ⟨h0, ⟨g1, h1, e1⟩, ⟨g2, h2, e2⟩, h3, h4, h5, h6, h7, h8⟩ := hC
      refine z_aload X d_T_deliver_58 rfl ?_
      refine z_get X (h3 (sd p) (by omega)) rfl in_N 7 (by decide) (wq lf_T_111) rfl d_T_deliver_60 ?_
      refine z_aload_n X d_T_deliver_63 rfl ?_
      refine z_get X (h7 p (by omega)) rfl in_M 3 (by decide) (wq lf_T_104) rfl d_T_deliver_64 ?_
      refine z_callVv X (c_S_setTo (h6 (sd p) e6) (hN _ e6).2.1 (h8 p hp) (hN p hp).2.2 (by omega)) (h6 (sd p) (by omega)).1 rfl (cwV 1 X.1.2.2.2.2 (gi_V lm_T_114 vi_S_setTo ve_S_setTo vn_S vc_S_setTo) rfl rfl rfl (by decide +kernel) ⟨Nat.le_of_ble_eq_true rfl, Nat.le_of_ble_eq_true rfl⟩) (As := [.ref (b + 171 + 7 * p + 1)]) (st := []) rfl rfl (Nat.le_of_ble_eq_true rfl) d_T_deliver_67 ⟨Nat.le_of_ble_eq_true rfl, Nat.le_of_ble_eq_true rfl⟩ (fun k1 hq => ?_)
      obtain ⟨q0, q1⟩ := hq
      have hC1 := hC.setSk e6 q0 q1
      have ⟨h0, ⟨g1, h1, e1⟩, ⟨g2, h2, e2⟩, h3, h4, h5, h6, h7, h8⟩ := hC1
      refine z_aload_n X d_T_deliver_70 rfl ?_
      refine z_aload X d_T_deliver_71 rfl ?_
      refine z_get X (h3 (sd p) (by omega)) rfl in_N 1 (by decide) (wq lf_T_51) rfl d_T_deliver_73 ?_
      refine z_top (y := .int (nI (up (sd p)))) (by rw [fU_c (by omega), fU_c (by omega), u1]) ?_
      refine z_callVv X (c_T_mergeKept hC1 hnc u2 hn1 (fun i hi => ⟨(hN i hi).1, by by_cases z : i = sd p; (rw [z, up_eq]; exact (hN p hp).2.2); (rw [up_ne z]; exact (hN i hi).2.1), (hN i hi).2.2⟩) hk6 hd) h0 rfl (cwV 1 X.1.2.2.2.2 (gi_V lm_T_77 vi_T_mergeKept ve_T_mergeKept vn_T vc_T_mergeKept) rfl rfl rfl (by decide +kernel) ⟨Nat.le_of_ble_eq_true rfl, Nat.le_of_ble_eq_true rfl⟩) (As := [.int (nI (up (sd p)))]) (st := []) rfl rfl (Nat.le_of_ble_eq_true rfl) d_T_deliver_76 ⟨Nat.le_of_ble_eq_true rfl, Nat.le_of_ble_eq_true rfl⟩ (fun k2 hq => ?_)
      obtain ⟨hC2, hfr2⟩ := hq
      refine z_iconst X d_T_deliver_79 (v := nI 1) (by decide +kernel) ?_
      exact z_iret X d_T_deliver_80 (by omega) (by omega) (⟨fun _ => ⟨rfl, hC2, fun q hq => (hfr2 q hq).trans ((q1 q (by omega)).trans (hfr q hq))⟩, fun q => absurd hD q.2, fun q => absurd (nI_pos' (by omega)) q⟩)
    · skip
      refine z_iconst X d_T_deliver_47 (v := nI 0) (by decide +kernel) ?_
      exact z_iret X d_T_deliver_48 (by omega) (by omega) (⟨fun q => absurd q.2 hD, fun _ => ⟨rfl, hC, hfr⟩, fun q => absurd (nI_pos' (by omega)) q⟩)
end
