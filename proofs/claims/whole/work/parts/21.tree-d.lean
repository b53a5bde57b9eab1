/-! Contracts: the tree's changes, 2 -/
theorem so_cases (f : Nat → Int32) (x : Int32) : so f x = -1 ∨ ∃ p, p < 12 ∧ so f x = nI p ∧ f p = x ∧ nI 1 ≤ x := by
  unfold so
  by_cases h : nI 1 ≤ x
  · rw [if_pos h]
    rcases sw_cases f x 12 (by omega) with ⟨h1, h2⟩ | ⟨p, h1, h2, h3⟩
    · exact Or.inl h1
    · exact Or.inr ⟨p, h1, h2, h3, h⟩
  · rw [if_neg h]
    exact Or.inl rfl
section
variable {l : Launch} {D : va_G} {tI tZ tN tM : ClassId} {b N : Nat} {k : Nat → va_E}
set_option maxHeartbeats 4000000 in
set_option maxRecDepth 100000 in
/-- T_mergeKept -/
theorem c_T_mergeKept {kk nc : Nat} {dv lm : Int32} {F : Cf} {op : Nat → Nat → Int32} {oc : Nat → Nat} {Sn Sk Sm : Nat → Sv} {j : Nat} (hC : CW tI tN tM b N k kk dv nc lm F op oc Sn Sk Sm) (hnc : nc ≤ 12) (hj : j < 12) (hn1 : 1 ≤ nc) (hN : ∀ j, j < 12 → nS (Sn j) ∧ nS (Sk j) ∧ nS (Sm j)) (hk6 : kk ≤ 6) (hd : ¬ dv = 0)  : Met l y_T_mergeKept (wy y_T_mergeKept b_T_mergeKept 5 none) (rm 4 0 0) (zPc D (tyl tI tZ tN tM) b N k [.ref b, .int (nI j)]) (zQv D b N (fun k2 => CW tI tN tM b N k2 kk dv nc lm F op oc (va_up Sn j (mks kk dv F Sk (nI j) (clS (Sn j)) (nc - 1))) Sk Sm ∧ ∀ q, b + 255 ≤ q → k2 q = k q)) 0 0 (zA b) := by
  refine z_met (own := R_T) (by decide) rfl rfl (Nat.le_of_ble_eq_true rfl) [some (.ref b), some (.int (nI j)), none, none, none] rfl ?_
  intro p e s m args below meth c X hin
  have ⟨h0, ⟨g1, h1, e1⟩, ⟨g2, h2, e2⟩, h3, h4, h5, h6, h7, h8⟩ := hC
  refine z_aload_n X d_T_mergeKept_0 rfl ?_
  refine z_get X h0 rfl in_T 0 (by decide) (wq lf_T_11) rfl d_T_mergeKept_1 ?_
  refine z_iload_n X d_T_mergeKept_4 rfl ?_
  refine z_aald X h1 2 rfl (j := j) (v := b + 3 + 14 * j) rfl (by omega) (by omega) (e1 _ (by omega)) d_T_mergeKept_5 ?_
  refine z_get X (h3 j (by omega)) rfl in_N 6 (by decide) (wq lf_T_86) rfl d_T_mergeKept_6 ?_
  refine z_astore_n X d_T_mergeKept_9 (by decide) rfl ?_
  refine z_lv (lv2 := [some (.ref b), some (.int (nI j)), some (.ref (b + 3 + 14 * j + 2)), none, none]) (fun _ _ q => q) ?_
  refine z_aload_n X d_T_mergeKept_10 rfl ?_
  refine z_callVv X (c_S_makeEmpty (h5 j hj) (hN j hj).1) (h5 j (by omega)).1 rfl (cwV 0 X.1.2.2.2.2 (gi_V lm_T_172 vi_S_makeEmpty ve_S_makeEmpty vn_S vc_S_makeEmpty) rfl rfl rfl (by decide +kernel) ⟨Nat.le_of_ble_eq_true rfl, Nat.le_of_ble_eq_true rfl⟩) (As := []) (st := []) rfl rfl (Nat.le_of_ble_eq_true rfl) d_T_mergeKept_11 ⟨Nat.le_of_ble_eq_true rfl, Nat.le_of_ble_eq_true rfl⟩ (fun k1 hq => ?_)
  obtain ⟨hS1, hf1⟩ := hq
  refine z_iconst X d_T_mergeKept_14 (v := nI 1) (by decide +kernel) ?_
  refine z_istore_n X d_T_mergeKept_15 (by decide) rfl ?_
  refine z_lv (lv2 := [some (.ref b), some (.int (nI j)), some (.ref (b + 3 + 14 * j + 2)), some (.int (nI 1)), none]) (fun _ _ q => q) ?_
  refine z_loop (σ := Nat → va_E) (K := fun _ k9 => k9) (LV := fun v _ => [some (.ref b), some (.int (nI j)), some (.ref (b + 3 + 14 * j + 2)), some (.int (nI (v + 1))), none]) (I := fun v k9 => isS tI b N k9 kk dv (b + 3 + 14 * j + 2) (mks kk dv F Sk (nI j) (clS (Sn j)) v) ∧ frm k k9 (b + 3 + 14 * j + 2) 6) (nc - 1) 0 k1 (by omega) (⟨hS1, hf1⟩) (rfl) (rfl) ?_ ?_
  · intro k9 hI
    obtain ⟨hS9, hf⟩ := hI
    have hC9 := hC.setSn hj hS9 hf
    have ⟨h0, ⟨g1, h1, e1⟩, ⟨g2, h2, e2⟩, h3, h4, h5, h6, h7, h8⟩ := hC9
    refine z_lv (lv2 := [some (.ref b), some (.int (nI j)), some (.ref (b + 3 + 14 * j + 2)), some (.int (nI (nc - 1 + 1))), none]) (fun _ _ q => q) ?_
    refine z_iload_n X d_T_mergeKept_16 rfl ?_
    refine z_aload_n X d_T_mergeKept_17 rfl ?_
    refine z_get X h0 rfl in_T 1 (by decide) (wq lf_T_15) rfl d_T_mergeKept_18 ?_
    refine z_icmp_geN X d_T_mergeKept_21 (tgt := 75) (by decide) (by omega) (by omega) (fun _ => ?_) (fun h => absurd h (by omega))
    exact z_vret X d_T_mergeKept_75 (by omega) (by omega) (⟨hC9, fun q hq => hf q (by omega)⟩)
  · intro v k9 hv hI ih
    obtain ⟨hS9, hf⟩ := hI
    have hC9 := hC.setSn hj hS9 hf
    have ⟨h0, ⟨g1, h1, e1⟩, ⟨g2, h2, e2⟩, h3, h4, h5, h6, h7, h8⟩ := hC9
    refine z_lv (lv2 := [some (.ref b), some (.int (nI j)), some (.ref (b + 3 + 14 * j + 2)), some (.int (nI (v + 1))), none]) (fun _ _ q => q) ?_
    refine z_iload_n X d_T_mergeKept_16 rfl ?_
    refine z_aload_n X d_T_mergeKept_17 rfl ?_
    refine z_get X h0 rfl in_T 1 (by decide) (wq lf_T_15) rfl d_T_mergeKept_18 ?_
    refine z_icmp_geN X d_T_mergeKept_21 (tgt := 75) (by decide) (by omega) (by omega) (fun h => absurd h (by omega)) (fun _ => ?_)
    refine z_aload_n X d_T_mergeKept_24 rfl ?_
    refine z_get X h0 rfl in_T 0 (by decide) (wq lf_T_11) rfl d_T_mergeKept_25 ?_
    refine z_iload_n X d_T_mergeKept_28 rfl ?_
    refine z_aald X h1 2 rfl (j := v + 1) (v := b + 3 + 14 * (v + 1)) rfl (by omega) (by omega) (e1 _ (by omega)) d_T_mergeKept_29 ?_
    refine z_astore X d_T_mergeKept_30 (by decide) rfl ?_
    refine z_lv (lv2 := [some (.ref b), some (.int (nI j)), some (.ref (b + 3 + 14 * j + 2)), some (.int (nI (v + 1))), some (.ref (b + 3 + 14 * (v + 1)))]) (fun _ _ q => q) ?_
    refine z_aload X d_T_mergeKept_32 rfl ?_
    refine z_get X (h3 (v + 1) (by omega)) rfl in_N 1 (by decide) (wq lf_T_51) rfl d_T_mergeKept_34 ?_
    refine z_iload_n X d_T_mergeKept_37 rfl ?_
    refine z_icmp_ne X d_T_mergeKept_38 (tgt := 69) (by decide) (fun hA => ?_) (fun hA => ?_)
    · skip
      refine z_iincU X d_T_mergeKept_69 rfl (by decide) rfl ?_
      refine z_lv (lv2 := [some (.ref b), some (.int (nI j)), some (.ref (b + 3 + 14 * j + 2)), some (.int (nI (v + 1 + 1))), some (.ref (b + 3 + 14 * (v + 1)))]) (fun _ _ q => q) ?_
      refine z_goto X d_T_mergeKept_72 (tgt := 16) (by decide) ?_
      refine z_drop 4 ?_
      exact z_at (ih k9 ⟨by simp only [mks]; rw [if_neg (fun q => hA q.1)]; exact hS9, hf⟩) rfl rfl
    · skip
      refine z_aload X d_T_mergeKept_41 rfl ?_
      refine z_get X (h3 (v + 1) (by omega)) rfl in_N 8 (by decide) (wq lf_T_108) rfl d_T_mergeKept_43 ?_
      refine z_if_le X d_T_mergeKept_46 (tgt := 69) (by decide) (fun hB => ?_) (fun hB => ?_)
      · skip
        refine z_iincU X d_T_mergeKept_69 rfl (by decide) rfl ?_
        refine z_lv (lv2 := [some (.ref b), some (.int (nI j)), some (.ref (b + 3 + 14 * j + 2)), some (.int (nI (v + 1 + 1))), some (.ref (b + 3 + 14 * (v + 1)))]) (fun _ _ q => q) ?_
        refine z_goto X d_T_mergeKept_72 (tgt := 16) (by decide) ?_
        refine z_drop 4 ?_
        exact z_at (ih k9 ⟨by simp only [mks]; rw [if_neg (fun q => i32_le_n hB q.2.1)]; exact hS9, hf⟩) rfl rfl
      · skip
        refine z_aload X d_T_mergeKept_49 rfl ?_
        refine z_get X (h3 (v + 1) (by omega)) rfl in_N 7 (by decide) (wq lf_T_111) rfl d_T_mergeKept_51 ?_
        refine z_get X (h6 (v + 1) (by omega)).1 rfl in_S 0 (by decide) (wq lf_T_120) rfl d_T_mergeKept_54 ?_
        refine z_if_le X d_T_mergeKept_57 (tgt := 69) (by decide) (fun hE => ?_) (fun hE => ?_)
        · skip
          refine z_iincU X d_T_mergeKept_69 rfl (by decide) rfl ?_
          refine z_lv (lv2 := [some (.ref b), some (.int (nI j)), some (.ref (b + 3 + 14 * j + 2)), some (.int (nI (v + 1 + 1))), some (.ref (b + 3 + 14 * (v + 1)))]) (fun _ _ q => q) ?_
          refine z_goto X d_T_mergeKept_72 (tgt := 16) (by decide) ?_
          refine z_drop 4 ?_
          exact z_at (ih k9 ⟨by simp only [mks]; rw [if_neg (fun q => i32_le_n hE q.2.2)]; exact hS9, hf⟩) rfl rfl
        · skip
          refine z_aload_n X d_T_mergeKept_60 rfl ?_
          refine z_aload X d_T_mergeKept_61 rfl ?_
          refine z_get X (h3 (v + 1) (by omega)) rfl in_N 7 (by decide) (wq lf_T_111) rfl d_T_mergeKept_63 ?_
          have nv : nS (mks kk dv F Sk (nI j) (clS (Sn j)) v) := nS_mks (nS_clS _) v (fun i hi => (hN i (by omega)).2.1)
          refine z_callVv X (c_S_merge hS9 nv (h6 (v + 1) (by omega)) (hN (v + 1) (by omega)).2.1 (by omega) hk6 hd) hS9.1 rfl (cwV 1 X.1.2.2.2.2 (gi_V lm_T_175 vi_S_merge ve_S_merge vn_S vc_S_merge) rfl rfl rfl (by decide +kernel) ⟨Nat.le_of_ble_eq_true rfl, Nat.le_of_ble_eq_true rfl⟩) (As := [.ref (b + 3 + 14 * (v + 1) + 8)]) (st := []) rfl rfl (Nat.le_of_ble_eq_true rfl) d_T_mergeKept_66 ⟨Nat.le_of_ble_eq_true rfl, Nat.le_of_ble_eq_true rfl⟩ (fun k2 hq => ?_)
          obtain ⟨hS2, hf2⟩ := hq
          refine z_iincU X d_T_mergeKept_69 rfl (by decide) rfl ?_
          refine z_lv (lv2 := [some (.ref b), some (.int (nI j)), some (.ref (b + 3 + 14 * j + 2)), some (.int (nI (v + 1 + 1))), some (.ref (b + 3 + 14 * (v + 1)))]) (fun _ _ q => q) ?_
          refine z_goto X d_T_mergeKept_72 (tgt := 16) (by decide) ?_
          refine z_drop 4 ?_
          exact z_at (ih k2 ⟨by simp only [mks]; rw [if_pos ⟨hA, i32_nle hB, i32_nle hE⟩]; exact hS2, fun q hq => (hf2 q hq).trans (hf q hq)⟩) rfl rfl
set_option maxHeartbeats 4000000 in
set_option maxRecDepth 100000 in
/-- T_crash -/
theorem c_T_crash {kk nc : Nat} {dv lm : Int32} {F : Cf} {op : Nat → Nat → Int32} {oc : Nat → Nat} {Sn Sk Sm : Nat → Sv} {x : Int32} (hC : CW tI tN tM b N k kk dv nc lm F op oc Sn Sk Sm) (hnc : nc ≤ 12) (hn1 : 1 ≤ nc) (hN : ∀ j, j < 12 → nS (Sn j) ∧ nS (Sk j) ∧ nS (Sm j)) (hk6 : kk ≤ 6) (hd : ¬ dv = 0)  : Met l y_T_crash (wy y_T_crash b_T_crash 2 (some .boolean)) (rm 5 0 0) (zPc D (tyl tI tZ tN tM) b N k [.ref b, .int x]) (zQi D b N (fun z k2 => (isn nc x = true → z = 1 ∧ (¬ F 1 x.toNatClampNeg = 0 → CW tI tN tM b N k2 kk dv nc lm F op (va_up oc x.toNatClampNeg 0) Sn Sk Sm) ∧ (¬ ¬ F 1 x.toNatClampNeg = 0 → CW tI tN tM b N k2 kk dv nc lm (fgt F x (nc - 1)) op oc (va_up Sn x.toNatClampNeg (mks kk dv (fgt F x (nc - 1)) Sk x (clS (Sn x.toNatClampNeg)) (nc - 1))) Sk Sm) ∧ ∀ q, b + 255 ≤ q → k2 q = k q) ∧ (¬ (isn nc x = true) → z = 0 ∧ k2 = k))) 0 0 (zA b) := by
  refine z_met (own := R_T) (by decide) rfl rfl (Nat.le_of_ble_eq_true rfl) [some (.ref b), some (.int x)] rfl ?_
  intro p e s m args below meth c X hin
  have ⟨h0, ⟨g1, h1, e1⟩, ⟨g2, h2, e2⟩, h3, h4, h5, h6, h7, h8⟩ := hC
  refine z_aload_n X d_T_crash_0 rfl ?_
  refine z_iload_n X d_T_crash_1 rfl ?_
  refine z_callVi X (c_T_isNode hC hnc) h0 rfl (cwV 1 X.1.2.2.2.2 (gi_V lm_T_43 vi_T_isNode ve_T_isNode vn_T vc_T_isNode) rfl rfl rfl (by decide +kernel) ⟨Nat.le_of_ble_eq_true rfl, Nat.le_of_ble_eq_true rfl⟩) (As := [.int x]) (st := []) rfl rfl (Nat.le_of_ble_eq_true rfl) d_T_crash_2 ⟨Nat.le_of_ble_eq_true rfl, Nat.le_of_ble_eq_true rfl⟩ (fun z k2 hq => ?_)
  obtain ⟨rfl, hk9⟩ := hq
  have hk9 := hk9.symm
  subst hk9
  cases hx : isn nc x
  · skip
    refine z_if_neN X d_T_crash_5 (tgt := 10) (by decide) (by decide) (fun h => absurd h (by decide)) (fun _ => ?_)
    refine z_iconst X d_T_crash_8 (v := nI 0) (by decide +kernel) ?_
    exact z_zret X d_T_crash_9 (by decide) (by omega) (by omega) (⟨fun q => absurd q (by simp), fun _ => ⟨rfl, rfl⟩⟩)
  · skip
    refine z_if_neN X d_T_crash_5 (tgt := 10) (by decide) (by decide) (fun _ => ?_) (fun h => absurd h (by decide))
    obtain ⟨j, hj, rfl⟩ := isn_t (by omega) hx
    refine z_lv (lv2 := [some (.ref b), some (.int (nI j))]) (fun _ _ q => q) ?_
    rw [nI_clamp (by omega)]
    have hfr : ∀ q, b + 255 ≤ q → k q = k q := fun _ _ => rfl
    refine z_aload_n X d_T_crash_10 rfl ?_
    refine z_get X h0 rfl in_T 0 (by decide) (wq lf_T_11) rfl d_T_crash_11 ?_
    refine z_iload_n X d_T_crash_14 rfl ?_
    refine z_aald X h1 2 rfl (j := j) (v := b + 3 + 14 * j) rfl (by omega) (by omega) (e1 _ (by omega)) d_T_crash_15 ?_
    refine z_get X (h3 j (by omega)) rfl in_N 2 (by decide) (wq lf_T_47) rfl d_T_crash_16 ?_
    refine z_if_eq X d_T_crash_19 (tgt := 35) (by decide) (fun hB => ?_) (fun hB => ?_)
    · skip
      refine z_aload_n X d_T_crash_35 rfl ?_
      refine z_iload_n X d_T_crash_36 rfl ?_
      refine z_callVv X (c_T_forgetChildren hC hnc hn1) h0 rfl (cwV 1 X.1.2.2.2.2 (gi_V lm_T_74 vi_T_forgetChildren ve_T_forgetChildren vn_T vc_T_forgetChildren) rfl rfl rfl (by decide +kernel) ⟨Nat.le_of_ble_eq_true rfl, Nat.le_of_ble_eq_true rfl⟩) (As := [.int (nI j)]) (st := []) rfl rfl (Nat.le_of_ble_eq_true rfl) d_T_crash_37 ⟨Nat.le_of_ble_eq_true rfl, Nat.le_of_ble_eq_true rfl⟩ (fun k1 hq => ?_)
      obtain ⟨hC1, hfr1⟩ := hq
      have h01 := hC1.1
      refine z_aload_n X d_T_crash_40 rfl ?_
      refine z_iload_n X d_T_crash_41 rfl ?_
      refine z_callVv X (c_T_mergeKept hC1 hnc (by omega) hn1 hN hk6 hd) h01 rfl (cwV 1 X.1.2.2.2.2 (gi_V lm_T_77 vi_T_mergeKept ve_T_mergeKept vn_T vc_T_mergeKept) rfl rfl rfl (by decide +kernel) ⟨Nat.le_of_ble_eq_true rfl, Nat.le_of_ble_eq_true rfl⟩) (As := [.int (nI j)]) (st := []) rfl rfl (Nat.le_of_ble_eq_true rfl) d_T_crash_42 ⟨Nat.le_of_ble_eq_true rfl, Nat.le_of_ble_eq_true rfl⟩ (fun k2 hq => ?_)
      obtain ⟨hC2, hfr2⟩ := hq
      refine z_iconst X d_T_crash_45 (v := nI 1) (by decide +kernel) ?_
      exact z_zret X d_T_crash_46 (by decide) (by omega) (by omega) (⟨fun _ => ⟨rfl, fun q => absurd hB q, fun _ => hC2, fun q hq => (hfr2 q hq).trans (hfr1 q hq)⟩, fun q => absurd rfl q⟩)
    · skip
      refine z_aload_n X d_T_crash_22 rfl ?_
      refine z_get X h0 rfl in_T 0 (by decide) (wq lf_T_11) rfl d_T_crash_23 ?_
      refine z_iload_n X d_T_crash_26 rfl ?_
      refine z_aald X h1 2 rfl (j := j) (v := b + 3 + 14 * j) rfl (by omega) (by omega) (e1 _ (by omega)) d_T_crash_27 ?_
      refine z_iconst X d_T_crash_28 (v := nI 0) (by decide +kernel) ?_
      refine z_put X (h3 j (by omega)) rfl in_N ty_N_ok n_N 4 (by decide) (wq lf_T_71) rfl rfl rfl (Nat.le_of_ble_eq_true rfl) d_T_crash_29 ?_
      refine z_named (fun k_1 hk9 => ?_)
      have hC := hC.putOc (j := j) (x := 0) (by omega) hk9
      have hfr : ∀ q, b + 255 ≤ q → k_1 q = k q := fun q hq => by rw [hk9]; exact (up_ne (by omega)).trans (hfr q hq)
      clear hk9
      have ⟨h0, ⟨g1, h1, e1⟩, ⟨g2, h2, e2⟩, h3, h4, h5, h6, h7, h8⟩ := hC
      refine z_goto X d_T_crash_32 (tgt := 45) (by decide) ?_
      refine z_iconst X d_T_crash_45 (v := nI 1) (by decide +kernel) ?_
      exact z_zret X d_T_crash_46 (by decide) (by omega) (by omega) (⟨fun _ => ⟨rfl, fun _ => hC, fun q => absurd hB q, hfr⟩, fun q => absurd rfl q⟩)
set_option maxHeartbeats 4000000 in
set_option maxRecDepth 100000 in
/-- T_drop -/
theorem c_T_drop {kk nc : Nat} {dv lm : Int32} {F : Cf} {op : Nat → Nat → Int32} {oc : Nat → Nat} {Sn Sk Sm : Nat → Sv} {x : Int32} (hC : CW tI tN tM b N k kk dv nc lm F op oc Sn Sk Sm) (hnc : nc ≤ 12)  : Met l y_T_drop (wy y_T_drop b_T_drop 3 (some .boolean)) (rm 2 0 0) (zPc D (tyl tI tZ tN tM) b N k [.ref b, .int x]) (zQi D b N (fun z k2 => (0 ≤ so (F 4) x → z = 1 ∧ CW tI tN tM b N k2 kk dv nc lm (fU F 4 (so (F 4) x).toNatClampNeg 0) op oc Sn Sk Sm ∧ ∀ q, b + 255 ≤ q → k2 q = k q) ∧ (¬ (0 ≤ so (F 4) x) → z = 0 ∧ k2 = k))) 0 0 (zA b) := by
  refine z_met (own := R_T) (by decide) rfl rfl (Nat.le_of_ble_eq_true rfl) [some (.ref b), some (.int x), none] rfl ?_
  intro p e s m args below meth c X hin
  have ⟨h0, ⟨g1, h1, e1⟩, ⟨g2, h2, e2⟩, h3, h4, h5, h6, h7, h8⟩ := hC
  refine z_aload_n X d_T_drop_0 rfl ?_
  refine z_iload_n X d_T_drop_1 rfl ?_
  refine z_callVi X (c_T_slotOf hC hnc) h0 rfl (cwV 1 X.1.2.2.2.2 (gi_V lm_T_94 vi_T_slotOf ve_T_slotOf vn_T vc_T_slotOf) rfl rfl rfl (by decide +kernel) ⟨Nat.le_of_ble_eq_true rfl, Nat.le_of_ble_eq_true rfl⟩) (As := [.int x]) (st := []) rfl rfl (Nat.le_of_ble_eq_true rfl) d_T_drop_2 ⟨Nat.le_of_ble_eq_true rfl, Nat.le_of_ble_eq_true rfl⟩ (fun z k2 hq => ?_)
  obtain ⟨rfl, hk9⟩ := hq
  have hk9 := hk9.symm
  subst hk9
  have hfr : ∀ q, b + 255 ≤ q → k q = k q := fun _ _ => rfl
  rcases so_cases (F 4) x with hs | ⟨p, hp, hs, hq⟩
  · rw [hs]
    refine z_istore_n X d_T_drop_5 (by decide) rfl ?_
    refine z_lv (lv2 := [some (.ref b), some (.int x), some (.int (-1))]) (fun _ _ q => q) ?_
    refine z_iload_n X d_T_drop_6 rfl ?_
    refine z_if_ge X d_T_drop_7 (tgt := 12) (by decide) (fun h => absurd h (by decide)) (fun _ => ?_)
    refine z_iconst X d_T_drop_10 (v := nI 0) (by decide +kernel) ?_
    exact z_zret X d_T_drop_11 (by decide) (by omega) (by omega) (⟨fun q => absurd q (by decide), fun _ => ⟨rfl, rfl⟩⟩)
  · rw [hs]
    rw [nI_clamp (by omega)]
    refine z_istore_n X d_T_drop_5 (by decide) rfl ?_
    refine z_lv (lv2 := [some (.ref b), some (.int x), some (.int (nI p))]) (fun _ _ q => q) ?_
    refine z_iload_n X d_T_drop_6 rfl ?_
    refine z_if_geN X d_T_drop_7 (tgt := 12) (by decide) (by omega) (fun _ => ?_) (fun h => absurd h (by omega))
    refine z_aload_n X d_T_drop_12 rfl ?_
    refine z_get X h0 rfl in_T 2 (by decide) (wq lf_T_21) rfl d_T_drop_13 ?_
    refine z_iload_n X d_T_drop_16 rfl ?_
    refine z_aald X h2 3 rfl (j := p) (v := b + 171 + 7 * p) rfl (by omega) (by omega) (e2 _ (by omega)) d_T_drop_17 ?_
    refine z_iconst X d_T_drop_18 (v := nI 0) (by decide +kernel) ?_
    refine z_put X (h7 p (by omega)) rfl in_M ty_M_ok n_M 0 (by decide) (wq lf_T_105) rfl rfl rfl (Nat.le_of_ble_eq_true rfl) d_T_drop_19 ?_
    refine z_named (fun k_1 hk9 => ?_)
    have hC := hC.put4 (p := p) (x := 0) hp hk9
    have hfr : ∀ q, b + 255 ≤ q → k_1 q = k q := fun q hq => by rw [hk9]; exact (up_ne (by omega)).trans (hfr q hq)
    clear hk9
    have ⟨h0, ⟨g1, h1, e1⟩, ⟨g2, h2, e2⟩, h3, h4, h5, h6, h7, h8⟩ := hC
    refine z_iconst X d_T_drop_22 (v := nI 1) (by decide +kernel) ?_
    exact z_zret X d_T_drop_23 (by decide) (by omega) (by omega) (⟨fun _ => ⟨rfl, hC, hfr⟩, fun q => absurd (nI_pos' (by omega)) q⟩)
set_option maxHeartbeats 4000000 in
set_option maxRecDepth 100000 in
/-- T_report -/
theorem c_T_report {kk nc : Nat} {dv lm : Int32} {F : Cf} {op : Nat → Nat → Int32} {oc : Nat → Nat} {Sn Sk Sm : Nat → Sv} {x : Int32} (hC : CW tI tN tM b N k kk dv nc lm F op oc Sn Sk Sm) (hnc : nc ≤ 12) (hN : ∀ j, j < 12 → nS (Sn j) ∧ nS (Sk j) ∧ nS (Sm j))  : Met l y_T_report (wy y_T_report b_T_report 3 (some .int)) (rm 3 0 0) (zPc D (tyl tI tZ tN tM) b N k [.ref b, .int x]) (zQi D b N (fun z k2 => (isn nc x = true ∧ ¬ F 0 x.toNatClampNeg = -1 ∧ 0 ≤ sw (F 4) (nI 0) 12 → z = lm + 1 ∧ CW tI tN tM b N k2 kk dv nc (lm + 1) (fU (fU (fU (fU F 2 x.toNatClampNeg (F 2 x.toNatClampNeg + 1)) 4 (sw (F 4) (nI 0) 12).toNatClampNeg (lm + 1)) 5 (sw (F 4) (nI 0) 12).toNatClampNeg x) 6 (sw (F 4) (nI 0) 12).toNatClampNeg (F 2 x.toNatClampNeg + 1)) op oc Sn Sk (va_up Sm (sw (F 4) (nI 0) 12).toNatClampNeg (Sn x.toNatClampNeg)) ∧ ∀ q, b + 255 ≤ q → k2 q = k q) ∧ (¬ (isn nc x = true ∧ ¬ F 0 x.toNatClampNeg = -1 ∧ 0 ≤ sw (F 4) (nI 0) 12) → z = -1 ∧ k2 = k))) 0 0 (zA b) := by
  refine z_met (own := R_T) (by decide) rfl rfl (Nat.le_of_ble_eq_true rfl) [some (.ref b), some (.int x), none] rfl ?_
  intro p e s m args below meth c X hin
  have ⟨h0, ⟨g1, h1, e1⟩, ⟨g2, h2, e2⟩, h3, h4, h5, h6, h7, h8⟩ := hC
  refine z_aload_n X d_T_report_0 rfl ?_
  refine z_callVi X (c_T_freeSlot hC hnc) h0 rfl (cwV 0 X.1.2.2.2.2 (gi_V lm_T_80 vi_T_freeSlot ve_T_freeSlot vn_T vc_T_freeSlot) rfl rfl rfl (by decide +kernel) ⟨Nat.le_of_ble_eq_true rfl, Nat.le_of_ble_eq_true rfl⟩) (As := []) (st := []) rfl rfl (Nat.le_of_ble_eq_true rfl) d_T_report_1 ⟨Nat.le_of_ble_eq_true rfl, Nat.le_of_ble_eq_true rfl⟩ (fun z k2 hq => ?_)
  obtain ⟨rfl, hk9⟩ := hq
  have hk9 := hk9.symm
  subst hk9
  have hfr : ∀ q, b + 255 ≤ q → k q = k q := fun _ _ => rfl
  refine z_istore_n X d_T_report_4 (by decide) rfl ?_
  refine z_lv (lv2 := [some (.ref b), some (.int x), some (.int (sw (F 4) (nI 0) 12))]) (fun _ _ q => q) ?_
  refine z_aload_n X d_T_report_5 rfl ?_
  refine z_iload_n X d_T_report_6 rfl ?_
  refine z_callVi X (c_T_isNode hC hnc) h0 rfl (cwV 1 X.1.2.2.2.2 (gi_V lm_T_43 vi_T_isNode ve_T_isNode vn_T vc_T_isNode) rfl rfl rfl (by decide +kernel) ⟨Nat.le_of_ble_eq_true rfl, Nat.le_of_ble_eq_true rfl⟩) (As := [.int x]) (st := []) rfl rfl (Nat.le_of_ble_eq_true rfl) d_T_report_7 ⟨Nat.le_of_ble_eq_true rfl, Nat.le_of_ble_eq_true rfl⟩ (fun z k2 hq => ?_)
  obtain ⟨rfl, hk9⟩ := hq
  have hk9 := hk9.symm
  subst hk9
  cases hx : isn nc x
  · skip
    refine z_if_eqN X d_T_report_10 (tgt := 30) (by decide) (by decide) (fun _ => ?_) (fun h => absurd h (by decide))
    refine z_iconst X d_T_report_30 (v := -1) (by decide +kernel) ?_
    exact z_iret X d_T_report_31 (by omega) (by omega) (⟨fun q => absurd q (by simp), fun _ => ⟨rfl, rfl⟩⟩)
  · skip
    refine z_if_eqN X d_T_report_10 (tgt := 30) (by decide) (by decide) (fun h => absurd h (by decide)) (fun _ => ?_)
    obtain ⟨j, hj, rfl⟩ := isn_t (by omega) hx
    refine z_lv (lv2 := [some (.ref b), some (.int (nI j)), some (.int (sw (F 4) (nI 0) 12))]) (fun _ _ q => q) ?_
    rw [nI_clamp (n := j) (by omega)]
    refine z_aload_n X d_T_report_13 rfl ?_
    refine z_get X h0 rfl in_T 0 (by decide) (wq lf_T_11) rfl d_T_report_14 ?_
    refine z_iload_n X d_T_report_17 rfl ?_
    refine z_aald X h1 2 rfl (j := j) (v := b + 3 + 14 * j) rfl (by omega) (by omega) (e1 _ (by omega)) d_T_report_18 ?_
    refine z_get X (h3 j (by omega)) rfl in_N 1 (by decide) (wq lf_T_51) rfl d_T_report_19 ?_
    refine z_iconst X d_T_report_22 (v := -1) (by decide +kernel) ?_
    refine z_icmp_eq X d_T_report_23 (tgt := 30) (by decide) (fun hB => ?_) (fun hB => ?_)
    · skip
      refine z_iconst X d_T_report_30 (v := -1) (by decide +kernel) ?_
      exact z_iret X d_T_report_31 (by omega) (by omega) (⟨fun q => absurd q (fun q => q.2.1 hB), fun _ => ⟨rfl, rfl⟩⟩)
    · skip
      rcases sw_cases (F 4) (nI 0) 12 (by omega) with ⟨hs, -⟩ | ⟨p, hp, hs, hq⟩
      · rw [hs]
        refine z_lv (lv2 := [some (.ref b), some (.int (nI j)), some (.int (-1))]) (fun _ _ q => q) ?_
        refine z_iload_n X d_T_report_26 rfl ?_
        refine z_if_ge X d_T_report_27 (tgt := 32) (by decide) (fun h => absurd h (by decide)) (fun _ => ?_)
        refine z_iconst X d_T_report_30 (v := -1) (by decide +kernel) ?_
        exact z_iret X d_T_report_31 (by omega) (by omega) (⟨fun q => absurd q (fun q => absurd q.2.2 (by decide)), fun _ => ⟨rfl, rfl⟩⟩)
      · rw [hs, nI_clamp (n := p) (by omega)]
        refine z_lv (lv2 := [some (.ref b), some (.int (nI j)), some (.int (nI p))]) (fun _ _ q => q) ?_
        refine z_iload_n X d_T_report_26 rfl ?_
        refine z_if_geN X d_T_report_27 (tgt := 32) (by decide) (by omega) (fun _ => ?_) (fun h => absurd h (by omega))
        refine z_aload_n X d_T_report_32 rfl ?_
        refine z_get X h0 rfl in_T 0 (by decide) (wq lf_T_11) rfl d_T_report_33 ?_
        refine z_iload_n X d_T_report_36 rfl ?_
        refine z_aald X h1 2 rfl (j := j) (v := b + 3 + 14 * j) rfl (by omega) (by omega) (e1 _ (by omega)) d_T_report_37 ?_
        refine z_dup X d_T_report_38 rfl ?_
        refine z_get X (h3 j (by omega)) rfl in_N 5 (by decide) (wq lf_T_83) rfl d_T_report_39 ?_
        refine z_iconst X d_T_report_42 (v := nI 1) (by decide +kernel) ?_
        refine z_iadd X d_T_report_43 ?_
        refine z_put X (h3 j (by omega)) rfl in_N ty_N_ok n_N 5 (by decide) (wq lf_T_83) rfl rfl rfl (Nat.le_of_ble_eq_true rfl) d_T_report_44 ?_
        refine z_named (fun k_1 hk9 => ?_)
        have hC := hC.put2 (j := j) (x := F 2 j + nI 1) (by omega) hk9
        have hfr : ∀ q, b + 255 ≤ q → k_1 q = k q := fun q hq => by rw [hk9]; exact (up_ne (by omega)).trans (hfr q hq)
        clear hk9
        have ⟨h0, ⟨g1, h1, e1⟩, ⟨g2, h2, e2⟩, h3, h4, h5, h6, h7, h8⟩ := hC
        refine z_aload_n X d_T_report_47 rfl ?_
        refine z_dup X d_T_report_48 rfl ?_
        refine z_get X h0 rfl in_T 3 (by decide) (wq lf_T_25) rfl d_T_report_49 ?_
        refine z_iconst X d_T_report_52 (v := nI 1) (by decide +kernel) ?_
        refine z_iadd X d_T_report_53 ?_
        refine z_put X h0 rfl in_T ty_T_ok n_T 3 (by decide) (wq lf_T_25) rfl rfl rfl (Nat.le_of_ble_eq_true rfl) d_T_report_54 ?_
        refine z_named (fun k_2 hk9 => ?_)
        have hC := hC.putT (nc2 := nc) (lm2 := lm + nI 1) hk9
        have hfr : ∀ q, b + 255 ≤ q → k_2 q = k q := fun q hq => by rw [hk9]; exact (up_ne (by omega)).trans (hfr q hq)
        clear hk9
        have ⟨h0, ⟨g1, h1, e1⟩, ⟨g2, h2, e2⟩, h3, h4, h5, h6, h7, h8⟩ := hC
        refine z_aload_n X d_T_report_57 rfl ?_
        refine z_get X h0 rfl in_T 2 (by decide) (wq lf_T_21) rfl d_T_report_58 ?_
        refine z_iload_n X d_T_report_61 rfl ?_
        refine z_aald X h2 3 rfl (j := p) (v := b + 171 + 7 * p) rfl (by omega) (by omega) (e2 _ (by omega)) d_T_report_62 ?_
        refine z_aload_n X d_T_report_63 rfl ?_
        refine z_get X h0 rfl in_T 3 (by decide) (wq lf_T_25) rfl d_T_report_64 ?_
        refine z_iload_n X d_T_report_67 rfl ?_
        refine z_aload_n X d_T_report_68 rfl ?_
        refine z_get X h0 rfl in_T 0 (by decide) (wq lf_T_11) rfl d_T_report_69 ?_
        refine z_iload_n X d_T_report_72 rfl ?_
        refine z_aald X h1 2 rfl (j := j) (v := b + 3 + 14 * j) rfl (by omega) (by omega) (e1 _ (by omega)) d_T_report_73 ?_
        refine z_get X (h3 j (by omega)) rfl in_N 5 (by decide) (wq lf_T_83) rfl d_T_report_74 ?_
        refine z_top (y := .int (F 2 j + nI 1)) (by rw [fU_eq]) ?_
        refine z_aload_n X d_T_report_77 rfl ?_
        refine z_get X h0 rfl in_T 0 (by decide) (wq lf_T_11) rfl d_T_report_78 ?_
        refine z_iload_n X d_T_report_81 rfl ?_
        refine z_aald X h1 2 rfl (j := j) (v := b + 3 + 14 * j) rfl (by omega) (by omega) (e1 _ (by omega)) d_T_report_82 ?_
        refine z_get X (h3 j (by omega)) rfl in_N 6 (by decide) (wq lf_T_86) rfl d_T_report_83 ?_
        refine z_callVv X (c_M_send (h7 p hp) (h8 p hp) (hN p hp).2.2 (h5 j (by omega)) (hN j (by omega)).1 (by omega)) (h7 p (by omega)) rfl (cwV 4 X.1.2.2.2.2 (gi_V lm_T_90 vi_M_send ve_M_send vn_M vc_M_send) rfl rfl rfl (by decide +kernel) ⟨Nat.le_of_ble_eq_true rfl, Nat.le_of_ble_eq_true rfl⟩) (As := [.int (lm + nI 1), .int (nI j), .int (F 2 j + nI 1), .ref (b + 3 + 14 * j + 2)]) (st := []) rfl rfl (Nat.le_of_ble_eq_true rfl) d_T_report_86 ⟨Nat.le_of_ble_eq_true rfl, Nat.le_of_ble_eq_true rfl⟩ (fun k2 hq => ?_)
        obtain ⟨q0, q1, q2⟩ := hq
        have hC2 := hC.setM hp q0 q1 q2
        have h02 := hC2.1
        refine z_aload_n X d_T_report_89 rfl ?_
        refine z_get X h02 rfl in_T 3 (by decide) (wq lf_T_25) rfl d_T_report_90 ?_
        rw [nI_one] at *
        exact z_iret X d_T_report_93 (by omega) (by omega) (⟨fun _ => ⟨rfl, hC2, fun q hq => (q2 q (by omega)).trans (hfr q hq)⟩, fun q => absurd ⟨rfl, hB, nI_pos' (by omega)⟩ q⟩)
end
