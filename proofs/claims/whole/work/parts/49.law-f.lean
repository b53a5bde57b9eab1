/-! The law: its loop, its constructors -/
section
variable {p : Program} {l : Launch} {e : Env} {s : State} {m : MethodId} {args : Array Value} {below : List Frame} {meth : Method} {c : Code} {cells slots : Nat} {Q : State → Prop} {rt : Option FieldType} {w0 : Cond} {D : va_G} {tI tZ tN tM : ClassId} {b : Nat} {k : Nat → va_E} {kk dd t sb L : Nat} {xs : Nat → Int32}
theorem LI_t (h : LI tI tZ tN tM b k kk dd t) : LI tI tZ tN tM b k kk dd (t + 1) := by
  obtain ⟨nc, lm, ms, F, op, oc, Sn, Sk, Sm, f0, f1, f2, f3, f4, f5, f6, f7, f8, f9, f10, f11, f12, f13, f14, f15, f16, f17, up, jr, wr, kp, ca, sd, hC, hR, hE⟩ := h
  exact ⟨nc, lm, ms, F, op, oc, Sn, Sk, Sm, f0, f1, f2, f3, f4, f5, f6, f7, f8, f9, f10, f11, f12, f13, f14, f15, f16, f17, up, jr, wr, kp, ca, sd, hC, hR, REL_t hE (by omega)⟩
theorem CW.more {N N2 nc : Nat} {dv lm : Int32} {F : Cf} {op : Nat → Nat → Int32} {oc : Nat → Nat} {Sn Sk Sm : Nat → Sv} (h : CW tI tN tM b N k kk dv nc lm F op oc Sn Sk Sm) (hN : N ≤ N2) : CW tI tN tM b N2 k kk dv nc lm F op oc Sn Sk Sm := by
  obtain ⟨h0, ⟨g1, h1, e1⟩, ⟨g2, h2, e2⟩, h3, h4, h5, h6, h7, h8⟩ := h
  exact ⟨h0.more hN, ⟨g1, h1.more hN, e1⟩, ⟨g2, h2.more hN, e2⟩, fun j hj => (h3 j hj).more hN, fun j hj => (h4 j hj).more hN, fun j hj => (h5 j hj).more hN, fun j hj => (h6 j hj).more hN, fun j hj => (h7 j hj).more hN, fun j hj => (h8 j hj).more hN⟩
set_option maxHeartbeats 4000000 in
set_option maxRecDepth 100000 in
theorem L_step (X : zX p s m args meth c code 4 R_L rt (w0 :: WG) D (tyl tI tZ tN tM) b) (hX : va_X sb L xs s s.heap) (hb : sb < b) (hL : L ≤ 2050) (hi : 2 + 4 * t + 4 ≤ L) (hfc : cells ≤ room_1.cells) (hfs : slots ≤ room_1.slots) (hI : LI tI tZ tN tM b k kk dd t) (go : ∀ k2, LI tI tZ tN tM b k2 kk dd (t + 1) → Z p l e room_1 s m args below meth c 4 D b 274 k2 cells slots Q 683 [some (.ref sb), some (.ref b), some (.ref (b + 255)), some (.int (nI (2 + 4 * t)))] []) {v : Nat} (hv : v < 32) : Z p l e room_1 s m args below meth c 4 D b 274 k cells slots Q 52 [some (.ref sb), some (.ref b), some (.ref (b + 255)), some (.int (nI (2 + 4 * t)))] [.int (nI v)] := by
  by_cases h18 : v < 18
  · rcases (show v = 0 ∨ v = 1 ∨ v = 2 ∨ v = 3 ∨ v = 4 ∨ v = 5 ∨ v = 6 ∨ v = 7 ∨ v = 8 ∨ v = 9 ∨ v = 10 ∨ v = 11 ∨ v = 12 ∨ v = 13 ∨ v = 14 ∨ v = 15 ∨ v = 16 ∨ v = 17 by omega) with rfl | rfl | rfl | rfl | rfl | rfl | rfl | rfl | rfl | rfl | rfl | rfl | rfl | rfl | rfl | rfl | rfl | rfl
    · exact z_tsw X d_L_law_52 (by decide +kernel) (by decide +kernel) (off := 88) (by decide +kernel) (tgt := 140) (by decide) (k_attach X hX hb hL hi hfc hfs hI go)
    · exact z_tsw X d_L_law_52 (by decide +kernel) (by decide +kernel) (off := 137) (by decide +kernel) (tgt := 189) (by decide) (k_add X hX hb hL hi hfc hfs hI go)
    · exact z_tsw X d_L_law_52 (by decide +kernel) (by decide +kernel) (off := 170) (by decide +kernel) (tgt := 222) (by decide) (k_flush X hX hb hL hi hfc hfs hI go)
    · exact z_tsw X d_L_law_52 (by decide +kernel) (by decide +kernel) (off := 193) (by decide +kernel) (tgt := 245) (by decide) (k_crash X hX hb hL hi hfc hfs hI go)
    · exact z_tsw X d_L_law_52 (by decide +kernel) (by decide +kernel) (off := 216) (by decide +kernel) (tgt := 268) (by decide) (k_report X hX hb hL hi hfc hfs hI go)
    · exact z_tsw X d_L_law_52 (by decide +kernel) (by decide +kernel) (off := 239) (by decide +kernel) (tgt := 291) (by decide) (k_copy X hX hb hL hi hfc hfs hI go)
    · exact z_tsw X d_L_law_52 (by decide +kernel) (by decide +kernel) (off := 262) (by decide +kernel) (tgt := 314) (by decide) (k_drop X hX hb hL hi hfc hfs hI go)
    · exact z_tsw X d_L_law_52 (by decide +kernel) (by decide +kernel) (off := 285) (by decide +kernel) (tgt := 337) (by decide) (k_deliver X hX hb hL hi hfc hfs hI go)
    · exact z_tsw X d_L_law_52 (by decide +kernel) (by decide +kernel) (off := 308) (by decide +kernel) (tgt := 360) (by decide) (k_onTheWay X hX hb hL hi hfc hfs hI go)
    · exact z_tsw X d_L_law_52 (by decide +kernel) (by decide +kernel) (off := 321) (by decide +kernel) (tgt := 373) (by decide) (k_total X hX hb hL hi hfc hfs hI go)
    · exact z_tsw X d_L_law_52 (by decide +kernel) (by decide +kernel) (off := 344) (by decide +kernel) (tgt := 396) (by decide) (k_sum X hX hb hL hi hfc hfs hI go)
    · exact z_tsw X d_L_law_52 (by decide +kernel) (by decide +kernel) (off := 368) (by decide +kernel) (tgt := 420) (by decide) (k_extreme X hX hb hL hi hfc hfs hI go)
    · exact z_tsw X d_L_law_52 (by decide +kernel) (by decide +kernel) (off := 417) (by decide +kernel) (tgt := 469) (by decide) (k_covered X hX hb hL hi hfc hfs hI go)
    · exact z_tsw X d_L_law_52 (by decide +kernel) (by decide +kernel) (off := 450) (by decide +kernel) (tgt := 502) (by decide) (k_estimate X hX hb hL hi hfc hfs hI go)
    · exact z_tsw X d_L_law_52 (by decide +kernel) (by decide +kernel) (off := 483) (by decide +kernel) (tgt := 535) (by decide) (k_top X hX hb hL hi hfc hfs hI go)
    · exact z_tsw X d_L_law_52 (by decide +kernel) (by decide +kernel) (off := 516) (by decide +kernel) (tgt := 568) (by decide) (k_digestSize X hX hb hL hi hfc hfs hI go)
    · exact z_tsw X d_L_law_52 (by decide +kernel) (by decide +kernel) (off := 539) (by decide +kernel) (tgt := 591) (by decide) (k_below X hX hb hL hi hfc hfs hI go)
    · exact z_tsw X d_L_law_52 (by decide +kernel) (by decide +kernel) (off := 598) (by decide +kernel) (tgt := 650) (by decide) (k_quantile X hX hb hL hi hfc hfs hI go)
  · exact z_tswO X d_L_law_52 (Or.inr (by rw [nI_toInt (by omega)]; omega)) (tgt := 683) (by decide) (go k (LI_t hI))
set_option maxHeartbeats 4000000 in
set_option maxRecDepth 100000 in
theorem L_loop (X : zX p s m args meth c code 4 R_L rt (w0 :: WG) D (tyl tI tZ tN tM) b) (hX : va_X sb L xs s s.heap) (hb : sb < b) (hL : L ≤ 2050) (hfc : cells ≤ room_1.cells) (hfs : slots ≤ room_1.slots) (hI : LI tI tZ tN tM b k kk dd 0) (fin : ∀ k2 t, Z p l e room_1 s m args below meth c 4 D b 274 k2 cells slots Q 690 [some (.ref sb), some (.ref b), some (.ref (b + 255)), some (.int (nI (2 + 4 * t)))] [.int 1]) : Z p l e room_1 s m args below meth c 4 D b 274 k cells slots Q 38 [some (.ref sb), some (.ref b), some (.ref (b + 255)), some (.int (nI (2 + 4 * 0)))] [] := by
  refine z_loop (σ := Nat → va_E) (K := fun _ k1 => k1) (LV := fun t _ => [some (.ref sb), some (.ref b), some (.ref (b + 255)), some (.int (nI (2 + 4 * t)))]) (I := fun t k1 => LI tI tZ tN tM b k1 kk dd t) ((L - 2) / 4) 0 k (Nat.zero_le _) hI rfl rfl ?_ ?_
  · intro k1 hI1
    refine z_lv (lv2 := [some (.ref sb), some (.ref b), some (.ref (b + 255)), some (.int (nI (2 + 4 * ((L - 2) / 4))))]) (fun _ _ q => q) ?_
    refine z_iload_n X d_L_law_38 rfl ?_
    refine z_aload_n X d_L_law_39 rfl ?_
    refine z_slen X hX hb d_L_law_40 ?_
    refine z_iconst X d_L_law_41 (v := nI 4) (by decide +kernel) ?_
    refine z_isub X d_L_law_42 ?_
    refine z_icmp_gt X d_L_law_43 (tgt := 689) (by decide) (fun _ => ?_) (fun h => absurd ((l_gt (by omega) (by omega)).mpr (by omega)) h)
    refine z_iconst X d_L_law_689 (v := 1) (by decide +kernel) ?_
    exact fin k1 _
  · intro t k1 ht hI1 nx
    refine z_lv (lv2 := [some (.ref sb), some (.ref b), some (.ref (b + 255)), some (.int (nI (2 + 4 * t)))]) (fun _ _ q => q) ?_
    refine z_iload_n X d_L_law_38 rfl ?_
    refine z_aload_n X d_L_law_39 rfl ?_
    refine z_slen X hX hb d_L_law_40 ?_
    refine z_iconst X d_L_law_41 (v := nI 4) (by decide +kernel) ?_
    refine z_isub X d_L_law_42 ?_
    have hi : 2 + 4 * t + 4 ≤ L := by omega
    refine z_icmp_gt X d_L_law_43 (tgt := 689) (by decide) (fun h => absurd ((l_gt (by omega) (by omega)).mp h) (by omega)) (fun _ => ?_)
    refine z_aload_n X d_L_law_46 rfl ?_
    refine z_iload_n X d_L_law_47 rfl ?_
    refine z_sld X hX hb (j := 2 + 4 * t) (by omega) (by omega) d_L_law_48 ?_
    refine z_bipush X d_L_law_49 (v := nI 31) (by decide +kernel) ?_
    refine z_iand X d_L_law_51 ?_
    obtain ⟨v, hv, ev⟩ := and31 (xs (2 + 4 * t))
    refine z_top (y := .int (nI v)) (by rw [ev]) ?_
    refine L_step X hX hb hL hi hfc hfs hI1 (fun k2 h2 => ?_) hv
    refine z_iinc X d_L_law_683 (x := nI (2 + 4 * t)) (v := nI (2 + 4 * (t + 1))) rfl (nI_add (2 + 4 * t) 4) (by decide) rfl ?_
    refine z_goto X d_L_law_686 (tgt := 38) (by decide) ?_
    exact nx k2 h2
set_option maxHeartbeats 4000000 in
set_option maxRecDepth 100000 in
theorem L_start (X : zX p s m args meth c code 4 R_L rt (w0 :: WG) D (tyl tI tZ tN tM) b) (hX : va_X sb L xs s s.heap) (hb : sb < b) (hL : L ≤ 2050) (fin : ∀ k2 t, Z p l e room_1 s m args below meth c 4 D b 274 k2 274 6766 Q 690 [some (.ref sb), some (.ref b), some (.ref (b + 255)), some (.int (nI (2 + 4 * t)))] [.int 1]) : Z p l e room_1 s m args below meth c 4 D b 0 k 0 0 Q 0 [some (.ref sb), none, none, none] [] := by
  obtain ⟨A, hA⟩ : ∃ A, A = (if 0 < L then xs 0 else 0) := ⟨_, rfl⟩
  obtain ⟨B, hB⟩ : ∃ B, B = (if 1 < L then xs 1 else 0) := ⟨_, rfl⟩
  obtain ⟨kk, hk1, hk2, hkk⟩ := clk_nat (lo := 1) (hi := 6) (by omega) (by omega) A
  obtain ⟨dd, hd1, hd2, hdd⟩ := clk_nat (lo := 2) (hi := 16) (by omega) (by omega) B
  refine z_new X (ci := 5) (fs := [.null, .int 0, .null, .int 0]) rfl in_T ty_T_ok (wq lc_L_7) (wq vm_T) (wq vn_T) (fun j hj => by rcases (show j = 0 ∨ j = 1 ∨ j = 2 ∨ j = 3 by omega) with rfl | rfl | rfl | rfl <;> rfl) (Nat.le_of_ble_eq_true rfl) (Nat.le_of_ble_eq_true rfl) d_L_law_0 ?_
  refine z_named (fun k1 hk9 => ?_)
  have h0 : zc b 1 k1 b (.inr (5, [.null, .int 0, .null, .int 0])) := by rw [hk9]; exact ⟨Nat.le_refl _, by omega, up_eq⟩
  clear hk9
  refine z_top (y := .ref b) rfl ?_
  refine z_dup X d_L_law_3 rfl ?_
  refine z_aload_n X d_L_law_4 rfl ?_
  refine z_iconst X d_L_law_5 (v := nI 0) (by decide +kernel) ?_
  refine z_callX X hX hb (c_L_cell (x := 0) hb (by omega) (by omega)) (cwS 2 X.1.2.2.2.2 (gi_S lm_L_9 vs_L_cell vn_L vc_L_cell) rfl rfl rfl (by decide +kernel) ⟨Nat.le_of_ble_eq_true rfl, Nat.le_of_ble_eq_true rfl⟩) (As := [.ref sb, .int (nI 0)]) (st := [.ref b, .ref b]) rfl rfl (Nat.le_of_ble_eq_true rfl) d_L_law_6 ⟨Nat.le_of_ble_eq_true rfl, Nat.le_of_ble_eq_true rfl⟩ (fun x9 k9 hq => ?_)
  obtain ⟨hq1, hq2⟩ := hq
  have hq2 := hq2.symm
  subst hq2
  have hq3 : A = x9 := hA.trans hq1.symm
  subst hq3
  refine z_aload_n X d_L_law_9 rfl ?_
  refine z_iconst X d_L_law_10 (v := nI 1) (by decide +kernel) ?_
  refine z_callX X hX hb (c_L_cell (x := 1) hb (by omega) (by omega)) (cwS 2 X.1.2.2.2.2 (gi_S lm_L_9 vs_L_cell vn_L vc_L_cell) rfl rfl rfl (by decide +kernel) ⟨Nat.le_of_ble_eq_true rfl, Nat.le_of_ble_eq_true rfl⟩) (As := [.ref sb, .int (nI 1)]) (st := [.int A, .ref b, .ref b]) rfl rfl (Nat.le_of_ble_eq_true rfl) d_L_law_11 ⟨Nat.le_of_ble_eq_true rfl, Nat.le_of_ble_eq_true rfl⟩ (fun x9 k9 hq => ?_)
  obtain ⟨hq1, hq2⟩ := hq
  have hq2 := hq2.symm
  subst hq2
  have hq3 : B = x9 := hB.trans hq1.symm
  subst hq3
  refine z_callIv X (rt := none) (c_T_init h0 hkk hdd) (cwI 2 X.1.2.2.2.2 (gi_wy vc_T_init) rfl rfl rfl (X.1.2.2.2.2 _ (wq vn_T)) (X.1.2.2.2.2 _ (wq lm_L_15)) (X.1.2.2.2.2 _ (wq vi_T_init)) rfl (by decide +kernel) ⟨Nat.le_of_ble_eq_true rfl, Nat.le_of_ble_eq_true rfl⟩) (As := [.int A, .int B]) (st := [.ref b]) rfl rfl (Nat.le_of_ble_eq_true rfl) d_L_law_14 ⟨Nat.le_of_ble_eq_true rfl, Nat.le_of_ble_eq_true rfl⟩ (fun k2 hC => ?_)
  refine z_astore_n X d_L_law_17 (by decide) rfl ?_
  refine z_lv (lv2 := [some (.ref sb), some (.ref b), none, none]) (fun _ _ q => q) ?_
  refine z_new X (ci := 6) (fs := [.int 0, .int 0, .int 0, .null, .null, .null, .null, .null, .null, .null, .null, .null, .int 0, .null, .null, .null, .null, .null, .null, .null, .null, .null]) rfl in_R ty_R_ok (wq lc_L_18) (wq vm_R) (wq vn_R) (fun j hj => by rcases (show j = 0 ∨ j = 1 ∨ j = 2 ∨ j = 3 ∨ j = 4 ∨ j = 5 ∨ j = 6 ∨ j = 7 ∨ j = 8 ∨ j = 9 ∨ j = 10 ∨ j = 11 ∨ j = 12 ∨ j = 13 ∨ j = 14 ∨ j = 15 ∨ j = 16 ∨ j = 17 ∨ j = 18 ∨ j = 19 ∨ j = 20 ∨ j = 21 by omega) with rfl | rfl | rfl | rfl | rfl | rfl | rfl | rfl | rfl | rfl | rfl | rfl | rfl | rfl | rfl | rfl | rfl | rfl | rfl | rfl | rfl | rfl <;> rfl) (Nat.le_of_ble_eq_true rfl) (Nat.le_of_ble_eq_true rfl) d_L_law_18 ?_
  refine z_named (fun k3 hk9 => ?_)
  have h0 : zc b 256 k3 (b + 255) (.inr (6, [.int 0, .int 0, .int 0, .null, .null, .null, .null, .null, .null, .null, .null, .null, .int 0, .null, .null, .null, .null, .null, .null, .null, .null, .null])) := by rw [hk9]; exact ⟨by omega, by omega, up_eq⟩
  have hC := hC.keep (k2 := k3) (fun q hq => by rw [hk9]; exact up_ne (by omega))
  clear hk9
  refine z_dup X d_L_law_21 rfl ?_
  refine z_aload_n X d_L_law_22 rfl ?_
  refine z_iconst X d_L_law_23 (v := nI 0) (by decide +kernel) ?_
  refine z_callX X hX hb (c_L_cell (x := 0) hb (by omega) (by omega)) (cwS 2 X.1.2.2.2.2 (gi_S lm_L_9 vs_L_cell vn_L vc_L_cell) rfl rfl rfl (by decide +kernel) ⟨Nat.le_of_ble_eq_true rfl, Nat.le_of_ble_eq_true rfl⟩) (As := [.ref sb, .int (nI 0)]) (st := [.ref (b + 255), .ref (b + 255)]) rfl rfl (Nat.le_of_ble_eq_true rfl) d_L_law_24 ⟨Nat.le_of_ble_eq_true rfl, Nat.le_of_ble_eq_true rfl⟩ (fun x9 k9 hq => ?_)
  obtain ⟨hq1, hq2⟩ := hq
  have hq2 := hq2.symm
  subst hq2
  have hq3 : A = x9 := hA.trans hq1.symm
  subst hq3
  refine z_aload_n X d_L_law_27 rfl ?_
  refine z_iconst X d_L_law_28 (v := nI 1) (by decide +kernel) ?_
  refine z_callX X hX hb (c_L_cell (x := 1) hb (by omega) (by omega)) (cwS 2 X.1.2.2.2.2 (gi_S lm_L_9 vs_L_cell vn_L vc_L_cell) rfl rfl rfl (by decide +kernel) ⟨Nat.le_of_ble_eq_true rfl, Nat.le_of_ble_eq_true rfl⟩) (As := [.ref sb, .int (nI 1)]) (st := [.int A, .ref (b + 255), .ref (b + 255)]) rfl rfl (Nat.le_of_ble_eq_true rfl) d_L_law_29 ⟨Nat.le_of_ble_eq_true rfl, Nat.le_of_ble_eq_true rfl⟩ (fun x9 k9 hq => ?_)
  obtain ⟨hq1, hq2⟩ := hq
  have hq2 := hq2.symm
  subst hq2
  have hq3 : B = x9 := hB.trans hq1.symm
  subst hq3
  refine z_callIv X (rt := none) (c_R_init h0 hkk hdd) (cwI 2 X.1.2.2.2.2 (gi_wy vc_R_init) rfl rfl rfl (X.1.2.2.2.2 _ (wq vn_R)) (X.1.2.2.2.2 _ (wq lm_L_20)) (X.1.2.2.2.2 _ (wq vi_R_init)) rfl (by decide +kernel) ⟨Nat.le_of_ble_eq_true rfl, Nat.le_of_ble_eq_true rfl⟩) (As := [.int A, .int B]) (st := [.ref (b + 255)]) rfl rfl (Nat.le_of_ble_eq_true rfl) d_L_law_32 ⟨Nat.le_of_ble_eq_true rfl, Nat.le_of_ble_eq_true rfl⟩ (fun k4 hq => ?_)
  obtain ⟨hR, hkq⟩ := hq
  refine z_astore_n X d_L_law_35 (by decide) rfl ?_
  refine z_lv (lv2 := [some (.ref sb), some (.ref b), some (.ref (b + 255)), none]) (fun _ _ q => q) ?_
  refine z_iconst X d_L_law_36 (v := nI 2) (by decide +kernel) ?_
  refine z_istore_n X d_L_law_37 (by decide) rfl ?_
  refine z_lv (lv2 := [some (.ref sb), some (.ref b), some (.ref (b + 255)), some (.int (nI 2))]) (fun _ _ q => q) ?_
  exact L_loop X hX hb hL (Nat.le_of_ble_eq_true rfl) (Nat.le_of_ble_eq_true rfl) ⟨_, _, _, _, _, _, _, _, _, _, _, _, _, _, _, _, _, _, _, _, _, _, _, _, _, _, _, _, _, _, _, _, _, (hC.keep hkq).more (by omega), hR, REL_init hk1 hk2 hd1 hd2⟩ fin
end
