/-! Contracts: Node, Message -/
def tkSs (kk : Nat) (dv : Int32) (v : Sv) (ov : Nat → Nat) (lf : Nat) : Nat → Sv
  | 0 => v
  | i + 1 => tkS kk dv (tkSs kk dv v ov lf i) (ov i) lf
abbrev oN (j : Nat) (pt lf : Int32) (oc : Nat) (rp kv : Int32) (a : Nat) : va_E := .inr (3, [.int (nI j), .int pt, .int lf, .ref (a + 1), .int (nI oc), .int rp, .ref (a + 2), .ref (a + 8), .int kv])
abbrev oM (x y z : Int32) (a : Nat) : va_E := .inr (2, [.int x, .int y, .int z, .ref (a + 1)])
section
variable {l : Launch} {D : va_G} {tI tZ tN tM : ClassId} {b N : Nat} {k : Nat → va_E}
set_option maxHeartbeats 4000000 in
set_option maxRecDepth 100000 in
/-- itemCount() -/
theorem c_N_itemCount {a j oc : Nat} {pt lf rp kv : Int32} {kk : Nat} {dv : Int32} {v : Sv} (h0 : zc b N k a (oN j pt lf oc rp kv a)) (hS : isS tI b N k kk dv (a + 2) v) : Met l y_N_itemCount (wy y_N_itemCount b_N_itemCount 1 (some .int)) (rm 0 0 0) (zPc D (tyl tI tZ tN tM) b N k [.ref a]) (zQi D b N (fun x k2 => x = v.1 + nI oc ∧ k2 = k)) 0 0 (zA b) := by
  refine z_met (own := R_N) (by decide) rfl rfl (Nat.le_of_ble_eq_true rfl) [some (.ref a)] rfl ?_
  intro p e s m args below meth c X hin
  refine z_aload_n X d_N_itemCount_0 rfl ?_
  refine z_get X h0 rfl in_N 6 (by decide) (wq lf_N_40) rfl d_N_itemCount_1 ?_
  refine z_get X hS.1 rfl in_S 0 (by decide) (wq lf_N_47) rfl d_N_itemCount_4 ?_
  refine z_aload_n X d_N_itemCount_7 rfl ?_
  refine z_get X h0 rfl in_N 4 (by decide) (wq lf_N_23) rfl d_N_itemCount_8 ?_
  refine z_iadd X d_N_itemCount_11 ?_
  exact z_iret X d_N_itemCount_12 (by omega) (by omega) (⟨rfl, rfl⟩)
set_option maxHeartbeats 4000000 in
set_option maxRecDepth 100000 in
/-- writeOpenBlock() -/
theorem c_N_writeOpenBlock {a j oc : Nat} {pt lf rp kv : Int32} {kk : Nat} {dv : Int32} {v : Sv} {op : Nat → Int32} {ov : Nat → Nat} (h0 : zc b N k a (oN j pt lf oc rp kv a)) (h1 : zc b N k (a + 1) (aI tI 4 op)) (hS : isS tI b N k kk dv (a + 2) v) (hj : j < 12) (hoc : oc ≤ 4) (hov : ∀ i, i < oc → op i = nI (ov i) ∧ ov i < 32) (hk1 : 1 ≤ kk) (hk6 : kk ≤ 6) (hd : ¬ dv = 0) : Met l y_N_writeOpenBlock (wy y_N_writeOpenBlock b_N_writeOpenBlock 3 (some .int)) (rm 4 0 0) (zPc D (tyl tI tZ tN tM) b N k [.ref a]) (zQi D b N (fun x k2 => x = nI oc ∧ zc b N k2 a (oN j pt lf 0 rp kv a) ∧ isS tI b N k2 kk dv (a + 2) (tkSs kk dv v ov j oc) ∧ ∀ q, q ≠ a → q < a + 2 ∨ a + 8 ≤ q → k2 q = k q)) 0 0 (zA b) := by
  refine z_met (own := R_N) (by decide) rfl rfl (Nat.le_of_ble_eq_true rfl) [some (.ref a), none, none] rfl ?_
  intro p e s m args below meth c X hin
  refine z_aload_n X d_N_writeOpenBlock_0 rfl ?_
  refine z_get X h0 rfl in_N 4 (by decide) (wq lf_N_23) rfl d_N_writeOpenBlock_1 ?_
  refine z_istore_n X d_N_writeOpenBlock_4 (by decide) rfl ?_
  refine z_lv (lv2 := [some (.ref a), some (.int (nI oc)), none]) (fun _ _ q => q) ?_
  refine z_iconst X d_N_writeOpenBlock_5 (v := nI 0) (by decide +kernel) ?_
  refine z_istore_n X d_N_writeOpenBlock_6 (by decide) rfl ?_
  refine z_lv (lv2 := [some (.ref a), some (.int (nI oc)), some (.int (nI 0))]) (fun _ _ q => q) ?_
  refine z_loop (σ := Nat → va_E) (K := fun _ k9 => k9) (LV := fun i _ => [some (.ref a), some (.int (nI oc)), some (.int (nI i))]) (I := fun i k9 => isS tI b N k9 kk dv (a + 2) (tkSs kk dv v ov j i) ∧ frm k k9 (a + 2) 6) oc 0 k (by omega) (⟨hS, fun _ _ => rfl⟩) (rfl) (rfl) ?_ ?_
  · intro k9 hI
    obtain ⟨hS9, hf⟩ := hI
    have g0 := h0.to (hf a (by omega))
    refine z_lv (lv2 := [some (.ref a), some (.int (nI oc)), some (.int (nI oc))]) (fun _ _ q => q) ?_
    refine z_iload_n X d_N_writeOpenBlock_7 rfl ?_
    refine z_iload_n X d_N_writeOpenBlock_8 rfl ?_
    refine z_icmp_geN X d_N_writeOpenBlock_9 (tgt := 35) (by decide) (by omega) (by omega) (fun _ => ?_) (fun h => absurd h (by omega))
    refine z_aload_n X d_N_writeOpenBlock_35 rfl ?_
    refine z_iconst X d_N_writeOpenBlock_36 (v := nI 0) (by decide +kernel) ?_
    refine z_put X g0 rfl in_N ty_N_ok n_N 4 (by decide) (wq lf_N_23) rfl rfl rfl (Nat.le_of_ble_eq_true rfl) d_N_writeOpenBlock_37 ?_
    refine z_iload_n X d_N_writeOpenBlock_40 rfl ?_
    refine z_iret X d_N_writeOpenBlock_41 (by omega) (by omega) ⟨rfl, g0.up, hS9.to (fun q q1 q2 => up_ne (by omega)), fun q q1 q2 => ?_⟩
    rw [up_ne q1]
    exact hf q (by omega)
  · intro i k9 hi hI ih
    obtain ⟨hS9, hf⟩ := hI
    have g0 := h0.to (hf a (by omega))
    have g1 := h1.to (hf (a + 1) (by omega))
    obtain ⟨e1, e2⟩ := hov i hi
    refine z_lv (lv2 := [some (.ref a), some (.int (nI oc)), some (.int (nI i))]) (fun _ _ q => q) ?_
    refine z_iload_n X d_N_writeOpenBlock_7 rfl ?_
    refine z_iload_n X d_N_writeOpenBlock_8 rfl ?_
    refine z_icmp_geN X d_N_writeOpenBlock_9 (tgt := 35) (by decide) (by omega) (by omega) (fun h => absurd h (by omega)) (fun _ => ?_)
    refine z_aload_n X d_N_writeOpenBlock_12 rfl ?_
    refine z_get X g0 rfl in_N 6 (by decide) (wq lf_N_40) rfl d_N_writeOpenBlock_13 ?_
    refine z_aload_n X d_N_writeOpenBlock_16 rfl ?_
    refine z_get X g0 rfl in_N 3 (by decide) (wq lf_N_19) rfl d_N_writeOpenBlock_17 ?_
    refine z_iload_n X d_N_writeOpenBlock_20 rfl ?_
    refine z_iald X g1 0 rfl (j := i) rfl (by omega) (by omega) d_N_writeOpenBlock_21 ?_
    refine z_top (y := .int (nI (ov i))) (by rw [e1]) ?_
    refine z_aload_n X d_N_writeOpenBlock_22 rfl ?_
    refine z_get X g0 rfl in_N 0 (by decide) (wq lf_N_32) rfl d_N_writeOpenBlock_23 ?_
    refine z_callVv X (c_S_take hS9 e2 hj hk1 hk6 hd) hS9.1 rfl (cwV 2 X.1.2.2.2.2 (gi_V lm_N_54 vi_S_take ve_S_take vn_S vc_S_take) rfl rfl rfl (by decide +kernel) ⟨Nat.le_of_ble_eq_true rfl, Nat.le_of_ble_eq_true rfl⟩) (As := [.int (nI (ov i)), .int (nI j)]) (st := []) rfl rfl (Nat.le_of_ble_eq_true rfl) d_N_writeOpenBlock_26 ⟨Nat.le_of_ble_eq_true rfl, Nat.le_of_ble_eq_true rfl⟩ (fun k2 hq => ?_)
    obtain ⟨hS2, hf2⟩ := hq
    refine z_iincU X d_N_writeOpenBlock_29 rfl (by decide) rfl ?_
    refine z_lv (lv2 := [some (.ref a), some (.int (nI oc)), some (.int (nI (i + 1)))]) (fun _ _ q => q) ?_
    refine z_goto X d_N_writeOpenBlock_32 (tgt := 7) (by decide) ?_
    exact ih k2 ⟨hS2, fun q hq => (hf2 q hq).trans (hf q hq)⟩
set_option maxHeartbeats 4000000 in
set_option maxRecDepth 100000 in
/-- putIntoOpenBlock(x) -/
theorem c_N_putIntoOpenBlock {a j oc : Nat} {pt lf rp kv : Int32} {kk : Nat} {dv : Int32} {v : Sv} {op : Nat → Int32} {ov : Nat → Nat} {x : Nat} (h0 : zc b N k a (oN j pt lf oc rp kv a)) (h1 : zc b N k (a + 1) (aI tI 4 op)) (hS : isS tI b N k kk dv (a + 2) v) (hj : j < 12) (hoc : oc < 4) (hov : ∀ i, i < oc → op i = nI (ov i) ∧ ov i < 32) (hk1 : 1 ≤ kk) (hk6 : kk ≤ 6) (hd : ¬ dv = 0) (hx : x < 32) : Met l y_N_putIntoOpenBlock (wy y_N_putIntoOpenBlock b_N_putIntoOpenBlock 2 none) (rm 5 0 0) (zPc D (tyl tI tZ tN tM) b N k [.ref a, .int (nI x)]) (zQv D b N (fun k2 => zc b N k2 a (oN j pt lf (if oc = 3 then 0 else oc + 1) rp kv a) ∧ zc b N k2 (a + 1) (aI tI 4 (upd op oc (nI x))) ∧ isS tI b N k2 kk dv (a + 2) (if oc = 3 then tkSs kk dv v (va_up ov oc x) j 4 else v) ∧ ∀ q, q ≠ a → q ≠ a + 1 → q < a + 2 ∨ a + 8 ≤ q → k2 q = k q)) 0 0 (zA b) := by
  refine z_met (own := R_N) (by decide) rfl rfl (Nat.le_of_ble_eq_true rfl) [some (.ref a), some (.int (nI x))] rfl ?_
  intro p e s m args below meth c X hin
  refine z_aload_n X d_N_putIntoOpenBlock_0 rfl ?_
  refine z_get X h0 rfl in_N 3 (by decide) (wq lf_N_19) rfl d_N_putIntoOpenBlock_1 ?_
  refine z_aload_n X d_N_putIntoOpenBlock_4 rfl ?_
  refine z_get X h0 rfl in_N 4 (by decide) (wq lf_N_23) rfl d_N_putIntoOpenBlock_5 ?_
  refine z_iload_n X d_N_putIntoOpenBlock_8 rfl ?_
  refine z_iast X h1 0 rfl (j := oc) rfl (by omega) (by omega) d_N_putIntoOpenBlock_9 ?_
  have h0 := h0.ne (q := (a + 1)) (y := aI tI 4 (upd op oc (nI x))) (by omega)
  have h1 := h1.up (y := aI tI 4 (upd op oc (nI x)))
  refine z_aload_n X d_N_putIntoOpenBlock_10 rfl ?_
  refine z_dup X d_N_putIntoOpenBlock_11 rfl ?_
  refine z_get X h0 rfl in_N 4 (by decide) (wq lf_N_23) rfl d_N_putIntoOpenBlock_12 ?_
  refine z_iconst X d_N_putIntoOpenBlock_15 (v := nI 1) (by decide +kernel) ?_
  refine z_iaddN X d_N_putIntoOpenBlock_16 ?_
  refine z_put X h0 rfl in_N ty_N_ok n_N 4 (by decide) (wq lf_N_23) rfl rfl rfl (Nat.le_of_ble_eq_true rfl) d_N_putIntoOpenBlock_17 ?_
  have h1 := h1.ne (q := a) (y := .inr (3, [.int (nI j), .int pt, .int lf, .ref (a + 1), .int (nI (oc + 1)), .int rp, .ref (a + 2), .ref (a + 8), .int kv])) (by omega)
  have h0 := h0.up (y := .inr (3, [.int (nI j), .int pt, .int lf, .ref (a + 1), .int (nI (oc + 1)), .int rp, .ref (a + 2), .ref (a + 8), .int kv]))
  refine z_aload_n X d_N_putIntoOpenBlock_20 rfl ?_
  refine z_get X h0 rfl in_N 4 (by decide) (wq lf_N_23) rfl d_N_putIntoOpenBlock_21 ?_
  refine z_iconst X d_N_putIntoOpenBlock_24 (v := nI 4) (by decide +kernel) ?_
  refine z_icmp_neN X d_N_putIntoOpenBlock_25 (tgt := 33) (by decide) (by omega) (by omega) (fun hA => ?_) (fun hA => ?_)
  · skip
    exact z_vret X d_N_putIntoOpenBlock_33 (by omega) (by omega) (by rw [if_neg (by omega), if_neg (by omega)]; exact ⟨h0, h1, hS.to (fun q q1 q2 => by rw [up_ne (by omega), up_ne (by omega)]), fun q q1 q2 q3 => by rw [up_ne q1, up_ne q2]⟩)
  · have hoc3 : oc = 3 := by omega
    subst hoc3
    refine z_aload_n X d_N_putIntoOpenBlock_28 rfl ?_
    refine z_callVi X (c_N_writeOpenBlock (ov := va_up ov 3 x) h0 h1 (hS.to (fun q q1 q2 => by rw [up_ne (by omega), up_ne (by omega)])) hj (by omega) (fun i hi => by by_cases hi3 : i = 3; (subst hi3; exact ⟨by rw [upd_eq]; simp [va_up], by simp [va_up]; exact hx⟩); (rw [upd_ne hi3, up_ne hi3]; exact hov i (by omega))) hk1 hk6 hd) h0 rfl (cwV 0 X.1.2.2.2.2 (gi_V lm_N_50 vi_N_writeOpenBlock ve_N_writeOpenBlock vn_N vc_N_writeOpenBlock) rfl rfl rfl (by decide +kernel) ⟨Nat.le_of_ble_eq_true rfl, Nat.le_of_ble_eq_true rfl⟩) (As := []) (st := []) rfl rfl (Nat.le_of_ble_eq_true rfl) d_N_putIntoOpenBlock_29 ⟨Nat.le_of_ble_eq_true rfl, Nat.le_of_ble_eq_true rfl⟩ (fun z k2 hq => ?_)
    obtain ⟨rfl, q0, q1, q2⟩ := hq
    refine z_pop X d_N_putIntoOpenBlock_32 rfl ?_
    exact z_vret X d_N_putIntoOpenBlock_33 (by omega) (by omega) (by rw [if_pos rfl, if_pos rfl]; exact ⟨q0, h1.to (q2 _ (by omega) (by omega)), q1, fun q z1 z2 z3 => by rw [q2 q z1 z3, up_ne z1, up_ne z2]⟩)
set_option maxHeartbeats 4000000 in
set_option maxRecDepth 100000 in
/-- send(..) -/
theorem c_M_send {a a2 kk kk2 : Nat} {dv dv2 x y z x0 y0 z0 : Int32} {v v2 : Sv} (h0 : zc b N k a (oM x0 y0 z0 a)) (hS : isS tI b N k kk dv (a + 1) v) (hn : nS v) (hS2 : isS tI b N k kk2 dv2 a2 v2) (hn2 : nS v2) (hne : a + 7 ≤ a2 ∨ a2 + 6 ≤ a) : Met l y_M_send (wy y_M_send b_M_send 5 none) (rm 2 0 0) (zPc D (tyl tI tZ tN tM) b N k [.ref a, .int x, .int y, .int z, .ref a2]) (zQv D b N (fun k2 => zc b N k2 a (oM x y z a) ∧ isS tI b N k2 kk dv (a + 1) v2 ∧ frm k k2 a 7)) 0 0 (zA b) := by
  refine z_met (own := R_M) (by decide) rfl rfl (Nat.le_of_ble_eq_true rfl) [some (.ref a), some (.int x), some (.int y), some (.int z), some (.ref a2)] rfl ?_
  intro p e s m args below meth c X hin
  refine z_aload_n X d_M_send_0 rfl ?_
  refine z_iload_n X d_M_send_1 rfl ?_
  refine z_put X h0 rfl in_M ty_M_ok n_M 0 (by decide) (wq lf_M_7) rfl rfl rfl (Nat.le_of_ble_eq_true rfl) d_M_send_2 ?_
  have h0 := h0.up (y := .inr (2, [.int x, .int y0, .int z0, .ref (a + 1)]))
  refine z_aload_n X d_M_send_5 rfl ?_
  refine z_iload_n X d_M_send_6 rfl ?_
  refine z_put X h0 rfl in_M ty_M_ok n_M 1 (by decide) (wq lf_M_13) rfl rfl rfl (Nat.le_of_ble_eq_true rfl) d_M_send_7 ?_
  have h0 := h0.up (y := .inr (2, [.int x, .int y, .int z0, .ref (a + 1)]))
  refine z_aload_n X d_M_send_10 rfl ?_
  refine z_iload_n X d_M_send_11 rfl ?_
  refine z_put X h0 rfl in_M ty_M_ok n_M 2 (by decide) (wq lf_M_16) rfl rfl rfl (Nat.le_of_ble_eq_true rfl) d_M_send_12 ?_
  have h0 := h0.up (y := .inr (2, [.int x, .int y, .int z, .ref (a + 1)]))
  refine z_aload_n X d_M_send_15 rfl ?_
  refine z_get X h0 rfl in_M 3 (by decide) (wq lf_M_24) rfl d_M_send_16 ?_
  refine z_aload X d_M_send_19 rfl ?_
  have gS := hS.to (k2 := va_up (va_up (va_up k a (oM x y0 z0 a)) a (oM x y z0 a)) a (oM x y z a)) (fun q q1 q2 => by rw [up_ne (by omega), up_ne (by omega), up_ne (by omega)])
  have gS2 := hS2.to (k2 := va_up (va_up (va_up k a (oM x y0 z0 a)) a (oM x y z0 a)) a (oM x y z a)) (fun q q1 q2 => by rw [up_ne (by omega), up_ne (by omega), up_ne (by omega)])
  refine z_callVv X (c_S_setTo gS hn gS2 hn2 (by omega)) gS.1 rfl (cwV 1 X.1.2.2.2.2 (gi_V lm_M_28 vi_S_setTo ve_S_setTo vn_S vc_S_setTo) rfl rfl rfl (by decide +kernel) ⟨Nat.le_of_ble_eq_true rfl, Nat.le_of_ble_eq_true rfl⟩) (As := [.ref a2]) (st := []) rfl rfl (Nat.le_of_ble_eq_true rfl) d_M_send_21 ⟨Nat.le_of_ble_eq_true rfl, Nat.le_of_ble_eq_true rfl⟩ (fun k2 hq => ?_)
  obtain ⟨q1, q2⟩ := hq
  exact z_vret X d_M_send_24 (by omega) (by omega) (⟨h0.to (q2 _ (by omega)), q1, fun q hq => by rw [q2 q (by omega), up_ne (by omega), up_ne (by omega), up_ne (by omega)]⟩)
end
