/-! Contracts: the constructors of the small classes -/
section
variable {p : Program} {l : Launch} {e : Env} {R : Room} {s : State} {m : MethodId} {args : Array Value} {below : List Frame} {meth : Method} {c : Code} {cells slots : Nat} {Q : State → Prop}
variable {nL : Nat} {D : va_G} {b N : Nat} {k : Nat → va_E} {pc : Nat} {lv : List (Option Value)} {st : List Value}
theorem z_named (kk : ∀ k2 : Nat → va_E, k2 = k → Z p l e R s m args below meth c nL D b N k2 cells slots Q pc lv st) : Z p l e R s m args below meth c nL D b N k cells slots Q pc lv st := kk k rfl
end
section
variable {l : Launch} {D : va_G} {tI tZ tN tM : ClassId} {b N0 : Nat} {k : Nat → va_E}
set_option maxHeartbeats 4000000 in
set_option maxRecDepth 100000 in
/-- C(x) -/
theorem c_C_init {x : Int32} (h0 : zc b (N0 + 1) k (b + N0) (.inr (0, [.int 0, .null]))) : Met l y_C_init (wy y_C_init b_C_init 2 none) (rm 1 1 32) (zPc D (tyl tI tZ tN tM) b (N0 + 1) k [.ref (b + N0), .int x]) (zQv D b (N0 + 2) (fun k2 => zc b (N0 + 2) k2 (b + N0) (.inr (0, [.int x, .ref (b + N0 + 1)])) ∧ zc b (N0 + 2) k2 (b + N0 + 1) (aI tI 32 (fun _ => 0)) ∧ ∀ q, q < b + N0 → k2 q = k q)) 1 32 (zA b) := by
  refine z_met (own := R_C) (by decide) rfl rfl (Nat.le_of_ble_eq_true rfl) [some (.ref (b + N0)), some (.int x)] rfl ?_
  intro p e s m args below meth c X hin
  have hf : ∀ q, q < b + N0 → k q = k q := fun _ _ => rfl
  refine z_aload_n X d_C_init_0 rfl ?_
  refine z_objInit X (wq lm_C_3) (wq vi_O) (wq vc_O) d_C_init_1 (Nat.le_of_ble_eq_true rfl) (Nat.le_of_ble_eq_true rfl) ?_
  refine z_aload_n X d_C_init_4 rfl ?_
  refine z_bipush X d_C_init_5 (v := nI 32) (by decide +kernel) ?_
  refine z_newa X (atype := .int) (ty := .int) (cA := tI) (wq vk_int) rfl 0 rfl (fun q => q) (n := 32) (a0 := (32, .inl (fun _ => 0))) rfl rfl (by decide) (by decide +kernel) (Nat.le_of_ble_eq_true rfl) (Nat.le_of_ble_eq_true rfl) d_C_init_7 ?_
  refine z_named (fun k_1 hk9 => ?_)
  have h0 := (h0.to (k2 := k_1) (by rw [hk9]; exact up_ne (by omega))).more (N2 := N0 + 1 + 1) (by omega)
  have h1 : zc b (N0 + 1 + 1) k_1 (b + (N0 + 1)) (aI tI 32 (fun _ => 0)) := by rw [hk9]; exact ⟨by omega, by omega, up_eq⟩
  have hf : ∀ q, q < b + N0 → k_1 q = k q := fun q hq => by rw [hk9]; exact (up_ne (by omega)).trans (hf q hq)
  clear hk9
  refine z_putF X h0 rfl in_C ty_C_ok n_C 1 (by decide) (wq lf_C_9) rfl hin rfl rfl rfl (Nat.le_of_ble_eq_true rfl) d_C_init_9 ?_
  refine z_named (fun k_2 hk9 => ?_)
  have h1 := (h1.to (k2 := k_2) (by rw [hk9]; exact up_ne (by omega)))
  have h0 : zc b (N0 + 1 + 1) k_2 (b + N0) (.inr (0, [.int 0, .ref (b + (N0 + 1))])) := by rw [hk9]; exact ⟨by omega, by omega, up_eq⟩
  have hf : ∀ q, q < b + N0 → k_2 q = k q := fun q hq => by rw [hk9]; exact (up_ne (by omega)).trans (hf q hq)
  clear hk9
  refine z_aload_n X d_C_init_12 rfl ?_
  refine z_iload_n X d_C_init_13 rfl ?_
  refine z_putF X h0 rfl in_C ty_C_ok n_C 0 (by decide) (wq lf_C_15) rfl hin rfl rfl rfl (Nat.le_of_ble_eq_true rfl) d_C_init_14 ?_
  refine z_named (fun k_3 hk9 => ?_)
  have h1 := (h1.to (k2 := k_3) (by rw [hk9]; exact up_ne (by omega)))
  have h0 : zc b (N0 + 1 + 1) k_3 (b + N0) (.inr (0, [.int x, .ref (b + (N0 + 1))])) := by rw [hk9]; exact ⟨by omega, by omega, up_eq⟩
  have hf : ∀ q, q < b + N0 → k_3 q = k q := fun q hq => by rw [hk9]; exact (up_ne (by omega)).trans (hf q hq)
  clear hk9
  exact z_vret X d_C_init_17 (by omega) (by omega) (⟨h0, h1, hf⟩)
set_option maxHeartbeats 4000000 in
set_option maxRecDepth 100000 in
/-- D(x) -/
theorem c_D_init {x : Int32} (h0 : zc b (N0 + 1) k (b + N0) (.inr (1, [.int 0, .null]))) : Met l y_D_init (wy y_D_init b_D_init 2 none) (rm 1 1 64) (zPc D (tyl tI tZ tN tM) b (N0 + 1) k [.ref (b + N0), .int x]) (zQv D b (N0 + 2) (fun k2 => zc b (N0 + 2) k2 (b + N0) (.inr (1, [.int x, .ref (b + N0 + 1)])) ∧ zc b (N0 + 2) k2 (b + N0 + 1) (aI tI 64 (fun _ => 0)) ∧ ∀ q, q < b + N0 → k2 q = k q)) 1 64 (zA b) := by
  refine z_met (own := R_D) (by decide) rfl rfl (Nat.le_of_ble_eq_true rfl) [some (.ref (b + N0)), some (.int x)] rfl ?_
  intro p e s m args below meth c X hin
  have hf : ∀ q, q < b + N0 → k q = k q := fun _ _ => rfl
  refine z_aload_n X d_D_init_0 rfl ?_
  refine z_objInit X (wq lm_D_3) (wq vi_O) (wq vc_O) d_D_init_1 (Nat.le_of_ble_eq_true rfl) (Nat.le_of_ble_eq_true rfl) ?_
  refine z_aload_n X d_D_init_4 rfl ?_
  refine z_bipush X d_D_init_5 (v := nI 64) (by decide +kernel) ?_
  refine z_newa X (atype := .int) (ty := .int) (cA := tI) (wq vk_int) rfl 0 rfl (fun q => q) (n := 64) (a0 := (64, .inl (fun _ => 0))) rfl rfl (by decide) (by decide +kernel) (Nat.le_of_ble_eq_true rfl) (Nat.le_of_ble_eq_true rfl) d_D_init_7 ?_
  refine z_named (fun k_1 hk9 => ?_)
  have h0 := (h0.to (k2 := k_1) (by rw [hk9]; exact up_ne (by omega))).more (N2 := N0 + 1 + 1) (by omega)
  have h1 : zc b (N0 + 1 + 1) k_1 (b + (N0 + 1)) (aI tI 64 (fun _ => 0)) := by rw [hk9]; exact ⟨by omega, by omega, up_eq⟩
  have hf : ∀ q, q < b + N0 → k_1 q = k q := fun q hq => by rw [hk9]; exact (up_ne (by omega)).trans (hf q hq)
  clear hk9
  refine z_putF X h0 rfl in_D ty_D_ok n_D 1 (by decide) (wq lf_D_9) rfl hin rfl rfl rfl (Nat.le_of_ble_eq_true rfl) d_D_init_9 ?_
  refine z_named (fun k_2 hk9 => ?_)
  have h1 := (h1.to (k2 := k_2) (by rw [hk9]; exact up_ne (by omega)))
  have h0 : zc b (N0 + 1 + 1) k_2 (b + N0) (.inr (1, [.int 0, .ref (b + (N0 + 1))])) := by rw [hk9]; exact ⟨by omega, by omega, up_eq⟩
  have hf : ∀ q, q < b + N0 → k_2 q = k q := fun q hq => by rw [hk9]; exact (up_ne (by omega)).trans (hf q hq)
  clear hk9
  refine z_aload_n X d_D_init_12 rfl ?_
  refine z_iload_n X d_D_init_13 rfl ?_
  refine z_putF X h0 rfl in_D ty_D_ok n_D 0 (by decide) (wq lf_D_15) rfl hin rfl rfl rfl (Nat.le_of_ble_eq_true rfl) d_D_init_14 ?_
  refine z_named (fun k_3 hk9 => ?_)
  have h1 := (h1.to (k2 := k_3) (by rw [hk9]; exact up_ne (by omega)))
  have h0 : zc b (N0 + 1 + 1) k_3 (b + N0) (.inr (1, [.int x, .ref (b + (N0 + 1))])) := by rw [hk9]; exact ⟨by omega, by omega, up_eq⟩
  have hf : ∀ q, q < b + N0 → k_3 q = k q := fun q hq => by rw [hk9]; exact (up_ne (by omega)).trans (hf q hq)
  clear hk9
  exact z_vret X d_D_init_17 (by omega) (by omega) (⟨h0, h1, hf⟩)
end
theorem zc.eqN {b N N2 : Nat} {k : Nat → va_E} {a : Nat} {x : va_E} (h : zc b N k a x) (hN : N = N2) : zc b N2 k a x := hN ▸ h
theorem isS.more {tI : ClassId} {b N N2 kk a : Nat} {dv : Int32} {k : Nat → va_E} {v : Sv} (h : isS tI b N k kk dv a v) (hN : N ≤ N2) : isS tI b N2 k kk dv a v := by
  obtain ⟨h0, h1, h2, h3, h4, h5⟩ := h
  exact ⟨h0.more hN, h1.more hN, h2.more hN, h3.more hN, h4.more hN, h5.more hN⟩
section
variable {l : Launch} {D : va_G} {tI tZ tN tM : ClassId} {b N0 : Nat} {k : Nat → va_E}
set_option maxHeartbeats 4000000 in
set_option maxRecDepth 100000 in
/-- Summary(k, d) -/
theorem c_S_init {kk : Nat} {dv : Int32} (h0 : zc b (N0 + 1) k (b + N0) (.inr (4, [.int 0, .long 0, .int 0, .int 0, .null, .null, .null]))) : Met l y_S_init (wy y_S_init b_S_init 3 none) (rm 2 5 112) (zPc D (tyl tI tZ tN tM) b (N0 + 1) k [.ref (b + N0), .int (nI kk), .int dv]) (zQv D b (N0 + 6) (fun k2 => isS tI b (N0 + 6) k2 kk dv (b + N0) eS ∧ ∀ q, q < b + N0 → k2 q = k q)) 5 112 (zA b) := by
  refine z_met (own := R_S) (by decide) rfl rfl (Nat.le_of_ble_eq_true rfl) [some (.ref (b + N0)), some (.int (nI kk)), some (.int dv)] rfl ?_
  intro p e s m args below meth c X hin
  have hf : ∀ q, q < b + N0 → k q = k q := fun _ _ => rfl
  refine z_aload_n X d_S_init_0 rfl ?_
  refine z_objInit X (wq lm_S_3) (wq vi_O) (wq vc_O) d_S_init_1 (Nat.le_of_ble_eq_true rfl) (Nat.le_of_ble_eq_true rfl) ?_
  refine z_aload_n X d_S_init_4 rfl ?_
  refine z_iconst X d_S_init_5 (v := nI 0) (by decide +kernel) ?_
  refine z_put X h0 rfl in_S ty_S_ok n_S 0 (by decide) (wq lf_S_9) rfl rfl rfl (Nat.le_of_ble_eq_true rfl) d_S_init_6 ?_
  refine z_named (fun k_1 hk9 => ?_)
  have h0 : zc b (N0 + 1) k_1 (b + N0) (.inr (4, [.int (nI 0), .long 0, .int 0, .int 0, .null, .null, .null])) := by rw [hk9]; exact ⟨by omega, by omega, up_eq⟩
  have hf : ∀ q, q < b + N0 → k_1 q = k q := fun q hq => by rw [hk9]; exact (up_ne (by omega)).trans (hf q hq)
  clear hk9
  refine z_aload_n X d_S_init_9 rfl ?_
  refine z_lconst X d_S_init_10 (v := 0) (by decide +kernel) ?_
  refine z_put X h0 rfl in_S ty_S_ok n_S 1 (by decide) (wq lf_S_15) rfl rfl rfl (Nat.le_of_ble_eq_true rfl) d_S_init_11 ?_
  refine z_named (fun k_2 hk9 => ?_)
  have h0 : zc b (N0 + 1) k_2 (b + N0) (.inr (4, [.int (nI 0), .long 0, .int 0, .int 0, .null, .null, .null])) := by rw [hk9]; exact ⟨by omega, by omega, up_eq⟩
  have hf : ∀ q, q < b + N0 → k_2 q = k q := fun q hq => by rw [hk9]; exact (up_ne (by omega)).trans (hf q hq)
  clear hk9
  refine z_aload_n X d_S_init_14 rfl ?_
  refine z_iconst X d_S_init_15 (v := nI 0) (by decide +kernel) ?_
  refine z_put X h0 rfl in_S ty_S_ok n_S 2 (by decide) (wq lf_S_19) rfl rfl rfl (Nat.le_of_ble_eq_true rfl) d_S_init_16 ?_
  refine z_named (fun k_3 hk9 => ?_)
  have h0 : zc b (N0 + 1) k_3 (b + N0) (.inr (4, [.int (nI 0), .long 0, .int (nI 0), .int 0, .null, .null, .null])) := by rw [hk9]; exact ⟨by omega, by omega, up_eq⟩
  have hf : ∀ q, q < b + N0 → k_3 q = k q := fun q hq => by rw [hk9]; exact (up_ne (by omega)).trans (hf q hq)
  clear hk9
  refine z_aload_n X d_S_init_19 rfl ?_
  refine z_iconst X d_S_init_20 (v := nI 0) (by decide +kernel) ?_
  refine z_put X h0 rfl in_S ty_S_ok n_S 3 (by decide) (wq lf_S_22) rfl rfl rfl (Nat.le_of_ble_eq_true rfl) d_S_init_21 ?_
  refine z_named (fun k_4 hk9 => ?_)
  have h0 : zc b (N0 + 1) k_4 (b + N0) (.inr (4, [.int (nI 0), .long 0, .int (nI 0), .int (nI 0), .null, .null, .null])) := by rw [hk9]; exact ⟨by omega, by omega, up_eq⟩
  have hf : ∀ q, q < b + N0 → k_4 q = k q := fun q hq => by rw [hk9]; exact (up_ne (by omega)).trans (hf q hq)
  clear hk9
  refine z_aload_n X d_S_init_24 rfl ?_
  refine z_bipush X d_S_init_25 (v := nI 12) (by decide +kernel) ?_
  refine z_newa X (atype := .int) (ty := .int) (cA := tI) (wq vk_int) rfl 0 rfl (fun q => q) (n := 12) (a0 := (12, .inl (fun _ => 0))) rfl rfl (by decide) (by decide +kernel) (Nat.le_of_ble_eq_true rfl) (Nat.le_of_ble_eq_true rfl) d_S_init_27 ?_
  refine z_named (fun k_5 hk9 => ?_)
  have h0 := (h0.to (k2 := k_5) (by rw [hk9]; exact up_ne (by omega))).more (N2 := N0 + 1 + 1) (by omega)
  have h1 : zc b (N0 + 1 + 1) k_5 (b + (N0 + 1)) (aI tI 12 (fun _ => 0)) := by rw [hk9]; exact ⟨by omega, by omega, up_eq⟩
  have hf : ∀ q, q < b + N0 → k_5 q = k q := fun q hq => by rw [hk9]; exact (up_ne (by omega)).trans (hf q hq)
  clear hk9
  refine z_putF X h0 rfl in_S ty_S_ok n_S 4 (by decide) (wq lf_S_25) rfl hin rfl rfl rfl (Nat.le_of_ble_eq_true rfl) d_S_init_29 ?_
  refine z_named (fun k_6 hk9 => ?_)
  have h1 := (h1.to (k2 := k_6) (by rw [hk9]; exact up_ne (by omega)))
  have h0 : zc b (N0 + 1 + 1) k_6 (b + N0) (.inr (4, [.int (nI 0), .long 0, .int (nI 0), .int (nI 0), .ref (b + (N0 + 1)), .null, .null])) := by rw [hk9]; exact ⟨by omega, by omega, up_eq⟩
  have hf : ∀ q, q < b + N0 → k_6 q = k q := fun q hq => by rw [hk9]; exact (up_ne (by omega)).trans (hf q hq)
  clear hk9
  refine z_aload_n X d_S_init_32 rfl ?_
  refine z_new X (ci := 0) (fs := [.int 0, .null]) rfl in_C ty_C_ok (wq lc_S_29) (wq vm_C) (wq vn_C) (fun j hj => by rcases (show j = 0 ∨ j = 1 by omega) with rfl | rfl <;> rfl) (Nat.le_of_ble_eq_true rfl) (Nat.le_of_ble_eq_true rfl) d_S_init_33 ?_
  refine z_named (fun k_7 hk9 => ?_)
  have h0 := (h0.to (k2 := k_7) (by rw [hk9]; exact up_ne (by omega))).more (N2 := N0 + 1 + 1 + 1) (by omega)
  have h1 := (h1.to (k2 := k_7) (by rw [hk9]; exact up_ne (by omega))).more (N2 := N0 + 1 + 1 + 1) (by omega)
  have h2 : zc b (N0 + 1 + 1 + 1) k_7 (b + (N0 + 1 + 1)) (.inr (0, [.int 0, .null])) := by rw [hk9]; exact ⟨by omega, by omega, up_eq⟩
  have hf : ∀ q, q < b + N0 → k_7 q = k q := fun q hq => by rw [hk9]; exact (up_ne (by omega)).trans (hf q hq)
  clear hk9
  refine z_dup X d_S_init_36 rfl ?_
  refine z_iload_n X d_S_init_37 rfl ?_
  refine z_callIv X (rt := none) (c_C_init h2) (cwI 1 X.1.2.2.2.2 (gi_wy vc_C_init) rfl rfl rfl (X.1.2.2.2.2 _ (wq vn_C)) (X.1.2.2.2.2 _ (wq lm_S_31)) (X.1.2.2.2.2 _ (wq vi_C_init)) rfl (by decide +kernel) ⟨Nat.le_of_ble_eq_true rfl, Nat.le_of_ble_eq_true rfl⟩) (As := [.int (nI kk)]) (st := [.ref (b + (N0 + 1 + 1)), .ref (b + N0)]) rfl rfl (Nat.le_of_ble_eq_true rfl) d_S_init_38 ⟨Nat.le_of_ble_eq_true rfl, Nat.le_of_ble_eq_true rfl⟩ (fun k2 hq => ?_)
  obtain ⟨h2, h2a, hq3⟩ := hq
  have h0 := (h0.to (k2 := k2) (hq3 _ (by omega))).more (N2 := N0 + 1 + 1 + 2) (by omega)
  have h1 := (h1.to (k2 := k2) (hq3 _ (by omega))).more (N2 := N0 + 1 + 1 + 2) (by omega)
  have hf : ∀ q, q < b + N0 → k2 q = k q := fun q hq => (hq3 q (by omega)).trans (hf q hq)
  refine z_putF X h0 rfl in_S ty_S_ok n_S 5 (by decide) (wq lf_S_34) rfl hin rfl rfl rfl (Nat.le_of_ble_eq_true rfl) d_S_init_41 ?_
  refine z_named (fun k_8 hk9 => ?_)
  have h1 := (h1.to (k2 := k_8) (by rw [hk9]; exact up_ne (by omega)))
  have h2 := (h2.to (k2 := k_8) (by rw [hk9]; exact up_ne (by omega)))
  have h2a := (h2a.to (k2 := k_8) (by rw [hk9]; exact up_ne (by omega)))
  have h0 : zc b (N0 + 1 + 1 + 2) k_8 (b + N0) (.inr (4, [.int (nI 0), .long 0, .int (nI 0), .int (nI 0), .ref (b + (N0 + 1)), .ref (b + (N0 + 1 + 1)), .null])) := by rw [hk9]; exact ⟨by omega, by omega, up_eq⟩
  have hf : ∀ q, q < b + N0 → k_8 q = k q := fun q hq => by rw [hk9]; exact (up_ne (by omega)).trans (hf q hq)
  clear hk9
  refine z_aload_n X d_S_init_44 rfl ?_
  refine z_new X (ci := 1) (fs := [.int 0, .null]) rfl in_D ty_D_ok (wq lc_S_38) (wq vm_D) (wq vn_D) (fun j hj => by rcases (show j = 0 ∨ j = 1 by omega) with rfl | rfl <;> rfl) (Nat.le_of_ble_eq_true rfl) (Nat.le_of_ble_eq_true rfl) d_S_init_45 ?_
  refine z_named (fun k_9 hk9 => ?_)
  have h0 := (h0.to (k2 := k_9) (by rw [hk9]; exact up_ne (by omega))).more (N2 := N0 + 1 + 1 + 1 + 1 + 1) (by omega)
  have h1 := (h1.to (k2 := k_9) (by rw [hk9]; exact up_ne (by omega))).more (N2 := N0 + 1 + 1 + 1 + 1 + 1) (by omega)
  have h2 := (h2.to (k2 := k_9) (by rw [hk9]; exact up_ne (by omega))).more (N2 := N0 + 1 + 1 + 1 + 1 + 1) (by omega)
  have h2a := (h2a.to (k2 := k_9) (by rw [hk9]; exact up_ne (by omega))).more (N2 := N0 + 1 + 1 + 1 + 1 + 1) (by omega)
  have h4 : zc b (N0 + 1 + 1 + 1 + 1 + 1) k_9 (b + (N0 + 1 + 1 + 1 + 1)) (.inr (1, [.int 0, .null])) := by rw [hk9]; exact ⟨by omega, by omega, up_eq⟩
  have hf : ∀ q, q < b + N0 → k_9 q = k q := fun q hq => by rw [hk9]; exact (up_ne (by omega)).trans (hf q hq)
  clear hk9
  refine z_dup X d_S_init_48 rfl ?_
  refine z_iload_n X d_S_init_49 rfl ?_
  refine z_callIv X (rt := none) (c_D_init h4) (cwI 1 X.1.2.2.2.2 (gi_wy vc_D_init) rfl rfl rfl (X.1.2.2.2.2 _ (wq vn_D)) (X.1.2.2.2.2 _ (wq lm_S_40)) (X.1.2.2.2.2 _ (wq vi_D_init)) rfl (by decide +kernel) ⟨Nat.le_of_ble_eq_true rfl, Nat.le_of_ble_eq_true rfl⟩) (As := [.int dv]) (st := [.ref (b + (N0 + 1 + 1 + 1 + 1)), .ref (b + N0)]) rfl rfl (Nat.le_of_ble_eq_true rfl) d_S_init_50 ⟨Nat.le_of_ble_eq_true rfl, Nat.le_of_ble_eq_true rfl⟩ (fun k2 hq => ?_)
  obtain ⟨h4, h4a, hq3⟩ := hq
  have h0 := (h0.to (k2 := k2) (hq3 _ (by omega))).more (N2 := N0 + 1 + 1 + 1 + 1 + 2) (by omega)
  have h1 := (h1.to (k2 := k2) (hq3 _ (by omega))).more (N2 := N0 + 1 + 1 + 1 + 1 + 2) (by omega)
  have h2 := (h2.to (k2 := k2) (hq3 _ (by omega))).more (N2 := N0 + 1 + 1 + 1 + 1 + 2) (by omega)
  have h2a := (h2a.to (k2 := k2) (hq3 _ (by omega))).more (N2 := N0 + 1 + 1 + 1 + 1 + 2) (by omega)
  have hf : ∀ q, q < b + N0 → k2 q = k q := fun q hq => (hq3 q (by omega)).trans (hf q hq)
  refine z_putF X h0 rfl in_S ty_S_ok n_S 6 (by decide) (wq lf_S_41) rfl hin rfl rfl rfl (Nat.le_of_ble_eq_true rfl) d_S_init_53 ?_
  refine z_named (fun k_10 hk9 => ?_)
  have h1 := (h1.to (k2 := k_10) (by rw [hk9]; exact up_ne (by omega)))
  have h2 := (h2.to (k2 := k_10) (by rw [hk9]; exact up_ne (by omega)))
  have h2a := (h2a.to (k2 := k_10) (by rw [hk9]; exact up_ne (by omega)))
  have h4 := (h4.to (k2 := k_10) (by rw [hk9]; exact up_ne (by omega)))
  have h4a := (h4a.to (k2 := k_10) (by rw [hk9]; exact up_ne (by omega)))
  have h0 : zc b (N0 + 1 + 1 + 1 + 1 + 2) k_10 (b + N0) (.inr (4, [.int (nI 0), .long 0, .int (nI 0), .int (nI 0), .ref (b + (N0 + 1)), .ref (b + (N0 + 1 + 1)), .ref (b + (N0 + 1 + 1 + 1 + 1))])) := by rw [hk9]; exact ⟨by omega, by omega, up_eq⟩
  have hf : ∀ q, q < b + N0 → k_10 q = k q := fun q hq => by rw [hk9]; exact (up_ne (by omega)).trans (hf q hq)
  clear hk9
  exact z_vret X d_S_init_56 (by omega) (by omega) (⟨⟨h0, h1, h2, h2a, h4, h4a⟩, hf⟩)
set_option maxHeartbeats 4000000 in
set_option maxRecDepth 100000 in
/-- Node(j, k, d) -/
theorem c_N_init {j kk : Nat} {dv : Int32} (h0 : zc b (N0 + 1) k (b + N0) (.inr (3, [.int 0, .int 0, .int 0, .null, .int 0, .int 0, .null, .null, .int 0]))) : Met l y_N_init (wy y_N_init b_N_init 4 none) (rm 3 13 242) (zPc D (tyl tI tZ tN tM) b (N0 + 1) k [.ref (b + N0), .int (nI j), .int (nI kk), .int dv]) (zQv D b (N0 + 14) (fun k2 => zc b (N0 + 14) k2 (b + N0) (oN j (-1) 0 0 0 0 (b + N0)) ∧ zc b (N0 + 14) k2 (b + N0 + 1) (aI tI 4 (fun _ => 0)) ∧ isS tI b (N0 + 14) k2 kk dv (b + N0 + 2) eS ∧ isS tI b (N0 + 14) k2 kk dv (b + N0 + 8) eS ∧ ∀ q, q < b + N0 → k2 q = k q)) 13 242 (zA b) := by
  refine z_met (own := R_N) (by decide) rfl rfl (Nat.le_of_ble_eq_true rfl) [some (.ref (b + N0)), some (.int (nI j)), some (.int (nI kk)), some (.int dv)] rfl ?_
  intro p e s m args below meth c X hin
  have hf : ∀ q, q < b + N0 → k q = k q := fun _ _ => rfl
  refine z_aload_n X d_N_init_0 rfl ?_
  refine z_objInit X (wq lm_N_3) (wq vi_O) (wq vc_O) d_N_init_1 (Nat.le_of_ble_eq_true rfl) (Nat.le_of_ble_eq_true rfl) ?_
  refine z_aload_n X d_N_init_4 rfl ?_
  refine z_iconst X d_N_init_5 (v := -1) (by decide +kernel) ?_
  refine z_put X h0 rfl in_N ty_N_ok n_N 1 (by decide) (wq lf_N_9) rfl rfl rfl (Nat.le_of_ble_eq_true rfl) d_N_init_6 ?_
  refine z_named (fun k_1 hk9 => ?_)
  have h0 : zc b (N0 + 1) k_1 (b + N0) (.inr (3, [.int 0, .int (-1), .int 0, .null, .int 0, .int 0, .null, .null, .int 0])) := by rw [hk9]; exact ⟨by omega, by omega, up_eq⟩
  have hf : ∀ q, q < b + N0 → k_1 q = k q := fun q hq => by rw [hk9]; exact (up_ne (by omega)).trans (hf q hq)
  clear hk9
  refine z_aload_n X d_N_init_9 rfl ?_
  refine z_iconst X d_N_init_10 (v := nI 0) (by decide +kernel) ?_
  refine z_put X h0 rfl in_N ty_N_ok n_N 2 (by decide) (wq lf_N_15) rfl (by decide +kernel) (by decide +kernel) (Nat.le_of_ble_eq_true rfl) d_N_init_11 ?_
  refine z_named (fun k_2 hk9 => ?_)
  have h0 : zc b (N0 + 1) k_2 (b + N0) (.inr (3, [.int 0, .int (-1), .int (nI 0), .null, .int 0, .int 0, .null, .null, .int 0])) := by rw [hk9]; exact ⟨by omega, by omega, up_eq⟩
  have hf : ∀ q, q < b + N0 → k_2 q = k q := fun q hq => by rw [hk9]; exact (up_ne (by omega)).trans (hf q hq)
  clear hk9
  refine z_aload_n X d_N_init_14 rfl ?_
  refine z_iconst X d_N_init_15 (v := nI 4) (by decide +kernel) ?_
  refine z_newa X (atype := .int) (ty := .int) (cA := tI) (wq vk_int) rfl 0 rfl (fun q => q) (n := 4) (a0 := (4, .inl (fun _ => 0))) rfl rfl (by decide) (by decide +kernel) (Nat.le_of_ble_eq_true rfl) (Nat.le_of_ble_eq_true rfl) d_N_init_16 ?_
  refine z_named (fun k_3 hk9 => ?_)
  have h0 := (h0.to (k2 := k_3) (by rw [hk9]; exact up_ne (by omega))).more (N2 := N0 + 1 + 1) (by omega)
  have h1 : zc b (N0 + 1 + 1) k_3 (b + (N0 + 1)) (aI tI 4 (fun _ => 0)) := by rw [hk9]; exact ⟨by omega, by omega, up_eq⟩
  have hf : ∀ q, q < b + N0 → k_3 q = k q := fun q hq => by rw [hk9]; exact (up_ne (by omega)).trans (hf q hq)
  clear hk9
  refine z_putF X h0 rfl in_N ty_N_ok n_N 3 (by decide) (wq lf_N_19) rfl hin rfl rfl rfl (Nat.le_of_ble_eq_true rfl) d_N_init_18 ?_
  refine z_named (fun k_4 hk9 => ?_)
  have h1 := (h1.to (k2 := k_4) (by rw [hk9]; exact up_ne (by omega)))
  have h0 : zc b (N0 + 1 + 1) k_4 (b + N0) (.inr (3, [.int 0, .int (-1), .int (nI 0), .ref (b + (N0 + 1)), .int 0, .int 0, .null, .null, .int 0])) := by rw [hk9]; exact ⟨by omega, by omega, up_eq⟩
  have hf : ∀ q, q < b + N0 → k_4 q = k q := fun q hq => by rw [hk9]; exact (up_ne (by omega)).trans (hf q hq)
  clear hk9
  refine z_aload_n X d_N_init_21 rfl ?_
  refine z_iconst X d_N_init_22 (v := nI 0) (by decide +kernel) ?_
  refine z_put X h0 rfl in_N ty_N_ok n_N 4 (by decide) (wq lf_N_23) rfl rfl rfl (Nat.le_of_ble_eq_true rfl) d_N_init_23 ?_
  refine z_named (fun k_5 hk9 => ?_)
  have h1 := (h1.to (k2 := k_5) (by rw [hk9]; exact up_ne (by omega)))
  have h0 : zc b (N0 + 1 + 1) k_5 (b + N0) (.inr (3, [.int 0, .int (-1), .int (nI 0), .ref (b + (N0 + 1)), .int (nI 0), .int 0, .null, .null, .int 0])) := by rw [hk9]; exact ⟨by omega, by omega, up_eq⟩
  have hf : ∀ q, q < b + N0 → k_5 q = k q := fun q hq => by rw [hk9]; exact (up_ne (by omega)).trans (hf q hq)
  clear hk9
  refine z_aload_n X d_N_init_26 rfl ?_
  refine z_iconst X d_N_init_27 (v := nI 0) (by decide +kernel) ?_
  refine z_put X h0 rfl in_N ty_N_ok n_N 5 (by decide) (wq lf_N_26) rfl rfl rfl (Nat.le_of_ble_eq_true rfl) d_N_init_28 ?_
  refine z_named (fun k_6 hk9 => ?_)
  have h1 := (h1.to (k2 := k_6) (by rw [hk9]; exact up_ne (by omega)))
  have h0 : zc b (N0 + 1 + 1) k_6 (b + N0) (.inr (3, [.int 0, .int (-1), .int (nI 0), .ref (b + (N0 + 1)), .int (nI 0), .int (nI 0), .null, .null, .int 0])) := by rw [hk9]; exact ⟨by omega, by omega, up_eq⟩
  have hf : ∀ q, q < b + N0 → k_6 q = k q := fun q hq => by rw [hk9]; exact (up_ne (by omega)).trans (hf q hq)
  clear hk9
  refine z_aload_n X d_N_init_31 rfl ?_
  refine z_iconst X d_N_init_32 (v := nI 0) (by decide +kernel) ?_
  refine z_put X h0 rfl in_N ty_N_ok n_N 8 (by decide) (wq lf_N_29) rfl rfl rfl (Nat.le_of_ble_eq_true rfl) d_N_init_33 ?_
  refine z_named (fun k_7 hk9 => ?_)
  have h1 := (h1.to (k2 := k_7) (by rw [hk9]; exact up_ne (by omega)))
  have h0 : zc b (N0 + 1 + 1) k_7 (b + N0) (.inr (3, [.int 0, .int (-1), .int (nI 0), .ref (b + (N0 + 1)), .int (nI 0), .int (nI 0), .null, .null, .int (nI 0)])) := by rw [hk9]; exact ⟨by omega, by omega, up_eq⟩
  have hf : ∀ q, q < b + N0 → k_7 q = k q := fun q hq => by rw [hk9]; exact (up_ne (by omega)).trans (hf q hq)
  clear hk9
  refine z_aload_n X d_N_init_36 rfl ?_
  refine z_iload_n X d_N_init_37 rfl ?_
  refine z_putF X h0 rfl in_N ty_N_ok n_N 0 (by decide) (wq lf_N_32) rfl hin rfl rfl rfl (Nat.le_of_ble_eq_true rfl) d_N_init_38 ?_
  refine z_named (fun k_8 hk9 => ?_)
  have h1 := (h1.to (k2 := k_8) (by rw [hk9]; exact up_ne (by omega)))
  have h0 : zc b (N0 + 1 + 1) k_8 (b + N0) (.inr (3, [.int (nI j), .int (-1), .int (nI 0), .ref (b + (N0 + 1)), .int (nI 0), .int (nI 0), .null, .null, .int (nI 0)])) := by rw [hk9]; exact ⟨by omega, by omega, up_eq⟩
  have hf : ∀ q, q < b + N0 → k_8 q = k q := fun q hq => by rw [hk9]; exact (up_ne (by omega)).trans (hf q hq)
  clear hk9
  refine z_aload_n X d_N_init_41 rfl ?_
  refine z_new X (ci := 4) (fs := [.int 0, .long 0, .int 0, .int 0, .null, .null, .null]) rfl in_S ty_S_ok (wq lc_N_35) (wq vm_S) (wq vn_S) (fun j hj => by rcases (show j = 0 ∨ j = 1 ∨ j = 2 ∨ j = 3 ∨ j = 4 ∨ j = 5 ∨ j = 6 by omega) with rfl | rfl | rfl | rfl | rfl | rfl | rfl <;> rfl) (Nat.le_of_ble_eq_true rfl) (Nat.le_of_ble_eq_true rfl) d_N_init_42 ?_
  refine z_named (fun k_9 hk9 => ?_)
  have h0 := (h0.to (k2 := k_9) (by rw [hk9]; exact up_ne (by omega))).more (N2 := N0 + 1 + 1 + 1) (by omega)
  have h1 := (h1.to (k2 := k_9) (by rw [hk9]; exact up_ne (by omega))).more (N2 := N0 + 1 + 1 + 1) (by omega)
  have hS : zc b (N0 + 1 + 1 + 1) k_9 (b + (N0 + 1 + 1)) (.inr (4, [.int 0, .long 0, .int 0, .int 0, .null, .null, .null])) := by rw [hk9]; exact ⟨by omega, by omega, up_eq⟩
  have hf : ∀ q, q < b + N0 → k_9 q = k q := fun q hq => by rw [hk9]; exact (up_ne (by omega)).trans (hf q hq)
  clear hk9
  refine z_dup X d_N_init_45 rfl ?_
  refine z_iload_n X d_N_init_46 rfl ?_
  refine z_iload_n X d_N_init_47 rfl ?_
  refine z_callIv X (rt := none) (c_S_init hS) (cwI 2 X.1.2.2.2.2 (gi_wy vc_S_init) rfl rfl rfl (X.1.2.2.2.2 _ (wq vn_S)) (X.1.2.2.2.2 _ (wq lm_N_37)) (X.1.2.2.2.2 _ (wq vi_S_init)) rfl (by decide +kernel) ⟨Nat.le_of_ble_eq_true rfl, Nat.le_of_ble_eq_true rfl⟩) (As := [.int (nI kk), .int dv]) (st := [.ref (b + (N0 + 1 + 1)), .ref (b + N0)]) rfl rfl (Nat.le_of_ble_eq_true rfl) d_N_init_48 ⟨Nat.le_of_ble_eq_true rfl, Nat.le_of_ble_eq_true rfl⟩ (fun k2 hq => ?_)
  obtain ⟨hS, hq3⟩ := hq
  have h0 := (h0.to (k2 := k2) (hq3 _ (by omega))).more (N2 := N0 + 1 + 1 + 6) (by omega)
  have h1 := (h1.to (k2 := k2) (hq3 _ (by omega))).more (N2 := N0 + 1 + 1 + 6) (by omega)
  have hf : ∀ q, q < b + N0 → k2 q = k q := fun q hq => (hq3 q (by omega)).trans (hf q hq)
  refine z_putF X h0 rfl in_N ty_N_ok n_N 6 (by decide) (wq lf_N_40) rfl hin rfl rfl rfl (Nat.le_of_ble_eq_true rfl) d_N_init_51 ?_
  refine z_named (fun k_10 hk9 => ?_)
  have h1 := (h1.to (k2 := k_10) (by rw [hk9]; exact up_ne (by omega)))
  have h0 : zc b (N0 + 1 + 1 + 6) k_10 (b + N0) (.inr (3, [.int (nI j), .int (-1), .int (nI 0), .ref (b + (N0 + 1)), .int (nI 0), .int (nI 0), .ref (b + (N0 + 1 + 1)), .null, .int (nI 0)])) := by rw [hk9]; exact ⟨by omega, by omega, up_eq⟩
  have hf : ∀ q, q < b + N0 → k_10 q = k q := fun q hq => by rw [hk9]; exact (up_ne (by omega)).trans (hf q hq)
  have hS := hS.to (k2 := k_10) (fun q q1 q2 => by rw [hk9]; exact up_ne (by omega))
  clear hk9
  refine z_aload_n X d_N_init_54 rfl ?_
  refine z_new X (ci := 4) (fs := [.int 0, .long 0, .int 0, .int 0, .null, .null, .null]) rfl in_S ty_S_ok (wq lc_N_35) (wq vm_S) (wq vn_S) (fun j hj => by rcases (show j = 0 ∨ j = 1 ∨ j = 2 ∨ j = 3 ∨ j = 4 ∨ j = 5 ∨ j = 6 by omega) with rfl | rfl | rfl | rfl | rfl | rfl | rfl <;> rfl) (Nat.le_of_ble_eq_true rfl) (Nat.le_of_ble_eq_true rfl) d_N_init_55 ?_
  refine z_named (fun k_11 hk9 => ?_)
  have h0 := (h0.to (k2 := k_11) (by rw [hk9]; exact up_ne (by omega))).more (N2 := N0 + 1 + 1 + 6 + 1) (by omega)
  have h1 := (h1.to (k2 := k_11) (by rw [hk9]; exact up_ne (by omega))).more (N2 := N0 + 1 + 1 + 6 + 1) (by omega)
  have hT : zc b (N0 + 1 + 1 + 6 + 1) k_11 (b + (N0 + 1 + 1 + 6)) (.inr (4, [.int 0, .long 0, .int 0, .int 0, .null, .null, .null])) := by rw [hk9]; exact ⟨by omega, by omega, up_eq⟩
  have hf : ∀ q, q < b + N0 → k_11 q = k q := fun q hq => by rw [hk9]; exact (up_ne (by omega)).trans (hf q hq)
  have hS := hS.to (k2 := k_11) (fun q q1 q2 => by rw [hk9]; exact up_ne (by omega)) |>.more (N2 := N0 + 1 + 1 + 6 + 1) (by omega)
  clear hk9
  refine z_dup X d_N_init_58 rfl ?_
  refine z_iload_n X d_N_init_59 rfl ?_
  refine z_iload_n X d_N_init_60 rfl ?_
  refine z_callIv X (rt := none) (c_S_init hT) (cwI 2 X.1.2.2.2.2 (gi_wy vc_S_init) rfl rfl rfl (X.1.2.2.2.2 _ (wq vn_S)) (X.1.2.2.2.2 _ (wq lm_N_37)) (X.1.2.2.2.2 _ (wq vi_S_init)) rfl (by decide +kernel) ⟨Nat.le_of_ble_eq_true rfl, Nat.le_of_ble_eq_true rfl⟩) (As := [.int (nI kk), .int dv]) (st := [.ref (b + (N0 + 1 + 1 + 6)), .ref (b + N0)]) rfl rfl (Nat.le_of_ble_eq_true rfl) d_N_init_61 ⟨Nat.le_of_ble_eq_true rfl, Nat.le_of_ble_eq_true rfl⟩ (fun k2 hq => ?_)
  obtain ⟨hT, hq3⟩ := hq
  have hS := (hS.to (k2 := k2) (fun q q1 q2 => hq3 q (by omega))).more (N2 := N0 + 1 + 1 + 6 + 6) (by omega)
  have h0 := (h0.to (k2 := k2) (hq3 _ (by omega))).more (N2 := N0 + 1 + 1 + 6 + 6) (by omega)
  have h1 := (h1.to (k2 := k2) (hq3 _ (by omega))).more (N2 := N0 + 1 + 1 + 6 + 6) (by omega)
  have hf : ∀ q, q < b + N0 → k2 q = k q := fun q hq => (hq3 q (by omega)).trans (hf q hq)
  refine z_putF X h0 rfl in_N ty_N_ok n_N 7 (by decide) (wq lf_N_44) rfl hin rfl rfl rfl (Nat.le_of_ble_eq_true rfl) d_N_init_64 ?_
  refine z_named (fun k_12 hk9 => ?_)
  have h1 := (h1.to (k2 := k_12) (by rw [hk9]; exact up_ne (by omega)))
  have h0 : zc b (N0 + 1 + 1 + 6 + 6) k_12 (b + N0) (.inr (3, [.int (nI j), .int (-1), .int (nI 0), .ref (b + (N0 + 1)), .int (nI 0), .int (nI 0), .ref (b + (N0 + 1 + 1)), .ref (b + (N0 + 1 + 1 + 6)), .int (nI 0)])) := by rw [hk9]; exact ⟨by omega, by omega, up_eq⟩
  have hf : ∀ q, q < b + N0 → k_12 q = k q := fun q hq => by rw [hk9]; exact (up_ne (by omega)).trans (hf q hq)
  have hS := hS.to (k2 := k_12) (fun q q1 q2 => by rw [hk9]; exact up_ne (by omega))
  have hT := hT.to (k2 := k_12) (fun q q1 q2 => by rw [hk9]; exact up_ne (by omega))
  clear hk9
  exact z_vret X d_N_init_67 (by omega) (by omega) (⟨h0, h1, hS, hT, hf⟩)
set_option maxHeartbeats 4000000 in
set_option maxRecDepth 100000 in
/-- Message(k, d) -/
theorem c_M_init {kk : Nat} {dv : Int32} (h0 : zc b (N0 + 1) k (b + N0) (.inr (2, [.int 0, .int 0, .int 0, .null]))) : Met l y_M_init (wy y_M_init b_M_init 3 none) (rm 3 6 119) (zPc D (tyl tI tZ tN tM) b (N0 + 1) k [.ref (b + N0), .int (nI kk), .int dv]) (zQv D b (N0 + 7) (fun k2 => zc b (N0 + 7) k2 (b + N0) (oM 0 0 0 (b + N0)) ∧ isS tI b (N0 + 7) k2 kk dv (b + N0 + 1) eS ∧ ∀ q, q < b + N0 → k2 q = k q)) 6 119 (zA b) := by
  refine z_met (own := R_M) (by decide) rfl rfl (Nat.le_of_ble_eq_true rfl) [some (.ref (b + N0)), some (.int (nI kk)), some (.int dv)] rfl ?_
  intro p e s m args below meth c X hin
  have hf : ∀ q, q < b + N0 → k q = k q := fun _ _ => rfl
  refine z_aload_n X d_M_init_0 rfl ?_
  refine z_objInit X (wq lm_M_1) (wq vi_O) (wq vc_O) d_M_init_1 (Nat.le_of_ble_eq_true rfl) (Nat.le_of_ble_eq_true rfl) ?_
  refine z_aload_n X d_M_init_4 rfl ?_
  refine z_iconst X d_M_init_5 (v := nI 0) (by decide +kernel) ?_
  refine z_put X h0 rfl in_M ty_M_ok n_M 0 (by decide) (wq lf_M_7) rfl rfl rfl (Nat.le_of_ble_eq_true rfl) d_M_init_6 ?_
  refine z_named (fun k_1 hk9 => ?_)
  have h0 : zc b (N0 + 1) k_1 (b + N0) (.inr (2, [.int (nI 0), .int 0, .int 0, .null])) := by rw [hk9]; exact ⟨by omega, by omega, up_eq⟩
  have hf : ∀ q, q < b + N0 → k_1 q = k q := fun q hq => by rw [hk9]; exact (up_ne (by omega)).trans (hf q hq)
  clear hk9
  refine z_aload_n X d_M_init_9 rfl ?_
  refine z_iconst X d_M_init_10 (v := nI 0) (by decide +kernel) ?_
  refine z_put X h0 rfl in_M ty_M_ok n_M 1 (by decide) (wq lf_M_13) rfl rfl rfl (Nat.le_of_ble_eq_true rfl) d_M_init_11 ?_
  refine z_named (fun k_2 hk9 => ?_)
  have h0 : zc b (N0 + 1) k_2 (b + N0) (.inr (2, [.int (nI 0), .int (nI 0), .int 0, .null])) := by rw [hk9]; exact ⟨by omega, by omega, up_eq⟩
  have hf : ∀ q, q < b + N0 → k_2 q = k q := fun q hq => by rw [hk9]; exact (up_ne (by omega)).trans (hf q hq)
  clear hk9
  refine z_aload_n X d_M_init_14 rfl ?_
  refine z_iconst X d_M_init_15 (v := nI 0) (by decide +kernel) ?_
  refine z_put X h0 rfl in_M ty_M_ok n_M 2 (by decide) (wq lf_M_16) rfl rfl rfl (Nat.le_of_ble_eq_true rfl) d_M_init_16 ?_
  refine z_named (fun k_3 hk9 => ?_)
  have h0 : zc b (N0 + 1) k_3 (b + N0) (.inr (2, [.int (nI 0), .int (nI 0), .int (nI 0), .null])) := by rw [hk9]; exact ⟨by omega, by omega, up_eq⟩
  have hf : ∀ q, q < b + N0 → k_3 q = k q := fun q hq => by rw [hk9]; exact (up_ne (by omega)).trans (hf q hq)
  clear hk9
  refine z_aload_n X d_M_init_19 rfl ?_
  refine z_new X (ci := 4) (fs := [.int 0, .long 0, .int 0, .int 0, .null, .null, .null]) rfl in_S ty_S_ok (wq lc_M_19) (wq vm_S) (wq vn_S) (fun j hj => by rcases (show j = 0 ∨ j = 1 ∨ j = 2 ∨ j = 3 ∨ j = 4 ∨ j = 5 ∨ j = 6 by omega) with rfl | rfl | rfl | rfl | rfl | rfl | rfl <;> rfl) (Nat.le_of_ble_eq_true rfl) (Nat.le_of_ble_eq_true rfl) d_M_init_20 ?_
  refine z_named (fun k_4 hk9 => ?_)
  have h0 := (h0.to (k2 := k_4) (by rw [hk9]; exact up_ne (by omega))).more (N2 := N0 + 1 + 1) (by omega)
  have hS : zc b (N0 + 1 + 1) k_4 (b + (N0 + 1)) (.inr (4, [.int 0, .long 0, .int 0, .int 0, .null, .null, .null])) := by rw [hk9]; exact ⟨by omega, by omega, up_eq⟩
  have hf : ∀ q, q < b + N0 → k_4 q = k q := fun q hq => by rw [hk9]; exact (up_ne (by omega)).trans (hf q hq)
  clear hk9
  refine z_dup X d_M_init_23 rfl ?_
  refine z_iload_n X d_M_init_24 rfl ?_
  refine z_iload_n X d_M_init_25 rfl ?_
  refine z_callIv X (rt := none) (c_S_init hS) (cwI 2 X.1.2.2.2.2 (gi_wy vc_S_init) rfl rfl rfl (X.1.2.2.2.2 _ (wq vn_S)) (X.1.2.2.2.2 _ (wq lm_M_21)) (X.1.2.2.2.2 _ (wq vi_S_init)) rfl (by decide +kernel) ⟨Nat.le_of_ble_eq_true rfl, Nat.le_of_ble_eq_true rfl⟩) (As := [.int (nI kk), .int dv]) (st := [.ref (b + (N0 + 1)), .ref (b + N0)]) rfl rfl (Nat.le_of_ble_eq_true rfl) d_M_init_26 ⟨Nat.le_of_ble_eq_true rfl, Nat.le_of_ble_eq_true rfl⟩ (fun k2 hq => ?_)
  obtain ⟨hS, hq3⟩ := hq
  have h0 := (h0.to (k2 := k2) (hq3 _ (by omega))).more (N2 := N0 + 1 + 6) (by omega)
  have hf : ∀ q, q < b + N0 → k2 q = k q := fun q hq => (hq3 q (by omega)).trans (hf q hq)
  refine z_putF X h0 rfl in_M ty_M_ok n_M 3 (by decide) (wq lf_M_24) rfl hin rfl rfl rfl (Nat.le_of_ble_eq_true rfl) d_M_init_29 ?_
  refine z_named (fun k_5 hk9 => ?_)
  have h0 : zc b (N0 + 1 + 6) k_5 (b + N0) (.inr (2, [.int (nI 0), .int (nI 0), .int (nI 0), .ref (b + (N0 + 1))])) := by rw [hk9]; exact ⟨by omega, by omega, up_eq⟩
  have hf : ∀ q, q < b + N0 → k_5 q = k q := fun q hq => by rw [hk9]; exact (up_ne (by omega)).trans (hf q hq)
  have hS := hS.to (k2 := k_5) (fun q q1 q2 => by rw [hk9]; exact up_ne (by omega))
  clear hk9
  exact z_vret X d_M_init_32 (by omega) (by omega) (⟨h0, hS, hf⟩)
end
