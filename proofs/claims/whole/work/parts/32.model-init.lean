/-! Contract of the reference's constructor -/
theorem clk_a {lo hi : Nat} {x : Int32} (h : lo ≤ hi) (hh : hi < 65536) (h1 : ¬ nI lo ≤ x) : nI lo = clk lo hi x := by
  unfold clk
  have h2 : ¬ nI lo < (if x < nI hi then x else nI hi) := by
    have a := Int32.not_le.mp h1
    have c := nI_le h (show hi < 2 ^ 31 by omega)
    rw [Int32.lt_iff_toInt_lt] at a ⊢
    rw [Int32.le_iff_toInt_le] at c
    split <;> rename_i h3 <;> rw [Int32.lt_iff_toInt_lt] at h3 <;> omega
  rw [if_neg h2]
theorem clk_b {lo hi : Nat} {x : Int32} (h : lo < hi) (hh : hi < 65536) (h2 : ¬ x ≤ nI hi) : nI hi = clk lo hi x := by
  unfold clk
  have a := Int32.not_le.mp h2
  have h3 : ¬ x < nI hi := by
    rw [Int32.lt_iff_toInt_lt] at a ⊢
    omega
  rw [if_neg h3, if_pos (nI_lt h (by omega))]
theorem clk_c {lo hi : Nat} {x : Int32} (h1 : nI lo ≤ x) (h2 : x ≤ nI hi) : x = clk lo hi x := by
  unfold clk
  have h3 : (if x < nI hi then x else nI hi) = x := by
    split
    · rfl
    · rename_i h4
      rw [Int32.lt_iff_toInt_lt] at h4
      rw [Int32.le_iff_toInt_le] at h2
      exact Int32.toInt_inj.mp (by omega)
  rw [h3]
  split
  · rfl
  · rename_i h4
    rw [Int32.lt_iff_toInt_lt] at h4
    rw [Int32.le_iff_toInt_le] at h1
    exact Int32.toInt_inj.mp (by omega)
section
variable {l : Launch} {D : va_G} {tI tZ tN tM : ClassId} {b : Nat} {k : Nat → va_E}
set_option maxHeartbeats 4000000 in
set_option maxRecDepth 100000 in
/-- TelemetryTreeModel(k, d) -/
theorem c_R_init {kk dd : Nat} {x y : Int32} (h0 : zc b 256 k (b + 255) (.inr (6, [.int 0, .int 0, .int 0, .null, .null, .null, .null, .null, .null, .null, .null, .null, .int 0, .null, .null, .null, .null, .null, .null, .null, .null, .null]))) (hkk : clk 1 6 x = nI kk) (hdd : clk 2 16 y = nI dd) : Met l y_R_init (wy y_R_init b_R_init 3 none) (rm 1 18 2228) (zPc D (tyl tI tZ tN tM) b 256 k [.ref (b + 255), .int x, .int y]) (zQv D b 274 (fun k2 => RW tI tZ b 274 k2 kk (nI dd) 1 0 (fun _ => 0) (fun _ => 0) (fun _ => 0) (fun _ => 0) (fun _ => 0) (fun _ => 0) (fun _ => 0) (fun _ => 0) (fun _ => 0) (fun _ => 0) (fun _ => 0) (fun _ => 0) (fun _ => 0) (fun _ => 0) (fun _ => 0) (fun _ => 0) (fun _ => 0) (fun _ => 0) ∧ ∀ q, q < b + 255 → k2 q = k q)) 18 2228 (zA b) := by
  refine z_met (own := R_R) (by decide) rfl rfl (Nat.le_of_ble_eq_true rfl) [some (.ref (b + 255)), some (.int x), some (.int y)] rfl ?_
  intro p e s m args below meth c X hin
  have hf : ∀ q, q < b + 255 → k q = k q := fun _ _ => rfl
  refine z_aload_n X d_R_init_0 rfl ?_
  refine z_objInit X (wq lm_R_1) (wq vi_O) (wq vc_O) d_R_init_1 (Nat.le_of_ble_eq_true rfl) (Nat.le_of_ble_eq_true rfl) ?_
  refine z_aload_n X d_R_init_4 rfl ?_
  refine z_iconst X d_R_init_5 (v := nI 1) (by decide +kernel) ?_
  refine z_put X h0 rfl in_R ty_R_ok n_R 2 (by decide) (wq lf_R_7) rfl rfl rfl (Nat.le_of_ble_eq_true rfl) d_R_init_6 ?_
  refine z_named (fun k_1 hk9 => ?_)
  clear h0
  have h0 : zc b (256) k_1 (b + 255) (.inr (6, [.int 0, .int 0, .int (nI 1), .null, .null, .null, .null, .null, .null, .null, .null, .null, .int 0, .null, .null, .null, .null, .null, .null, .null, .null, .null])) := by rw [hk9]; exact ⟨by omega, by omega, up_eq⟩
  replace hf : ∀ q, q < b + 255 → k_1 q = k q := fun q hq => by rw [hk9]; exact (up_ne (by omega)).trans (hf q hq)
  clear hk9
  refine z_aload_n X d_R_init_9 rfl ?_
  refine z_bipush X d_R_init_10 (v := nI 12) (by decide +kernel) ?_
  refine z_newa X (atype := .int) (ty := .int) (cA := tI) (wq vk_int) rfl 0 rfl (fun q => q) (n := 12) (a0 := (12, .inl (fun _ => 0))) rfl rfl (by decide) (by decide +kernel) (show 0 + 1 ≤ 18 by omega) (show 0 + 12 ≤ 2228 by omega) d_R_init_12 ?_
  refine z_named (fun k_2 hk9 => ?_)
  replace h0 := (h0.to (k2 := k_2) (by rw [hk9]; exact up_ne (by omega))).more (N2 := 257) (by omega)
  have r0 : zc b (257) k_2 (b + 256) (aI tI 12 (fun _ => 0)) := by rw [hk9]; exact ⟨by omega, by omega, up_eq⟩
  replace hf : ∀ q, q < b + 255 → k_2 q = k q := fun q hq => by rw [hk9]; exact (up_ne (by omega)).trans (hf q hq)
  clear hk9
  refine z_put X h0 rfl in_R ty_R_ok n_R 3 (by decide) (wq lf_R_13) rfl rfl rfl (Nat.le_of_ble_eq_true rfl) d_R_init_14 ?_
  refine z_named (fun k_3 hk9 => ?_)
  replace r0 := (r0.to (k2 := k_3) (by rw [hk9]; exact up_ne (by omega)))
  clear h0
  have h0 : zc b (257) k_3 (b + 255) (.inr (6, [.int 0, .int 0, .int (nI 1), .ref (b + 256), .null, .null, .null, .null, .null, .null, .null, .null, .int 0, .null, .null, .null, .null, .null, .null, .null, .null, .null])) := by rw [hk9]; exact ⟨by omega, by omega, up_eq⟩
  replace hf : ∀ q, q < b + 255 → k_3 q = k q := fun q hq => by rw [hk9]; exact (up_ne (by omega)).trans (hf q hq)
  clear hk9
  refine z_aload_n X d_R_init_17 rfl ?_
  refine z_bipush X d_R_init_18 (v := nI 12) (by decide +kernel) ?_
  refine z_newa X (atype := .boolean) (ty := .boolean) (cA := tZ) (wq vk_boolean) rfl 1 rfl (fun q => q) (n := 12) (a0 := (12, .inl (fun _ => 0))) rfl rfl (by decide) (by decide +kernel) (show 0 + 1 + 1 ≤ 18 by omega) (show 0 + 12 + 12 ≤ 2228 by omega) d_R_init_20 ?_
  refine z_named (fun k_4 hk9 => ?_)
  replace h0 := (h0.to (k2 := k_4) (by rw [hk9]; exact up_ne (by omega))).more (N2 := 258) (by omega)
  replace r0 := (r0.to (k2 := k_4) (by rw [hk9]; exact up_ne (by omega))).more (N2 := 258) (by omega)
  have r1 : zc b (258) k_4 (b + 257) (aI tZ 12 (fun _ => 0)) := by rw [hk9]; exact ⟨by omega, by omega, up_eq⟩
  replace hf : ∀ q, q < b + 255 → k_4 q = k q := fun q hq => by rw [hk9]; exact (up_ne (by omega)).trans (hf q hq)
  clear hk9
  refine z_put X h0 rfl in_R ty_R_ok n_R 4 (by decide) (wq lf_R_17) rfl rfl rfl (Nat.le_of_ble_eq_true rfl) d_R_init_22 ?_
  refine z_named (fun k_5 hk9 => ?_)
  replace r0 := (r0.to (k2 := k_5) (by rw [hk9]; exact up_ne (by omega)))
  replace r1 := (r1.to (k2 := k_5) (by rw [hk9]; exact up_ne (by omega)))
  clear h0
  have h0 : zc b (258) k_5 (b + 255) (.inr (6, [.int 0, .int 0, .int (nI 1), .ref (b + 256), .ref (b + 257), .null, .null, .null, .null, .null, .null, .null, .int 0, .null, .null, .null, .null, .null, .null, .null, .null, .null])) := by rw [hk9]; exact ⟨by omega, by omega, up_eq⟩
  replace hf : ∀ q, q < b + 255 → k_5 q = k q := fun q hq => by rw [hk9]; exact (up_ne (by omega)).trans (hf q hq)
  clear hk9
  refine z_aload_n X d_R_init_25 rfl ?_
  refine z_bipush X d_R_init_26 (v := nI 12) (by decide +kernel) ?_
  refine z_newa X (atype := .int) (ty := .int) (cA := tI) (wq vk_int) rfl 0 rfl (fun q => q) (n := 12) (a0 := (12, .inl (fun _ => 0))) rfl rfl (by decide) (by decide +kernel) (show 0 + 1 + 1 + 1 ≤ 18 by omega) (show 0 + 12 + 12 + 12 ≤ 2228 by omega) d_R_init_28 ?_
  refine z_named (fun k_6 hk9 => ?_)
  replace h0 := (h0.to (k2 := k_6) (by rw [hk9]; exact up_ne (by omega))).more (N2 := 259) (by omega)
  replace r0 := (r0.to (k2 := k_6) (by rw [hk9]; exact up_ne (by omega))).more (N2 := 259) (by omega)
  replace r1 := (r1.to (k2 := k_6) (by rw [hk9]; exact up_ne (by omega))).more (N2 := 259) (by omega)
  have r2 : zc b (259) k_6 (b + 258) (aI tI 12 (fun _ => 0)) := by rw [hk9]; exact ⟨by omega, by omega, up_eq⟩
  replace hf : ∀ q, q < b + 255 → k_6 q = k q := fun q hq => by rw [hk9]; exact (up_ne (by omega)).trans (hf q hq)
  clear hk9
  refine z_put X h0 rfl in_R ty_R_ok n_R 5 (by decide) (wq lf_R_21) rfl rfl rfl (Nat.le_of_ble_eq_true rfl) d_R_init_30 ?_
  refine z_named (fun k_7 hk9 => ?_)
  replace r0 := (r0.to (k2 := k_7) (by rw [hk9]; exact up_ne (by omega)))
  replace r1 := (r1.to (k2 := k_7) (by rw [hk9]; exact up_ne (by omega)))
  replace r2 := (r2.to (k2 := k_7) (by rw [hk9]; exact up_ne (by omega)))
  clear h0
  have h0 : zc b (259) k_7 (b + 255) (.inr (6, [.int 0, .int 0, .int (nI 1), .ref (b + 256), .ref (b + 257), .ref (b + 258), .null, .null, .null, .null, .null, .null, .int 0, .null, .null, .null, .null, .null, .null, .null, .null, .null])) := by rw [hk9]; exact ⟨by omega, by omega, up_eq⟩
  replace hf : ∀ q, q < b + 255 → k_7 q = k q := fun q hq => by rw [hk9]; exact (up_ne (by omega)).trans (hf q hq)
  clear hk9
  refine z_aload_n X d_R_init_33 rfl ?_
  refine z_sipush X d_R_init_34 (v := nI 576) (by decide +kernel) ?_
  refine z_newa X (atype := .int) (ty := .int) (cA := tI) (wq vk_int) rfl 0 rfl (fun q => q) (n := 576) (a0 := (576, .inl (fun _ => 0))) rfl rfl (by decide) (by decide +kernel) (show 0 + 1 + 1 + 1 + 1 ≤ 18 by omega) (show 0 + 12 + 12 + 12 + 576 ≤ 2228 by omega) d_R_init_37 ?_
  refine z_named (fun k_8 hk9 => ?_)
  replace h0 := (h0.to (k2 := k_8) (by rw [hk9]; exact up_ne (by omega))).more (N2 := 260) (by omega)
  replace r0 := (r0.to (k2 := k_8) (by rw [hk9]; exact up_ne (by omega))).more (N2 := 260) (by omega)
  replace r1 := (r1.to (k2 := k_8) (by rw [hk9]; exact up_ne (by omega))).more (N2 := 260) (by omega)
  replace r2 := (r2.to (k2 := k_8) (by rw [hk9]; exact up_ne (by omega))).more (N2 := 260) (by omega)
  have r3 : zc b (260) k_8 (b + 259) (aI tI 576 (fun _ => 0)) := by rw [hk9]; exact ⟨by omega, by omega, up_eq⟩
  replace hf : ∀ q, q < b + 255 → k_8 q = k q := fun q hq => by rw [hk9]; exact (up_ne (by omega)).trans (hf q hq)
  clear hk9
  refine z_put X h0 rfl in_R ty_R_ok n_R 6 (by decide) (wq lf_R_24) rfl rfl rfl (Nat.le_of_ble_eq_true rfl) d_R_init_39 ?_
  refine z_named (fun k_9 hk9 => ?_)
  replace r0 := (r0.to (k2 := k_9) (by rw [hk9]; exact up_ne (by omega)))
  replace r1 := (r1.to (k2 := k_9) (by rw [hk9]; exact up_ne (by omega)))
  replace r2 := (r2.to (k2 := k_9) (by rw [hk9]; exact up_ne (by omega)))
  replace r3 := (r3.to (k2 := k_9) (by rw [hk9]; exact up_ne (by omega)))
  clear h0
  have h0 : zc b (260) k_9 (b + 255) (.inr (6, [.int 0, .int 0, .int (nI 1), .ref (b + 256), .ref (b + 257), .ref (b + 258), .ref (b + 259), .null, .null, .null, .null, .null, .int 0, .null, .null, .null, .null, .null, .null, .null, .null, .null])) := by rw [hk9]; exact ⟨by omega, by omega, up_eq⟩
  replace hf : ∀ q, q < b + 255 → k_9 q = k q := fun q hq => by rw [hk9]; exact (up_ne (by omega)).trans (hf q hq)
  clear hk9
  refine z_aload_n X d_R_init_42 rfl ?_
  refine z_bipush X d_R_init_43 (v := nI 12) (by decide +kernel) ?_
  refine z_newa X (atype := .int) (ty := .int) (cA := tI) (wq vk_int) rfl 0 rfl (fun q => q) (n := 12) (a0 := (12, .inl (fun _ => 0))) rfl rfl (by decide) (by decide +kernel) (show 0 + 1 + 1 + 1 + 1 + 1 ≤ 18 by omega) (show 0 + 12 + 12 + 12 + 576 + 12 ≤ 2228 by omega) d_R_init_45 ?_
  refine z_named (fun k_10 hk9 => ?_)
  replace h0 := (h0.to (k2 := k_10) (by rw [hk9]; exact up_ne (by omega))).more (N2 := 261) (by omega)
  replace r0 := (r0.to (k2 := k_10) (by rw [hk9]; exact up_ne (by omega))).more (N2 := 261) (by omega)
  replace r1 := (r1.to (k2 := k_10) (by rw [hk9]; exact up_ne (by omega))).more (N2 := 261) (by omega)
  replace r2 := (r2.to (k2 := k_10) (by rw [hk9]; exact up_ne (by omega))).more (N2 := 261) (by omega)
  replace r3 := (r3.to (k2 := k_10) (by rw [hk9]; exact up_ne (by omega))).more (N2 := 261) (by omega)
  have r4 : zc b (261) k_10 (b + 260) (aI tI 12 (fun _ => 0)) := by rw [hk9]; exact ⟨by omega, by omega, up_eq⟩
  replace hf : ∀ q, q < b + 255 → k_10 q = k q := fun q hq => by rw [hk9]; exact (up_ne (by omega)).trans (hf q hq)
  clear hk9
  refine z_put X h0 rfl in_R ty_R_ok n_R 7 (by decide) (wq lf_R_27) rfl rfl rfl (Nat.le_of_ble_eq_true rfl) d_R_init_47 ?_
  refine z_named (fun k_11 hk9 => ?_)
  replace r0 := (r0.to (k2 := k_11) (by rw [hk9]; exact up_ne (by omega)))
  replace r1 := (r1.to (k2 := k_11) (by rw [hk9]; exact up_ne (by omega)))
  replace r2 := (r2.to (k2 := k_11) (by rw [hk9]; exact up_ne (by omega)))
  replace r3 := (r3.to (k2 := k_11) (by rw [hk9]; exact up_ne (by omega)))
  replace r4 := (r4.to (k2 := k_11) (by rw [hk9]; exact up_ne (by omega)))
  clear h0
  have h0 : zc b (261) k_11 (b + 255) (.inr (6, [.int 0, .int 0, .int (nI 1), .ref (b + 256), .ref (b + 257), .ref (b + 258), .ref (b + 259), .ref (b + 260), .null, .null, .null, .null, .int 0, .null, .null, .null, .null, .null, .null, .null, .null, .null])) := by rw [hk9]; exact ⟨by omega, by omega, up_eq⟩
  replace hf : ∀ q, q < b + 255 → k_11 q = k q := fun q hq => by rw [hk9]; exact (up_ne (by omega)).trans (hf q hq)
  clear hk9
  refine z_aload_n X d_R_init_50 rfl ?_
  refine z_bipush X d_R_init_51 (v := nI 48) (by decide +kernel) ?_
  refine z_newa X (atype := .int) (ty := .int) (cA := tI) (wq vk_int) rfl 0 rfl (fun q => q) (n := 48) (a0 := (48, .inl (fun _ => 0))) rfl rfl (by decide) (by decide +kernel) (show 0 + 1 + 1 + 1 + 1 + 1 + 1 ≤ 18 by omega) (show 0 + 12 + 12 + 12 + 576 + 12 + 48 ≤ 2228 by omega) d_R_init_53 ?_
  refine z_named (fun k_12 hk9 => ?_)
  replace h0 := (h0.to (k2 := k_12) (by rw [hk9]; exact up_ne (by omega))).more (N2 := 262) (by omega)
  replace r0 := (r0.to (k2 := k_12) (by rw [hk9]; exact up_ne (by omega))).more (N2 := 262) (by omega)
  replace r1 := (r1.to (k2 := k_12) (by rw [hk9]; exact up_ne (by omega))).more (N2 := 262) (by omega)
  replace r2 := (r2.to (k2 := k_12) (by rw [hk9]; exact up_ne (by omega))).more (N2 := 262) (by omega)
  replace r3 := (r3.to (k2 := k_12) (by rw [hk9]; exact up_ne (by omega))).more (N2 := 262) (by omega)
  replace r4 := (r4.to (k2 := k_12) (by rw [hk9]; exact up_ne (by omega))).more (N2 := 262) (by omega)
  have r5 : zc b (262) k_12 (b + 261) (aI tI 48 (fun _ => 0)) := by rw [hk9]; exact ⟨by omega, by omega, up_eq⟩
  replace hf : ∀ q, q < b + 255 → k_12 q = k q := fun q hq => by rw [hk9]; exact (up_ne (by omega)).trans (hf q hq)
  clear hk9
  refine z_put X h0 rfl in_R ty_R_ok n_R 8 (by decide) (wq lf_R_30) rfl rfl rfl (Nat.le_of_ble_eq_true rfl) d_R_init_55 ?_
  refine z_named (fun k_13 hk9 => ?_)
  replace r0 := (r0.to (k2 := k_13) (by rw [hk9]; exact up_ne (by omega)))
  replace r1 := (r1.to (k2 := k_13) (by rw [hk9]; exact up_ne (by omega)))
  replace r2 := (r2.to (k2 := k_13) (by rw [hk9]; exact up_ne (by omega)))
  replace r3 := (r3.to (k2 := k_13) (by rw [hk9]; exact up_ne (by omega)))
  replace r4 := (r4.to (k2 := k_13) (by rw [hk9]; exact up_ne (by omega)))
  replace r5 := (r5.to (k2 := k_13) (by rw [hk9]; exact up_ne (by omega)))
  clear h0
  have h0 : zc b (262) k_13 (b + 255) (.inr (6, [.int 0, .int 0, .int (nI 1), .ref (b + 256), .ref (b + 257), .ref (b + 258), .ref (b + 259), .ref (b + 260), .ref (b + 261), .null, .null, .null, .int 0, .null, .null, .null, .null, .null, .null, .null, .null, .null])) := by rw [hk9]; exact ⟨by omega, by omega, up_eq⟩
  replace hf : ∀ q, q < b + 255 → k_13 q = k q := fun q hq => by rw [hk9]; exact (up_ne (by omega)).trans (hf q hq)
  clear hk9
  refine z_aload_n X d_R_init_58 rfl ?_
  refine z_bipush X d_R_init_59 (v := nI 12) (by decide +kernel) ?_
  refine z_newa X (atype := .int) (ty := .int) (cA := tI) (wq vk_int) rfl 0 rfl (fun q => q) (n := 12) (a0 := (12, .inl (fun _ => 0))) rfl rfl (by decide) (by decide +kernel) (show 0 + 1 + 1 + 1 + 1 + 1 + 1 + 1 ≤ 18 by omega) (show 0 + 12 + 12 + 12 + 576 + 12 + 48 + 12 ≤ 2228 by omega) d_R_init_61 ?_
  refine z_named (fun k_14 hk9 => ?_)
  replace h0 := (h0.to (k2 := k_14) (by rw [hk9]; exact up_ne (by omega))).more (N2 := 263) (by omega)
  replace r0 := (r0.to (k2 := k_14) (by rw [hk9]; exact up_ne (by omega))).more (N2 := 263) (by omega)
  replace r1 := (r1.to (k2 := k_14) (by rw [hk9]; exact up_ne (by omega))).more (N2 := 263) (by omega)
  replace r2 := (r2.to (k2 := k_14) (by rw [hk9]; exact up_ne (by omega))).more (N2 := 263) (by omega)
  replace r3 := (r3.to (k2 := k_14) (by rw [hk9]; exact up_ne (by omega))).more (N2 := 263) (by omega)
  replace r4 := (r4.to (k2 := k_14) (by rw [hk9]; exact up_ne (by omega))).more (N2 := 263) (by omega)
  replace r5 := (r5.to (k2 := k_14) (by rw [hk9]; exact up_ne (by omega))).more (N2 := 263) (by omega)
  have r6 : zc b (263) k_14 (b + 262) (aI tI 12 (fun _ => 0)) := by rw [hk9]; exact ⟨by omega, by omega, up_eq⟩
  replace hf : ∀ q, q < b + 255 → k_14 q = k q := fun q hq => by rw [hk9]; exact (up_ne (by omega)).trans (hf q hq)
  clear hk9
  refine z_put X h0 rfl in_R ty_R_ok n_R 9 (by decide) (wq lf_R_33) rfl rfl rfl (Nat.le_of_ble_eq_true rfl) d_R_init_63 ?_
  refine z_named (fun k_15 hk9 => ?_)
  replace r0 := (r0.to (k2 := k_15) (by rw [hk9]; exact up_ne (by omega)))
  replace r1 := (r1.to (k2 := k_15) (by rw [hk9]; exact up_ne (by omega)))
  replace r2 := (r2.to (k2 := k_15) (by rw [hk9]; exact up_ne (by omega)))
  replace r3 := (r3.to (k2 := k_15) (by rw [hk9]; exact up_ne (by omega)))
  replace r4 := (r4.to (k2 := k_15) (by rw [hk9]; exact up_ne (by omega)))
  replace r5 := (r5.to (k2 := k_15) (by rw [hk9]; exact up_ne (by omega)))
  replace r6 := (r6.to (k2 := k_15) (by rw [hk9]; exact up_ne (by omega)))
  clear h0
  have h0 : zc b (263) k_15 (b + 255) (.inr (6, [.int 0, .int 0, .int (nI 1), .ref (b + 256), .ref (b + 257), .ref (b + 258), .ref (b + 259), .ref (b + 260), .ref (b + 261), .ref (b + 262), .null, .null, .int 0, .null, .null, .null, .null, .null, .null, .null, .null, .null])) := by rw [hk9]; exact ⟨by omega, by omega, up_eq⟩
  replace hf : ∀ q, q < b + 255 → k_15 q = k q := fun q hq => by rw [hk9]; exact (up_ne (by omega)).trans (hf q hq)
  clear hk9
  refine z_aload_n X d_R_init_66 rfl ?_
  refine z_bipush X d_R_init_67 (v := nI 12) (by decide +kernel) ?_
  refine z_newa X (atype := .int) (ty := .int) (cA := tI) (wq vk_int) rfl 0 rfl (fun q => q) (n := 12) (a0 := (12, .inl (fun _ => 0))) rfl rfl (by decide) (by decide +kernel) (show 0 + 1 + 1 + 1 + 1 + 1 + 1 + 1 + 1 ≤ 18 by omega) (show 0 + 12 + 12 + 12 + 576 + 12 + 48 + 12 + 12 ≤ 2228 by omega) d_R_init_69 ?_
  refine z_named (fun k_16 hk9 => ?_)
  replace h0 := (h0.to (k2 := k_16) (by rw [hk9]; exact up_ne (by omega))).more (N2 := 264) (by omega)
  replace r0 := (r0.to (k2 := k_16) (by rw [hk9]; exact up_ne (by omega))).more (N2 := 264) (by omega)
  replace r1 := (r1.to (k2 := k_16) (by rw [hk9]; exact up_ne (by omega))).more (N2 := 264) (by omega)
  replace r2 := (r2.to (k2 := k_16) (by rw [hk9]; exact up_ne (by omega))).more (N2 := 264) (by omega)
  replace r3 := (r3.to (k2 := k_16) (by rw [hk9]; exact up_ne (by omega))).more (N2 := 264) (by omega)
  replace r4 := (r4.to (k2 := k_16) (by rw [hk9]; exact up_ne (by omega))).more (N2 := 264) (by omega)
  replace r5 := (r5.to (k2 := k_16) (by rw [hk9]; exact up_ne (by omega))).more (N2 := 264) (by omega)
  replace r6 := (r6.to (k2 := k_16) (by rw [hk9]; exact up_ne (by omega))).more (N2 := 264) (by omega)
  have r7 : zc b (264) k_16 (b + 263) (aI tI 12 (fun _ => 0)) := by rw [hk9]; exact ⟨by omega, by omega, up_eq⟩
  replace hf : ∀ q, q < b + 255 → k_16 q = k q := fun q hq => by rw [hk9]; exact (up_ne (by omega)).trans (hf q hq)
  clear hk9
  refine z_put X h0 rfl in_R ty_R_ok n_R 10 (by decide) (wq lf_R_36) rfl rfl rfl (Nat.le_of_ble_eq_true rfl) d_R_init_71 ?_
  refine z_named (fun k_17 hk9 => ?_)
  replace r0 := (r0.to (k2 := k_17) (by rw [hk9]; exact up_ne (by omega)))
  replace r1 := (r1.to (k2 := k_17) (by rw [hk9]; exact up_ne (by omega)))
  replace r2 := (r2.to (k2 := k_17) (by rw [hk9]; exact up_ne (by omega)))
  replace r3 := (r3.to (k2 := k_17) (by rw [hk9]; exact up_ne (by omega)))
  replace r4 := (r4.to (k2 := k_17) (by rw [hk9]; exact up_ne (by omega)))
  replace r5 := (r5.to (k2 := k_17) (by rw [hk9]; exact up_ne (by omega)))
  replace r6 := (r6.to (k2 := k_17) (by rw [hk9]; exact up_ne (by omega)))
  replace r7 := (r7.to (k2 := k_17) (by rw [hk9]; exact up_ne (by omega)))
  clear h0
  have h0 : zc b (264) k_17 (b + 255) (.inr (6, [.int 0, .int 0, .int (nI 1), .ref (b + 256), .ref (b + 257), .ref (b + 258), .ref (b + 259), .ref (b + 260), .ref (b + 261), .ref (b + 262), .ref (b + 263), .null, .int 0, .null, .null, .null, .null, .null, .null, .null, .null, .null])) := by rw [hk9]; exact ⟨by omega, by omega, up_eq⟩
  replace hf : ∀ q, q < b + 255 → k_17 q = k q := fun q hq => by rw [hk9]; exact (up_ne (by omega)).trans (hf q hq)
  clear hk9
  refine z_aload_n X d_R_init_74 rfl ?_
  refine z_sipush X d_R_init_75 (v := nI 144) (by decide +kernel) ?_
  refine z_newa X (atype := .int) (ty := .int) (cA := tI) (wq vk_int) rfl 0 rfl (fun q => q) (n := 144) (a0 := (144, .inl (fun _ => 0))) rfl rfl (by decide) (by decide +kernel) (show 0 + 1 + 1 + 1 + 1 + 1 + 1 + 1 + 1 + 1 ≤ 18 by omega) (show 0 + 12 + 12 + 12 + 576 + 12 + 48 + 12 + 12 + 144 ≤ 2228 by omega) d_R_init_78 ?_
  refine z_named (fun k_18 hk9 => ?_)
  replace h0 := (h0.to (k2 := k_18) (by rw [hk9]; exact up_ne (by omega))).more (N2 := 265) (by omega)
  replace r0 := (r0.to (k2 := k_18) (by rw [hk9]; exact up_ne (by omega))).more (N2 := 265) (by omega)
  replace r1 := (r1.to (k2 := k_18) (by rw [hk9]; exact up_ne (by omega))).more (N2 := 265) (by omega)
  replace r2 := (r2.to (k2 := k_18) (by rw [hk9]; exact up_ne (by omega))).more (N2 := 265) (by omega)
  replace r3 := (r3.to (k2 := k_18) (by rw [hk9]; exact up_ne (by omega))).more (N2 := 265) (by omega)
  replace r4 := (r4.to (k2 := k_18) (by rw [hk9]; exact up_ne (by omega))).more (N2 := 265) (by omega)
  replace r5 := (r5.to (k2 := k_18) (by rw [hk9]; exact up_ne (by omega))).more (N2 := 265) (by omega)
  replace r6 := (r6.to (k2 := k_18) (by rw [hk9]; exact up_ne (by omega))).more (N2 := 265) (by omega)
  replace r7 := (r7.to (k2 := k_18) (by rw [hk9]; exact up_ne (by omega))).more (N2 := 265) (by omega)
  have r8 : zc b (265) k_18 (b + 264) (aI tI 144 (fun _ => 0)) := by rw [hk9]; exact ⟨by omega, by omega, up_eq⟩
  replace hf : ∀ q, q < b + 255 → k_18 q = k q := fun q hq => by rw [hk9]; exact (up_ne (by omega)).trans (hf q hq)
  clear hk9
  refine z_put X h0 rfl in_R ty_R_ok n_R 11 (by decide) (wq lf_R_39) rfl rfl rfl (Nat.le_of_ble_eq_true rfl) d_R_init_80 ?_
  refine z_named (fun k_19 hk9 => ?_)
  replace r0 := (r0.to (k2 := k_19) (by rw [hk9]; exact up_ne (by omega)))
  replace r1 := (r1.to (k2 := k_19) (by rw [hk9]; exact up_ne (by omega)))
  replace r2 := (r2.to (k2 := k_19) (by rw [hk9]; exact up_ne (by omega)))
  replace r3 := (r3.to (k2 := k_19) (by rw [hk9]; exact up_ne (by omega)))
  replace r4 := (r4.to (k2 := k_19) (by rw [hk9]; exact up_ne (by omega)))
  replace r5 := (r5.to (k2 := k_19) (by rw [hk9]; exact up_ne (by omega)))
  replace r6 := (r6.to (k2 := k_19) (by rw [hk9]; exact up_ne (by omega)))
  replace r7 := (r7.to (k2 := k_19) (by rw [hk9]; exact up_ne (by omega)))
  replace r8 := (r8.to (k2 := k_19) (by rw [hk9]; exact up_ne (by omega)))
  clear h0
  have h0 : zc b (265) k_19 (b + 255) (.inr (6, [.int 0, .int 0, .int (nI 1), .ref (b + 256), .ref (b + 257), .ref (b + 258), .ref (b + 259), .ref (b + 260), .ref (b + 261), .ref (b + 262), .ref (b + 263), .ref (b + 264), .int 0, .null, .null, .null, .null, .null, .null, .null, .null, .null])) := by rw [hk9]; exact ⟨by omega, by omega, up_eq⟩
  replace hf : ∀ q, q < b + 255 → k_19 q = k q := fun q hq => by rw [hk9]; exact (up_ne (by omega)).trans (hf q hq)
  clear hk9
  refine z_aload_n X d_R_init_83 rfl ?_
  refine z_bipush X d_R_init_84 (v := nI 12) (by decide +kernel) ?_
  refine z_newa X (atype := .int) (ty := .int) (cA := tI) (wq vk_int) rfl 0 rfl (fun q => q) (n := 12) (a0 := (12, .inl (fun _ => 0))) rfl rfl (by decide) (by decide +kernel) (show 0 + 1 + 1 + 1 + 1 + 1 + 1 + 1 + 1 + 1 + 1 ≤ 18 by omega) (show 0 + 12 + 12 + 12 + 576 + 12 + 48 + 12 + 12 + 144 + 12 ≤ 2228 by omega) d_R_init_86 ?_
  refine z_named (fun k_20 hk9 => ?_)
  replace h0 := (h0.to (k2 := k_20) (by rw [hk9]; exact up_ne (by omega))).more (N2 := 266) (by omega)
  replace r0 := (r0.to (k2 := k_20) (by rw [hk9]; exact up_ne (by omega))).more (N2 := 266) (by omega)
  replace r1 := (r1.to (k2 := k_20) (by rw [hk9]; exact up_ne (by omega))).more (N2 := 266) (by omega)
  replace r2 := (r2.to (k2 := k_20) (by rw [hk9]; exact up_ne (by omega))).more (N2 := 266) (by omega)
  replace r3 := (r3.to (k2 := k_20) (by rw [hk9]; exact up_ne (by omega))).more (N2 := 266) (by omega)
  replace r4 := (r4.to (k2 := k_20) (by rw [hk9]; exact up_ne (by omega))).more (N2 := 266) (by omega)
  replace r5 := (r5.to (k2 := k_20) (by rw [hk9]; exact up_ne (by omega))).more (N2 := 266) (by omega)
  replace r6 := (r6.to (k2 := k_20) (by rw [hk9]; exact up_ne (by omega))).more (N2 := 266) (by omega)
  replace r7 := (r7.to (k2 := k_20) (by rw [hk9]; exact up_ne (by omega))).more (N2 := 266) (by omega)
  replace r8 := (r8.to (k2 := k_20) (by rw [hk9]; exact up_ne (by omega))).more (N2 := 266) (by omega)
  have r9 : zc b (266) k_20 (b + 265) (aI tI 12 (fun _ => 0)) := by rw [hk9]; exact ⟨by omega, by omega, up_eq⟩
  replace hf : ∀ q, q < b + 255 → k_20 q = k q := fun q hq => by rw [hk9]; exact (up_ne (by omega)).trans (hf q hq)
  clear hk9
  refine z_put X h0 rfl in_R ty_R_ok n_R 13 (by decide) (wq lf_R_42) rfl rfl rfl (Nat.le_of_ble_eq_true rfl) d_R_init_88 ?_
  refine z_named (fun k_21 hk9 => ?_)
  replace r0 := (r0.to (k2 := k_21) (by rw [hk9]; exact up_ne (by omega)))
  replace r1 := (r1.to (k2 := k_21) (by rw [hk9]; exact up_ne (by omega)))
  replace r2 := (r2.to (k2 := k_21) (by rw [hk9]; exact up_ne (by omega)))
  replace r3 := (r3.to (k2 := k_21) (by rw [hk9]; exact up_ne (by omega)))
  replace r4 := (r4.to (k2 := k_21) (by rw [hk9]; exact up_ne (by omega)))
  replace r5 := (r5.to (k2 := k_21) (by rw [hk9]; exact up_ne (by omega)))
  replace r6 := (r6.to (k2 := k_21) (by rw [hk9]; exact up_ne (by omega)))
  replace r7 := (r7.to (k2 := k_21) (by rw [hk9]; exact up_ne (by omega)))
  replace r8 := (r8.to (k2 := k_21) (by rw [hk9]; exact up_ne (by omega)))
  replace r9 := (r9.to (k2 := k_21) (by rw [hk9]; exact up_ne (by omega)))
  clear h0
  have h0 : zc b (266) k_21 (b + 255) (.inr (6, [.int 0, .int 0, .int (nI 1), .ref (b + 256), .ref (b + 257), .ref (b + 258), .ref (b + 259), .ref (b + 260), .ref (b + 261), .ref (b + 262), .ref (b + 263), .ref (b + 264), .int 0, .ref (b + 265), .null, .null, .null, .null, .null, .null, .null, .null])) := by rw [hk9]; exact ⟨by omega, by omega, up_eq⟩
  replace hf : ∀ q, q < b + 255 → k_21 q = k q := fun q hq => by rw [hk9]; exact (up_ne (by omega)).trans (hf q hq)
  clear hk9
  refine z_aload_n X d_R_init_91 rfl ?_
  refine z_bipush X d_R_init_92 (v := nI 12) (by decide +kernel) ?_
  refine z_newa X (atype := .int) (ty := .int) (cA := tI) (wq vk_int) rfl 0 rfl (fun q => q) (n := 12) (a0 := (12, .inl (fun _ => 0))) rfl rfl (by decide) (by decide +kernel) (show 0 + 1 + 1 + 1 + 1 + 1 + 1 + 1 + 1 + 1 + 1 + 1 ≤ 18 by omega) (show 0 + 12 + 12 + 12 + 576 + 12 + 48 + 12 + 12 + 144 + 12 + 12 ≤ 2228 by omega) d_R_init_94 ?_
  refine z_named (fun k_22 hk9 => ?_)
  replace h0 := (h0.to (k2 := k_22) (by rw [hk9]; exact up_ne (by omega))).more (N2 := 267) (by omega)
  replace r0 := (r0.to (k2 := k_22) (by rw [hk9]; exact up_ne (by omega))).more (N2 := 267) (by omega)
  replace r1 := (r1.to (k2 := k_22) (by rw [hk9]; exact up_ne (by omega))).more (N2 := 267) (by omega)
  replace r2 := (r2.to (k2 := k_22) (by rw [hk9]; exact up_ne (by omega))).more (N2 := 267) (by omega)
  replace r3 := (r3.to (k2 := k_22) (by rw [hk9]; exact up_ne (by omega))).more (N2 := 267) (by omega)
  replace r4 := (r4.to (k2 := k_22) (by rw [hk9]; exact up_ne (by omega))).more (N2 := 267) (by omega)
  replace r5 := (r5.to (k2 := k_22) (by rw [hk9]; exact up_ne (by omega))).more (N2 := 267) (by omega)
  replace r6 := (r6.to (k2 := k_22) (by rw [hk9]; exact up_ne (by omega))).more (N2 := 267) (by omega)
  replace r7 := (r7.to (k2 := k_22) (by rw [hk9]; exact up_ne (by omega))).more (N2 := 267) (by omega)
  replace r8 := (r8.to (k2 := k_22) (by rw [hk9]; exact up_ne (by omega))).more (N2 := 267) (by omega)
  replace r9 := (r9.to (k2 := k_22) (by rw [hk9]; exact up_ne (by omega))).more (N2 := 267) (by omega)
  have r10 : zc b (267) k_22 (b + 266) (aI tI 12 (fun _ => 0)) := by rw [hk9]; exact ⟨by omega, by omega, up_eq⟩
  replace hf : ∀ q, q < b + 255 → k_22 q = k q := fun q hq => by rw [hk9]; exact (up_ne (by omega)).trans (hf q hq)
  clear hk9
  refine z_put X h0 rfl in_R ty_R_ok n_R 14 (by decide) (wq lf_R_45) rfl rfl rfl (Nat.le_of_ble_eq_true rfl) d_R_init_96 ?_
  refine z_named (fun k_23 hk9 => ?_)
  replace r0 := (r0.to (k2 := k_23) (by rw [hk9]; exact up_ne (by omega)))
  replace r1 := (r1.to (k2 := k_23) (by rw [hk9]; exact up_ne (by omega)))
  replace r2 := (r2.to (k2 := k_23) (by rw [hk9]; exact up_ne (by omega)))
  replace r3 := (r3.to (k2 := k_23) (by rw [hk9]; exact up_ne (by omega)))
  replace r4 := (r4.to (k2 := k_23) (by rw [hk9]; exact up_ne (by omega)))
  replace r5 := (r5.to (k2 := k_23) (by rw [hk9]; exact up_ne (by omega)))
  replace r6 := (r6.to (k2 := k_23) (by rw [hk9]; exact up_ne (by omega)))
  replace r7 := (r7.to (k2 := k_23) (by rw [hk9]; exact up_ne (by omega)))
  replace r8 := (r8.to (k2 := k_23) (by rw [hk9]; exact up_ne (by omega)))
  replace r9 := (r9.to (k2 := k_23) (by rw [hk9]; exact up_ne (by omega)))
  replace r10 := (r10.to (k2 := k_23) (by rw [hk9]; exact up_ne (by omega)))
  clear h0
  have h0 : zc b (267) k_23 (b + 255) (.inr (6, [.int 0, .int 0, .int (nI 1), .ref (b + 256), .ref (b + 257), .ref (b + 258), .ref (b + 259), .ref (b + 260), .ref (b + 261), .ref (b + 262), .ref (b + 263), .ref (b + 264), .int 0, .ref (b + 265), .ref (b + 266), .null, .null, .null, .null, .null, .null, .null])) := by rw [hk9]; exact ⟨by omega, by omega, up_eq⟩
  replace hf : ∀ q, q < b + 255 → k_23 q = k q := fun q hq => by rw [hk9]; exact (up_ne (by omega)).trans (hf q hq)
  clear hk9
  refine z_aload_n X d_R_init_99 rfl ?_
  refine z_bipush X d_R_init_100 (v := nI 12) (by decide +kernel) ?_
  refine z_newa X (atype := .int) (ty := .int) (cA := tI) (wq vk_int) rfl 0 rfl (fun q => q) (n := 12) (a0 := (12, .inl (fun _ => 0))) rfl rfl (by decide) (by decide +kernel) (show 0 + 1 + 1 + 1 + 1 + 1 + 1 + 1 + 1 + 1 + 1 + 1 + 1 ≤ 18 by omega) (show 0 + 12 + 12 + 12 + 576 + 12 + 48 + 12 + 12 + 144 + 12 + 12 + 12 ≤ 2228 by omega) d_R_init_102 ?_
  refine z_named (fun k_24 hk9 => ?_)
  replace h0 := (h0.to (k2 := k_24) (by rw [hk9]; exact up_ne (by omega))).more (N2 := 268) (by omega)
  replace r0 := (r0.to (k2 := k_24) (by rw [hk9]; exact up_ne (by omega))).more (N2 := 268) (by omega)
  replace r1 := (r1.to (k2 := k_24) (by rw [hk9]; exact up_ne (by omega))).more (N2 := 268) (by omega)
  replace r2 := (r2.to (k2 := k_24) (by rw [hk9]; exact up_ne (by omega))).more (N2 := 268) (by omega)
  replace r3 := (r3.to (k2 := k_24) (by rw [hk9]; exact up_ne (by omega))).more (N2 := 268) (by omega)
  replace r4 := (r4.to (k2 := k_24) (by rw [hk9]; exact up_ne (by omega))).more (N2 := 268) (by omega)
  replace r5 := (r5.to (k2 := k_24) (by rw [hk9]; exact up_ne (by omega))).more (N2 := 268) (by omega)
  replace r6 := (r6.to (k2 := k_24) (by rw [hk9]; exact up_ne (by omega))).more (N2 := 268) (by omega)
  replace r7 := (r7.to (k2 := k_24) (by rw [hk9]; exact up_ne (by omega))).more (N2 := 268) (by omega)
  replace r8 := (r8.to (k2 := k_24) (by rw [hk9]; exact up_ne (by omega))).more (N2 := 268) (by omega)
  replace r9 := (r9.to (k2 := k_24) (by rw [hk9]; exact up_ne (by omega))).more (N2 := 268) (by omega)
  replace r10 := (r10.to (k2 := k_24) (by rw [hk9]; exact up_ne (by omega))).more (N2 := 268) (by omega)
  have r11 : zc b (268) k_24 (b + 267) (aI tI 12 (fun _ => 0)) := by rw [hk9]; exact ⟨by omega, by omega, up_eq⟩
  replace hf : ∀ q, q < b + 255 → k_24 q = k q := fun q hq => by rw [hk9]; exact (up_ne (by omega)).trans (hf q hq)
  clear hk9
  refine z_put X h0 rfl in_R ty_R_ok n_R 15 (by decide) (wq lf_R_48) rfl rfl rfl (Nat.le_of_ble_eq_true rfl) d_R_init_104 ?_
  refine z_named (fun k_25 hk9 => ?_)
  replace r0 := (r0.to (k2 := k_25) (by rw [hk9]; exact up_ne (by omega)))
  replace r1 := (r1.to (k2 := k_25) (by rw [hk9]; exact up_ne (by omega)))
  replace r2 := (r2.to (k2 := k_25) (by rw [hk9]; exact up_ne (by omega)))
  replace r3 := (r3.to (k2 := k_25) (by rw [hk9]; exact up_ne (by omega)))
  replace r4 := (r4.to (k2 := k_25) (by rw [hk9]; exact up_ne (by omega)))
  replace r5 := (r5.to (k2 := k_25) (by rw [hk9]; exact up_ne (by omega)))
  replace r6 := (r6.to (k2 := k_25) (by rw [hk9]; exact up_ne (by omega)))
  replace r7 := (r7.to (k2 := k_25) (by rw [hk9]; exact up_ne (by omega)))
  replace r8 := (r8.to (k2 := k_25) (by rw [hk9]; exact up_ne (by omega)))
  replace r9 := (r9.to (k2 := k_25) (by rw [hk9]; exact up_ne (by omega)))
  replace r10 := (r10.to (k2 := k_25) (by rw [hk9]; exact up_ne (by omega)))
  replace r11 := (r11.to (k2 := k_25) (by rw [hk9]; exact up_ne (by omega)))
  clear h0
  have h0 : zc b (268) k_25 (b + 255) (.inr (6, [.int 0, .int 0, .int (nI 1), .ref (b + 256), .ref (b + 257), .ref (b + 258), .ref (b + 259), .ref (b + 260), .ref (b + 261), .ref (b + 262), .ref (b + 263), .ref (b + 264), .int 0, .ref (b + 265), .ref (b + 266), .ref (b + 267), .null, .null, .null, .null, .null, .null])) := by rw [hk9]; exact ⟨by omega, by omega, up_eq⟩
  replace hf : ∀ q, q < b + 255 → k_25 q = k q := fun q hq => by rw [hk9]; exact (up_ne (by omega)).trans (hf q hq)
  clear hk9
  refine z_aload_n X d_R_init_107 rfl ?_
  refine z_sipush X d_R_init_108 (v := nI 144) (by decide +kernel) ?_
  refine z_newa X (atype := .int) (ty := .int) (cA := tI) (wq vk_int) rfl 0 rfl (fun q => q) (n := 144) (a0 := (144, .inl (fun _ => 0))) rfl rfl (by decide) (by decide +kernel) (show 0 + 1 + 1 + 1 + 1 + 1 + 1 + 1 + 1 + 1 + 1 + 1 + 1 + 1 ≤ 18 by omega) (show 0 + 12 + 12 + 12 + 576 + 12 + 48 + 12 + 12 + 144 + 12 + 12 + 12 + 144 ≤ 2228 by omega) d_R_init_111 ?_
  refine z_named (fun k_26 hk9 => ?_)
  replace h0 := (h0.to (k2 := k_26) (by rw [hk9]; exact up_ne (by omega))).more (N2 := 269) (by omega)
  replace r0 := (r0.to (k2 := k_26) (by rw [hk9]; exact up_ne (by omega))).more (N2 := 269) (by omega)
  replace r1 := (r1.to (k2 := k_26) (by rw [hk9]; exact up_ne (by omega))).more (N2 := 269) (by omega)
  replace r2 := (r2.to (k2 := k_26) (by rw [hk9]; exact up_ne (by omega))).more (N2 := 269) (by omega)
  replace r3 := (r3.to (k2 := k_26) (by rw [hk9]; exact up_ne (by omega))).more (N2 := 269) (by omega)
  replace r4 := (r4.to (k2 := k_26) (by rw [hk9]; exact up_ne (by omega))).more (N2 := 269) (by omega)
  replace r5 := (r5.to (k2 := k_26) (by rw [hk9]; exact up_ne (by omega))).more (N2 := 269) (by omega)
  replace r6 := (r6.to (k2 := k_26) (by rw [hk9]; exact up_ne (by omega))).more (N2 := 269) (by omega)
  replace r7 := (r7.to (k2 := k_26) (by rw [hk9]; exact up_ne (by omega))).more (N2 := 269) (by omega)
  replace r8 := (r8.to (k2 := k_26) (by rw [hk9]; exact up_ne (by omega))).more (N2 := 269) (by omega)
  replace r9 := (r9.to (k2 := k_26) (by rw [hk9]; exact up_ne (by omega))).more (N2 := 269) (by omega)
  replace r10 := (r10.to (k2 := k_26) (by rw [hk9]; exact up_ne (by omega))).more (N2 := 269) (by omega)
  replace r11 := (r11.to (k2 := k_26) (by rw [hk9]; exact up_ne (by omega))).more (N2 := 269) (by omega)
  have r12 : zc b (269) k_26 (b + 268) (aI tI 144 (fun _ => 0)) := by rw [hk9]; exact ⟨by omega, by omega, up_eq⟩
  replace hf : ∀ q, q < b + 255 → k_26 q = k q := fun q hq => by rw [hk9]; exact (up_ne (by omega)).trans (hf q hq)
  clear hk9
  refine z_put X h0 rfl in_R ty_R_ok n_R 16 (by decide) (wq lf_R_51) rfl rfl rfl (Nat.le_of_ble_eq_true rfl) d_R_init_113 ?_
  refine z_named (fun k_27 hk9 => ?_)
  replace r0 := (r0.to (k2 := k_27) (by rw [hk9]; exact up_ne (by omega)))
  replace r1 := (r1.to (k2 := k_27) (by rw [hk9]; exact up_ne (by omega)))
  replace r2 := (r2.to (k2 := k_27) (by rw [hk9]; exact up_ne (by omega)))
  replace r3 := (r3.to (k2 := k_27) (by rw [hk9]; exact up_ne (by omega)))
  replace r4 := (r4.to (k2 := k_27) (by rw [hk9]; exact up_ne (by omega)))
  replace r5 := (r5.to (k2 := k_27) (by rw [hk9]; exact up_ne (by omega)))
  replace r6 := (r6.to (k2 := k_27) (by rw [hk9]; exact up_ne (by omega)))
  replace r7 := (r7.to (k2 := k_27) (by rw [hk9]; exact up_ne (by omega)))
  replace r8 := (r8.to (k2 := k_27) (by rw [hk9]; exact up_ne (by omega)))
  replace r9 := (r9.to (k2 := k_27) (by rw [hk9]; exact up_ne (by omega)))
  replace r10 := (r10.to (k2 := k_27) (by rw [hk9]; exact up_ne (by omega)))
  replace r11 := (r11.to (k2 := k_27) (by rw [hk9]; exact up_ne (by omega)))
  replace r12 := (r12.to (k2 := k_27) (by rw [hk9]; exact up_ne (by omega)))
  clear h0
  have h0 : zc b (269) k_27 (b + 255) (.inr (6, [.int 0, .int 0, .int (nI 1), .ref (b + 256), .ref (b + 257), .ref (b + 258), .ref (b + 259), .ref (b + 260), .ref (b + 261), .ref (b + 262), .ref (b + 263), .ref (b + 264), .int 0, .ref (b + 265), .ref (b + 266), .ref (b + 267), .ref (b + 268), .null, .null, .null, .null, .null])) := by rw [hk9]; exact ⟨by omega, by omega, up_eq⟩
  replace hf : ∀ q, q < b + 255 → k_27 q = k q := fun q hq => by rw [hk9]; exact (up_ne (by omega)).trans (hf q hq)
  clear hk9
  refine z_aload_n X d_R_init_116 rfl ?_
  refine z_bipush X d_R_init_117 (v := nI 12) (by decide +kernel) ?_
  refine z_newa X (atype := .int) (ty := .int) (cA := tI) (wq vk_int) rfl 0 rfl (fun q => q) (n := 12) (a0 := (12, .inl (fun _ => 0))) rfl rfl (by decide) (by decide +kernel) (show 0 + 1 + 1 + 1 + 1 + 1 + 1 + 1 + 1 + 1 + 1 + 1 + 1 + 1 + 1 ≤ 18 by omega) (show 0 + 12 + 12 + 12 + 576 + 12 + 48 + 12 + 12 + 144 + 12 + 12 + 12 + 144 + 12 ≤ 2228 by omega) d_R_init_119 ?_
  refine z_named (fun k_28 hk9 => ?_)
  replace h0 := (h0.to (k2 := k_28) (by rw [hk9]; exact up_ne (by omega))).more (N2 := 270) (by omega)
  replace r0 := (r0.to (k2 := k_28) (by rw [hk9]; exact up_ne (by omega))).more (N2 := 270) (by omega)
  replace r1 := (r1.to (k2 := k_28) (by rw [hk9]; exact up_ne (by omega))).more (N2 := 270) (by omega)
  replace r2 := (r2.to (k2 := k_28) (by rw [hk9]; exact up_ne (by omega))).more (N2 := 270) (by omega)
  replace r3 := (r3.to (k2 := k_28) (by rw [hk9]; exact up_ne (by omega))).more (N2 := 270) (by omega)
  replace r4 := (r4.to (k2 := k_28) (by rw [hk9]; exact up_ne (by omega))).more (N2 := 270) (by omega)
  replace r5 := (r5.to (k2 := k_28) (by rw [hk9]; exact up_ne (by omega))).more (N2 := 270) (by omega)
  replace r6 := (r6.to (k2 := k_28) (by rw [hk9]; exact up_ne (by omega))).more (N2 := 270) (by omega)
  replace r7 := (r7.to (k2 := k_28) (by rw [hk9]; exact up_ne (by omega))).more (N2 := 270) (by omega)
  replace r8 := (r8.to (k2 := k_28) (by rw [hk9]; exact up_ne (by omega))).more (N2 := 270) (by omega)
  replace r9 := (r9.to (k2 := k_28) (by rw [hk9]; exact up_ne (by omega))).more (N2 := 270) (by omega)
  replace r10 := (r10.to (k2 := k_28) (by rw [hk9]; exact up_ne (by omega))).more (N2 := 270) (by omega)
  replace r11 := (r11.to (k2 := k_28) (by rw [hk9]; exact up_ne (by omega))).more (N2 := 270) (by omega)
  replace r12 := (r12.to (k2 := k_28) (by rw [hk9]; exact up_ne (by omega))).more (N2 := 270) (by omega)
  have r13 : zc b (270) k_28 (b + 269) (aI tI 12 (fun _ => 0)) := by rw [hk9]; exact ⟨by omega, by omega, up_eq⟩
  replace hf : ∀ q, q < b + 255 → k_28 q = k q := fun q hq => by rw [hk9]; exact (up_ne (by omega)).trans (hf q hq)
  clear hk9
  refine z_put X h0 rfl in_R ty_R_ok n_R 17 (by decide) (wq lf_R_54) rfl rfl rfl (Nat.le_of_ble_eq_true rfl) d_R_init_121 ?_
  refine z_named (fun k_29 hk9 => ?_)
  replace r0 := (r0.to (k2 := k_29) (by rw [hk9]; exact up_ne (by omega)))
  replace r1 := (r1.to (k2 := k_29) (by rw [hk9]; exact up_ne (by omega)))
  replace r2 := (r2.to (k2 := k_29) (by rw [hk9]; exact up_ne (by omega)))
  replace r3 := (r3.to (k2 := k_29) (by rw [hk9]; exact up_ne (by omega)))
  replace r4 := (r4.to (k2 := k_29) (by rw [hk9]; exact up_ne (by omega)))
  replace r5 := (r5.to (k2 := k_29) (by rw [hk9]; exact up_ne (by omega)))
  replace r6 := (r6.to (k2 := k_29) (by rw [hk9]; exact up_ne (by omega)))
  replace r7 := (r7.to (k2 := k_29) (by rw [hk9]; exact up_ne (by omega)))
  replace r8 := (r8.to (k2 := k_29) (by rw [hk9]; exact up_ne (by omega)))
  replace r9 := (r9.to (k2 := k_29) (by rw [hk9]; exact up_ne (by omega)))
  replace r10 := (r10.to (k2 := k_29) (by rw [hk9]; exact up_ne (by omega)))
  replace r11 := (r11.to (k2 := k_29) (by rw [hk9]; exact up_ne (by omega)))
  replace r12 := (r12.to (k2 := k_29) (by rw [hk9]; exact up_ne (by omega)))
  replace r13 := (r13.to (k2 := k_29) (by rw [hk9]; exact up_ne (by omega)))
  clear h0
  have h0 : zc b (270) k_29 (b + 255) (.inr (6, [.int 0, .int 0, .int (nI 1), .ref (b + 256), .ref (b + 257), .ref (b + 258), .ref (b + 259), .ref (b + 260), .ref (b + 261), .ref (b + 262), .ref (b + 263), .ref (b + 264), .int 0, .ref (b + 265), .ref (b + 266), .ref (b + 267), .ref (b + 268), .ref (b + 269), .null, .null, .null, .null])) := by rw [hk9]; exact ⟨by omega, by omega, up_eq⟩
  replace hf : ∀ q, q < b + 255 → k_29 q = k q := fun q hq => by rw [hk9]; exact (up_ne (by omega)).trans (hf q hq)
  clear hk9
  refine z_aload_n X d_R_init_124 rfl ?_
  refine z_bipush X d_R_init_125 (v := nI 12) (by decide +kernel) ?_
  refine z_newa X (atype := .int) (ty := .int) (cA := tI) (wq vk_int) rfl 0 rfl (fun q => q) (n := 12) (a0 := (12, .inl (fun _ => 0))) rfl rfl (by decide) (by decide +kernel) (show 0 + 1 + 1 + 1 + 1 + 1 + 1 + 1 + 1 + 1 + 1 + 1 + 1 + 1 + 1 + 1 ≤ 18 by omega) (show 0 + 12 + 12 + 12 + 576 + 12 + 48 + 12 + 12 + 144 + 12 + 12 + 12 + 144 + 12 + 12 ≤ 2228 by omega) d_R_init_127 ?_
  refine z_named (fun k_30 hk9 => ?_)
  replace h0 := (h0.to (k2 := k_30) (by rw [hk9]; exact up_ne (by omega))).more (N2 := 271) (by omega)
  replace r0 := (r0.to (k2 := k_30) (by rw [hk9]; exact up_ne (by omega))).more (N2 := 271) (by omega)
  replace r1 := (r1.to (k2 := k_30) (by rw [hk9]; exact up_ne (by omega))).more (N2 := 271) (by omega)
  replace r2 := (r2.to (k2 := k_30) (by rw [hk9]; exact up_ne (by omega))).more (N2 := 271) (by omega)
  replace r3 := (r3.to (k2 := k_30) (by rw [hk9]; exact up_ne (by omega))).more (N2 := 271) (by omega)
  replace r4 := (r4.to (k2 := k_30) (by rw [hk9]; exact up_ne (by omega))).more (N2 := 271) (by omega)
  replace r5 := (r5.to (k2 := k_30) (by rw [hk9]; exact up_ne (by omega))).more (N2 := 271) (by omega)
  replace r6 := (r6.to (k2 := k_30) (by rw [hk9]; exact up_ne (by omega))).more (N2 := 271) (by omega)
  replace r7 := (r7.to (k2 := k_30) (by rw [hk9]; exact up_ne (by omega))).more (N2 := 271) (by omega)
  replace r8 := (r8.to (k2 := k_30) (by rw [hk9]; exact up_ne (by omega))).more (N2 := 271) (by omega)
  replace r9 := (r9.to (k2 := k_30) (by rw [hk9]; exact up_ne (by omega))).more (N2 := 271) (by omega)
  replace r10 := (r10.to (k2 := k_30) (by rw [hk9]; exact up_ne (by omega))).more (N2 := 271) (by omega)
  replace r11 := (r11.to (k2 := k_30) (by rw [hk9]; exact up_ne (by omega))).more (N2 := 271) (by omega)
  replace r12 := (r12.to (k2 := k_30) (by rw [hk9]; exact up_ne (by omega))).more (N2 := 271) (by omega)
  replace r13 := (r13.to (k2 := k_30) (by rw [hk9]; exact up_ne (by omega))).more (N2 := 271) (by omega)
  have r14 : zc b (271) k_30 (b + 270) (aI tI 12 (fun _ => 0)) := by rw [hk9]; exact ⟨by omega, by omega, up_eq⟩
  replace hf : ∀ q, q < b + 255 → k_30 q = k q := fun q hq => by rw [hk9]; exact (up_ne (by omega)).trans (hf q hq)
  clear hk9
  refine z_put X h0 rfl in_R ty_R_ok n_R 18 (by decide) (wq lf_R_57) rfl rfl rfl (Nat.le_of_ble_eq_true rfl) d_R_init_129 ?_
  refine z_named (fun k_31 hk9 => ?_)
  replace r0 := (r0.to (k2 := k_31) (by rw [hk9]; exact up_ne (by omega)))
  replace r1 := (r1.to (k2 := k_31) (by rw [hk9]; exact up_ne (by omega)))
  replace r2 := (r2.to (k2 := k_31) (by rw [hk9]; exact up_ne (by omega)))
  replace r3 := (r3.to (k2 := k_31) (by rw [hk9]; exact up_ne (by omega)))
  replace r4 := (r4.to (k2 := k_31) (by rw [hk9]; exact up_ne (by omega)))
  replace r5 := (r5.to (k2 := k_31) (by rw [hk9]; exact up_ne (by omega)))
  replace r6 := (r6.to (k2 := k_31) (by rw [hk9]; exact up_ne (by omega)))
  replace r7 := (r7.to (k2 := k_31) (by rw [hk9]; exact up_ne (by omega)))
  replace r8 := (r8.to (k2 := k_31) (by rw [hk9]; exact up_ne (by omega)))
  replace r9 := (r9.to (k2 := k_31) (by rw [hk9]; exact up_ne (by omega)))
  replace r10 := (r10.to (k2 := k_31) (by rw [hk9]; exact up_ne (by omega)))
  replace r11 := (r11.to (k2 := k_31) (by rw [hk9]; exact up_ne (by omega)))
  replace r12 := (r12.to (k2 := k_31) (by rw [hk9]; exact up_ne (by omega)))
  replace r13 := (r13.to (k2 := k_31) (by rw [hk9]; exact up_ne (by omega)))
  replace r14 := (r14.to (k2 := k_31) (by rw [hk9]; exact up_ne (by omega)))
  clear h0
  have h0 : zc b (271) k_31 (b + 255) (.inr (6, [.int 0, .int 0, .int (nI 1), .ref (b + 256), .ref (b + 257), .ref (b + 258), .ref (b + 259), .ref (b + 260), .ref (b + 261), .ref (b + 262), .ref (b + 263), .ref (b + 264), .int 0, .ref (b + 265), .ref (b + 266), .ref (b + 267), .ref (b + 268), .ref (b + 269), .ref (b + 270), .null, .null, .null])) := by rw [hk9]; exact ⟨by omega, by omega, up_eq⟩
  replace hf : ∀ q, q < b + 255 → k_31 q = k q := fun q hq => by rw [hk9]; exact (up_ne (by omega)).trans (hf q hq)
  clear hk9
  refine z_aload_n X d_R_init_132 rfl ?_
  refine z_sipush X d_R_init_133 (v := nI 384) (by decide +kernel) ?_
  refine z_newa X (atype := .int) (ty := .int) (cA := tI) (wq vk_int) rfl 0 rfl (fun q => q) (n := 384) (a0 := (384, .inl (fun _ => 0))) rfl rfl (by decide) (by decide +kernel) (show 0 + 1 + 1 + 1 + 1 + 1 + 1 + 1 + 1 + 1 + 1 + 1 + 1 + 1 + 1 + 1 + 1 ≤ 18 by omega) (show 0 + 12 + 12 + 12 + 576 + 12 + 48 + 12 + 12 + 144 + 12 + 12 + 12 + 144 + 12 + 12 + 384 ≤ 2228 by omega) d_R_init_136 ?_
  refine z_named (fun k_32 hk9 => ?_)
  replace h0 := (h0.to (k2 := k_32) (by rw [hk9]; exact up_ne (by omega))).more (N2 := 272) (by omega)
  replace r0 := (r0.to (k2 := k_32) (by rw [hk9]; exact up_ne (by omega))).more (N2 := 272) (by omega)
  replace r1 := (r1.to (k2 := k_32) (by rw [hk9]; exact up_ne (by omega))).more (N2 := 272) (by omega)
  replace r2 := (r2.to (k2 := k_32) (by rw [hk9]; exact up_ne (by omega))).more (N2 := 272) (by omega)
  replace r3 := (r3.to (k2 := k_32) (by rw [hk9]; exact up_ne (by omega))).more (N2 := 272) (by omega)
  replace r4 := (r4.to (k2 := k_32) (by rw [hk9]; exact up_ne (by omega))).more (N2 := 272) (by omega)
  replace r5 := (r5.to (k2 := k_32) (by rw [hk9]; exact up_ne (by omega))).more (N2 := 272) (by omega)
  replace r6 := (r6.to (k2 := k_32) (by rw [hk9]; exact up_ne (by omega))).more (N2 := 272) (by omega)
  replace r7 := (r7.to (k2 := k_32) (by rw [hk9]; exact up_ne (by omega))).more (N2 := 272) (by omega)
  replace r8 := (r8.to (k2 := k_32) (by rw [hk9]; exact up_ne (by omega))).more (N2 := 272) (by omega)
  replace r9 := (r9.to (k2 := k_32) (by rw [hk9]; exact up_ne (by omega))).more (N2 := 272) (by omega)
  replace r10 := (r10.to (k2 := k_32) (by rw [hk9]; exact up_ne (by omega))).more (N2 := 272) (by omega)
  replace r11 := (r11.to (k2 := k_32) (by rw [hk9]; exact up_ne (by omega))).more (N2 := 272) (by omega)
  replace r12 := (r12.to (k2 := k_32) (by rw [hk9]; exact up_ne (by omega))).more (N2 := 272) (by omega)
  replace r13 := (r13.to (k2 := k_32) (by rw [hk9]; exact up_ne (by omega))).more (N2 := 272) (by omega)
  replace r14 := (r14.to (k2 := k_32) (by rw [hk9]; exact up_ne (by omega))).more (N2 := 272) (by omega)
  have r15 : zc b (272) k_32 (b + 271) (aI tI 384 (fun _ => 0)) := by rw [hk9]; exact ⟨by omega, by omega, up_eq⟩
  replace hf : ∀ q, q < b + 255 → k_32 q = k q := fun q hq => by rw [hk9]; exact (up_ne (by omega)).trans (hf q hq)
  clear hk9
  refine z_put X h0 rfl in_R ty_R_ok n_R 19 (by decide) (wq lf_R_60) rfl rfl rfl (Nat.le_of_ble_eq_true rfl) d_R_init_138 ?_
  refine z_named (fun k_33 hk9 => ?_)
  replace r0 := (r0.to (k2 := k_33) (by rw [hk9]; exact up_ne (by omega)))
  replace r1 := (r1.to (k2 := k_33) (by rw [hk9]; exact up_ne (by omega)))
  replace r2 := (r2.to (k2 := k_33) (by rw [hk9]; exact up_ne (by omega)))
  replace r3 := (r3.to (k2 := k_33) (by rw [hk9]; exact up_ne (by omega)))
  replace r4 := (r4.to (k2 := k_33) (by rw [hk9]; exact up_ne (by omega)))
  replace r5 := (r5.to (k2 := k_33) (by rw [hk9]; exact up_ne (by omega)))
  replace r6 := (r6.to (k2 := k_33) (by rw [hk9]; exact up_ne (by omega)))
  replace r7 := (r7.to (k2 := k_33) (by rw [hk9]; exact up_ne (by omega)))
  replace r8 := (r8.to (k2 := k_33) (by rw [hk9]; exact up_ne (by omega)))
  replace r9 := (r9.to (k2 := k_33) (by rw [hk9]; exact up_ne (by omega)))
  replace r10 := (r10.to (k2 := k_33) (by rw [hk9]; exact up_ne (by omega)))
  replace r11 := (r11.to (k2 := k_33) (by rw [hk9]; exact up_ne (by omega)))
  replace r12 := (r12.to (k2 := k_33) (by rw [hk9]; exact up_ne (by omega)))
  replace r13 := (r13.to (k2 := k_33) (by rw [hk9]; exact up_ne (by omega)))
  replace r14 := (r14.to (k2 := k_33) (by rw [hk9]; exact up_ne (by omega)))
  replace r15 := (r15.to (k2 := k_33) (by rw [hk9]; exact up_ne (by omega)))
  clear h0
  have h0 : zc b (272) k_33 (b + 255) (.inr (6, [.int 0, .int 0, .int (nI 1), .ref (b + 256), .ref (b + 257), .ref (b + 258), .ref (b + 259), .ref (b + 260), .ref (b + 261), .ref (b + 262), .ref (b + 263), .ref (b + 264), .int 0, .ref (b + 265), .ref (b + 266), .ref (b + 267), .ref (b + 268), .ref (b + 269), .ref (b + 270), .ref (b + 271), .null, .null])) := by rw [hk9]; exact ⟨by omega, by omega, up_eq⟩
  replace hf : ∀ q, q < b + 255 → k_33 q = k q := fun q hq => by rw [hk9]; exact (up_ne (by omega)).trans (hf q hq)
  clear hk9
  refine z_aload_n X d_R_init_141 rfl ?_
  refine z_sipush X d_R_init_142 (v := nI 768) (by decide +kernel) ?_
  refine z_newa X (atype := .int) (ty := .int) (cA := tI) (wq vk_int) rfl 0 rfl (fun q => q) (n := 768) (a0 := (768, .inl (fun _ => 0))) rfl rfl (by decide) (by decide +kernel) (show 0 + 1 + 1 + 1 + 1 + 1 + 1 + 1 + 1 + 1 + 1 + 1 + 1 + 1 + 1 + 1 + 1 + 1 ≤ 18 by omega) (show 0 + 12 + 12 + 12 + 576 + 12 + 48 + 12 + 12 + 144 + 12 + 12 + 12 + 144 + 12 + 12 + 384 + 768 ≤ 2228 by omega) d_R_init_145 ?_
  refine z_named (fun k_34 hk9 => ?_)
  replace h0 := (h0.to (k2 := k_34) (by rw [hk9]; exact up_ne (by omega))).more (N2 := 273) (by omega)
  replace r0 := (r0.to (k2 := k_34) (by rw [hk9]; exact up_ne (by omega))).more (N2 := 273) (by omega)
  replace r1 := (r1.to (k2 := k_34) (by rw [hk9]; exact up_ne (by omega))).more (N2 := 273) (by omega)
  replace r2 := (r2.to (k2 := k_34) (by rw [hk9]; exact up_ne (by omega))).more (N2 := 273) (by omega)
  replace r3 := (r3.to (k2 := k_34) (by rw [hk9]; exact up_ne (by omega))).more (N2 := 273) (by omega)
  replace r4 := (r4.to (k2 := k_34) (by rw [hk9]; exact up_ne (by omega))).more (N2 := 273) (by omega)
  replace r5 := (r5.to (k2 := k_34) (by rw [hk9]; exact up_ne (by omega))).more (N2 := 273) (by omega)
  replace r6 := (r6.to (k2 := k_34) (by rw [hk9]; exact up_ne (by omega))).more (N2 := 273) (by omega)
  replace r7 := (r7.to (k2 := k_34) (by rw [hk9]; exact up_ne (by omega))).more (N2 := 273) (by omega)
  replace r8 := (r8.to (k2 := k_34) (by rw [hk9]; exact up_ne (by omega))).more (N2 := 273) (by omega)
  replace r9 := (r9.to (k2 := k_34) (by rw [hk9]; exact up_ne (by omega))).more (N2 := 273) (by omega)
  replace r10 := (r10.to (k2 := k_34) (by rw [hk9]; exact up_ne (by omega))).more (N2 := 273) (by omega)
  replace r11 := (r11.to (k2 := k_34) (by rw [hk9]; exact up_ne (by omega))).more (N2 := 273) (by omega)
  replace r12 := (r12.to (k2 := k_34) (by rw [hk9]; exact up_ne (by omega))).more (N2 := 273) (by omega)
  replace r13 := (r13.to (k2 := k_34) (by rw [hk9]; exact up_ne (by omega))).more (N2 := 273) (by omega)
  replace r14 := (r14.to (k2 := k_34) (by rw [hk9]; exact up_ne (by omega))).more (N2 := 273) (by omega)
  replace r15 := (r15.to (k2 := k_34) (by rw [hk9]; exact up_ne (by omega))).more (N2 := 273) (by omega)
  have r16 : zc b (273) k_34 (b + 272) (aI tI 768 (fun _ => 0)) := by rw [hk9]; exact ⟨by omega, by omega, up_eq⟩
  replace hf : ∀ q, q < b + 255 → k_34 q = k q := fun q hq => by rw [hk9]; exact (up_ne (by omega)).trans (hf q hq)
  clear hk9
  refine z_put X h0 rfl in_R ty_R_ok n_R 20 (by decide) (wq lf_R_63) rfl rfl rfl (Nat.le_of_ble_eq_true rfl) d_R_init_147 ?_
  refine z_named (fun k_35 hk9 => ?_)
  replace r0 := (r0.to (k2 := k_35) (by rw [hk9]; exact up_ne (by omega)))
  replace r1 := (r1.to (k2 := k_35) (by rw [hk9]; exact up_ne (by omega)))
  replace r2 := (r2.to (k2 := k_35) (by rw [hk9]; exact up_ne (by omega)))
  replace r3 := (r3.to (k2 := k_35) (by rw [hk9]; exact up_ne (by omega)))
  replace r4 := (r4.to (k2 := k_35) (by rw [hk9]; exact up_ne (by omega)))
  replace r5 := (r5.to (k2 := k_35) (by rw [hk9]; exact up_ne (by omega)))
  replace r6 := (r6.to (k2 := k_35) (by rw [hk9]; exact up_ne (by omega)))
  replace r7 := (r7.to (k2 := k_35) (by rw [hk9]; exact up_ne (by omega)))
  replace r8 := (r8.to (k2 := k_35) (by rw [hk9]; exact up_ne (by omega)))
  replace r9 := (r9.to (k2 := k_35) (by rw [hk9]; exact up_ne (by omega)))
  replace r10 := (r10.to (k2 := k_35) (by rw [hk9]; exact up_ne (by omega)))
  replace r11 := (r11.to (k2 := k_35) (by rw [hk9]; exact up_ne (by omega)))
  replace r12 := (r12.to (k2 := k_35) (by rw [hk9]; exact up_ne (by omega)))
  replace r13 := (r13.to (k2 := k_35) (by rw [hk9]; exact up_ne (by omega)))
  replace r14 := (r14.to (k2 := k_35) (by rw [hk9]; exact up_ne (by omega)))
  replace r15 := (r15.to (k2 := k_35) (by rw [hk9]; exact up_ne (by omega)))
  replace r16 := (r16.to (k2 := k_35) (by rw [hk9]; exact up_ne (by omega)))
  clear h0
  have h0 : zc b (273) k_35 (b + 255) (.inr (6, [.int 0, .int 0, .int (nI 1), .ref (b + 256), .ref (b + 257), .ref (b + 258), .ref (b + 259), .ref (b + 260), .ref (b + 261), .ref (b + 262), .ref (b + 263), .ref (b + 264), .int 0, .ref (b + 265), .ref (b + 266), .ref (b + 267), .ref (b + 268), .ref (b + 269), .ref (b + 270), .ref (b + 271), .ref (b + 272), .null])) := by rw [hk9]; exact ⟨by omega, by omega, up_eq⟩
  replace hf : ∀ q, q < b + 255 → k_35 q = k q := fun q hq => by rw [hk9]; exact (up_ne (by omega)).trans (hf q hq)
  clear hk9
  refine z_aload_n X d_R_init_150 rfl ?_
  refine z_bipush X d_R_init_151 (v := nI 32) (by decide +kernel) ?_
  refine z_newa X (atype := .boolean) (ty := .boolean) (cA := tZ) (wq vk_boolean) rfl 1 rfl (fun q => q) (n := 32) (a0 := (32, .inl (fun _ => 0))) rfl rfl (by decide) (by decide +kernel) (show 0 + 1 + 1 + 1 + 1 + 1 + 1 + 1 + 1 + 1 + 1 + 1 + 1 + 1 + 1 + 1 + 1 + 1 + 1 ≤ 18 by omega) (show 0 + 12 + 12 + 12 + 576 + 12 + 48 + 12 + 12 + 144 + 12 + 12 + 12 + 144 + 12 + 12 + 384 + 768 + 32 ≤ 2228 by omega) d_R_init_153 ?_
  refine z_named (fun k_36 hk9 => ?_)
  replace h0 := (h0.to (k2 := k_36) (by rw [hk9]; exact up_ne (by omega))).more (N2 := 274) (by omega)
  replace r0 := (r0.to (k2 := k_36) (by rw [hk9]; exact up_ne (by omega))).more (N2 := 274) (by omega)
  replace r1 := (r1.to (k2 := k_36) (by rw [hk9]; exact up_ne (by omega))).more (N2 := 274) (by omega)
  replace r2 := (r2.to (k2 := k_36) (by rw [hk9]; exact up_ne (by omega))).more (N2 := 274) (by omega)
  replace r3 := (r3.to (k2 := k_36) (by rw [hk9]; exact up_ne (by omega))).more (N2 := 274) (by omega)
  replace r4 := (r4.to (k2 := k_36) (by rw [hk9]; exact up_ne (by omega))).more (N2 := 274) (by omega)
  replace r5 := (r5.to (k2 := k_36) (by rw [hk9]; exact up_ne (by omega))).more (N2 := 274) (by omega)
  replace r6 := (r6.to (k2 := k_36) (by rw [hk9]; exact up_ne (by omega))).more (N2 := 274) (by omega)
  replace r7 := (r7.to (k2 := k_36) (by rw [hk9]; exact up_ne (by omega))).more (N2 := 274) (by omega)
  replace r8 := (r8.to (k2 := k_36) (by rw [hk9]; exact up_ne (by omega))).more (N2 := 274) (by omega)
  replace r9 := (r9.to (k2 := k_36) (by rw [hk9]; exact up_ne (by omega))).more (N2 := 274) (by omega)
  replace r10 := (r10.to (k2 := k_36) (by rw [hk9]; exact up_ne (by omega))).more (N2 := 274) (by omega)
  replace r11 := (r11.to (k2 := k_36) (by rw [hk9]; exact up_ne (by omega))).more (N2 := 274) (by omega)
  replace r12 := (r12.to (k2 := k_36) (by rw [hk9]; exact up_ne (by omega))).more (N2 := 274) (by omega)
  replace r13 := (r13.to (k2 := k_36) (by rw [hk9]; exact up_ne (by omega))).more (N2 := 274) (by omega)
  replace r14 := (r14.to (k2 := k_36) (by rw [hk9]; exact up_ne (by omega))).more (N2 := 274) (by omega)
  replace r15 := (r15.to (k2 := k_36) (by rw [hk9]; exact up_ne (by omega))).more (N2 := 274) (by omega)
  replace r16 := (r16.to (k2 := k_36) (by rw [hk9]; exact up_ne (by omega))).more (N2 := 274) (by omega)
  have r17 : zc b (274) k_36 (b + 273) (aI tZ 32 (fun _ => 0)) := by rw [hk9]; exact ⟨by omega, by omega, up_eq⟩
  replace hf : ∀ q, q < b + 255 → k_36 q = k q := fun q hq => by rw [hk9]; exact (up_ne (by omega)).trans (hf q hq)
  clear hk9
  refine z_put X h0 rfl in_R ty_R_ok n_R 21 (by decide) (wq lf_R_66) rfl rfl rfl (Nat.le_of_ble_eq_true rfl) d_R_init_155 ?_
  refine z_named (fun k_37 hk9 => ?_)
  replace r0 := (r0.to (k2 := k_37) (by rw [hk9]; exact up_ne (by omega)))
  replace r1 := (r1.to (k2 := k_37) (by rw [hk9]; exact up_ne (by omega)))
  replace r2 := (r2.to (k2 := k_37) (by rw [hk9]; exact up_ne (by omega)))
  replace r3 := (r3.to (k2 := k_37) (by rw [hk9]; exact up_ne (by omega)))
  replace r4 := (r4.to (k2 := k_37) (by rw [hk9]; exact up_ne (by omega)))
  replace r5 := (r5.to (k2 := k_37) (by rw [hk9]; exact up_ne (by omega)))
  replace r6 := (r6.to (k2 := k_37) (by rw [hk9]; exact up_ne (by omega)))
  replace r7 := (r7.to (k2 := k_37) (by rw [hk9]; exact up_ne (by omega)))
  replace r8 := (r8.to (k2 := k_37) (by rw [hk9]; exact up_ne (by omega)))
  replace r9 := (r9.to (k2 := k_37) (by rw [hk9]; exact up_ne (by omega)))
  replace r10 := (r10.to (k2 := k_37) (by rw [hk9]; exact up_ne (by omega)))
  replace r11 := (r11.to (k2 := k_37) (by rw [hk9]; exact up_ne (by omega)))
  replace r12 := (r12.to (k2 := k_37) (by rw [hk9]; exact up_ne (by omega)))
  replace r13 := (r13.to (k2 := k_37) (by rw [hk9]; exact up_ne (by omega)))
  replace r14 := (r14.to (k2 := k_37) (by rw [hk9]; exact up_ne (by omega)))
  replace r15 := (r15.to (k2 := k_37) (by rw [hk9]; exact up_ne (by omega)))
  replace r16 := (r16.to (k2 := k_37) (by rw [hk9]; exact up_ne (by omega)))
  replace r17 := (r17.to (k2 := k_37) (by rw [hk9]; exact up_ne (by omega)))
  clear h0
  have h0 : zc b (274) k_37 (b + 255) (.inr (6, [.int 0, .int 0, .int (nI 1), .ref (b + 256), .ref (b + 257), .ref (b + 258), .ref (b + 259), .ref (b + 260), .ref (b + 261), .ref (b + 262), .ref (b + 263), .ref (b + 264), .int 0, .ref (b + 265), .ref (b + 266), .ref (b + 267), .ref (b + 268), .ref (b + 269), .ref (b + 270), .ref (b + 271), .ref (b + 272), .ref (b + 273)])) := by rw [hk9]; exact ⟨by omega, by omega, up_eq⟩
  replace hf : ∀ q, q < b + 255 → k_37 q = k q := fun q hq => by rw [hk9]; exact (up_ne (by omega)).trans (hf q hq)
  clear hk9
  refine z_aload_n X d_R_init_158 rfl ?_
  refine z_iload_n X d_R_init_159 rfl ?_
  refine z_iconst X d_R_init_160 (v := nI 1) (by decide +kernel) ?_
  refine z_icmp_ge X d_R_init_161 (tgt := 168) (by decide) (fun hA => ?_) (fun hA => ?_)
  · skip
    refine z_iload_n X d_R_init_168 rfl ?_
    refine z_bipush X d_R_init_169 (v := nI 6) (by decide +kernel) ?_
    refine z_icmp_le X d_R_init_171 (tgt := 179) (by decide) (fun hB => ?_) (fun hB => ?_)
    · skip
      refine z_iload_n X d_R_init_179 rfl ?_
      refine z_top (y := .int (nI kk)) (by rw [← hkk]; exact congrArg Value.int (clk_c hA hB)) ?_
      refine z_put X h0 rfl in_R ty_R_ok n_R 0 (by decide) (wq lf_R_69) rfl rfl rfl (Nat.le_of_ble_eq_true rfl) d_R_init_180 ?_
      refine z_named (fun k_38 hk9 => ?_)
      replace r0 := (r0.to (k2 := k_38) (by rw [hk9]; exact up_ne (by omega)))
      replace r1 := (r1.to (k2 := k_38) (by rw [hk9]; exact up_ne (by omega)))
      replace r2 := (r2.to (k2 := k_38) (by rw [hk9]; exact up_ne (by omega)))
      replace r3 := (r3.to (k2 := k_38) (by rw [hk9]; exact up_ne (by omega)))
      replace r4 := (r4.to (k2 := k_38) (by rw [hk9]; exact up_ne (by omega)))
      replace r5 := (r5.to (k2 := k_38) (by rw [hk9]; exact up_ne (by omega)))
      replace r6 := (r6.to (k2 := k_38) (by rw [hk9]; exact up_ne (by omega)))
      replace r7 := (r7.to (k2 := k_38) (by rw [hk9]; exact up_ne (by omega)))
      replace r8 := (r8.to (k2 := k_38) (by rw [hk9]; exact up_ne (by omega)))
      replace r9 := (r9.to (k2 := k_38) (by rw [hk9]; exact up_ne (by omega)))
      replace r10 := (r10.to (k2 := k_38) (by rw [hk9]; exact up_ne (by omega)))
      replace r11 := (r11.to (k2 := k_38) (by rw [hk9]; exact up_ne (by omega)))
      replace r12 := (r12.to (k2 := k_38) (by rw [hk9]; exact up_ne (by omega)))
      replace r13 := (r13.to (k2 := k_38) (by rw [hk9]; exact up_ne (by omega)))
      replace r14 := (r14.to (k2 := k_38) (by rw [hk9]; exact up_ne (by omega)))
      replace r15 := (r15.to (k2 := k_38) (by rw [hk9]; exact up_ne (by omega)))
      replace r16 := (r16.to (k2 := k_38) (by rw [hk9]; exact up_ne (by omega)))
      replace r17 := (r17.to (k2 := k_38) (by rw [hk9]; exact up_ne (by omega)))
      clear h0
      have h0 : zc b (274) k_38 (b + 255) (.inr (6, [.int (nI kk), .int 0, .int (nI 1), .ref (b + 256), .ref (b + 257), .ref (b + 258), .ref (b + 259), .ref (b + 260), .ref (b + 261), .ref (b + 262), .ref (b + 263), .ref (b + 264), .int 0, .ref (b + 265), .ref (b + 266), .ref (b + 267), .ref (b + 268), .ref (b + 269), .ref (b + 270), .ref (b + 271), .ref (b + 272), .ref (b + 273)])) := by rw [hk9]; exact ⟨by omega, by omega, up_eq⟩
      replace hf : ∀ q, q < b + 255 → k_38 q = k q := fun q hq => by rw [hk9]; exact (up_ne (by omega)).trans (hf q hq)
      clear hk9
      refine z_aload_n X d_R_init_183 rfl ?_
      refine z_iload_n X d_R_init_184 rfl ?_
      refine z_iconst X d_R_init_185 (v := nI 2) (by decide +kernel) ?_
      refine z_icmp_ge X d_R_init_186 (tgt := 193) (by decide) (fun hA => ?_) (fun hA => ?_)
      · skip
        refine z_iload_n X d_R_init_193 rfl ?_
        refine z_bipush X d_R_init_194 (v := nI 16) (by decide +kernel) ?_
        refine z_icmp_le X d_R_init_196 (tgt := 204) (by decide) (fun hB => ?_) (fun hB => ?_)
        · skip
          refine z_iload_n X d_R_init_204 rfl ?_
          refine z_top (y := .int (nI dd)) (by rw [← hdd]; exact congrArg Value.int (clk_c hA hB)) ?_
          refine z_put X h0 rfl in_R ty_R_ok n_R 1 (by decide) (wq lf_R_72) rfl rfl rfl (Nat.le_of_ble_eq_true rfl) d_R_init_205 ?_
          refine z_named (fun k_39 hk9 => ?_)
          replace r0 := (r0.to (k2 := k_39) (by rw [hk9]; exact up_ne (by omega)))
          replace r1 := (r1.to (k2 := k_39) (by rw [hk9]; exact up_ne (by omega)))
          replace r2 := (r2.to (k2 := k_39) (by rw [hk9]; exact up_ne (by omega)))
          replace r3 := (r3.to (k2 := k_39) (by rw [hk9]; exact up_ne (by omega)))
          replace r4 := (r4.to (k2 := k_39) (by rw [hk9]; exact up_ne (by omega)))
          replace r5 := (r5.to (k2 := k_39) (by rw [hk9]; exact up_ne (by omega)))
          replace r6 := (r6.to (k2 := k_39) (by rw [hk9]; exact up_ne (by omega)))
          replace r7 := (r7.to (k2 := k_39) (by rw [hk9]; exact up_ne (by omega)))
          replace r8 := (r8.to (k2 := k_39) (by rw [hk9]; exact up_ne (by omega)))
          replace r9 := (r9.to (k2 := k_39) (by rw [hk9]; exact up_ne (by omega)))
          replace r10 := (r10.to (k2 := k_39) (by rw [hk9]; exact up_ne (by omega)))
          replace r11 := (r11.to (k2 := k_39) (by rw [hk9]; exact up_ne (by omega)))
          replace r12 := (r12.to (k2 := k_39) (by rw [hk9]; exact up_ne (by omega)))
          replace r13 := (r13.to (k2 := k_39) (by rw [hk9]; exact up_ne (by omega)))
          replace r14 := (r14.to (k2 := k_39) (by rw [hk9]; exact up_ne (by omega)))
          replace r15 := (r15.to (k2 := k_39) (by rw [hk9]; exact up_ne (by omega)))
          replace r16 := (r16.to (k2 := k_39) (by rw [hk9]; exact up_ne (by omega)))
          replace r17 := (r17.to (k2 := k_39) (by rw [hk9]; exact up_ne (by omega)))
          clear h0
          have h0 : zc b (274) k_39 (b + 255) (.inr (6, [.int (nI kk), .int (nI dd), .int (nI 1), .ref (b + 256), .ref (b + 257), .ref (b + 258), .ref (b + 259), .ref (b + 260), .ref (b + 261), .ref (b + 262), .ref (b + 263), .ref (b + 264), .int 0, .ref (b + 265), .ref (b + 266), .ref (b + 267), .ref (b + 268), .ref (b + 269), .ref (b + 270), .ref (b + 271), .ref (b + 272), .ref (b + 273)])) := by rw [hk9]; exact ⟨by omega, by omega, up_eq⟩
          replace hf : ∀ q, q < b + 255 → k_39 q = k q := fun q hq => by rw [hk9]; exact (up_ne (by omega)).trans (hf q hq)
          clear hk9
          exact z_vret X d_R_init_208 (by omega) (by omega) (⟨⟨h0, r0, r1, r2, r3, r4, r5, r6, r7, r8, r9, r10, r11, r12, r13, r14, r15, r16, r17⟩, hf⟩)
        · skip
          refine z_bipush X d_R_init_199 (v := nI 16) (by decide +kernel) ?_
          refine z_goto X d_R_init_201 (tgt := 205) (by decide) ?_
          refine z_top (y := .int (nI dd)) (by rw [← hdd]; exact congrArg Value.int (clk_b (by omega) (by omega) hB)) ?_
          refine z_put X h0 rfl in_R ty_R_ok n_R 1 (by decide) (wq lf_R_72) rfl rfl rfl (Nat.le_of_ble_eq_true rfl) d_R_init_205 ?_
          refine z_named (fun k_40 hk9 => ?_)
          replace r0 := (r0.to (k2 := k_40) (by rw [hk9]; exact up_ne (by omega)))
          replace r1 := (r1.to (k2 := k_40) (by rw [hk9]; exact up_ne (by omega)))
          replace r2 := (r2.to (k2 := k_40) (by rw [hk9]; exact up_ne (by omega)))
          replace r3 := (r3.to (k2 := k_40) (by rw [hk9]; exact up_ne (by omega)))
          replace r4 := (r4.to (k2 := k_40) (by rw [hk9]; exact up_ne (by omega)))
          replace r5 := (r5.to (k2 := k_40) (by rw [hk9]; exact up_ne (by omega)))
          replace r6 := (r6.to (k2 := k_40) (by rw [hk9]; exact up_ne (by omega)))
          replace r7 := (r7.to (k2 := k_40) (by rw [hk9]; exact up_ne (by omega)))
          replace r8 := (r8.to (k2 := k_40) (by rw [hk9]; exact up_ne (by omega)))
          replace r9 := (r9.to (k2 := k_40) (by rw [hk9]; exact up_ne (by omega)))
          replace r10 := (r10.to (k2 := k_40) (by rw [hk9]; exact up_ne (by omega)))
          replace r11 := (r11.to (k2 := k_40) (by rw [hk9]; exact up_ne (by omega)))
          replace r12 := (r12.to (k2 := k_40) (by rw [hk9]; exact up_ne (by omega)))
          replace r13 := (r13.to (k2 := k_40) (by rw [hk9]; exact up_ne (by omega)))
          replace r14 := (r14.to (k2 := k_40) (by rw [hk9]; exact up_ne (by omega)))
          replace r15 := (r15.to (k2 := k_40) (by rw [hk9]; exact up_ne (by omega)))
          replace r16 := (r16.to (k2 := k_40) (by rw [hk9]; exact up_ne (by omega)))
          replace r17 := (r17.to (k2 := k_40) (by rw [hk9]; exact up_ne (by omega)))
          clear h0
          have h0 : zc b (274) k_40 (b + 255) (.inr (6, [.int (nI kk), .int (nI dd), .int (nI 1), .ref (b + 256), .ref (b + 257), .ref (b + 258), .ref (b + 259), .ref (b + 260), .ref (b + 261), .ref (b + 262), .ref (b + 263), .ref (b + 264), .int 0, .ref (b + 265), .ref (b + 266), .ref (b + 267), .ref (b + 268), .ref (b + 269), .ref (b + 270), .ref (b + 271), .ref (b + 272), .ref (b + 273)])) := by rw [hk9]; exact ⟨by omega, by omega, up_eq⟩
          replace hf : ∀ q, q < b + 255 → k_40 q = k q := fun q hq => by rw [hk9]; exact (up_ne (by omega)).trans (hf q hq)
          clear hk9
          exact z_vret X d_R_init_208 (by omega) (by omega) (⟨⟨h0, r0, r1, r2, r3, r4, r5, r6, r7, r8, r9, r10, r11, r12, r13, r14, r15, r16, r17⟩, hf⟩)
      · skip
        refine z_iconst X d_R_init_189 (v := nI 2) (by decide +kernel) ?_
        refine z_goto X d_R_init_190 (tgt := 205) (by decide) ?_
        refine z_top (y := .int (nI dd)) (by rw [← hdd]; exact congrArg Value.int (clk_a (by omega) (by omega) hA)) ?_
        refine z_put X h0 rfl in_R ty_R_ok n_R 1 (by decide) (wq lf_R_72) rfl rfl rfl (Nat.le_of_ble_eq_true rfl) d_R_init_205 ?_
        refine z_named (fun k_41 hk9 => ?_)
        replace r0 := (r0.to (k2 := k_41) (by rw [hk9]; exact up_ne (by omega)))
        replace r1 := (r1.to (k2 := k_41) (by rw [hk9]; exact up_ne (by omega)))
        replace r2 := (r2.to (k2 := k_41) (by rw [hk9]; exact up_ne (by omega)))
        replace r3 := (r3.to (k2 := k_41) (by rw [hk9]; exact up_ne (by omega)))
        replace r4 := (r4.to (k2 := k_41) (by rw [hk9]; exact up_ne (by omega)))
        replace r5 := (r5.to (k2 := k_41) (by rw [hk9]; exact up_ne (by omega)))
        replace r6 := (r6.to (k2 := k_41) (by rw [hk9]; exact up_ne (by omega)))
        replace r7 := (r7.to (k2 := k_41) (by rw [hk9]; exact up_ne (by omega)))
        replace r8 := (r8.to (k2 := k_41) (by rw [hk9]; exact up_ne (by omega)))
        replace r9 := (r9.to (k2 := k_41) (by rw [hk9]; exact up_ne (by omega)))
        replace r10 := (r10.to (k2 := k_41) (by rw [hk9]; exact up_ne (by omega)))
        replace r11 := (r11.to (k2 := k_41) (by rw [hk9]; exact up_ne (by omega)))
        replace r12 := (r12.to (k2 := k_41) (by rw [hk9]; exact up_ne (by omega)))
        replace r13 := (r13.to (k2 := k_41) (by rw [hk9]; exact up_ne (by omega)))
        replace r14 := (r14.to (k2 := k_41) (by rw [hk9]; exact up_ne (by omega)))
        replace r15 := (r15.to (k2 := k_41) (by rw [hk9]; exact up_ne (by omega)))
        replace r16 := (r16.to (k2 := k_41) (by rw [hk9]; exact up_ne (by omega)))
        replace r17 := (r17.to (k2 := k_41) (by rw [hk9]; exact up_ne (by omega)))
        clear h0
        have h0 : zc b (274) k_41 (b + 255) (.inr (6, [.int (nI kk), .int (nI dd), .int (nI 1), .ref (b + 256), .ref (b + 257), .ref (b + 258), .ref (b + 259), .ref (b + 260), .ref (b + 261), .ref (b + 262), .ref (b + 263), .ref (b + 264), .int 0, .ref (b + 265), .ref (b + 266), .ref (b + 267), .ref (b + 268), .ref (b + 269), .ref (b + 270), .ref (b + 271), .ref (b + 272), .ref (b + 273)])) := by rw [hk9]; exact ⟨by omega, by omega, up_eq⟩
        replace hf : ∀ q, q < b + 255 → k_41 q = k q := fun q hq => by rw [hk9]; exact (up_ne (by omega)).trans (hf q hq)
        clear hk9
        exact z_vret X d_R_init_208 (by omega) (by omega) (⟨⟨h0, r0, r1, r2, r3, r4, r5, r6, r7, r8, r9, r10, r11, r12, r13, r14, r15, r16, r17⟩, hf⟩)
    · skip
      refine z_bipush X d_R_init_174 (v := nI 6) (by decide +kernel) ?_
      refine z_goto X d_R_init_176 (tgt := 180) (by decide) ?_
      refine z_top (y := .int (nI kk)) (by rw [← hkk]; exact congrArg Value.int (clk_b (by omega) (by omega) hB)) ?_
      refine z_put X h0 rfl in_R ty_R_ok n_R 0 (by decide) (wq lf_R_69) rfl rfl rfl (Nat.le_of_ble_eq_true rfl) d_R_init_180 ?_
      refine z_named (fun k_42 hk9 => ?_)
      replace r0 := (r0.to (k2 := k_42) (by rw [hk9]; exact up_ne (by omega)))
      replace r1 := (r1.to (k2 := k_42) (by rw [hk9]; exact up_ne (by omega)))
      replace r2 := (r2.to (k2 := k_42) (by rw [hk9]; exact up_ne (by omega)))
      replace r3 := (r3.to (k2 := k_42) (by rw [hk9]; exact up_ne (by omega)))
      replace r4 := (r4.to (k2 := k_42) (by rw [hk9]; exact up_ne (by omega)))
      replace r5 := (r5.to (k2 := k_42) (by rw [hk9]; exact up_ne (by omega)))
      replace r6 := (r6.to (k2 := k_42) (by rw [hk9]; exact up_ne (by omega)))
      replace r7 := (r7.to (k2 := k_42) (by rw [hk9]; exact up_ne (by omega)))
      replace r8 := (r8.to (k2 := k_42) (by rw [hk9]; exact up_ne (by omega)))
      replace r9 := (r9.to (k2 := k_42) (by rw [hk9]; exact up_ne (by omega)))
      replace r10 := (r10.to (k2 := k_42) (by rw [hk9]; exact up_ne (by omega)))
      replace r11 := (r11.to (k2 := k_42) (by rw [hk9]; exact up_ne (by omega)))
      replace r12 := (r12.to (k2 := k_42) (by rw [hk9]; exact up_ne (by omega)))
      replace r13 := (r13.to (k2 := k_42) (by rw [hk9]; exact up_ne (by omega)))
      replace r14 := (r14.to (k2 := k_42) (by rw [hk9]; exact up_ne (by omega)))
      replace r15 := (r15.to (k2 := k_42) (by rw [hk9]; exact up_ne (by omega)))
      replace r16 := (r16.to (k2 := k_42) (by rw [hk9]; exact up_ne (by omega)))
      replace r17 := (r17.to (k2 := k_42) (by rw [hk9]; exact up_ne (by omega)))
      clear h0
      have h0 : zc b (274) k_42 (b + 255) (.inr (6, [.int (nI kk), .int 0, .int (nI 1), .ref (b + 256), .ref (b + 257), .ref (b + 258), .ref (b + 259), .ref (b + 260), .ref (b + 261), .ref (b + 262), .ref (b + 263), .ref (b + 264), .int 0, .ref (b + 265), .ref (b + 266), .ref (b + 267), .ref (b + 268), .ref (b + 269), .ref (b + 270), .ref (b + 271), .ref (b + 272), .ref (b + 273)])) := by rw [hk9]; exact ⟨by omega, by omega, up_eq⟩
      replace hf : ∀ q, q < b + 255 → k_42 q = k q := fun q hq => by rw [hk9]; exact (up_ne (by omega)).trans (hf q hq)
      clear hk9
      refine z_aload_n X d_R_init_183 rfl ?_
      refine z_iload_n X d_R_init_184 rfl ?_
      refine z_iconst X d_R_init_185 (v := nI 2) (by decide +kernel) ?_
      refine z_icmp_ge X d_R_init_186 (tgt := 193) (by decide) (fun hA => ?_) (fun hA => ?_)
      · skip
        refine z_iload_n X d_R_init_193 rfl ?_
        refine z_bipush X d_R_init_194 (v := nI 16) (by decide +kernel) ?_
        refine z_icmp_le X d_R_init_196 (tgt := 204) (by decide) (fun hB => ?_) (fun hB => ?_)
        · skip
          refine z_iload_n X d_R_init_204 rfl ?_
          refine z_top (y := .int (nI dd)) (by rw [← hdd]; exact congrArg Value.int (clk_c hA hB)) ?_
          refine z_put X h0 rfl in_R ty_R_ok n_R 1 (by decide) (wq lf_R_72) rfl rfl rfl (Nat.le_of_ble_eq_true rfl) d_R_init_205 ?_
          refine z_named (fun k_43 hk9 => ?_)
          replace r0 := (r0.to (k2 := k_43) (by rw [hk9]; exact up_ne (by omega)))
          replace r1 := (r1.to (k2 := k_43) (by rw [hk9]; exact up_ne (by omega)))
          replace r2 := (r2.to (k2 := k_43) (by rw [hk9]; exact up_ne (by omega)))
          replace r3 := (r3.to (k2 := k_43) (by rw [hk9]; exact up_ne (by omega)))
          replace r4 := (r4.to (k2 := k_43) (by rw [hk9]; exact up_ne (by omega)))
          replace r5 := (r5.to (k2 := k_43) (by rw [hk9]; exact up_ne (by omega)))
          replace r6 := (r6.to (k2 := k_43) (by rw [hk9]; exact up_ne (by omega)))
          replace r7 := (r7.to (k2 := k_43) (by rw [hk9]; exact up_ne (by omega)))
          replace r8 := (r8.to (k2 := k_43) (by rw [hk9]; exact up_ne (by omega)))
          replace r9 := (r9.to (k2 := k_43) (by rw [hk9]; exact up_ne (by omega)))
          replace r10 := (r10.to (k2 := k_43) (by rw [hk9]; exact up_ne (by omega)))
          replace r11 := (r11.to (k2 := k_43) (by rw [hk9]; exact up_ne (by omega)))
          replace r12 := (r12.to (k2 := k_43) (by rw [hk9]; exact up_ne (by omega)))
          replace r13 := (r13.to (k2 := k_43) (by rw [hk9]; exact up_ne (by omega)))
          replace r14 := (r14.to (k2 := k_43) (by rw [hk9]; exact up_ne (by omega)))
          replace r15 := (r15.to (k2 := k_43) (by rw [hk9]; exact up_ne (by omega)))
          replace r16 := (r16.to (k2 := k_43) (by rw [hk9]; exact up_ne (by omega)))
          replace r17 := (r17.to (k2 := k_43) (by rw [hk9]; exact up_ne (by omega)))
          clear h0
          have h0 : zc b (274) k_43 (b + 255) (.inr (6, [.int (nI kk), .int (nI dd), .int (nI 1), .ref (b + 256), .ref (b + 257), .ref (b + 258), .ref (b + 259), .ref (b + 260), .ref (b + 261), .ref (b + 262), .ref (b + 263), .ref (b + 264), .int 0, .ref (b + 265), .ref (b + 266), .ref (b + 267), .ref (b + 268), .ref (b + 269), .ref (b + 270), .ref (b + 271), .ref (b + 272), .ref (b + 273)])) := by rw [hk9]; exact ⟨by omega, by omega, up_eq⟩
          replace hf : ∀ q, q < b + 255 → k_43 q = k q := fun q hq => by rw [hk9]; exact (up_ne (by omega)).trans (hf q hq)
          clear hk9
          exact z_vret X d_R_init_208 (by omega) (by omega) (⟨⟨h0, r0, r1, r2, r3, r4, r5, r6, r7, r8, r9, r10, r11, r12, r13, r14, r15, r16, r17⟩, hf⟩)
        · skip
          refine z_bipush X d_R_init_199 (v := nI 16) (by decide +kernel) ?_
          refine z_goto X d_R_init_201 (tgt := 205) (by decide) ?_
          refine z_top (y := .int (nI dd)) (by rw [← hdd]; exact congrArg Value.int (clk_b (by omega) (by omega) hB)) ?_
          refine z_put X h0 rfl in_R ty_R_ok n_R 1 (by decide) (wq lf_R_72) rfl rfl rfl (Nat.le_of_ble_eq_true rfl) d_R_init_205 ?_
          refine z_named (fun k_44 hk9 => ?_)
          replace r0 := (r0.to (k2 := k_44) (by rw [hk9]; exact up_ne (by omega)))
          replace r1 := (r1.to (k2 := k_44) (by rw [hk9]; exact up_ne (by omega)))
          replace r2 := (r2.to (k2 := k_44) (by rw [hk9]; exact up_ne (by omega)))
          replace r3 := (r3.to (k2 := k_44) (by rw [hk9]; exact up_ne (by omega)))
          replace r4 := (r4.to (k2 := k_44) (by rw [hk9]; exact up_ne (by omega)))
          replace r5 := (r5.to (k2 := k_44) (by rw [hk9]; exact up_ne (by omega)))
          replace r6 := (r6.to (k2 := k_44) (by rw [hk9]; exact up_ne (by omega)))
          replace r7 := (r7.to (k2 := k_44) (by rw [hk9]; exact up_ne (by omega)))
          replace r8 := (r8.to (k2 := k_44) (by rw [hk9]; exact up_ne (by omega)))
          replace r9 := (r9.to (k2 := k_44) (by rw [hk9]; exact up_ne (by omega)))
          replace r10 := (r10.to (k2 := k_44) (by rw [hk9]; exact up_ne (by omega)))
          replace r11 := (r11.to (k2 := k_44) (by rw [hk9]; exact up_ne (by omega)))
          replace r12 := (r12.to (k2 := k_44) (by rw [hk9]; exact up_ne (by omega)))
          replace r13 := (r13.to (k2 := k_44) (by rw [hk9]; exact up_ne (by omega)))
          replace r14 := (r14.to (k2 := k_44) (by rw [hk9]; exact up_ne (by omega)))
          replace r15 := (r15.to (k2 := k_44) (by rw [hk9]; exact up_ne (by omega)))
          replace r16 := (r16.to (k2 := k_44) (by rw [hk9]; exact up_ne (by omega)))
          replace r17 := (r17.to (k2 := k_44) (by rw [hk9]; exact up_ne (by omega)))
          clear h0
          have h0 : zc b (274) k_44 (b + 255) (.inr (6, [.int (nI kk), .int (nI dd), .int (nI 1), .ref (b + 256), .ref (b + 257), .ref (b + 258), .ref (b + 259), .ref (b + 260), .ref (b + 261), .ref (b + 262), .ref (b + 263), .ref (b + 264), .int 0, .ref (b + 265), .ref (b + 266), .ref (b + 267), .ref (b + 268), .ref (b + 269), .ref (b + 270), .ref (b + 271), .ref (b + 272), .ref (b + 273)])) := by rw [hk9]; exact ⟨by omega, by omega, up_eq⟩
          replace hf : ∀ q, q < b + 255 → k_44 q = k q := fun q hq => by rw [hk9]; exact (up_ne (by omega)).trans (hf q hq)
          clear hk9
          exact z_vret X d_R_init_208 (by omega) (by omega) (⟨⟨h0, r0, r1, r2, r3, r4, r5, r6, r7, r8, r9, r10, r11, r12, r13, r14, r15, r16, r17⟩, hf⟩)
      · skip
        refine z_iconst X d_R_init_189 (v := nI 2) (by decide +kernel) ?_
        refine z_goto X d_R_init_190 (tgt := 205) (by decide) ?_
        refine z_top (y := .int (nI dd)) (by rw [← hdd]; exact congrArg Value.int (clk_a (by omega) (by omega) hA)) ?_
        refine z_put X h0 rfl in_R ty_R_ok n_R 1 (by decide) (wq lf_R_72) rfl rfl rfl (Nat.le_of_ble_eq_true rfl) d_R_init_205 ?_
        refine z_named (fun k_45 hk9 => ?_)
        replace r0 := (r0.to (k2 := k_45) (by rw [hk9]; exact up_ne (by omega)))
        replace r1 := (r1.to (k2 := k_45) (by rw [hk9]; exact up_ne (by omega)))
        replace r2 := (r2.to (k2 := k_45) (by rw [hk9]; exact up_ne (by omega)))
        replace r3 := (r3.to (k2 := k_45) (by rw [hk9]; exact up_ne (by omega)))
        replace r4 := (r4.to (k2 := k_45) (by rw [hk9]; exact up_ne (by omega)))
        replace r5 := (r5.to (k2 := k_45) (by rw [hk9]; exact up_ne (by omega)))
        replace r6 := (r6.to (k2 := k_45) (by rw [hk9]; exact up_ne (by omega)))
        replace r7 := (r7.to (k2 := k_45) (by rw [hk9]; exact up_ne (by omega)))
        replace r8 := (r8.to (k2 := k_45) (by rw [hk9]; exact up_ne (by omega)))
        replace r9 := (r9.to (k2 := k_45) (by rw [hk9]; exact up_ne (by omega)))
        replace r10 := (r10.to (k2 := k_45) (by rw [hk9]; exact up_ne (by omega)))
        replace r11 := (r11.to (k2 := k_45) (by rw [hk9]; exact up_ne (by omega)))
        replace r12 := (r12.to (k2 := k_45) (by rw [hk9]; exact up_ne (by omega)))
        replace r13 := (r13.to (k2 := k_45) (by rw [hk9]; exact up_ne (by omega)))
        replace r14 := (r14.to (k2 := k_45) (by rw [hk9]; exact up_ne (by omega)))
        replace r15 := (r15.to (k2 := k_45) (by rw [hk9]; exact up_ne (by omega)))
        replace r16 := (r16.to (k2 := k_45) (by rw [hk9]; exact up_ne (by omega)))
        replace r17 := (r17.to (k2 := k_45) (by rw [hk9]; exact up_ne (by omega)))
        clear h0
        have h0 : zc b (274) k_45 (b + 255) (.inr (6, [.int (nI kk), .int (nI dd), .int (nI 1), .ref (b + 256), .ref (b + 257), .ref (b + 258), .ref (b + 259), .ref (b + 260), .ref (b + 261), .ref (b + 262), .ref (b + 263), .ref (b + 264), .int 0, .ref (b + 265), .ref (b + 266), .ref (b + 267), .ref (b + 268), .ref (b + 269), .ref (b + 270), .ref (b + 271), .ref (b + 272), .ref (b + 273)])) := by rw [hk9]; exact ⟨by omega, by omega, up_eq⟩
        replace hf : ∀ q, q < b + 255 → k_45 q = k q := fun q hq => by rw [hk9]; exact (up_ne (by omega)).trans (hf q hq)
        clear hk9
        exact z_vret X d_R_init_208 (by omega) (by omega) (⟨⟨h0, r0, r1, r2, r3, r4, r5, r6, r7, r8, r9, r10, r11, r12, r13, r14, r15, r16, r17⟩, hf⟩)
  · skip
    refine z_iconst X d_R_init_164 (v := nI 1) (by decide +kernel) ?_
    refine z_goto X d_R_init_165 (tgt := 180) (by decide) ?_
    refine z_top (y := .int (nI kk)) (by rw [← hkk]; exact congrArg Value.int (clk_a (by omega) (by omega) hA)) ?_
    refine z_put X h0 rfl in_R ty_R_ok n_R 0 (by decide) (wq lf_R_69) rfl rfl rfl (Nat.le_of_ble_eq_true rfl) d_R_init_180 ?_
    refine z_named (fun k_46 hk9 => ?_)
    replace r0 := (r0.to (k2 := k_46) (by rw [hk9]; exact up_ne (by omega)))
    replace r1 := (r1.to (k2 := k_46) (by rw [hk9]; exact up_ne (by omega)))
    replace r2 := (r2.to (k2 := k_46) (by rw [hk9]; exact up_ne (by omega)))
    replace r3 := (r3.to (k2 := k_46) (by rw [hk9]; exact up_ne (by omega)))
    replace r4 := (r4.to (k2 := k_46) (by rw [hk9]; exact up_ne (by omega)))
    replace r5 := (r5.to (k2 := k_46) (by rw [hk9]; exact up_ne (by omega)))
    replace r6 := (r6.to (k2 := k_46) (by rw [hk9]; exact up_ne (by omega)))
    replace r7 := (r7.to (k2 := k_46) (by rw [hk9]; exact up_ne (by omega)))
    replace r8 := (r8.to (k2 := k_46) (by rw [hk9]; exact up_ne (by omega)))
    replace r9 := (r9.to (k2 := k_46) (by rw [hk9]; exact up_ne (by omega)))
    replace r10 := (r10.to (k2 := k_46) (by rw [hk9]; exact up_ne (by omega)))
    replace r11 := (r11.to (k2 := k_46) (by rw [hk9]; exact up_ne (by omega)))
    replace r12 := (r12.to (k2 := k_46) (by rw [hk9]; exact up_ne (by omega)))
    replace r13 := (r13.to (k2 := k_46) (by rw [hk9]; exact up_ne (by omega)))
    replace r14 := (r14.to (k2 := k_46) (by rw [hk9]; exact up_ne (by omega)))
    replace r15 := (r15.to (k2 := k_46) (by rw [hk9]; exact up_ne (by omega)))
    replace r16 := (r16.to (k2 := k_46) (by rw [hk9]; exact up_ne (by omega)))
    replace r17 := (r17.to (k2 := k_46) (by rw [hk9]; exact up_ne (by omega)))
    clear h0
    have h0 : zc b (274) k_46 (b + 255) (.inr (6, [.int (nI kk), .int 0, .int (nI 1), .ref (b + 256), .ref (b + 257), .ref (b + 258), .ref (b + 259), .ref (b + 260), .ref (b + 261), .ref (b + 262), .ref (b + 263), .ref (b + 264), .int 0, .ref (b + 265), .ref (b + 266), .ref (b + 267), .ref (b + 268), .ref (b + 269), .ref (b + 270), .ref (b + 271), .ref (b + 272), .ref (b + 273)])) := by rw [hk9]; exact ⟨by omega, by omega, up_eq⟩
    replace hf : ∀ q, q < b + 255 → k_46 q = k q := fun q hq => by rw [hk9]; exact (up_ne (by omega)).trans (hf q hq)
    clear hk9
    refine z_aload_n X d_R_init_183 rfl ?_
    refine z_iload_n X d_R_init_184 rfl ?_
    refine z_iconst X d_R_init_185 (v := nI 2) (by decide +kernel) ?_
    refine z_icmp_ge X d_R_init_186 (tgt := 193) (by decide) (fun hA => ?_) (fun hA => ?_)
    · skip
      refine z_iload_n X d_R_init_193 rfl ?_
      refine z_bipush X d_R_init_194 (v := nI 16) (by decide +kernel) ?_
      refine z_icmp_le X d_R_init_196 (tgt := 204) (by decide) (fun hB => ?_) (fun hB => ?_)
      · skip
        refine z_iload_n X d_R_init_204 rfl ?_
        refine z_top (y := .int (nI dd)) (by rw [← hdd]; exact congrArg Value.int (clk_c hA hB)) ?_
        refine z_put X h0 rfl in_R ty_R_ok n_R 1 (by decide) (wq lf_R_72) rfl rfl rfl (Nat.le_of_ble_eq_true rfl) d_R_init_205 ?_
        refine z_named (fun k_47 hk9 => ?_)
        replace r0 := (r0.to (k2 := k_47) (by rw [hk9]; exact up_ne (by omega)))
        replace r1 := (r1.to (k2 := k_47) (by rw [hk9]; exact up_ne (by omega)))
        replace r2 := (r2.to (k2 := k_47) (by rw [hk9]; exact up_ne (by omega)))
        replace r3 := (r3.to (k2 := k_47) (by rw [hk9]; exact up_ne (by omega)))
        replace r4 := (r4.to (k2 := k_47) (by rw [hk9]; exact up_ne (by omega)))
        replace r5 := (r5.to (k2 := k_47) (by rw [hk9]; exact up_ne (by omega)))
        replace r6 := (r6.to (k2 := k_47) (by rw [hk9]; exact up_ne (by omega)))
        replace r7 := (r7.to (k2 := k_47) (by rw [hk9]; exact up_ne (by omega)))
        replace r8 := (r8.to (k2 := k_47) (by rw [hk9]; exact up_ne (by omega)))
        replace r9 := (r9.to (k2 := k_47) (by rw [hk9]; exact up_ne (by omega)))
        replace r10 := (r10.to (k2 := k_47) (by rw [hk9]; exact up_ne (by omega)))
        replace r11 := (r11.to (k2 := k_47) (by rw [hk9]; exact up_ne (by omega)))
        replace r12 := (r12.to (k2 := k_47) (by rw [hk9]; exact up_ne (by omega)))
        replace r13 := (r13.to (k2 := k_47) (by rw [hk9]; exact up_ne (by omega)))
        replace r14 := (r14.to (k2 := k_47) (by rw [hk9]; exact up_ne (by omega)))
        replace r15 := (r15.to (k2 := k_47) (by rw [hk9]; exact up_ne (by omega)))
        replace r16 := (r16.to (k2 := k_47) (by rw [hk9]; exact up_ne (by omega)))
        replace r17 := (r17.to (k2 := k_47) (by rw [hk9]; exact up_ne (by omega)))
        clear h0
        have h0 : zc b (274) k_47 (b + 255) (.inr (6, [.int (nI kk), .int (nI dd), .int (nI 1), .ref (b + 256), .ref (b + 257), .ref (b + 258), .ref (b + 259), .ref (b + 260), .ref (b + 261), .ref (b + 262), .ref (b + 263), .ref (b + 264), .int 0, .ref (b + 265), .ref (b + 266), .ref (b + 267), .ref (b + 268), .ref (b + 269), .ref (b + 270), .ref (b + 271), .ref (b + 272), .ref (b + 273)])) := by rw [hk9]; exact ⟨by omega, by omega, up_eq⟩
        replace hf : ∀ q, q < b + 255 → k_47 q = k q := fun q hq => by rw [hk9]; exact (up_ne (by omega)).trans (hf q hq)
        clear hk9
        exact z_vret X d_R_init_208 (by omega) (by omega) (⟨⟨h0, r0, r1, r2, r3, r4, r5, r6, r7, r8, r9, r10, r11, r12, r13, r14, r15, r16, r17⟩, hf⟩)
      · skip
        refine z_bipush X d_R_init_199 (v := nI 16) (by decide +kernel) ?_
        refine z_goto X d_R_init_201 (tgt := 205) (by decide) ?_
        refine z_top (y := .int (nI dd)) (by rw [← hdd]; exact congrArg Value.int (clk_b (by omega) (by omega) hB)) ?_
        refine z_put X h0 rfl in_R ty_R_ok n_R 1 (by decide) (wq lf_R_72) rfl rfl rfl (Nat.le_of_ble_eq_true rfl) d_R_init_205 ?_
        refine z_named (fun k_48 hk9 => ?_)
        replace r0 := (r0.to (k2 := k_48) (by rw [hk9]; exact up_ne (by omega)))
        replace r1 := (r1.to (k2 := k_48) (by rw [hk9]; exact up_ne (by omega)))
        replace r2 := (r2.to (k2 := k_48) (by rw [hk9]; exact up_ne (by omega)))
        replace r3 := (r3.to (k2 := k_48) (by rw [hk9]; exact up_ne (by omega)))
        replace r4 := (r4.to (k2 := k_48) (by rw [hk9]; exact up_ne (by omega)))
        replace r5 := (r5.to (k2 := k_48) (by rw [hk9]; exact up_ne (by omega)))
        replace r6 := (r6.to (k2 := k_48) (by rw [hk9]; exact up_ne (by omega)))
        replace r7 := (r7.to (k2 := k_48) (by rw [hk9]; exact up_ne (by omega)))
        replace r8 := (r8.to (k2 := k_48) (by rw [hk9]; exact up_ne (by omega)))
        replace r9 := (r9.to (k2 := k_48) (by rw [hk9]; exact up_ne (by omega)))
        replace r10 := (r10.to (k2 := k_48) (by rw [hk9]; exact up_ne (by omega)))
        replace r11 := (r11.to (k2 := k_48) (by rw [hk9]; exact up_ne (by omega)))
        replace r12 := (r12.to (k2 := k_48) (by rw [hk9]; exact up_ne (by omega)))
        replace r13 := (r13.to (k2 := k_48) (by rw [hk9]; exact up_ne (by omega)))
        replace r14 := (r14.to (k2 := k_48) (by rw [hk9]; exact up_ne (by omega)))
        replace r15 := (r15.to (k2 := k_48) (by rw [hk9]; exact up_ne (by omega)))
        replace r16 := (r16.to (k2 := k_48) (by rw [hk9]; exact up_ne (by omega)))
        replace r17 := (r17.to (k2 := k_48) (by rw [hk9]; exact up_ne (by omega)))
        clear h0
        have h0 : zc b (274) k_48 (b + 255) (.inr (6, [.int (nI kk), .int (nI dd), .int (nI 1), .ref (b + 256), .ref (b + 257), .ref (b + 258), .ref (b + 259), .ref (b + 260), .ref (b + 261), .ref (b + 262), .ref (b + 263), .ref (b + 264), .int 0, .ref (b + 265), .ref (b + 266), .ref (b + 267), .ref (b + 268), .ref (b + 269), .ref (b + 270), .ref (b + 271), .ref (b + 272), .ref (b + 273)])) := by rw [hk9]; exact ⟨by omega, by omega, up_eq⟩
        replace hf : ∀ q, q < b + 255 → k_48 q = k q := fun q hq => by rw [hk9]; exact (up_ne (by omega)).trans (hf q hq)
        clear hk9
        exact z_vret X d_R_init_208 (by omega) (by omega) (⟨⟨h0, r0, r1, r2, r3, r4, r5, r6, r7, r8, r9, r10, r11, r12, r13, r14, r15, r16, r17⟩, hf⟩)
    · skip
      refine z_iconst X d_R_init_189 (v := nI 2) (by decide +kernel) ?_
      refine z_goto X d_R_init_190 (tgt := 205) (by decide) ?_
      refine z_top (y := .int (nI dd)) (by rw [← hdd]; exact congrArg Value.int (clk_a (by omega) (by omega) hA)) ?_
      refine z_put X h0 rfl in_R ty_R_ok n_R 1 (by decide) (wq lf_R_72) rfl rfl rfl (Nat.le_of_ble_eq_true rfl) d_R_init_205 ?_
      refine z_named (fun k_49 hk9 => ?_)
      replace r0 := (r0.to (k2 := k_49) (by rw [hk9]; exact up_ne (by omega)))
      replace r1 := (r1.to (k2 := k_49) (by rw [hk9]; exact up_ne (by omega)))
      replace r2 := (r2.to (k2 := k_49) (by rw [hk9]; exact up_ne (by omega)))
      replace r3 := (r3.to (k2 := k_49) (by rw [hk9]; exact up_ne (by omega)))
      replace r4 := (r4.to (k2 := k_49) (by rw [hk9]; exact up_ne (by omega)))
      replace r5 := (r5.to (k2 := k_49) (by rw [hk9]; exact up_ne (by omega)))
      replace r6 := (r6.to (k2 := k_49) (by rw [hk9]; exact up_ne (by omega)))
      replace r7 := (r7.to (k2 := k_49) (by rw [hk9]; exact up_ne (by omega)))
      replace r8 := (r8.to (k2 := k_49) (by rw [hk9]; exact up_ne (by omega)))
      replace r9 := (r9.to (k2 := k_49) (by rw [hk9]; exact up_ne (by omega)))
      replace r10 := (r10.to (k2 := k_49) (by rw [hk9]; exact up_ne (by omega)))
      replace r11 := (r11.to (k2 := k_49) (by rw [hk9]; exact up_ne (by omega)))
      replace r12 := (r12.to (k2 := k_49) (by rw [hk9]; exact up_ne (by omega)))
      replace r13 := (r13.to (k2 := k_49) (by rw [hk9]; exact up_ne (by omega)))
      replace r14 := (r14.to (k2 := k_49) (by rw [hk9]; exact up_ne (by omega)))
      replace r15 := (r15.to (k2 := k_49) (by rw [hk9]; exact up_ne (by omega)))
      replace r16 := (r16.to (k2 := k_49) (by rw [hk9]; exact up_ne (by omega)))
      replace r17 := (r17.to (k2 := k_49) (by rw [hk9]; exact up_ne (by omega)))
      clear h0
      have h0 : zc b (274) k_49 (b + 255) (.inr (6, [.int (nI kk), .int (nI dd), .int (nI 1), .ref (b + 256), .ref (b + 257), .ref (b + 258), .ref (b + 259), .ref (b + 260), .ref (b + 261), .ref (b + 262), .ref (b + 263), .ref (b + 264), .int 0, .ref (b + 265), .ref (b + 266), .ref (b + 267), .ref (b + 268), .ref (b + 269), .ref (b + 270), .ref (b + 271), .ref (b + 272), .ref (b + 273)])) := by rw [hk9]; exact ⟨by omega, by omega, up_eq⟩
      replace hf : ∀ q, q < b + 255 → k_49 q = k q := fun q hq => by rw [hk9]; exact (up_ne (by omega)).trans (hf q hq)
      clear hk9
      exact z_vret X d_R_init_208 (by omega) (by omega) (⟨⟨h0, r0, r1, r2, r3, r4, r5, r6, r7, r8, r9, r10, r11, r12, r13, r14, r15, r16, r17⟩, hf⟩)
end
