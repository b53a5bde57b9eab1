/-! Contracts: Summary. A summary is six cells from a on: n, sum, least, greatest, the counts by leaf, the counters, the digest -/
abbrev Sv : Type := Int32 × Int64 × Int32 × Int32 × (Nat → Int32) × (Nat → Int32) × (Nat → Int32)
def isS (tI : ClassId) (b N : Nat) (k : Nat → va_E) (kk : Nat) (dv : Int32) (a : Nat) (v : Sv) : Prop :=
  zc b N k a (.inr (4, [.int v.1, .long v.2.1, .int v.2.2.1, .int v.2.2.2.1, .ref (a + 1), .ref (a + 2), .ref (a + 4)])) ∧ zc b N k (a + 1) (aI tI 12 v.2.2.2.2.1) ∧ zc b N k (a + 2) (.inr (0, [.int (nI kk), .ref (a + 3)])) ∧ zc b N k (a + 3) (aI tI 32 v.2.2.2.2.2.1) ∧ zc b N k (a + 4) (.inr (1, [.int dv, .ref (a + 5)])) ∧ zc b N k (a + 5) (aI tI 64 v.2.2.2.2.2.2)
/-- nothing beyond the arrays' ends -/
def nS (v : Sv) : Prop := (∀ i, 12 ≤ i → v.2.2.2.2.1 i = 0) ∧ (∀ i, 32 ≤ i → v.2.2.2.2.2.1 i = 0) ∧ ∀ i, 64 ≤ i → v.2.2.2.2.2.2 i = 0
/-- nothing but these cells changed -/
def frm (k k2 : Nat → va_E) (a n : Nat) : Prop := ∀ q, q < a ∨ a + n ≤ q → k2 q = k q
def wLo (n lo x : Int32) : Int32 := if n = 0 then x else if x < lo then x else lo
def wHi (n hi x : Int32) : Int32 := if n = 0 then x else if hi < x then x else hi
theorem isS.to {tI : ClassId} {b N kk a : Nat} {dv : Int32} {k k2 : Nat → va_E} {v : Sv} (h : isS tI b N k kk dv a v) (he : ∀ q, a ≤ q → q < a + 6 → k2 q = k q) : isS tI b N k2 kk dv a v := by
  obtain ⟨h0, h1, h2, h3, h4, h5⟩ := h
  exact ⟨h0.to (he _ (by omega) (by omega)), h1.to (he _ (by omega) (by omega)), h2.to (he _ (by omega) (by omega)), h3.to (he _ (by omega) (by omega)), h4.to (he _ (by omega) (by omega)), h5.to (he _ (by omega) (by omega))⟩
theorem isS.keep {tI : ClassId} {b N kk a c m : Nat} {dv : Int32} {k k2 : Nat → va_E} {v : Sv} (h : isS tI b N k kk dv a v) (hf : frm k k2 c m) (hd : a + 6 ≤ c ∨ c + m ≤ a) : isS tI b N k2 kk dv a v := h.to (fun q h1 h2 => hf q (by omega))
def eS : Sv := (0, 0, 0, 0, fun _ => 0, fun _ => 0, fun _ => 0)
def clS (v : Sv) : Sv := (0, 0, v.2.2.1, v.2.2.2.1, fun _ => 0, fun _ => 0, fun _ => 0)
def tkS (kk : Nat) (dv : Int32) (v : Sv) (x lf : Nat) : Sv := (v.1 + 1, v.2.1 + (nI x).toInt64, wLo v.1 v.2.2.1 (nI x), wHi v.1 v.2.2.2.1 (nI x), upd v.2.2.2.2.1 lf (v.2.2.2.2.1 lf + 1), tkC kk v.2.2.2.2.2.1 x, cpr ((v.1 + 1) / dv) 4096 (upd v.2.2.2.2.2.2 (32 + x) (v.2.2.2.2.2.2 (32 + x) + 1)))
def mgS (kk : Nat) (dv : Int32) (v w : Sv) : Sv := (v.1 + w.1, v.2.1 + w.2.1, wLo v.1 v.2.2.1 w.2.2.1, wHi v.1 v.2.2.2.1 w.2.2.2.1, ad v.2.2.2.2.1 w.2.2.2.2.1, mgC kk v.2.2.2.2.2.1 w.2.2.2.2.2.1, cpr ((v.1 + w.1) / dv) 4096 (ad v.2.2.2.2.2.2 w.2.2.2.2.2.2))
section
variable {l : Launch} {D : va_G} {tI tZ tN tM : ClassId} {b N : Nat} {k : Nat → va_E}
set_option maxHeartbeats 4000000 in
set_option maxRecDepth 100000 in
/-- widen(x, y) -/
theorem c_S_widen {a : Nat} {n lo hi x y : Int32} {su : Int64} (h0 : zc b N k a (.inr (4, [.int n, .long su, .int lo, .int hi, .ref (a + 1), .ref (a + 2), .ref (a + 4)]))) : Met l y_S_widen (wy y_S_widen b_S_widen 3 none) (rm 1 0 0) (zPc D (tyl tI tZ tN tM) b N k [.ref a, .int x, .int y]) (zQv D b N (fun k2 => k2 = va_up k a (.inr (4, [.int n, .long su, .int (wLo n lo x), .int (wHi n hi y), .ref (a + 1), .ref (a + 2), .ref (a + 4)])))) 0 0 (zA b) := by
  refine z_met (own := R_S) (by decide) rfl rfl (Nat.le_of_ble_eq_true rfl) [some (.ref a), some (.int x), some (.int y)] rfl ?_
  intro p e s m args below meth c X hin
  refine z_aload_n X d_S_widen_0 rfl ?_
  refine z_aload_n X d_S_widen_1 rfl ?_
  refine z_get X h0 rfl in_S 0 (by decide) (wq lf_S_9) rfl d_S_widen_2 ?_
  refine z_if_ne X d_S_widen_5 (tgt := 12) (by decide) (fun hA => ?_) (fun hA => ?_)
  · skip
    refine z_aload_n X d_S_widen_12 rfl ?_
    refine z_get X h0 rfl in_S 2 (by decide) (wq lf_S_19) rfl d_S_widen_13 ?_
    refine z_iload_n X d_S_widen_16 rfl ?_
    refine z_mmin X (wq lm_S_76) (wq vs_min) (wq vn_Math) (wq vc_min) d_S_widen_17 (Nat.le_of_ble_eq_true rfl) (Nat.le_of_ble_eq_true rfl) (Nat.le_of_ble_eq_true rfl) (Nat.le_of_ble_eq_true rfl) ?_
    refine z_put X h0 rfl in_S ty_S_ok n_S 2 (by decide) (wq lf_S_19) rfl rfl rfl (Nat.le_of_ble_eq_true rfl) d_S_widen_20 ?_
    have h0 := h0.up (y := .inr (4, [.int n, .long su, .int (if x < lo then x else lo), .int hi, .ref (a + 1), .ref (a + 2), .ref (a + 4)]))
    refine z_aload_n X d_S_widen_23 rfl ?_
    refine z_aload_n X d_S_widen_24 rfl ?_
    refine z_get X h0 rfl in_S 0 (by decide) (wq lf_S_9) rfl d_S_widen_25 ?_
    refine z_if_ne X d_S_widen_28 (tgt := 35) (by decide) (fun hB => ?_) (fun hB => ?_)
    · skip
      refine z_aload_n X d_S_widen_35 rfl ?_
      refine z_get X h0 rfl in_S 3 (by decide) (wq lf_S_22) rfl d_S_widen_36 ?_
      refine z_iload_n X d_S_widen_39 rfl ?_
      refine z_mmax X (wq lm_S_82) (wq vs_max) (wq vn_Math) (wq vc_max) d_S_widen_40 (Nat.le_of_ble_eq_true rfl) (Nat.le_of_ble_eq_true rfl) (Nat.le_of_ble_eq_true rfl) (Nat.le_of_ble_eq_true rfl) ?_
      refine z_put X h0 rfl in_S ty_S_ok n_S 3 (by decide) (wq lf_S_22) rfl rfl rfl (Nat.le_of_ble_eq_true rfl) d_S_widen_43 ?_
      have h0 := h0.up (y := .inr (4, [.int n, .long su, .int (if x < lo then x else lo), .int (if hi < y then y else hi), .ref (a + 1), .ref (a + 2), .ref (a + 4)]))
      exact z_vret X d_S_widen_46 (by omega) (by omega) (by rw [up_up]; unfold wLo wHi; rw [if_neg hA, if_neg hB]; rfl)
    · skip
      refine z_iload_n X d_S_widen_31 rfl ?_
      refine z_goto X d_S_widen_32 (tgt := 43) (by decide) ?_
      refine z_put X h0 rfl in_S ty_S_ok n_S 3 (by decide) (wq lf_S_22) rfl rfl rfl (Nat.le_of_ble_eq_true rfl) d_S_widen_43 ?_
      have h0 := h0.up (y := .inr (4, [.int n, .long su, .int (if x < lo then x else lo), .int y, .ref (a + 1), .ref (a + 2), .ref (a + 4)]))
      exact z_vret X d_S_widen_46 (by omega) (by omega) (by rw [up_up]; unfold wLo wHi; rw [if_neg hA, if_pos hB]; rfl)
  · skip
    refine z_iload_n X d_S_widen_8 rfl ?_
    refine z_goto X d_S_widen_9 (tgt := 20) (by decide) ?_
    refine z_put X h0 rfl in_S ty_S_ok n_S 2 (by decide) (wq lf_S_19) rfl rfl rfl (Nat.le_of_ble_eq_true rfl) d_S_widen_20 ?_
    have h0 := h0.up (y := .inr (4, [.int n, .long su, .int x, .int hi, .ref (a + 1), .ref (a + 2), .ref (a + 4)]))
    refine z_aload_n X d_S_widen_23 rfl ?_
    refine z_aload_n X d_S_widen_24 rfl ?_
    refine z_get X h0 rfl in_S 0 (by decide) (wq lf_S_9) rfl d_S_widen_25 ?_
    refine z_if_ne X d_S_widen_28 (tgt := 35) (by decide) (fun hB => ?_) (fun hB => ?_)
    · skip
      refine z_aload_n X d_S_widen_35 rfl ?_
      refine z_get X h0 rfl in_S 3 (by decide) (wq lf_S_22) rfl d_S_widen_36 ?_
      refine z_iload_n X d_S_widen_39 rfl ?_
      refine z_mmax X (wq lm_S_82) (wq vs_max) (wq vn_Math) (wq vc_max) d_S_widen_40 (Nat.le_of_ble_eq_true rfl) (Nat.le_of_ble_eq_true rfl) (Nat.le_of_ble_eq_true rfl) (Nat.le_of_ble_eq_true rfl) ?_
      refine z_put X h0 rfl in_S ty_S_ok n_S 3 (by decide) (wq lf_S_22) rfl rfl rfl (Nat.le_of_ble_eq_true rfl) d_S_widen_43 ?_
      have h0 := h0.up (y := .inr (4, [.int n, .long su, .int x, .int (if hi < y then y else hi), .ref (a + 1), .ref (a + 2), .ref (a + 4)]))
      exact z_vret X d_S_widen_46 (by omega) (by omega) (by rw [up_up]; unfold wLo wHi; rw [if_pos hA, if_neg hB]; rfl)
    · skip
      refine z_iload_n X d_S_widen_31 rfl ?_
      refine z_goto X d_S_widen_32 (tgt := 43) (by decide) ?_
      refine z_put X h0 rfl in_S ty_S_ok n_S 3 (by decide) (wq lf_S_22) rfl rfl rfl (Nat.le_of_ble_eq_true rfl) d_S_widen_43 ?_
      have h0 := h0.up (y := .inr (4, [.int n, .long su, .int x, .int y, .ref (a + 1), .ref (a + 2), .ref (a + 4)]))
      exact z_vret X d_S_widen_46 (by omega) (by omega) (by rw [up_up]; unfold wLo wHi; rw [if_pos hA, if_pos hB]; rfl)
set_option maxHeartbeats 4000000 in
set_option maxRecDepth 100000 in
/-- makeEmpty() -/
theorem c_S_makeEmpty {a kk : Nat} {dv n lo hi : Int32} {su : Int64} {fr ct dg : Nat → Int32} (hS : isS tI b N k kk dv a (n, su, lo, hi, fr, ct, dg)) (hn : nS (n, su, lo, hi, fr, ct, dg)) : Met l y_S_makeEmpty (wy y_S_makeEmpty b_S_makeEmpty 1 none) (rm 1 0 0) (zPc D (tyl tI tZ tN tM) b N k [.ref a]) (zQv D b N (fun k2 => isS tI b N k2 kk dv a (clS (n, su, lo, hi, fr, ct, dg)) ∧ frm k k2 a 6)) 0 0 (zA b) := by
  refine z_met (own := R_S) (by decide) rfl rfl (Nat.le_of_ble_eq_true rfl) [some (.ref a)] rfl ?_
  intro p e s m args below meth c X hin
  obtain ⟨h0, h1, h2, h3, h4, h5⟩ := hS
  try dsimp only at h0 h1 h2 h3 h4 h5
  obtain ⟨n1, n2, n3⟩ := hn
  refine z_aload_n X d_S_makeEmpty_0 rfl ?_
  refine z_iconst X d_S_makeEmpty_1 (v := nI 0) (by decide +kernel) ?_
  refine z_put X h0 rfl in_S ty_S_ok n_S 0 (by decide) (wq lf_S_9) rfl rfl rfl (Nat.le_of_ble_eq_true rfl) d_S_makeEmpty_2 ?_
  have h1 := h1.ne (q := a) (y := .inr (4, [.int (nI 0), .long su, .int lo, .int hi, .ref (a + 1), .ref (a + 2), .ref (a + 4)])) (by omega)
  have h2 := h2.ne (q := a) (y := .inr (4, [.int (nI 0), .long su, .int lo, .int hi, .ref (a + 1), .ref (a + 2), .ref (a + 4)])) (by omega)
  have h3 := h3.ne (q := a) (y := .inr (4, [.int (nI 0), .long su, .int lo, .int hi, .ref (a + 1), .ref (a + 2), .ref (a + 4)])) (by omega)
  have h4 := h4.ne (q := a) (y := .inr (4, [.int (nI 0), .long su, .int lo, .int hi, .ref (a + 1), .ref (a + 2), .ref (a + 4)])) (by omega)
  have h5 := h5.ne (q := a) (y := .inr (4, [.int (nI 0), .long su, .int lo, .int hi, .ref (a + 1), .ref (a + 2), .ref (a + 4)])) (by omega)
  have h0 := h0.up (y := .inr (4, [.int (nI 0), .long su, .int lo, .int hi, .ref (a + 1), .ref (a + 2), .ref (a + 4)]))
  refine z_aload_n X d_S_makeEmpty_5 rfl ?_
  refine z_lconst X d_S_makeEmpty_6 (v := 0) (by decide +kernel) ?_
  refine z_put X h0 rfl in_S ty_S_ok n_S 1 (by decide) (wq lf_S_15) rfl rfl rfl (Nat.le_of_ble_eq_true rfl) d_S_makeEmpty_7 ?_
  have h1 := h1.ne (q := a) (y := .inr (4, [.int (nI 0), .long 0, .int lo, .int hi, .ref (a + 1), .ref (a + 2), .ref (a + 4)])) (by omega)
  have h2 := h2.ne (q := a) (y := .inr (4, [.int (nI 0), .long 0, .int lo, .int hi, .ref (a + 1), .ref (a + 2), .ref (a + 4)])) (by omega)
  have h3 := h3.ne (q := a) (y := .inr (4, [.int (nI 0), .long 0, .int lo, .int hi, .ref (a + 1), .ref (a + 2), .ref (a + 4)])) (by omega)
  have h4 := h4.ne (q := a) (y := .inr (4, [.int (nI 0), .long 0, .int lo, .int hi, .ref (a + 1), .ref (a + 2), .ref (a + 4)])) (by omega)
  have h5 := h5.ne (q := a) (y := .inr (4, [.int (nI 0), .long 0, .int lo, .int hi, .ref (a + 1), .ref (a + 2), .ref (a + 4)])) (by omega)
  have h0 := h0.up (y := .inr (4, [.int (nI 0), .long 0, .int lo, .int hi, .ref (a + 1), .ref (a + 2), .ref (a + 4)]))
  refine z_aload_n X d_S_makeEmpty_10 rfl ?_
  refine z_get X h0 rfl in_S 4 (by decide) (wq lf_S_25) rfl d_S_makeEmpty_11 ?_
  refine z_callSNv X (a := 0) (c_T_clear h1 (by omega)) (⟨va_cnB 1 X.1.2.2.2.2 (gi_wy vc_T_clear) rfl rfl rfl (zn_S_45 X.2.2.2.2.2) (X.1.2.2.2.2 _ (wq vn_T)) (by decide +kernel) ⟨Nat.le_of_ble_eq_true rfl, Nat.le_of_ble_eq_true rfl⟩, X.1.2.2.2.2 _ (wq vs_T_clear), trivial⟩) (As := [.ref (a + 1)]) (st := []) rfl rfl (Nat.le_of_ble_eq_true rfl) d_S_makeEmpty_14 ⟨Nat.le_of_ble_eq_true rfl, Nat.le_of_ble_eq_true rfl⟩ (fun k2 hq => ?_)
  subst hq
  rw [pr_all (m := 12) (F := fun _ => 0) (C := fr) (fun i hi => (n1 i hi).symm)]
  have h0 := h0.ne (q := (a + 1)) (y := aI tI 12 (fun _ => 0)) (by omega)
  have h2 := h2.ne (q := (a + 1)) (y := aI tI 12 (fun _ => 0)) (by omega)
  have h3 := h3.ne (q := (a + 1)) (y := aI tI 12 (fun _ => 0)) (by omega)
  have h4 := h4.ne (q := (a + 1)) (y := aI tI 12 (fun _ => 0)) (by omega)
  have h5 := h5.ne (q := (a + 1)) (y := aI tI 12 (fun _ => 0)) (by omega)
  have h1 := h1.up (y := aI tI 12 (fun _ => 0))
  refine z_aload_n X d_S_makeEmpty_17 rfl ?_
  refine z_get X h0 rfl in_S 5 (by decide) (wq lf_S_34) rfl d_S_makeEmpty_18 ?_
  refine z_get X h2 rfl in_C 1 (by decide) (wq lf_S_49) rfl d_S_makeEmpty_21 ?_
  refine z_callSNv X (a := 0) (c_T_clear h3 (by omega)) (⟨va_cnB 1 X.1.2.2.2.2 (gi_wy vc_T_clear) rfl rfl rfl (zn_S_45 X.2.2.2.2.2) (X.1.2.2.2.2 _ (wq vn_T)) (by decide +kernel) ⟨Nat.le_of_ble_eq_true rfl, Nat.le_of_ble_eq_true rfl⟩, X.1.2.2.2.2 _ (wq vs_T_clear), trivial⟩) (As := [.ref (a + 3)]) (st := []) rfl rfl (Nat.le_of_ble_eq_true rfl) d_S_makeEmpty_24 ⟨Nat.le_of_ble_eq_true rfl, Nat.le_of_ble_eq_true rfl⟩ (fun k2 hq => ?_)
  subst hq
  rw [pr_all (m := 32) (F := fun _ => 0) (C := ct) (fun i hi => (n2 i hi).symm)]
  have h0 := h0.ne (q := (a + 3)) (y := aI tI 32 (fun _ => 0)) (by omega)
  have h1 := h1.ne (q := (a + 3)) (y := aI tI 32 (fun _ => 0)) (by omega)
  have h2 := h2.ne (q := (a + 3)) (y := aI tI 32 (fun _ => 0)) (by omega)
  have h4 := h4.ne (q := (a + 3)) (y := aI tI 32 (fun _ => 0)) (by omega)
  have h5 := h5.ne (q := (a + 3)) (y := aI tI 32 (fun _ => 0)) (by omega)
  have h3 := h3.up (y := aI tI 32 (fun _ => 0))
  refine z_aload_n X d_S_makeEmpty_27 rfl ?_
  refine z_get X h0 rfl in_S 6 (by decide) (wq lf_S_41) rfl d_S_makeEmpty_28 ?_
  refine z_get X h4 rfl in_D 1 (by decide) (wq lf_S_52) rfl d_S_makeEmpty_31 ?_
  refine z_callSNv X (a := 0) (c_T_clear h5 (by omega)) (⟨va_cnB 1 X.1.2.2.2.2 (gi_wy vc_T_clear) rfl rfl rfl (zn_S_45 X.2.2.2.2.2) (X.1.2.2.2.2 _ (wq vn_T)) (by decide +kernel) ⟨Nat.le_of_ble_eq_true rfl, Nat.le_of_ble_eq_true rfl⟩, X.1.2.2.2.2 _ (wq vs_T_clear), trivial⟩) (As := [.ref (a + 5)]) (st := []) rfl rfl (Nat.le_of_ble_eq_true rfl) d_S_makeEmpty_34 ⟨Nat.le_of_ble_eq_true rfl, Nat.le_of_ble_eq_true rfl⟩ (fun k2 hq => ?_)
  subst hq
  rw [pr_all (m := 64) (F := fun _ => 0) (C := dg) (fun i hi => (n3 i hi).symm)]
  have h0 := h0.ne (q := (a + 5)) (y := aI tI 64 (fun _ => 0)) (by omega)
  have h1 := h1.ne (q := (a + 5)) (y := aI tI 64 (fun _ => 0)) (by omega)
  have h2 := h2.ne (q := (a + 5)) (y := aI tI 64 (fun _ => 0)) (by omega)
  have h3 := h3.ne (q := (a + 5)) (y := aI tI 64 (fun _ => 0)) (by omega)
  have h4 := h4.ne (q := (a + 5)) (y := aI tI 64 (fun _ => 0)) (by omega)
  have h5 := h5.up (y := aI tI 64 (fun _ => 0))
  rw [nI_0] at *
  exact z_vret X d_S_makeEmpty_37 (by omega) (by omega) (⟨⟨h0, h1, h2, h3, h4, h5⟩, fun q hq => by simp only [va_up]; repeat rw [if_neg (by omega)]⟩)
set_option maxHeartbeats 4000000 in
set_option maxRecDepth 100000 in
/-- setTo(other) -/
theorem c_S_setTo {a kk : Nat} {dv n lo hi : Int32} {su : Int64} {fr ct dg : Nat → Int32} {a2 kk2 : Nat} {dv2 nn lo2 hi2 : Int32} {su2 : Int64} {fr2 ct2 dg2 : Nat → Int32} (hS : isS tI b N k kk dv a (n, su, lo, hi, fr, ct, dg)) (hn : nS (n, su, lo, hi, fr, ct, dg)) (hS2 : isS tI b N k kk2 dv2 a2 (nn, su2, lo2, hi2, fr2, ct2, dg2)) (hn2 : nS (nn, su2, lo2, hi2, fr2, ct2, dg2)) (hne : a + 6 ≤ a2 ∨ a2 + 6 ≤ a) : Met l y_S_setTo (wy y_S_setTo b_S_setTo 2 none) (rm 1 0 0) (zPc D (tyl tI tZ tN tM) b N k [.ref a, .ref a2]) (zQv D b N (fun k2 => isS tI b N k2 kk dv a (nn, su2, lo2, hi2, fr2, ct2, dg2) ∧ frm k k2 a 6)) 0 0 (zA b) := by
  refine z_met (own := R_S) (by decide) rfl rfl (Nat.le_of_ble_eq_true rfl) [some (.ref a), some (.ref a2)] rfl ?_
  intro p e s m args below meth c X hin
  obtain ⟨h0, h1, h2, h3, h4, h5⟩ := hS
  try dsimp only at h0 h1 h2 h3 h4 h5
  obtain ⟨g0, g1, g2, g3, g4, g5⟩ := hS2
  try dsimp only at g0 g1 g2 g3 g4 g5
  obtain ⟨n1, n2, n3⟩ := hn
  obtain ⟨m1, m2, m3⟩ := hn2
  try dsimp only at n1 n2 n3 m1 m2 m3
  refine z_aload_n X d_S_setTo_0 rfl ?_
  refine z_aload_n X d_S_setTo_1 rfl ?_
  refine z_get X g0 rfl in_S 0 (by decide) (wq lf_S_9) rfl d_S_setTo_2 ?_
  refine z_put X h0 rfl in_S ty_S_ok n_S 0 (by decide) (wq lf_S_9) rfl rfl rfl (Nat.le_of_ble_eq_true rfl) d_S_setTo_5 ?_
  have h1 := h1.ne (q := a) (y := .inr (4, [.int nn, .long su, .int lo, .int hi, .ref (a + 1), .ref (a + 2), .ref (a + 4)])) (by omega)
  have h2 := h2.ne (q := a) (y := .inr (4, [.int nn, .long su, .int lo, .int hi, .ref (a + 1), .ref (a + 2), .ref (a + 4)])) (by omega)
  have h3 := h3.ne (q := a) (y := .inr (4, [.int nn, .long su, .int lo, .int hi, .ref (a + 1), .ref (a + 2), .ref (a + 4)])) (by omega)
  have h4 := h4.ne (q := a) (y := .inr (4, [.int nn, .long su, .int lo, .int hi, .ref (a + 1), .ref (a + 2), .ref (a + 4)])) (by omega)
  have h5 := h5.ne (q := a) (y := .inr (4, [.int nn, .long su, .int lo, .int hi, .ref (a + 1), .ref (a + 2), .ref (a + 4)])) (by omega)
  have g0 := g0.ne (q := a) (y := .inr (4, [.int nn, .long su, .int lo, .int hi, .ref (a + 1), .ref (a + 2), .ref (a + 4)])) (by omega)
  have g1 := g1.ne (q := a) (y := .inr (4, [.int nn, .long su, .int lo, .int hi, .ref (a + 1), .ref (a + 2), .ref (a + 4)])) (by omega)
  have g2 := g2.ne (q := a) (y := .inr (4, [.int nn, .long su, .int lo, .int hi, .ref (a + 1), .ref (a + 2), .ref (a + 4)])) (by omega)
  have g3 := g3.ne (q := a) (y := .inr (4, [.int nn, .long su, .int lo, .int hi, .ref (a + 1), .ref (a + 2), .ref (a + 4)])) (by omega)
  have g4 := g4.ne (q := a) (y := .inr (4, [.int nn, .long su, .int lo, .int hi, .ref (a + 1), .ref (a + 2), .ref (a + 4)])) (by omega)
  have g5 := g5.ne (q := a) (y := .inr (4, [.int nn, .long su, .int lo, .int hi, .ref (a + 1), .ref (a + 2), .ref (a + 4)])) (by omega)
  have h0 := h0.up (y := .inr (4, [.int nn, .long su, .int lo, .int hi, .ref (a + 1), .ref (a + 2), .ref (a + 4)]))
  refine z_aload_n X d_S_setTo_8 rfl ?_
  refine z_aload_n X d_S_setTo_9 rfl ?_
  refine z_get X g0 rfl in_S 1 (by decide) (wq lf_S_15) rfl d_S_setTo_10 ?_
  refine z_put X h0 rfl in_S ty_S_ok n_S 1 (by decide) (wq lf_S_15) rfl rfl rfl (Nat.le_of_ble_eq_true rfl) d_S_setTo_13 ?_
  have h1 := h1.ne (q := a) (y := .inr (4, [.int nn, .long su2, .int lo, .int hi, .ref (a + 1), .ref (a + 2), .ref (a + 4)])) (by omega)
  have h2 := h2.ne (q := a) (y := .inr (4, [.int nn, .long su2, .int lo, .int hi, .ref (a + 1), .ref (a + 2), .ref (a + 4)])) (by omega)
  have h3 := h3.ne (q := a) (y := .inr (4, [.int nn, .long su2, .int lo, .int hi, .ref (a + 1), .ref (a + 2), .ref (a + 4)])) (by omega)
  have h4 := h4.ne (q := a) (y := .inr (4, [.int nn, .long su2, .int lo, .int hi, .ref (a + 1), .ref (a + 2), .ref (a + 4)])) (by omega)
  have h5 := h5.ne (q := a) (y := .inr (4, [.int nn, .long su2, .int lo, .int hi, .ref (a + 1), .ref (a + 2), .ref (a + 4)])) (by omega)
  have g0 := g0.ne (q := a) (y := .inr (4, [.int nn, .long su2, .int lo, .int hi, .ref (a + 1), .ref (a + 2), .ref (a + 4)])) (by omega)
  have g1 := g1.ne (q := a) (y := .inr (4, [.int nn, .long su2, .int lo, .int hi, .ref (a + 1), .ref (a + 2), .ref (a + 4)])) (by omega)
  have g2 := g2.ne (q := a) (y := .inr (4, [.int nn, .long su2, .int lo, .int hi, .ref (a + 1), .ref (a + 2), .ref (a + 4)])) (by omega)
  have g3 := g3.ne (q := a) (y := .inr (4, [.int nn, .long su2, .int lo, .int hi, .ref (a + 1), .ref (a + 2), .ref (a + 4)])) (by omega)
  have g4 := g4.ne (q := a) (y := .inr (4, [.int nn, .long su2, .int lo, .int hi, .ref (a + 1), .ref (a + 2), .ref (a + 4)])) (by omega)
  have g5 := g5.ne (q := a) (y := .inr (4, [.int nn, .long su2, .int lo, .int hi, .ref (a + 1), .ref (a + 2), .ref (a + 4)])) (by omega)
  have h0 := h0.up (y := .inr (4, [.int nn, .long su2, .int lo, .int hi, .ref (a + 1), .ref (a + 2), .ref (a + 4)]))
  refine z_aload_n X d_S_setTo_16 rfl ?_
  refine z_aload_n X d_S_setTo_17 rfl ?_
  refine z_get X g0 rfl in_S 2 (by decide) (wq lf_S_19) rfl d_S_setTo_18 ?_
  refine z_put X h0 rfl in_S ty_S_ok n_S 2 (by decide) (wq lf_S_19) rfl rfl rfl (Nat.le_of_ble_eq_true rfl) d_S_setTo_21 ?_
  have h1 := h1.ne (q := a) (y := .inr (4, [.int nn, .long su2, .int lo2, .int hi, .ref (a + 1), .ref (a + 2), .ref (a + 4)])) (by omega)
  have h2 := h2.ne (q := a) (y := .inr (4, [.int nn, .long su2, .int lo2, .int hi, .ref (a + 1), .ref (a + 2), .ref (a + 4)])) (by omega)
  have h3 := h3.ne (q := a) (y := .inr (4, [.int nn, .long su2, .int lo2, .int hi, .ref (a + 1), .ref (a + 2), .ref (a + 4)])) (by omega)
  have h4 := h4.ne (q := a) (y := .inr (4, [.int nn, .long su2, .int lo2, .int hi, .ref (a + 1), .ref (a + 2), .ref (a + 4)])) (by omega)
  have h5 := h5.ne (q := a) (y := .inr (4, [.int nn, .long su2, .int lo2, .int hi, .ref (a + 1), .ref (a + 2), .ref (a + 4)])) (by omega)
  have g0 := g0.ne (q := a) (y := .inr (4, [.int nn, .long su2, .int lo2, .int hi, .ref (a + 1), .ref (a + 2), .ref (a + 4)])) (by omega)
  have g1 := g1.ne (q := a) (y := .inr (4, [.int nn, .long su2, .int lo2, .int hi, .ref (a + 1), .ref (a + 2), .ref (a + 4)])) (by omega)
  have g2 := g2.ne (q := a) (y := .inr (4, [.int nn, .long su2, .int lo2, .int hi, .ref (a + 1), .ref (a + 2), .ref (a + 4)])) (by omega)
  have g3 := g3.ne (q := a) (y := .inr (4, [.int nn, .long su2, .int lo2, .int hi, .ref (a + 1), .ref (a + 2), .ref (a + 4)])) (by omega)
  have g4 := g4.ne (q := a) (y := .inr (4, [.int nn, .long su2, .int lo2, .int hi, .ref (a + 1), .ref (a + 2), .ref (a + 4)])) (by omega)
  have g5 := g5.ne (q := a) (y := .inr (4, [.int nn, .long su2, .int lo2, .int hi, .ref (a + 1), .ref (a + 2), .ref (a + 4)])) (by omega)
  have h0 := h0.up (y := .inr (4, [.int nn, .long su2, .int lo2, .int hi, .ref (a + 1), .ref (a + 2), .ref (a + 4)]))
  refine z_aload_n X d_S_setTo_24 rfl ?_
  refine z_aload_n X d_S_setTo_25 rfl ?_
  refine z_get X g0 rfl in_S 3 (by decide) (wq lf_S_22) rfl d_S_setTo_26 ?_
  refine z_put X h0 rfl in_S ty_S_ok n_S 3 (by decide) (wq lf_S_22) rfl rfl rfl (Nat.le_of_ble_eq_true rfl) d_S_setTo_29 ?_
  have h1 := h1.ne (q := a) (y := .inr (4, [.int nn, .long su2, .int lo2, .int hi2, .ref (a + 1), .ref (a + 2), .ref (a + 4)])) (by omega)
  have h2 := h2.ne (q := a) (y := .inr (4, [.int nn, .long su2, .int lo2, .int hi2, .ref (a + 1), .ref (a + 2), .ref (a + 4)])) (by omega)
  have h3 := h3.ne (q := a) (y := .inr (4, [.int nn, .long su2, .int lo2, .int hi2, .ref (a + 1), .ref (a + 2), .ref (a + 4)])) (by omega)
  have h4 := h4.ne (q := a) (y := .inr (4, [.int nn, .long su2, .int lo2, .int hi2, .ref (a + 1), .ref (a + 2), .ref (a + 4)])) (by omega)
  have h5 := h5.ne (q := a) (y := .inr (4, [.int nn, .long su2, .int lo2, .int hi2, .ref (a + 1), .ref (a + 2), .ref (a + 4)])) (by omega)
  have g0 := g0.ne (q := a) (y := .inr (4, [.int nn, .long su2, .int lo2, .int hi2, .ref (a + 1), .ref (a + 2), .ref (a + 4)])) (by omega)
  have g1 := g1.ne (q := a) (y := .inr (4, [.int nn, .long su2, .int lo2, .int hi2, .ref (a + 1), .ref (a + 2), .ref (a + 4)])) (by omega)
  have g2 := g2.ne (q := a) (y := .inr (4, [.int nn, .long su2, .int lo2, .int hi2, .ref (a + 1), .ref (a + 2), .ref (a + 4)])) (by omega)
  have g3 := g3.ne (q := a) (y := .inr (4, [.int nn, .long su2, .int lo2, .int hi2, .ref (a + 1), .ref (a + 2), .ref (a + 4)])) (by omega)
  have g4 := g4.ne (q := a) (y := .inr (4, [.int nn, .long su2, .int lo2, .int hi2, .ref (a + 1), .ref (a + 2), .ref (a + 4)])) (by omega)
  have g5 := g5.ne (q := a) (y := .inr (4, [.int nn, .long su2, .int lo2, .int hi2, .ref (a + 1), .ref (a + 2), .ref (a + 4)])) (by omega)
  have h0 := h0.up (y := .inr (4, [.int nn, .long su2, .int lo2, .int hi2, .ref (a + 1), .ref (a + 2), .ref (a + 4)]))
  refine z_aload_n X d_S_setTo_32 rfl ?_
  refine z_get X h0 rfl in_S 4 (by decide) (wq lf_S_25) rfl d_S_setTo_33 ?_
  refine z_aload_n X d_S_setTo_36 rfl ?_
  refine z_get X g0 rfl in_S 4 (by decide) (wq lf_S_25) rfl d_S_setTo_37 ?_
  refine z_callSNv X (a := 0) (c_T_overwrite h1 g1 (by omega) (by omega)) (⟨va_cnB 2 X.1.2.2.2.2 (gi_wy vc_T_overwrite) rfl rfl rfl (zn_S_53 X.2.2.2.2.2) (X.1.2.2.2.2 _ (wq vn_T)) (by decide +kernel) ⟨Nat.le_of_ble_eq_true rfl, Nat.le_of_ble_eq_true rfl⟩, X.1.2.2.2.2 _ (wq vs_T_overwrite), trivial⟩) (As := [.ref (a + 1), .ref (a2 + 1)]) (st := []) rfl rfl (Nat.le_of_ble_eq_true rfl) d_S_setTo_40 ⟨Nat.le_of_ble_eq_true rfl, Nat.le_of_ble_eq_true rfl⟩ (fun k2 hq => ?_)
  subst hq
  rw [pr_all (m := 12) (F := fr2) (C := fr) (fun i hi => by rw [n1 i hi, m1 i hi])]
  have h0 := h0.ne (q := (a + 1)) (y := aI tI 12 fr2) (by omega)
  have h2 := h2.ne (q := (a + 1)) (y := aI tI 12 fr2) (by omega)
  have h3 := h3.ne (q := (a + 1)) (y := aI tI 12 fr2) (by omega)
  have h4 := h4.ne (q := (a + 1)) (y := aI tI 12 fr2) (by omega)
  have h5 := h5.ne (q := (a + 1)) (y := aI tI 12 fr2) (by omega)
  have g0 := g0.ne (q := (a + 1)) (y := aI tI 12 fr2) (by omega)
  have g1 := g1.ne (q := (a + 1)) (y := aI tI 12 fr2) (by omega)
  have g2 := g2.ne (q := (a + 1)) (y := aI tI 12 fr2) (by omega)
  have g3 := g3.ne (q := (a + 1)) (y := aI tI 12 fr2) (by omega)
  have g4 := g4.ne (q := (a + 1)) (y := aI tI 12 fr2) (by omega)
  have g5 := g5.ne (q := (a + 1)) (y := aI tI 12 fr2) (by omega)
  have h1 := h1.up (y := aI tI 12 fr2)
  refine z_aload_n X d_S_setTo_43 rfl ?_
  refine z_get X h0 rfl in_S 5 (by decide) (wq lf_S_34) rfl d_S_setTo_44 ?_
  refine z_get X h2 rfl in_C 1 (by decide) (wq lf_S_49) rfl d_S_setTo_47 ?_
  refine z_aload_n X d_S_setTo_50 rfl ?_
  refine z_get X g0 rfl in_S 5 (by decide) (wq lf_S_34) rfl d_S_setTo_51 ?_
  refine z_get X g2 rfl in_C 1 (by decide) (wq lf_S_49) rfl d_S_setTo_54 ?_
  refine z_callSNv X (a := 0) (c_T_overwrite h3 g3 (by omega) (by omega)) (⟨va_cnB 2 X.1.2.2.2.2 (gi_wy vc_T_overwrite) rfl rfl rfl (zn_S_53 X.2.2.2.2.2) (X.1.2.2.2.2 _ (wq vn_T)) (by decide +kernel) ⟨Nat.le_of_ble_eq_true rfl, Nat.le_of_ble_eq_true rfl⟩, X.1.2.2.2.2 _ (wq vs_T_overwrite), trivial⟩) (As := [.ref (a + 3), .ref (a2 + 3)]) (st := []) rfl rfl (Nat.le_of_ble_eq_true rfl) d_S_setTo_57 ⟨Nat.le_of_ble_eq_true rfl, Nat.le_of_ble_eq_true rfl⟩ (fun k2 hq => ?_)
  subst hq
  rw [pr_all (m := 32) (F := ct2) (C := ct) (fun i hi => by rw [n2 i hi, m2 i hi])]
  have h0 := h0.ne (q := (a + 3)) (y := aI tI 32 ct2) (by omega)
  have h1 := h1.ne (q := (a + 3)) (y := aI tI 32 ct2) (by omega)
  have h2 := h2.ne (q := (a + 3)) (y := aI tI 32 ct2) (by omega)
  have h4 := h4.ne (q := (a + 3)) (y := aI tI 32 ct2) (by omega)
  have h5 := h5.ne (q := (a + 3)) (y := aI tI 32 ct2) (by omega)
  have g0 := g0.ne (q := (a + 3)) (y := aI tI 32 ct2) (by omega)
  have g1 := g1.ne (q := (a + 3)) (y := aI tI 32 ct2) (by omega)
  have g2 := g2.ne (q := (a + 3)) (y := aI tI 32 ct2) (by omega)
  have g3 := g3.ne (q := (a + 3)) (y := aI tI 32 ct2) (by omega)
  have g4 := g4.ne (q := (a + 3)) (y := aI tI 32 ct2) (by omega)
  have g5 := g5.ne (q := (a + 3)) (y := aI tI 32 ct2) (by omega)
  have h3 := h3.up (y := aI tI 32 ct2)
  refine z_aload_n X d_S_setTo_60 rfl ?_
  refine z_get X h0 rfl in_S 6 (by decide) (wq lf_S_41) rfl d_S_setTo_61 ?_
  refine z_get X h4 rfl in_D 1 (by decide) (wq lf_S_52) rfl d_S_setTo_64 ?_
  refine z_aload_n X d_S_setTo_67 rfl ?_
  refine z_get X g0 rfl in_S 6 (by decide) (wq lf_S_41) rfl d_S_setTo_68 ?_
  refine z_get X g4 rfl in_D 1 (by decide) (wq lf_S_52) rfl d_S_setTo_71 ?_
  refine z_callSNv X (a := 0) (c_T_overwrite h5 g5 (by omega) (by omega)) (⟨va_cnB 2 X.1.2.2.2.2 (gi_wy vc_T_overwrite) rfl rfl rfl (zn_S_53 X.2.2.2.2.2) (X.1.2.2.2.2 _ (wq vn_T)) (by decide +kernel) ⟨Nat.le_of_ble_eq_true rfl, Nat.le_of_ble_eq_true rfl⟩, X.1.2.2.2.2 _ (wq vs_T_overwrite), trivial⟩) (As := [.ref (a + 5), .ref (a2 + 5)]) (st := []) rfl rfl (Nat.le_of_ble_eq_true rfl) d_S_setTo_74 ⟨Nat.le_of_ble_eq_true rfl, Nat.le_of_ble_eq_true rfl⟩ (fun k2 hq => ?_)
  subst hq
  rw [pr_all (m := 64) (F := dg2) (C := dg) (fun i hi => by rw [n3 i hi, m3 i hi])]
  have h0 := h0.ne (q := (a + 5)) (y := aI tI 64 dg2) (by omega)
  have h1 := h1.ne (q := (a + 5)) (y := aI tI 64 dg2) (by omega)
  have h2 := h2.ne (q := (a + 5)) (y := aI tI 64 dg2) (by omega)
  have h3 := h3.ne (q := (a + 5)) (y := aI tI 64 dg2) (by omega)
  have h4 := h4.ne (q := (a + 5)) (y := aI tI 64 dg2) (by omega)
  have g0 := g0.ne (q := (a + 5)) (y := aI tI 64 dg2) (by omega)
  have g1 := g1.ne (q := (a + 5)) (y := aI tI 64 dg2) (by omega)
  have g2 := g2.ne (q := (a + 5)) (y := aI tI 64 dg2) (by omega)
  have g3 := g3.ne (q := (a + 5)) (y := aI tI 64 dg2) (by omega)
  have g4 := g4.ne (q := (a + 5)) (y := aI tI 64 dg2) (by omega)
  have g5 := g5.ne (q := (a + 5)) (y := aI tI 64 dg2) (by omega)
  have h5 := h5.up (y := aI tI 64 dg2)
  exact z_vret X d_S_setTo_77 (by omega) (by omega) (⟨⟨h0, h1, h2, h3, h4, h5⟩, fun q hq => by simp only [va_up]; repeat rw [if_neg (by omega)]⟩)
set_option maxHeartbeats 4000000 in
set_option maxRecDepth 100000 in
/-- take(x, lf) -/
theorem c_S_take {a kk : Nat} {dv n lo hi : Int32} {su : Int64} {fr ct dg : Nat → Int32} {x lf : Nat} (hS : isS tI b N k kk dv a (n, su, lo, hi, fr, ct, dg)) (hx : x < 32) (hl : lf < 12) (hk1 : 1 ≤ kk) (hk6 : kk ≤ 6) (hd : ¬ dv = 0) : Met l y_S_take (wy y_S_take b_S_take 3 none) (rm 3 0 0) (zPc D (tyl tI tZ tN tM) b N k [.ref a, .int (nI x), .int (nI lf)]) (zQv D b N (fun k2 => isS tI b N k2 kk dv a (tkS kk dv (n, su, lo, hi, fr, ct, dg) x lf) ∧ frm k k2 a 6)) 0 0 (zA b) := by
  refine z_met (own := R_S) (by decide) rfl rfl (Nat.le_of_ble_eq_true rfl) [some (.ref a), some (.int (nI x)), some (.int (nI lf))] rfl ?_
  intro p e s m args below meth c X hin
  obtain ⟨h0, h1, h2, h3, h4, h5⟩ := hS
  try dsimp only at h0 h1 h2 h3 h4 h5
  refine z_aload_n X d_S_take_0 rfl ?_
  refine z_iload_n X d_S_take_1 rfl ?_
  refine z_iload_n X d_S_take_2 rfl ?_
  refine z_callVv X (c_S_widen h0) h0 rfl (cwV 2 X.1.2.2.2.2 (gi_V lm_S_57 vi_S_widen ve_S_widen vn_S vc_S_widen) rfl rfl rfl (by decide +kernel) ⟨Nat.le_of_ble_eq_true rfl, Nat.le_of_ble_eq_true rfl⟩) (As := [.int (nI x), .int (nI x)]) (st := []) rfl rfl (Nat.le_of_ble_eq_true rfl) d_S_take_3 ⟨Nat.le_of_ble_eq_true rfl, Nat.le_of_ble_eq_true rfl⟩ (fun k2 hq => ?_)
  subst hq
  have h1 := h1.ne (q := a) (y := .inr (4, [.int n, .long su, .int (wLo n lo (nI x)), .int (wHi n hi (nI x)), .ref (a + 1), .ref (a + 2), .ref (a + 4)])) (by omega)
  have h2 := h2.ne (q := a) (y := .inr (4, [.int n, .long su, .int (wLo n lo (nI x)), .int (wHi n hi (nI x)), .ref (a + 1), .ref (a + 2), .ref (a + 4)])) (by omega)
  have h3 := h3.ne (q := a) (y := .inr (4, [.int n, .long su, .int (wLo n lo (nI x)), .int (wHi n hi (nI x)), .ref (a + 1), .ref (a + 2), .ref (a + 4)])) (by omega)
  have h4 := h4.ne (q := a) (y := .inr (4, [.int n, .long su, .int (wLo n lo (nI x)), .int (wHi n hi (nI x)), .ref (a + 1), .ref (a + 2), .ref (a + 4)])) (by omega)
  have h5 := h5.ne (q := a) (y := .inr (4, [.int n, .long su, .int (wLo n lo (nI x)), .int (wHi n hi (nI x)), .ref (a + 1), .ref (a + 2), .ref (a + 4)])) (by omega)
  have h0 := h0.up (y := .inr (4, [.int n, .long su, .int (wLo n lo (nI x)), .int (wHi n hi (nI x)), .ref (a + 1), .ref (a + 2), .ref (a + 4)]))
  refine z_aload_n X d_S_take_6 rfl ?_
  refine z_dup X d_S_take_7 rfl ?_
  refine z_get X h0 rfl in_S 0 (by decide) (wq lf_S_9) rfl d_S_take_8 ?_
  refine z_iconst X d_S_take_11 (v := nI 1) (by decide +kernel) ?_
  refine z_iadd X d_S_take_12 ?_
  refine z_put X h0 rfl in_S ty_S_ok n_S 0 (by decide) (wq lf_S_9) rfl rfl rfl (Nat.le_of_ble_eq_true rfl) d_S_take_13 ?_
  have h1 := h1.ne (q := a) (y := .inr (4, [.int (n + (nI 1)), .long su, .int (wLo n lo (nI x)), .int (wHi n hi (nI x)), .ref (a + 1), .ref (a + 2), .ref (a + 4)])) (by omega)
  have h2 := h2.ne (q := a) (y := .inr (4, [.int (n + (nI 1)), .long su, .int (wLo n lo (nI x)), .int (wHi n hi (nI x)), .ref (a + 1), .ref (a + 2), .ref (a + 4)])) (by omega)
  have h3 := h3.ne (q := a) (y := .inr (4, [.int (n + (nI 1)), .long su, .int (wLo n lo (nI x)), .int (wHi n hi (nI x)), .ref (a + 1), .ref (a + 2), .ref (a + 4)])) (by omega)
  have h4 := h4.ne (q := a) (y := .inr (4, [.int (n + (nI 1)), .long su, .int (wLo n lo (nI x)), .int (wHi n hi (nI x)), .ref (a + 1), .ref (a + 2), .ref (a + 4)])) (by omega)
  have h5 := h5.ne (q := a) (y := .inr (4, [.int (n + (nI 1)), .long su, .int (wLo n lo (nI x)), .int (wHi n hi (nI x)), .ref (a + 1), .ref (a + 2), .ref (a + 4)])) (by omega)
  have h0 := h0.up (y := .inr (4, [.int (n + (nI 1)), .long su, .int (wLo n lo (nI x)), .int (wHi n hi (nI x)), .ref (a + 1), .ref (a + 2), .ref (a + 4)]))
  refine z_aload_n X d_S_take_16 rfl ?_
  refine z_dup X d_S_take_17 rfl ?_
  refine z_get X h0 rfl in_S 1 (by decide) (wq lf_S_15) rfl d_S_take_18 ?_
  refine z_iload_n X d_S_take_21 rfl ?_
  refine z_i2l X d_S_take_22 ?_
  refine z_ladd X d_S_take_23 ?_
  refine z_put X h0 rfl in_S ty_S_ok n_S 1 (by decide) (wq lf_S_15) rfl rfl rfl (Nat.le_of_ble_eq_true rfl) d_S_take_24 ?_
  have h1 := h1.ne (q := a) (y := .inr (4, [.int (n + (nI 1)), .long (su + ((nI x).toInt64)), .int (wLo n lo (nI x)), .int (wHi n hi (nI x)), .ref (a + 1), .ref (a + 2), .ref (a + 4)])) (by omega)
  have h2 := h2.ne (q := a) (y := .inr (4, [.int (n + (nI 1)), .long (su + ((nI x).toInt64)), .int (wLo n lo (nI x)), .int (wHi n hi (nI x)), .ref (a + 1), .ref (a + 2), .ref (a + 4)])) (by omega)
  have h3 := h3.ne (q := a) (y := .inr (4, [.int (n + (nI 1)), .long (su + ((nI x).toInt64)), .int (wLo n lo (nI x)), .int (wHi n hi (nI x)), .ref (a + 1), .ref (a + 2), .ref (a + 4)])) (by omega)
  have h4 := h4.ne (q := a) (y := .inr (4, [.int (n + (nI 1)), .long (su + ((nI x).toInt64)), .int (wLo n lo (nI x)), .int (wHi n hi (nI x)), .ref (a + 1), .ref (a + 2), .ref (a + 4)])) (by omega)
  have h5 := h5.ne (q := a) (y := .inr (4, [.int (n + (nI 1)), .long (su + ((nI x).toInt64)), .int (wLo n lo (nI x)), .int (wHi n hi (nI x)), .ref (a + 1), .ref (a + 2), .ref (a + 4)])) (by omega)
  have h0 := h0.up (y := .inr (4, [.int (n + (nI 1)), .long (su + ((nI x).toInt64)), .int (wLo n lo (nI x)), .int (wHi n hi (nI x)), .ref (a + 1), .ref (a + 2), .ref (a + 4)]))
  refine z_aload_n X d_S_take_27 rfl ?_
  refine z_get X h0 rfl in_S 4 (by decide) (wq lf_S_25) rfl d_S_take_28 ?_
  refine z_iload_n X d_S_take_31 rfl ?_
  refine z_dup2 X d_S_take_32 rfl rfl ?_
  refine z_iald X h1 0 rfl (j := lf) rfl (by omega) (by omega) d_S_take_33 ?_
  refine z_iconst X d_S_take_34 (v := nI 1) (by decide +kernel) ?_
  refine z_iadd X d_S_take_35 ?_
  refine z_iast X h1 0 rfl (j := lf) rfl (by omega) (by omega) d_S_take_36 ?_
  have h0 := h0.ne (q := (a + 1)) (y := aI tI 12 (upd fr lf ((fr lf) + (nI 1)))) (by omega)
  have h2 := h2.ne (q := (a + 1)) (y := aI tI 12 (upd fr lf ((fr lf) + (nI 1)))) (by omega)
  have h3 := h3.ne (q := (a + 1)) (y := aI tI 12 (upd fr lf ((fr lf) + (nI 1)))) (by omega)
  have h4 := h4.ne (q := (a + 1)) (y := aI tI 12 (upd fr lf ((fr lf) + (nI 1)))) (by omega)
  have h5 := h5.ne (q := (a + 1)) (y := aI tI 12 (upd fr lf ((fr lf) + (nI 1)))) (by omega)
  have h1 := h1.up (y := aI tI 12 (upd fr lf ((fr lf) + (nI 1))))
  refine z_aload_n X d_S_take_37 rfl ?_
  refine z_get X h0 rfl in_S 5 (by decide) (wq lf_S_34) rfl d_S_take_38 ?_
  refine z_iload_n X d_S_take_41 rfl ?_
  refine z_callVv X (c_C_take h2 h3 hx hk1 hk6) h2 rfl (cwV 1 X.1.2.2.2.2 (gi_V lm_S_61 vi_C_take ve_C_take vn_C vc_C_take) rfl rfl rfl (by decide +kernel) ⟨Nat.le_of_ble_eq_true rfl, Nat.le_of_ble_eq_true rfl⟩) (As := [.int (nI x)]) (st := []) rfl rfl (Nat.le_of_ble_eq_true rfl) d_S_take_42 ⟨Nat.le_of_ble_eq_true rfl, Nat.le_of_ble_eq_true rfl⟩ (fun k2 hq => ?_)
  subst hq
  have h0 := h0.ne (q := (a + 3)) (y := aI tI 32 (tkC kk ct x)) (by omega)
  have h1 := h1.ne (q := (a + 3)) (y := aI tI 32 (tkC kk ct x)) (by omega)
  have h2 := h2.ne (q := (a + 3)) (y := aI tI 32 (tkC kk ct x)) (by omega)
  have h4 := h4.ne (q := (a + 3)) (y := aI tI 32 (tkC kk ct x)) (by omega)
  have h5 := h5.ne (q := (a + 3)) (y := aI tI 32 (tkC kk ct x)) (by omega)
  have h3 := h3.up (y := aI tI 32 (tkC kk ct x))
  refine z_aload_n X d_S_take_45 rfl ?_
  refine z_get X h0 rfl in_S 6 (by decide) (wq lf_S_41) rfl d_S_take_46 ?_
  refine z_iload_n X d_S_take_49 rfl ?_
  refine z_aload_n X d_S_take_50 rfl ?_
  refine z_get X h0 rfl in_S 0 (by decide) (wq lf_S_9) rfl d_S_take_51 ?_
  refine z_callVv X (c_D_take h4 h5 hx hd) h4 rfl (cwV 2 X.1.2.2.2.2 (gi_V lm_S_64 vi_D_take ve_D_take vn_D vc_D_take) rfl rfl rfl (by decide +kernel) ⟨Nat.le_of_ble_eq_true rfl, Nat.le_of_ble_eq_true rfl⟩) (As := [.int (nI x), .int (n + (nI 1))]) (st := []) rfl rfl (Nat.le_of_ble_eq_true rfl) d_S_take_54 ⟨Nat.le_of_ble_eq_true rfl, Nat.le_of_ble_eq_true rfl⟩ (fun k2 hq => ?_)
  subst hq
  have h0 := h0.ne (q := (a + 5)) (y := aI tI 64 (cpr ((n + nI 1) / dv) 4096 (upd dg (32 + x) (dg (32 + x) + 1)))) (by omega)
  have h1 := h1.ne (q := (a + 5)) (y := aI tI 64 (cpr ((n + nI 1) / dv) 4096 (upd dg (32 + x) (dg (32 + x) + 1)))) (by omega)
  have h2 := h2.ne (q := (a + 5)) (y := aI tI 64 (cpr ((n + nI 1) / dv) 4096 (upd dg (32 + x) (dg (32 + x) + 1)))) (by omega)
  have h3 := h3.ne (q := (a + 5)) (y := aI tI 64 (cpr ((n + nI 1) / dv) 4096 (upd dg (32 + x) (dg (32 + x) + 1)))) (by omega)
  have h4 := h4.ne (q := (a + 5)) (y := aI tI 64 (cpr ((n + nI 1) / dv) 4096 (upd dg (32 + x) (dg (32 + x) + 1)))) (by omega)
  have h5 := h5.up (y := aI tI 64 (cpr ((n + nI 1) / dv) 4096 (upd dg (32 + x) (dg (32 + x) + 1))))
  rw [nI_one] at *
  exact z_vret X d_S_take_57 (by omega) (by omega) (⟨⟨h0, h1, h2, h3, h4, h5⟩, fun q hq => by simp only [va_up]; repeat rw [if_neg (by omega)]⟩)
set_option maxHeartbeats 4000000 in
set_option maxRecDepth 100000 in
/-- merge(other) -/
theorem c_S_merge {a kk : Nat} {dv n lo hi : Int32} {su : Int64} {fr ct dg : Nat → Int32} {a2 kk2 : Nat} {dv2 nn lo2 hi2 : Int32} {su2 : Int64} {fr2 ct2 dg2 : Nat → Int32} (hS : isS tI b N k kk dv a (n, su, lo, hi, fr, ct, dg)) (hn : nS (n, su, lo, hi, fr, ct, dg)) (hS2 : isS tI b N k kk2 dv2 a2 (nn, su2, lo2, hi2, fr2, ct2, dg2)) (hn2 : nS (nn, su2, lo2, hi2, fr2, ct2, dg2)) (hne : a + 6 ≤ a2 ∨ a2 + 6 ≤ a) (hk6 : kk ≤ 6) (hd : ¬ dv = 0) : Met l y_S_merge (wy y_S_merge b_S_merge 2 none) (rm 3 0 0) (zPc D (tyl tI tZ tN tM) b N k [.ref a, .ref a2]) (zQv D b N (fun k2 => isS tI b N k2 kk dv a (mgS kk dv (n, su, lo, hi, fr, ct, dg) (nn, su2, lo2, hi2, fr2, ct2, dg2)) ∧ frm k k2 a 6)) 0 0 (zA b) := by
  refine z_met (own := R_S) (by decide) rfl rfl (Nat.le_of_ble_eq_true rfl) [some (.ref a), some (.ref a2)] rfl ?_
  intro p e s m args below meth c X hin
  obtain ⟨h0, h1, h2, h3, h4, h5⟩ := hS
  try dsimp only at h0 h1 h2 h3 h4 h5
  obtain ⟨g0, g1, g2, g3, g4, g5⟩ := hS2
  try dsimp only at g0 g1 g2 g3 g4 g5
  obtain ⟨n1, n2, n3⟩ := hn
  obtain ⟨m1, m2, m3⟩ := hn2
  try dsimp only at n1 n2 n3 m1 m2 m3
  refine z_aload_n X d_S_merge_0 rfl ?_
  refine z_aload_n X d_S_merge_1 rfl ?_
  refine z_get X g0 rfl in_S 2 (by decide) (wq lf_S_19) rfl d_S_merge_2 ?_
  refine z_aload_n X d_S_merge_5 rfl ?_
  refine z_get X g0 rfl in_S 3 (by decide) (wq lf_S_22) rfl d_S_merge_6 ?_
  refine z_callVv X (c_S_widen h0) h0 rfl (cwV 2 X.1.2.2.2.2 (gi_V lm_S_57 vi_S_widen ve_S_widen vn_S vc_S_widen) rfl rfl rfl (by decide +kernel) ⟨Nat.le_of_ble_eq_true rfl, Nat.le_of_ble_eq_true rfl⟩) (As := [.int lo2, .int hi2]) (st := []) rfl rfl (Nat.le_of_ble_eq_true rfl) d_S_merge_9 ⟨Nat.le_of_ble_eq_true rfl, Nat.le_of_ble_eq_true rfl⟩ (fun k2 hq => ?_)
  subst hq
  have h1 := h1.ne (q := a) (y := .inr (4, [.int n, .long su, .int (wLo n lo lo2), .int (wHi n hi hi2), .ref (a + 1), .ref (a + 2), .ref (a + 4)])) (by omega)
  have h2 := h2.ne (q := a) (y := .inr (4, [.int n, .long su, .int (wLo n lo lo2), .int (wHi n hi hi2), .ref (a + 1), .ref (a + 2), .ref (a + 4)])) (by omega)
  have h3 := h3.ne (q := a) (y := .inr (4, [.int n, .long su, .int (wLo n lo lo2), .int (wHi n hi hi2), .ref (a + 1), .ref (a + 2), .ref (a + 4)])) (by omega)
  have h4 := h4.ne (q := a) (y := .inr (4, [.int n, .long su, .int (wLo n lo lo2), .int (wHi n hi hi2), .ref (a + 1), .ref (a + 2), .ref (a + 4)])) (by omega)
  have h5 := h5.ne (q := a) (y := .inr (4, [.int n, .long su, .int (wLo n lo lo2), .int (wHi n hi hi2), .ref (a + 1), .ref (a + 2), .ref (a + 4)])) (by omega)
  have g0 := g0.ne (q := a) (y := .inr (4, [.int n, .long su, .int (wLo n lo lo2), .int (wHi n hi hi2), .ref (a + 1), .ref (a + 2), .ref (a + 4)])) (by omega)
  have g1 := g1.ne (q := a) (y := .inr (4, [.int n, .long su, .int (wLo n lo lo2), .int (wHi n hi hi2), .ref (a + 1), .ref (a + 2), .ref (a + 4)])) (by omega)
  have g2 := g2.ne (q := a) (y := .inr (4, [.int n, .long su, .int (wLo n lo lo2), .int (wHi n hi hi2), .ref (a + 1), .ref (a + 2), .ref (a + 4)])) (by omega)
  have g3 := g3.ne (q := a) (y := .inr (4, [.int n, .long su, .int (wLo n lo lo2), .int (wHi n hi hi2), .ref (a + 1), .ref (a + 2), .ref (a + 4)])) (by omega)
  have g4 := g4.ne (q := a) (y := .inr (4, [.int n, .long su, .int (wLo n lo lo2), .int (wHi n hi hi2), .ref (a + 1), .ref (a + 2), .ref (a + 4)])) (by omega)
  have g5 := g5.ne (q := a) (y := .inr (4, [.int n, .long su, .int (wLo n lo lo2), .int (wHi n hi hi2), .ref (a + 1), .ref (a + 2), .ref (a + 4)])) (by omega)
  have h0 := h0.up (y := .inr (4, [.int n, .long su, .int (wLo n lo lo2), .int (wHi n hi hi2), .ref (a + 1), .ref (a + 2), .ref (a + 4)]))
  refine z_aload_n X d_S_merge_12 rfl ?_
  refine z_dup X d_S_merge_13 rfl ?_
  refine z_get X h0 rfl in_S 0 (by decide) (wq lf_S_9) rfl d_S_merge_14 ?_
  refine z_aload_n X d_S_merge_17 rfl ?_
  refine z_get X g0 rfl in_S 0 (by decide) (wq lf_S_9) rfl d_S_merge_18 ?_
  refine z_iadd X d_S_merge_21 ?_
  refine z_put X h0 rfl in_S ty_S_ok n_S 0 (by decide) (wq lf_S_9) rfl rfl rfl (Nat.le_of_ble_eq_true rfl) d_S_merge_22 ?_
  have h1 := h1.ne (q := a) (y := .inr (4, [.int (n + nn), .long su, .int (wLo n lo lo2), .int (wHi n hi hi2), .ref (a + 1), .ref (a + 2), .ref (a + 4)])) (by omega)
  have h2 := h2.ne (q := a) (y := .inr (4, [.int (n + nn), .long su, .int (wLo n lo lo2), .int (wHi n hi hi2), .ref (a + 1), .ref (a + 2), .ref (a + 4)])) (by omega)
  have h3 := h3.ne (q := a) (y := .inr (4, [.int (n + nn), .long su, .int (wLo n lo lo2), .int (wHi n hi hi2), .ref (a + 1), .ref (a + 2), .ref (a + 4)])) (by omega)
  have h4 := h4.ne (q := a) (y := .inr (4, [.int (n + nn), .long su, .int (wLo n lo lo2), .int (wHi n hi hi2), .ref (a + 1), .ref (a + 2), .ref (a + 4)])) (by omega)
  have h5 := h5.ne (q := a) (y := .inr (4, [.int (n + nn), .long su, .int (wLo n lo lo2), .int (wHi n hi hi2), .ref (a + 1), .ref (a + 2), .ref (a + 4)])) (by omega)
  have g0 := g0.ne (q := a) (y := .inr (4, [.int (n + nn), .long su, .int (wLo n lo lo2), .int (wHi n hi hi2), .ref (a + 1), .ref (a + 2), .ref (a + 4)])) (by omega)
  have g1 := g1.ne (q := a) (y := .inr (4, [.int (n + nn), .long su, .int (wLo n lo lo2), .int (wHi n hi hi2), .ref (a + 1), .ref (a + 2), .ref (a + 4)])) (by omega)
  have g2 := g2.ne (q := a) (y := .inr (4, [.int (n + nn), .long su, .int (wLo n lo lo2), .int (wHi n hi hi2), .ref (a + 1), .ref (a + 2), .ref (a + 4)])) (by omega)
  have g3 := g3.ne (q := a) (y := .inr (4, [.int (n + nn), .long su, .int (wLo n lo lo2), .int (wHi n hi hi2), .ref (a + 1), .ref (a + 2), .ref (a + 4)])) (by omega)
  have g4 := g4.ne (q := a) (y := .inr (4, [.int (n + nn), .long su, .int (wLo n lo lo2), .int (wHi n hi hi2), .ref (a + 1), .ref (a + 2), .ref (a + 4)])) (by omega)
  have g5 := g5.ne (q := a) (y := .inr (4, [.int (n + nn), .long su, .int (wLo n lo lo2), .int (wHi n hi hi2), .ref (a + 1), .ref (a + 2), .ref (a + 4)])) (by omega)
  have h0 := h0.up (y := .inr (4, [.int (n + nn), .long su, .int (wLo n lo lo2), .int (wHi n hi hi2), .ref (a + 1), .ref (a + 2), .ref (a + 4)]))
  refine z_aload_n X d_S_merge_25 rfl ?_
  refine z_dup X d_S_merge_26 rfl ?_
  refine z_get X h0 rfl in_S 1 (by decide) (wq lf_S_15) rfl d_S_merge_27 ?_
  refine z_aload_n X d_S_merge_30 rfl ?_
  refine z_get X g0 rfl in_S 1 (by decide) (wq lf_S_15) rfl d_S_merge_31 ?_
  refine z_ladd X d_S_merge_34 ?_
  refine z_put X h0 rfl in_S ty_S_ok n_S 1 (by decide) (wq lf_S_15) rfl rfl rfl (Nat.le_of_ble_eq_true rfl) d_S_merge_35 ?_
  have h1 := h1.ne (q := a) (y := .inr (4, [.int (n + nn), .long (su + su2), .int (wLo n lo lo2), .int (wHi n hi hi2), .ref (a + 1), .ref (a + 2), .ref (a + 4)])) (by omega)
  have h2 := h2.ne (q := a) (y := .inr (4, [.int (n + nn), .long (su + su2), .int (wLo n lo lo2), .int (wHi n hi hi2), .ref (a + 1), .ref (a + 2), .ref (a + 4)])) (by omega)
  have h3 := h3.ne (q := a) (y := .inr (4, [.int (n + nn), .long (su + su2), .int (wLo n lo lo2), .int (wHi n hi hi2), .ref (a + 1), .ref (a + 2), .ref (a + 4)])) (by omega)
  have h4 := h4.ne (q := a) (y := .inr (4, [.int (n + nn), .long (su + su2), .int (wLo n lo lo2), .int (wHi n hi hi2), .ref (a + 1), .ref (a + 2), .ref (a + 4)])) (by omega)
  have h5 := h5.ne (q := a) (y := .inr (4, [.int (n + nn), .long (su + su2), .int (wLo n lo lo2), .int (wHi n hi hi2), .ref (a + 1), .ref (a + 2), .ref (a + 4)])) (by omega)
  have g0 := g0.ne (q := a) (y := .inr (4, [.int (n + nn), .long (su + su2), .int (wLo n lo lo2), .int (wHi n hi hi2), .ref (a + 1), .ref (a + 2), .ref (a + 4)])) (by omega)
  have g1 := g1.ne (q := a) (y := .inr (4, [.int (n + nn), .long (su + su2), .int (wLo n lo lo2), .int (wHi n hi hi2), .ref (a + 1), .ref (a + 2), .ref (a + 4)])) (by omega)
  have g2 := g2.ne (q := a) (y := .inr (4, [.int (n + nn), .long (su + su2), .int (wLo n lo lo2), .int (wHi n hi hi2), .ref (a + 1), .ref (a + 2), .ref (a + 4)])) (by omega)
  have g3 := g3.ne (q := a) (y := .inr (4, [.int (n + nn), .long (su + su2), .int (wLo n lo lo2), .int (wHi n hi hi2), .ref (a + 1), .ref (a + 2), .ref (a + 4)])) (by omega)
  have g4 := g4.ne (q := a) (y := .inr (4, [.int (n + nn), .long (su + su2), .int (wLo n lo lo2), .int (wHi n hi hi2), .ref (a + 1), .ref (a + 2), .ref (a + 4)])) (by omega)
  have g5 := g5.ne (q := a) (y := .inr (4, [.int (n + nn), .long (su + su2), .int (wLo n lo lo2), .int (wHi n hi hi2), .ref (a + 1), .ref (a + 2), .ref (a + 4)])) (by omega)
  have h0 := h0.up (y := .inr (4, [.int (n + nn), .long (su + su2), .int (wLo n lo lo2), .int (wHi n hi hi2), .ref (a + 1), .ref (a + 2), .ref (a + 4)]))
  refine z_aload_n X d_S_merge_38 rfl ?_
  refine z_get X h0 rfl in_S 4 (by decide) (wq lf_S_25) rfl d_S_merge_39 ?_
  refine z_aload_n X d_S_merge_42 rfl ?_
  refine z_get X g0 rfl in_S 4 (by decide) (wq lf_S_25) rfl d_S_merge_43 ?_
  refine z_callSNv X (a := 0) (c_T_addTo h1 g1 (by omega) (by omega)) (⟨va_cnB 2 X.1.2.2.2.2 (gi_wy vc_T_addTo) rfl rfl rfl (zn_S_66 X.2.2.2.2.2) (X.1.2.2.2.2 _ (wq vn_T)) (by decide +kernel) ⟨Nat.le_of_ble_eq_true rfl, Nat.le_of_ble_eq_true rfl⟩, X.1.2.2.2.2 _ (wq vs_T_addTo), trivial⟩) (As := [.ref (a + 1), .ref (a2 + 1)]) (st := []) rfl rfl (Nat.le_of_ble_eq_true rfl) d_S_merge_46 ⟨Nat.le_of_ble_eq_true rfl, Nat.le_of_ble_eq_true rfl⟩ (fun k2 hq => ?_)
  subst hq
  rw [pr_all (m := 12) (F := ad fr fr2) (C := fr) (fun i hi => by unfold ad; rw [m1 i hi]; exact Int32.add_zero _)]
  have h0 := h0.ne (q := (a + 1)) (y := aI tI 12 (ad fr fr2)) (by omega)
  have h2 := h2.ne (q := (a + 1)) (y := aI tI 12 (ad fr fr2)) (by omega)
  have h3 := h3.ne (q := (a + 1)) (y := aI tI 12 (ad fr fr2)) (by omega)
  have h4 := h4.ne (q := (a + 1)) (y := aI tI 12 (ad fr fr2)) (by omega)
  have h5 := h5.ne (q := (a + 1)) (y := aI tI 12 (ad fr fr2)) (by omega)
  have g0 := g0.ne (q := (a + 1)) (y := aI tI 12 (ad fr fr2)) (by omega)
  have g1 := g1.ne (q := (a + 1)) (y := aI tI 12 (ad fr fr2)) (by omega)
  have g2 := g2.ne (q := (a + 1)) (y := aI tI 12 (ad fr fr2)) (by omega)
  have g3 := g3.ne (q := (a + 1)) (y := aI tI 12 (ad fr fr2)) (by omega)
  have g4 := g4.ne (q := (a + 1)) (y := aI tI 12 (ad fr fr2)) (by omega)
  have g5 := g5.ne (q := (a + 1)) (y := aI tI 12 (ad fr fr2)) (by omega)
  have h1 := h1.up (y := aI tI 12 (ad fr fr2))
  refine z_aload_n X d_S_merge_49 rfl ?_
  refine z_get X h0 rfl in_S 5 (by decide) (wq lf_S_34) rfl d_S_merge_50 ?_
  refine z_aload_n X d_S_merge_53 rfl ?_
  refine z_get X g0 rfl in_S 5 (by decide) (wq lf_S_34) rfl d_S_merge_54 ?_
  refine z_callVv X (c_C_merge h2 h3 g2 g3 (by omega) m2 hk6) h2 rfl (cwV 1 X.1.2.2.2.2 (gi_V lm_S_69 vi_C_merge ve_C_merge vn_C vc_C_merge) rfl rfl rfl (by decide +kernel) ⟨Nat.le_of_ble_eq_true rfl, Nat.le_of_ble_eq_true rfl⟩) (As := [.ref (a2 + 2)]) (st := []) rfl rfl (Nat.le_of_ble_eq_true rfl) d_S_merge_57 ⟨Nat.le_of_ble_eq_true rfl, Nat.le_of_ble_eq_true rfl⟩ (fun k2 hq => ?_)
  subst hq
  have h0 := h0.ne (q := (a + 3)) (y := aI tI 32 (mgC kk ct ct2)) (by omega)
  have h1 := h1.ne (q := (a + 3)) (y := aI tI 32 (mgC kk ct ct2)) (by omega)
  have h2 := h2.ne (q := (a + 3)) (y := aI tI 32 (mgC kk ct ct2)) (by omega)
  have h4 := h4.ne (q := (a + 3)) (y := aI tI 32 (mgC kk ct ct2)) (by omega)
  have h5 := h5.ne (q := (a + 3)) (y := aI tI 32 (mgC kk ct ct2)) (by omega)
  have g0 := g0.ne (q := (a + 3)) (y := aI tI 32 (mgC kk ct ct2)) (by omega)
  have g1 := g1.ne (q := (a + 3)) (y := aI tI 32 (mgC kk ct ct2)) (by omega)
  have g2 := g2.ne (q := (a + 3)) (y := aI tI 32 (mgC kk ct ct2)) (by omega)
  have g3 := g3.ne (q := (a + 3)) (y := aI tI 32 (mgC kk ct ct2)) (by omega)
  have g4 := g4.ne (q := (a + 3)) (y := aI tI 32 (mgC kk ct ct2)) (by omega)
  have g5 := g5.ne (q := (a + 3)) (y := aI tI 32 (mgC kk ct ct2)) (by omega)
  have h3 := h3.up (y := aI tI 32 (mgC kk ct ct2))
  refine z_aload_n X d_S_merge_60 rfl ?_
  refine z_get X h0 rfl in_S 6 (by decide) (wq lf_S_41) rfl d_S_merge_61 ?_
  refine z_aload_n X d_S_merge_64 rfl ?_
  refine z_get X g0 rfl in_S 6 (by decide) (wq lf_S_41) rfl d_S_merge_65 ?_
  refine z_aload_n X d_S_merge_68 rfl ?_
  refine z_get X h0 rfl in_S 0 (by decide) (wq lf_S_9) rfl d_S_merge_69 ?_
  refine z_callVv X (c_D_merge h4 h5 g4 g5 (by omega) m3 hd) h4 rfl (cwV 2 X.1.2.2.2.2 (gi_V lm_S_73 vi_D_merge ve_D_merge vn_D vc_D_merge) rfl rfl rfl (by decide +kernel) ⟨Nat.le_of_ble_eq_true rfl, Nat.le_of_ble_eq_true rfl⟩) (As := [.ref (a2 + 4), .int (n + nn)]) (st := []) rfl rfl (Nat.le_of_ble_eq_true rfl) d_S_merge_72 ⟨Nat.le_of_ble_eq_true rfl, Nat.le_of_ble_eq_true rfl⟩ (fun k2 hq => ?_)
  subst hq
  have h0 := h0.ne (q := (a + 5)) (y := aI tI 64 (cpr ((n + nn) / dv) 4096 (ad dg dg2))) (by omega)
  have h1 := h1.ne (q := (a + 5)) (y := aI tI 64 (cpr ((n + nn) / dv) 4096 (ad dg dg2))) (by omega)
  have h2 := h2.ne (q := (a + 5)) (y := aI tI 64 (cpr ((n + nn) / dv) 4096 (ad dg dg2))) (by omega)
  have h3 := h3.ne (q := (a + 5)) (y := aI tI 64 (cpr ((n + nn) / dv) 4096 (ad dg dg2))) (by omega)
  have h4 := h4.ne (q := (a + 5)) (y := aI tI 64 (cpr ((n + nn) / dv) 4096 (ad dg dg2))) (by omega)
  have g0 := g0.ne (q := (a + 5)) (y := aI tI 64 (cpr ((n + nn) / dv) 4096 (ad dg dg2))) (by omega)
  have g1 := g1.ne (q := (a + 5)) (y := aI tI 64 (cpr ((n + nn) / dv) 4096 (ad dg dg2))) (by omega)
  have g2 := g2.ne (q := (a + 5)) (y := aI tI 64 (cpr ((n + nn) / dv) 4096 (ad dg dg2))) (by omega)
  have g3 := g3.ne (q := (a + 5)) (y := aI tI 64 (cpr ((n + nn) / dv) 4096 (ad dg dg2))) (by omega)
  have g4 := g4.ne (q := (a + 5)) (y := aI tI 64 (cpr ((n + nn) / dv) 4096 (ad dg dg2))) (by omega)
  have g5 := g5.ne (q := (a + 5)) (y := aI tI 64 (cpr ((n + nn) / dv) 4096 (ad dg dg2))) (by omega)
  have h5 := h5.up (y := aI tI 64 (cpr ((n + nn) / dv) 4096 (ad dg dg2)))
  exact z_vret X d_S_merge_75 (by omega) (by omega) (⟨⟨h0, h1, h2, h3, h4, h5⟩, fun q hq => by simp only [va_up]; repeat rw [if_neg (by omega)]⟩)
end
