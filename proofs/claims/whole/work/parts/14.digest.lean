/-! Contracts: Digest -/
section
variable {p : Program} {l : Launch} {e : Env} {R : Room} {s : State} {m : MethodId} {args : Array Value} {below : List Frame} {meth : Method} {c : Code} {cells slots : Nat} {Q : State → Prop}
variable {nL : Nat} {D : va_G} {b N : Nat} {k : Nat → va_E} {pc : Nat} {lv : List (Option Value)} {st : List Value}
/-- a local is forgotten -/
theorem z_drop (i : Nat) (kk : Z p l e R s m args below meth c nL D b N k cells slots Q pc (lv.set i none) st) : Z p l e R s m args below meth c nL D b N k cells slots Q pc lv st := by
  refine z_lv (lv2 := lv.set i none) (fun j v h => ?_) kk
  by_cases hj : j = i
  · subst hj
    have hl : j < lv.length := by
      have := (List.getElem?_eq_some_iff.mp h).1
      simpa using this
    rw [List.getElem?_set_self hl] at h
    cases h
  · rwa [List.getElem?_set_ne (Ne.symm hj)] at h
end
def cb (c : Bool) : Nat := if c = true then 1 else 0
def vq (g : Nat → Int32) (th : Int32) : Nat → Int32
  | 0 => -1
  | n + 1 => if ¬ eb g (31 - n + 1) < nI 1 ∧ ¬ nI 1000 * eb g (31 - n + 1) < th then nI (31 - n) else vq g th n
theorem vq_at (g : Nat → Int32) (th : Int32) {v : Nat} (hv : v < 32) : vq g th (32 - v) = if ¬ eb g (v + 1) < nI 1 ∧ ¬ nI 1000 * eb g (v + 1) < th then nI v else vq g th (32 - (v + 1)) := by
  rw [show 32 - v = (31 - v) + 1 by omega]
  simp only [vq]
  rw [show 31 - (31 - v) = v by omega, show 32 - (v + 1) = 31 - v by omega]
theorem i32_lt_n {x y : Int32} (h : y < x) : ¬ x ≤ y := by
  rw [Int32.lt_iff_toInt_lt] at h
  rw [Int32.le_iff_toInt_le]
  omega
theorem i32_nlt {x y : Int32} (h : ¬ y < x) : x ≤ y := by
  rw [Int32.lt_iff_toInt_lt] at h
  rw [Int32.le_iff_toInt_le]
  omega
section
variable {l : Launch} {D : va_G} {tI tZ tN tM : ClassId} {b N : Nat} {k : Nat → va_E}
set_option maxHeartbeats 4000000 in
set_option maxRecDepth 100000 in
/-- pass(t) -/
theorem c_D_pass {a : Nat} {dv : Int32} {g : Nat → Int32} {t : Int32} (h0 : zc b N k a (.inr (1, [.int dv, .ref (a + 1)]))) (h1 : zc b N k (a + 1) (aI tI 64 g)) : Met l y_D_pass (wy y_D_pass b_D_pass 5 (some .boolean)) (rm 0 0 0) (zPc D (tyl tI tZ tN tM) b N k [.ref a, .int t]) (zQi D b N (fun x k2 => x = nI (cb (ps t 31 g false).2) ∧ k2 = va_up k (a + 1) (aI tI 64 (ps t 31 g false).1))) 0 0 (zA b) := by
  refine z_met (own := R_D) (by decide) rfl rfl (Nat.le_of_ble_eq_true rfl) [some (.ref a), some (.int t), none, none, none] rfl ?_
  intro p e s m args below meth c X hin
  refine z_iconst X d_D_pass_0 (v := nI 0) (by decide +kernel) ?_
  refine z_istore_n X d_D_pass_1 (by decide) rfl ?_
  refine z_lv (lv2 := [some (.ref a), some (.int t), some (.int (nI 0)), none, none]) (fun _ _ q => q) ?_
  refine z_bipush X d_D_pass_2 (v := nI 31) (by decide +kernel) ?_
  refine z_istore_n X d_D_pass_4 (by decide) rfl ?_
  refine z_lv (lv2 := [some (.ref a), some (.int t), some (.int (nI 0)), some (.int (nI 31)), none]) (fun _ _ q => q) ?_
  refine z_loopD (σ := (Nat → Int32) × Bool) (K := fun _ (q : (Nat → Int32) × Bool) => va_up k (a + 1) (aI tI 64 q.1)) (LV := fun r (q : (Nat → Int32) × Bool) => [some (.ref a), some (.int t), some (.int (nI (cb q.2))), some (.int (nI r)), none]) (I := fun r (q : (Nat → Int32) × Bool) => r < 32 ∧ ps t 31 g false = ps t r q.1 q.2) 31 (g, false) (⟨by omega, rfl⟩) ((up_self h1.2.2).symm) (rfl) ?_ ?_
  · intro q hI
    obtain ⟨g2, ch⟩ := q
    refine z_lv (lv2 := [some (.ref a), some (.int t), some (.int (nI (cb ch))), some (.int (nI 0)), none]) (fun _ _ q => q) ?_
    refine z_iload_n X d_D_pass_5 rfl ?_
    refine z_iconst X d_D_pass_6 (v := nI 1) (by decide +kernel) ?_
    refine z_icmp_ltN X d_D_pass_7 (tgt := 88) (by decide) (by omega) (by omega) (fun _ => ?_) (fun h => absurd h (by omega))
    refine z_iload_n X d_D_pass_88 rfl ?_
    exact z_zret X d_D_pass_89 (by cases ch <;> decide +kernel) (by omega) (by omega) (by rw [hI.2]; exact ⟨rfl, rfl⟩)
  · intro r q hI ih
    obtain ⟨g2, ch⟩ := q
    obtain ⟨hr, hI⟩ := hI
    try dsimp only at hr hI
    refine z_lv (lv2 := [some (.ref a), some (.int t), some (.int (nI (cb ch))), some (.int (nI (r + 1))), none]) (fun _ _ q => q) ?_
    have g0 := h0.ne (q := a + 1) (y := aI tI 64 g2) (by omega)
    have g1 := h1.up (y := aI tI 64 g2)
    refine z_iload_n X d_D_pass_5 rfl ?_
    refine z_iconst X d_D_pass_6 (v := nI 1) (by decide +kernel) ?_
    refine z_icmp_ltN X d_D_pass_7 (tgt := 88) (by decide) (by omega) (by omega) (fun h => absurd h (by omega)) (fun _ => ?_)
    refine z_aload_n X d_D_pass_10 rfl ?_
    refine z_get X g0 rfl in_D 1 (by decide) (wq lf_D_9) rfl d_D_pass_11 ?_
    refine z_iconst X d_D_pass_14 (v := nI 2) (by decide +kernel) ?_
    refine z_iload_n X d_D_pass_15 rfl ?_
    refine z_imulN X d_D_pass_16 ?_
    refine z_iald X g1 0 rfl (j := 2 * (r + 1)) rfl (by omega) (by omega) d_D_pass_17 ?_
    refine z_aload_n X d_D_pass_18 rfl ?_
    refine z_get X g0 rfl in_D 1 (by decide) (wq lf_D_9) rfl d_D_pass_19 ?_
    refine z_iconst X d_D_pass_22 (v := nI 2) (by decide +kernel) ?_
    refine z_iload_n X d_D_pass_23 rfl ?_
    refine z_imulN X d_D_pass_24 ?_
    refine z_iconst X d_D_pass_25 (v := nI 1) (by decide +kernel) ?_
    refine z_iaddN X d_D_pass_26 ?_
    refine z_iald X g1 0 rfl (j := (2 * (r + 1)) + 1) rfl (by omega) (by omega) d_D_pass_27 ?_
    refine z_iadd X d_D_pass_28 ?_
    refine z_top (y := .int (bl g2 (r + 1))) (rfl) ?_
    refine z_istore X d_D_pass_29 (by decide) rfl ?_
    refine z_lv (lv2 := [some (.ref a), some (.int t), some (.int (nI (cb ch))), some (.int (nI (r + 1))), some (.int (bl g2 (r + 1)))]) (fun _ _ q => q) ?_
    refine z_iload X d_D_pass_31 rfl ?_
    refine z_if_le X d_D_pass_33 (tgt := 82) (by decide) (fun hA => ?_) (fun hA => ?_)
    · skip
      refine z_iincD X d_D_pass_82 rfl (by decide) rfl ?_
      refine z_lv (lv2 := [some (.ref a), some (.int t), some (.int (nI (cb ch))), some (.int (nI r)), some (.int (bl g2 (r + 1)))]) (fun _ _ q => q) ?_
      refine z_goto X d_D_pass_85 (tgt := 5) (by decide) ?_
      refine z_drop 4 ?_
      exact z_at (ih (g2, ch) ⟨by omega, by rw [hI]; show (if _ then _ else _) = _; rw [if_neg (by simp [pok, i32_le_n hA])]⟩) rfl rfl
    · skip
      refine z_aload_n X d_D_pass_36 rfl ?_
      refine z_get X g0 rfl in_D 1 (by decide) (wq lf_D_9) rfl d_D_pass_37 ?_
      refine z_iload_n X d_D_pass_40 rfl ?_
      refine z_iald X g1 0 rfl (j := r + 1) rfl (by omega) (by omega) d_D_pass_41 ?_
      refine z_iload X d_D_pass_42 rfl ?_
      refine z_iadd X d_D_pass_44 ?_
      refine z_iload_n X d_D_pass_45 rfl ?_
      refine z_icmp_gt X d_D_pass_46 (tgt := 82) (by decide) (fun hB => ?_) (fun hB => ?_)
      · skip
        refine z_iincD X d_D_pass_82 rfl (by decide) rfl ?_
        refine z_lv (lv2 := [some (.ref a), some (.int t), some (.int (nI (cb ch))), some (.int (nI r)), some (.int (bl g2 (r + 1)))]) (fun _ _ q => q) ?_
        refine z_goto X d_D_pass_85 (tgt := 5) (by decide) ?_
        refine z_drop 4 ?_
        exact z_at (ih (g2, ch) ⟨by omega, by rw [hI]; show (if _ then _ else _) = _; rw [if_neg (by simp only [pok, Bool.and_eq_true, decide_eq_true_eq]; exact fun q => i32_lt_n hB q.2)]⟩) rfl rfl
      · skip
        refine z_aload_n X d_D_pass_49 rfl ?_
        refine z_get X g0 rfl in_D 1 (by decide) (wq lf_D_9) rfl d_D_pass_50 ?_
        refine z_iload_n X d_D_pass_53 rfl ?_
        refine z_dup2 X d_D_pass_54 rfl rfl ?_
        refine z_iald X g1 0 rfl (j := r + 1) rfl (by omega) (by omega) d_D_pass_55 ?_
        refine z_iload X d_D_pass_56 rfl ?_
        refine z_iadd X d_D_pass_58 ?_
        refine z_iast X g1 0 rfl (j := r + 1) rfl (by omega) (by omega) d_D_pass_59 ?_
        have g0 := g0.ne (q := (a + 1)) (y := aI tI 64 (upd g2 (r + 1) ((g2 (r + 1)) + (bl g2 (r + 1))))) (by omega)
        have g1 := g1.up (y := aI tI 64 (upd g2 (r + 1) ((g2 (r + 1)) + (bl g2 (r + 1)))))
        refine z_aload_n X d_D_pass_60 rfl ?_
        refine z_get X g0 rfl in_D 1 (by decide) (wq lf_D_9) rfl d_D_pass_61 ?_
        refine z_iconst X d_D_pass_64 (v := nI 2) (by decide +kernel) ?_
        refine z_iload_n X d_D_pass_65 rfl ?_
        refine z_imulN X d_D_pass_66 ?_
        refine z_iconst X d_D_pass_67 (v := nI 0) (by decide +kernel) ?_
        refine z_iast X g1 0 rfl (j := 2 * (r + 1)) rfl (by omega) (by omega) d_D_pass_68 ?_
        have g0 := g0.ne (q := (a + 1)) (y := aI tI 64 (upd (upd g2 (r + 1) ((g2 (r + 1)) + (bl g2 (r + 1)))) (2 * (r + 1)) (nI 0))) (by omega)
        have g1 := g1.up (y := aI tI 64 (upd (upd g2 (r + 1) ((g2 (r + 1)) + (bl g2 (r + 1)))) (2 * (r + 1)) (nI 0)))
        refine z_aload_n X d_D_pass_69 rfl ?_
        refine z_get X g0 rfl in_D 1 (by decide) (wq lf_D_9) rfl d_D_pass_70 ?_
        refine z_iconst X d_D_pass_73 (v := nI 2) (by decide +kernel) ?_
        refine z_iload_n X d_D_pass_74 rfl ?_
        refine z_imulN X d_D_pass_75 ?_
        refine z_iconst X d_D_pass_76 (v := nI 1) (by decide +kernel) ?_
        refine z_iaddN X d_D_pass_77 ?_
        refine z_iconst X d_D_pass_78 (v := nI 0) (by decide +kernel) ?_
        refine z_iast X g1 0 rfl (j := (2 * (r + 1)) + 1) rfl (by omega) (by omega) d_D_pass_79 ?_
        have g0 := g0.ne (q := (a + 1)) (y := aI tI 64 (upd (upd (upd g2 (r + 1) ((g2 (r + 1)) + (bl g2 (r + 1)))) (2 * (r + 1)) (nI 0)) ((2 * (r + 1)) + 1) (nI 0))) (by omega)
        have g1 := g1.up (y := aI tI 64 (upd (upd (upd g2 (r + 1) ((g2 (r + 1)) + (bl g2 (r + 1)))) (2 * (r + 1)) (nI 0)) ((2 * (r + 1)) + 1) (nI 0)))
        refine z_iconst X d_D_pass_80 (v := nI 1) (by decide +kernel) ?_
        refine z_istore_n X d_D_pass_81 (by decide) rfl ?_
        refine z_lv (lv2 := [some (.ref a), some (.int t), some (.int (nI 1)), some (.int (nI (r + 1))), some (.int (bl g2 (r + 1)))]) (fun _ _ q => q) ?_
        refine z_iincD X d_D_pass_82 rfl (by decide) rfl ?_
        refine z_lv (lv2 := [some (.ref a), some (.int t), some (.int (nI 1)), some (.int (nI r)), some (.int (bl g2 (r + 1)))]) (fun _ _ q => q) ?_
        refine z_goto X d_D_pass_85 (tgt := 5) (by decide) ?_
        refine z_drop 4 ?_
        refine z_at (ih (pst g2 (r + 1), true) ⟨by omega, ?_⟩) (by simp only [up_up, nI_0]; rfl) rfl
        rw [hI]
        show (if _ then _ else _) = _
        rw [if_pos]
        simp only [pok, Bool.and_eq_true, decide_eq_true_eq]
        exact ⟨i32_nle hA, i32_nlt hB⟩
set_option maxHeartbeats 4000000 in
set_option maxRecDepth 100000 in
/-- compress(t) -/
theorem c_D_compress {a : Nat} {dv : Int32} {g : Nat → Int32} {t : Int32} (h0 : zc b N k a (.inr (1, [.int dv, .ref (a + 1)]))) (h1 : zc b N k (a + 1) (aI tI 64 g)) : Met l y_D_compress (wy y_D_compress b_D_compress 4 none) (rm 1 0 0) (zPc D (tyl tI tZ tN tM) b N k [.ref a, .int t]) (zQv D b N (fun k2 => k2 = va_up k (a + 1) (aI tI 64 (cpr t 4096 g)))) 0 0 (zA b) := by
  refine z_met (own := R_D) (by decide) rfl rfl (Nat.le_of_ble_eq_true rfl) [some (.ref a), some (.int t), none, none] rfl ?_
  intro p e s m args below meth c X hin
  refine z_iconst X d_D_compress_0 (v := nI 1) (by decide +kernel) ?_
  refine z_istore_n X d_D_compress_1 (by decide) rfl ?_
  refine z_lv (lv2 := [some (.ref a), some (.int t), some (.int (nI 1)), none]) (fun _ _ q => q) ?_
  refine z_iconst X d_D_compress_2 (v := nI 0) (by decide +kernel) ?_
  refine z_istore_n X d_D_compress_3 (by decide) rfl ?_
  refine z_lv (lv2 := [some (.ref a), some (.int t), some (.int (nI 1)), some (.int (nI 0))]) (fun _ _ q => q) ?_
  refine z_loop (σ := (Nat → Int32) × Bool) (K := fun _ (q : (Nat → Int32) × Bool) => va_up k (a + 1) (aI tI 64 q.1)) (LV := fun v (q : (Nat → Int32) × Bool) => [some (.ref a), some (.int t), some (.int (nI (cb q.2))), some (.int (nI v))]) (I := fun v (q : (Nat → Int32) × Bool) => cpr t 4096 g = if q.2 = true then cpr t (4096 - v) q.1 else q.1) 4096 0 (g, true) (by omega) ((if_pos rfl).symm) ((up_self h1.2.2).symm) (rfl) ?_ ?_
  · intro q hI
    obtain ⟨g2, ch⟩ := q
    try dsimp only at hI
    cases ch
    · skip
      refine z_lv (lv2 := [some (.ref a), some (.int t), some (.int (nI (cb false))), some (.int (nI 4096))]) (fun _ _ q => q) ?_
      refine z_iload_n X d_D_compress_4 rfl ?_
      refine z_if_eqN X d_D_compress_5 (tgt := 27) (by decide) (by decide) (fun _ => ?_) (fun h => absurd h (by decide))
      exact z_vret X d_D_compress_27 (by omega) (by omega) (by rw [hI]; rfl)
    · skip
      refine z_lv (lv2 := [some (.ref a), some (.int t), some (.int (nI (cb true))), some (.int (nI 4096))]) (fun _ _ q => q) ?_
      refine z_iload_n X d_D_compress_4 rfl ?_
      refine z_if_eqN X d_D_compress_5 (tgt := 27) (by decide) (by decide) (fun h => absurd h (by decide)) (fun _ => ?_)
      refine z_iload_n X d_D_compress_8 rfl ?_
      refine z_sipush X d_D_compress_9 (v := nI 4096) (by decide +kernel) ?_
      refine z_icmp_geN X d_D_compress_12 (tgt := 27) (by decide) (by omega) (by omega) (fun _ => ?_) (fun h => absurd h (by omega))
      exact z_vret X d_D_compress_27 (by omega) (by omega) (by rw [hI]; rfl)
  · intro v q hv hI ih
    obtain ⟨g2, ch⟩ := q
    try dsimp only at hI
    cases ch
    · skip
      refine z_lv (lv2 := [some (.ref a), some (.int t), some (.int (nI (cb false))), some (.int (nI v))]) (fun _ _ q => q) ?_
      refine z_iload_n X d_D_compress_4 rfl ?_
      refine z_if_eqN X d_D_compress_5 (tgt := 27) (by decide) (by decide) (fun _ => ?_) (fun h => absurd h (by decide))
      exact z_vret X d_D_compress_27 (by omega) (by omega) (by rw [hI]; rfl)
    · skip
      refine z_lv (lv2 := [some (.ref a), some (.int t), some (.int (nI (cb true))), some (.int (nI v))]) (fun _ _ q => q) ?_
      refine z_iload_n X d_D_compress_4 rfl ?_
      refine z_if_eqN X d_D_compress_5 (tgt := 27) (by decide) (by decide) (fun h => absurd h (by decide)) (fun _ => ?_)
      refine z_iload_n X d_D_compress_8 rfl ?_
      refine z_sipush X d_D_compress_9 (v := nI 4096) (by decide +kernel) ?_
      refine z_icmp_geN X d_D_compress_12 (tgt := 27) (by decide) (by omega) (by omega) (fun h => absurd h (by omega)) (fun _ => ?_)
      have g0 := h0.ne (q := a + 1) (y := aI tI 64 g2) (by omega)
      have g1 := h1.up (y := aI tI 64 g2)
      refine z_aload_n X d_D_compress_15 rfl ?_
      refine z_iload_n X d_D_compress_16 rfl ?_
      refine z_callVi X (c_D_pass g0 g1) g0 rfl (cwV 1 X.1.2.2.2.2 (gi_V lm_D_27 vi_D_pass ve_D_pass vn_D vc_D_pass) rfl rfl rfl (by decide +kernel) ⟨Nat.le_of_ble_eq_true rfl, Nat.le_of_ble_eq_true rfl⟩) (As := [.int t]) (st := []) rfl rfl (Nat.le_of_ble_eq_true rfl) d_D_compress_17 ⟨Nat.le_of_ble_eq_true rfl, Nat.le_of_ble_eq_true rfl⟩ (fun x k2 hq => ?_)
      obtain ⟨rfl, rfl⟩ := hq
      refine z_istore_n X d_D_compress_20 (by decide) rfl ?_
      refine z_lv (lv2 := [some (.ref a), some (.int t), some (.int (nI (cb (ps t 31 g2 false).2))), some (.int (nI v))]) (fun _ _ q => q) ?_
      refine z_iincU X d_D_compress_21 rfl (by decide) rfl ?_
      refine z_lv (lv2 := [some (.ref a), some (.int t), some (.int (nI (cb (ps t 31 g2 false).2))), some (.int (nI (v + 1)))]) (fun _ _ q => q) ?_
      refine z_goto X d_D_compress_24 (tgt := 4) (by decide) ?_
      refine z_at (ih ((ps t 31 g2 false).1, (ps t 31 g2 false).2) ?_) (by rw [up_up]) rfl
      rw [hI, if_pos rfl, show 4096 - v = (4096 - (v + 1)) + 1 by omega]
      rfl
set_option maxHeartbeats 4000000 in
set_option maxRecDepth 100000 in
/-- Digest.take(v, n) -/
theorem c_D_take {a : Nat} {dv : Int32} {g : Nat → Int32} {v : Nat} {x : Int32} (h0 : zc b N k a (.inr (1, [.int dv, .ref (a + 1)]))) (h1 : zc b N k (a + 1) (aI tI 64 g)) (hv : v < 32) (hd : ¬ dv = 0) : Met l y_D_take (wy y_D_take b_D_take 3 none) (rm 2 0 0) (zPc D (tyl tI tZ tN tM) b N k [.ref a, .int (nI v), .int x]) (zQv D b N (fun k2 => k2 = va_up k (a + 1) (aI tI 64 (cpr (x / dv) 4096 (upd g (32 + v) (g (32 + v) + 1)))))) 0 0 (zA b) := by
  refine z_met (own := R_D) (by decide) rfl rfl (Nat.le_of_ble_eq_true rfl) [some (.ref a), some (.int (nI v)), some (.int x)] rfl ?_
  intro p e s m args below meth c X hin
  refine z_aload_n X d_D_take_0 rfl ?_
  refine z_get X h0 rfl in_D 1 (by decide) (wq lf_D_9) rfl d_D_take_1 ?_
  refine z_bipush X d_D_take_4 (v := nI 32) (by decide +kernel) ?_
  refine z_iload_n X d_D_take_6 rfl ?_
  refine z_iaddN X d_D_take_7 ?_
  refine z_dup2 X d_D_take_8 rfl rfl ?_
  refine z_iald X h1 0 rfl (j := 32 + v) rfl (by omega) (by omega) d_D_take_9 ?_
  refine z_iconst X d_D_take_10 (v := nI 1) (by decide +kernel) ?_
  refine z_iadd X d_D_take_11 ?_
  refine z_iast X h1 0 rfl (j := 32 + v) rfl (by omega) (by omega) d_D_take_12 ?_
  have h0 := h0.ne (q := (a + 1)) (y := aI tI 64 (upd g (32 + v) ((g (32 + v)) + (nI 1)))) (by omega)
  have h1 := h1.up (y := aI tI 64 (upd g (32 + v) ((g (32 + v)) + (nI 1))))
  refine z_aload_n X d_D_take_13 rfl ?_
  refine z_iload_n X d_D_take_14 rfl ?_
  refine z_aload_n X d_D_take_15 rfl ?_
  refine z_get X h0 rfl in_D 0 (by decide) (wq lf_D_15) rfl d_D_take_16 ?_
  refine z_idiv X d_D_take_19 hd ?_
  refine z_callVv X (c_D_compress h0 h1) h0 rfl (cwV 1 X.1.2.2.2.2 (gi_V lm_D_19 vi_D_compress ve_D_compress vn_D vc_D_compress) rfl rfl rfl (by decide +kernel) ⟨Nat.le_of_ble_eq_true rfl, Nat.le_of_ble_eq_true rfl⟩) (As := [.int (x / dv)]) (st := []) rfl rfl (Nat.le_of_ble_eq_true rfl) d_D_take_20 ⟨Nat.le_of_ble_eq_true rfl, Nat.le_of_ble_eq_true rfl⟩ (fun k2 hq => ?_)
  subst hq
  exact z_vret X d_D_take_23 (by omega) (by omega) (by rw [up_up, nI_one])
set_option maxHeartbeats 4000000 in
set_option maxRecDepth 100000 in
/-- Digest.merge(other, n) -/
theorem c_D_merge {a a2 : Nat} {dv dv2 : Int32} {g g2 : Nat → Int32} {x : Int32} (h0 : zc b N k a (.inr (1, [.int dv, .ref (a + 1)]))) (h1 : zc b N k (a + 1) (aI tI 64 g)) (e0 : zc b N k a2 (.inr (1, [.int dv2, .ref (a2 + 1)]))) (e1 : zc b N k (a2 + 1) (aI tI 64 g2)) (hne : a + 2 ≤ a2 ∨ a2 + 2 ≤ a) (hg : ∀ i, 64 ≤ i → g2 i = 0) (hd : ¬ dv = 0) : Met l y_D_merge (wy y_D_merge b_D_merge 3 none) (rm 2 0 0) (zPc D (tyl tI tZ tN tM) b N k [.ref a, .ref a2, .int x]) (zQv D b N (fun k2 => k2 = va_up k (a + 1) (aI tI 64 (cpr (x / dv) 4096 (ad g g2))))) 0 0 (zA b) := by
  refine z_met (own := R_D) (by decide) rfl rfl (Nat.le_of_ble_eq_true rfl) [some (.ref a), some (.ref a2), some (.int x)] rfl ?_
  intro p e s m args below meth c X hin
  refine z_aload_n X d_D_merge_0 rfl ?_
  refine z_get X h0 rfl in_D 1 (by decide) (wq lf_D_9) rfl d_D_merge_1 ?_
  refine z_aload_n X d_D_merge_4 rfl ?_
  refine z_get X e0 rfl in_D 1 (by decide) (wq lf_D_9) rfl d_D_merge_5 ?_
  refine z_callSNv X (a := 0) (c_T_addTo h1 e1 (by omega) (by omega)) (⟨va_cnB 2 X.1.2.2.2.2 (gi_wy vc_T_addTo) rfl rfl rfl (zn_D_23 X.2.2.2.2.2) (X.1.2.2.2.2 _ (wq vn_T)) (by decide +kernel) ⟨Nat.le_of_ble_eq_true rfl, Nat.le_of_ble_eq_true rfl⟩, X.1.2.2.2.2 _ (wq vs_T_addTo), trivial⟩) (As := [.ref (a + 1), .ref (a2 + 1)]) (st := []) rfl rfl (Nat.le_of_ble_eq_true rfl) d_D_merge_8 ⟨Nat.le_of_ble_eq_true rfl, Nat.le_of_ble_eq_true rfl⟩ (fun k2 hq => ?_)
  subst hq
  rw [pr_all (m := 64) (F := ad g g2) (C := g) (fun i hi => by unfold ad; rw [hg i hi]; exact Int32.add_zero _)]
  have h0 := h0.ne (q := a + 1) (y := aI tI 64 (ad g g2)) (by omega)
  have h1 := h1.up (y := aI tI 64 (ad g g2))
  refine z_aload_n X d_D_merge_11 rfl ?_
  refine z_iload_n X d_D_merge_12 rfl ?_
  refine z_aload_n X d_D_merge_13 rfl ?_
  refine z_get X h0 rfl in_D 0 (by decide) (wq lf_D_15) rfl d_D_merge_14 ?_
  refine z_idiv X d_D_merge_17 hd ?_
  refine z_callVv X (c_D_compress h0 h1) h0 rfl (cwV 1 X.1.2.2.2.2 (gi_V lm_D_19 vi_D_compress ve_D_compress vn_D vc_D_compress) rfl rfl rfl (by decide +kernel) ⟨Nat.le_of_ble_eq_true rfl, Nat.le_of_ble_eq_true rfl⟩) (As := [.int (x / dv)]) (st := []) rfl rfl (Nat.le_of_ble_eq_true rfl) d_D_merge_18 ⟨Nat.le_of_ble_eq_true rfl, Nat.le_of_ble_eq_true rfl⟩ (fun k2 hq => ?_)
  subst hq
  exact z_vret X d_D_merge_21 (by omega) (by omega) (by rw [up_up])
set_option maxHeartbeats 4000000 in
set_option maxRecDepth 100000 in
/-- rangesInUse() -/
theorem c_D_rangesInUse {a : Nat} {dv : Int32} {g : Nat → Int32} (h0 : zc b N k a (.inr (1, [.int dv, .ref (a + 1)]))) (h1 : zc b N k (a + 1) (aI tI 64 g)) : Met l y_D_rangesInUse (wy y_D_rangesInUse b_D_rangesInUse 3 (some .int)) (rm 0 0 0) (zPc D (tyl tI tZ tN tM) b N k [.ref a]) (zQi D b N (fun x k2 => x = nI (ct (fun q => decide (0 < g (q + 1))) 63) ∧ k2 = k)) 0 0 (zA b) := by
  refine z_met (own := R_D) (by decide) rfl rfl (Nat.le_of_ble_eq_true rfl) [some (.ref a), none, none] rfl ?_
  intro p e s m args below meth c X hin
  refine z_iconst X d_D_rangesInUse_0 (v := nI 0) (by decide +kernel) ?_
  refine z_istore_n X d_D_rangesInUse_1 (by decide) rfl ?_
  refine z_lv (lv2 := [some (.ref a), some (.int (nI 0)), none]) (fun _ _ q => q) ?_
  refine z_iconst X d_D_rangesInUse_2 (v := nI 1) (by decide +kernel) ?_
  refine z_istore_n X d_D_rangesInUse_3 (by decide) rfl ?_
  refine z_lv (lv2 := [some (.ref a), some (.int (nI 0)), some (.int (nI 1))]) (fun _ _ q => q) ?_
  refine z_loop (σ := Unit) (K := fun _ _ => k) (LV := fun v _ => [some (.ref a), some (.int (nI (ct (fun q => decide (0 < g (q + 1))) v))), some (.int (nI (v + 1)))]) (I := fun _ _ => True) 63 0 () (by omega) (trivial) (rfl) (rfl) ?_ ?_
  · intro s1 _
    refine z_lv (lv2 := [some (.ref a), some (.int (nI (ct (fun q => decide (0 < g (q + 1))) 63))), some (.int (nI (63 + 1)))]) (fun _ _ q => q) ?_
    refine z_iload_n X d_D_rangesInUse_4 rfl ?_
    refine z_bipush X d_D_rangesInUse_5 (v := nI 64) (by decide +kernel) ?_
    refine z_icmp_geN X d_D_rangesInUse_7 (tgt := 28) (by decide) (by omega) (by omega) (fun _ => ?_) (fun h => absurd h (by omega))
    refine z_iload_n X d_D_rangesInUse_28 rfl ?_
    exact z_iret X d_D_rangesInUse_29 (by omega) (by omega) (⟨rfl, rfl⟩)
  · intro v s1 hv _ ih
    refine z_lv (lv2 := [some (.ref a), some (.int (nI (ct (fun q => decide (0 < g (q + 1))) v))), some (.int (nI (v + 1)))]) (fun _ _ q => q) ?_
    refine z_iload_n X d_D_rangesInUse_4 rfl ?_
    refine z_bipush X d_D_rangesInUse_5 (v := nI 64) (by decide +kernel) ?_
    refine z_icmp_geN X d_D_rangesInUse_7 (tgt := 28) (by decide) (by omega) (by omega) (fun h => absurd h (by omega)) (fun _ => ?_)
    refine z_aload_n X d_D_rangesInUse_10 rfl ?_
    refine z_get X h0 rfl in_D 1 (by decide) (wq lf_D_9) rfl d_D_rangesInUse_11 ?_
    refine z_iload_n X d_D_rangesInUse_14 rfl ?_
    refine z_iald X h1 0 rfl (j := v + 1) rfl (by omega) (by omega) d_D_rangesInUse_15 ?_
    refine z_if_le X d_D_rangesInUse_16 (tgt := 22) (by decide) (fun hA => ?_) (fun hA => ?_)
    · skip
      refine z_iincU X d_D_rangesInUse_22 rfl (by decide) rfl ?_
      refine z_lv (lv2 := [some (.ref a), some (.int (nI (ct (fun q => decide (0 < g (q + 1))) v))), some (.int (nI (v + 1 + 1)))]) (fun _ _ q => q) ?_
      refine z_goto X d_D_rangesInUse_25 (tgt := 4) (by decide) ?_
      exact z_at (ih () trivial) rfl (by simp only [ct]; rw [if_neg (by simp [i32_le_n hA])]; rfl)
    · skip
      refine z_iincU X d_D_rangesInUse_19 rfl (by decide) rfl ?_
      refine z_lv (lv2 := [some (.ref a), some (.int (nI (ct (fun q => decide (0 < g (q + 1))) v + 1))), some (.int (nI (v + 1)))]) (fun _ _ q => q) ?_
      refine z_iincU X d_D_rangesInUse_22 rfl (by decide) rfl ?_
      refine z_lv (lv2 := [some (.ref a), some (.int (nI (ct (fun q => decide (0 < g (q + 1))) v + 1))), some (.int (nI (v + 1 + 1)))]) (fun _ _ q => q) ?_
      refine z_goto X d_D_rangesInUse_25 (tgt := 4) (by decide) ?_
      exact z_at (ih () trivial) rfl (by simp only [ct]; rw [if_pos (by simp [i32_nle hA])])
set_option maxHeartbeats 4000000 in
set_option maxRecDepth 100000 in
/-- D_endingAt -/
theorem c_D_endingAt {a : Nat} {dv : Int32} {g : Nat → Int32} {v : Nat} (h0 : zc b N k a (.inr (1, [.int dv, .ref (a + 1)]))) (h1 : zc b N k (a + 1) (aI tI 64 g)) (hv : v < 32) : Met l y_D_endingAt (wy y_D_endingAt b_D_endingAt 4 (some .int)) (rm 0 0 0) (zPc D (tyl tI tZ tN tM) b N k [.ref a, .int (nI v)]) (zQi D b N (fun x k2 => x = eac 0 g 6 (32 + v) 0 ∧ k2 = k)) 0 0 (zA b) := by
  refine z_met (own := R_D) (by decide) rfl rfl (Nat.le_of_ble_eq_true rfl) [some (.ref a), some (.int (nI v)), none, none] rfl ?_
  intro p e s m args below meth c X hin
  refine z_iconst X d_D_endingAt_0 (v := nI 0) (by decide +kernel) ?_
  refine z_istore_n X d_D_endingAt_1 (by decide) rfl ?_
  refine z_lv (lv2 := [some (.ref a), some (.int (nI v)), some (.int (nI 0)), none]) (fun _ _ q => q) ?_
  refine z_bipush X d_D_endingAt_2 (v := nI 32) (by decide +kernel) ?_
  refine z_iload_n X d_D_endingAt_4 rfl ?_
  refine z_iaddN X d_D_endingAt_5 ?_
  refine z_istore_n X d_D_endingAt_6 (by decide) rfl ?_
  refine z_lv (lv2 := [some (.ref a), some (.int (nI v)), some (.int (nI 0)), some (.int (nI (32 + v)))]) (fun _ _ q => q) ?_
  refine z_loopD (σ := Nat × Int32) (K := fun _ _ => k) (LV := fun _ (q : Nat × Int32) => [some (.ref a), some (.int (nI v)), some (.int q.2), some (.int (nI q.1))]) (I := fun f (q : Nat × Int32) => eac 0 g 6 (32 + v) 0 = eac 0 g f q.1 q.2 ∧ q.1 < 2 ^ f ∧ q.1 < 64) 6 (32 + v, 0) (⟨rfl, by show 32 + v < 64; omega, by show 32 + v < 64; omega⟩) (rfl) (by rw [nI_0]) ?_ ?_
  · intro q hI
    obtain ⟨y, z⟩ := q
    obtain ⟨e1, e2, e3⟩ := hI
    have e2 : y < 1 := e2
    have e3 : y < 64 := e3
    refine z_lv (lv2 := [some (.ref a), some (.int (nI v)), some (.int z), some (.int (nI y))]) (fun _ _ q => q) ?_
    refine z_iload_n X d_D_endingAt_7 rfl ?_
    refine z_iconst X d_D_endingAt_8 (v := nI 1) (by decide +kernel) ?_
    refine z_icmp_ltN X d_D_endingAt_9 (tgt := 37) (by decide) (by omega) (by omega) (fun _ => ?_) (fun h => absurd h (by omega))
    refine z_iload_n X d_D_endingAt_37 rfl ?_
    exact z_iret X d_D_endingAt_38 (by omega) (by omega) (⟨e1.symm, rfl⟩)
  · intro f q hI ih
    obtain ⟨y, z⟩ := q
    obtain ⟨e1, e2, e3⟩ := hI
    have e2 : y < 2 ^ (f + 1) := e2
    have e3 : y < 64 := e3
    rw [Nat.pow_succ] at e2
    have e1 : eac 0 g 6 (32 + v) 0 = (if y = 0 then z else if y % 2 = 0 then z + g y else eac 0 g f (y / 2) (z + g y)) := e1
    refine z_lv (lv2 := [some (.ref a), some (.int (nI v)), some (.int z), some (.int (nI y))]) (fun _ _ q => q) ?_
    refine z_iload_n X d_D_endingAt_7 rfl ?_
    refine z_iconst X d_D_endingAt_8 (v := nI 1) (by decide +kernel) ?_
    refine z_icmp_ltN X d_D_endingAt_9 (tgt := 37) (by decide) (by omega) (by omega) (fun hA => ?_) (fun hA => ?_)
    · skip
      refine z_iload_n X d_D_endingAt_37 rfl ?_
      exact z_iret X d_D_endingAt_38 (by omega) (by omega) (⟨by rw [e1, if_pos (by omega)], rfl⟩)
    · skip
      rw [if_neg (by omega)] at e1
      refine z_iload_n X d_D_endingAt_12 rfl ?_
      refine z_aload_n X d_D_endingAt_13 rfl ?_
      refine z_get X h0 rfl in_D 1 (by decide) (wq lf_D_9) rfl d_D_endingAt_14 ?_
      refine z_iload_n X d_D_endingAt_17 rfl ?_
      refine z_iald X h1 0 rfl (j := y) rfl (by omega) (by omega) d_D_endingAt_18 ?_
      refine z_iadd X d_D_endingAt_19 ?_
      refine z_istore_n X d_D_endingAt_20 (by decide) rfl ?_
      refine z_lv (lv2 := [some (.ref a), some (.int (nI v)), some (.int (z + (g y))), some (.int (nI y))]) (fun _ _ q => q) ?_
      refine z_iload_n X d_D_endingAt_21 rfl ?_
      refine z_iconst X d_D_endingAt_22 (v := nI 2) (by decide +kernel) ?_
      refine z_iremN X d_D_endingAt_23 (by omega) (by omega) (by omega) ?_
      refine z_if_neN X d_D_endingAt_24 (tgt := 30) (by decide) (by omega) (fun hB => ?_) (fun hB => ?_)
      · skip
        refine z_iload_n X d_D_endingAt_30 rfl ?_
        refine z_iconst X d_D_endingAt_31 (v := nI 2) (by decide +kernel) ?_
        refine z_idivN X d_D_endingAt_32 (by omega) (by omega) (by omega) ?_
        refine z_istore_n X d_D_endingAt_33 (by decide) rfl ?_
        refine z_lv (lv2 := [some (.ref a), some (.int (nI v)), some (.int (z + (g y))), some (.int (nI (y / 2)))]) (fun _ _ q => q) ?_
        refine z_goto X d_D_endingAt_34 (tgt := 7) (by decide) ?_
        exact z_at (ih (y / 2, z + g y) ⟨by rw [e1, if_neg (by omega)], by show y / 2 < 2 ^ f; omega, by show y / 2 < 64; omega⟩) rfl rfl
      · skip
        refine z_goto X d_D_endingAt_27 (tgt := 37) (by decide) ?_
        refine z_iload_n X d_D_endingAt_37 rfl ?_
        exact z_iret X d_D_endingAt_38 (by omega) (by omega) (⟨by rw [e1, if_pos (by omega)], rfl⟩)
set_option maxHeartbeats 4000000 in
set_option maxRecDepth 100000 in
/-- D_startingAt -/
theorem c_D_startingAt {a : Nat} {dv : Int32} {g : Nat → Int32} {v : Nat} (h0 : zc b N k a (.inr (1, [.int dv, .ref (a + 1)]))) (h1 : zc b N k (a + 1) (aI tI 64 g)) (hv : v < 32) : Met l y_D_startingAt (wy y_D_startingAt b_D_startingAt 4 (some .int)) (rm 0 0 0) (zPc D (tyl tI tZ tN tM) b N k [.ref a, .int (nI v)]) (zQi D b N (fun x k2 => x = eac 1 g 6 (32 + v) 0 ∧ k2 = k)) 0 0 (zA b) := by
  refine z_met (own := R_D) (by decide) rfl rfl (Nat.le_of_ble_eq_true rfl) [some (.ref a), some (.int (nI v)), none, none] rfl ?_
  intro p e s m args below meth c X hin
  refine z_iconst X d_D_startingAt_0 (v := nI 0) (by decide +kernel) ?_
  refine z_istore_n X d_D_startingAt_1 (by decide) rfl ?_
  refine z_lv (lv2 := [some (.ref a), some (.int (nI v)), some (.int (nI 0)), none]) (fun _ _ q => q) ?_
  refine z_bipush X d_D_startingAt_2 (v := nI 32) (by decide +kernel) ?_
  refine z_iload_n X d_D_startingAt_4 rfl ?_
  refine z_iaddN X d_D_startingAt_5 ?_
  refine z_istore_n X d_D_startingAt_6 (by decide) rfl ?_
  refine z_lv (lv2 := [some (.ref a), some (.int (nI v)), some (.int (nI 0)), some (.int (nI (32 + v)))]) (fun _ _ q => q) ?_
  refine z_loopD (σ := Nat × Int32) (K := fun _ _ => k) (LV := fun _ (q : Nat × Int32) => [some (.ref a), some (.int (nI v)), some (.int q.2), some (.int (nI q.1))]) (I := fun f (q : Nat × Int32) => eac 1 g 6 (32 + v) 0 = eac 1 g f q.1 q.2 ∧ q.1 < 2 ^ f ∧ q.1 < 64) 6 (32 + v, 0) (⟨rfl, by show 32 + v < 64; omega, by show 32 + v < 64; omega⟩) (rfl) (by rw [nI_0]) ?_ ?_
  · intro q hI
    obtain ⟨y, z⟩ := q
    obtain ⟨e1, e2, e3⟩ := hI
    have e2 : y < 1 := e2
    have e3 : y < 64 := e3
    refine z_lv (lv2 := [some (.ref a), some (.int (nI v)), some (.int z), some (.int (nI y))]) (fun _ _ q => q) ?_
    refine z_iload_n X d_D_startingAt_7 rfl ?_
    refine z_iconst X d_D_startingAt_8 (v := nI 1) (by decide +kernel) ?_
    refine z_icmp_ltN X d_D_startingAt_9 (tgt := 38) (by decide) (by omega) (by omega) (fun _ => ?_) (fun h => absurd h (by omega))
    refine z_iload_n X d_D_startingAt_38 rfl ?_
    exact z_iret X d_D_startingAt_39 (by omega) (by omega) (⟨e1.symm, rfl⟩)
  · intro f q hI ih
    obtain ⟨y, z⟩ := q
    obtain ⟨e1, e2, e3⟩ := hI
    have e2 : y < 2 ^ (f + 1) := e2
    have e3 : y < 64 := e3
    rw [Nat.pow_succ] at e2
    have e1 : eac 1 g 6 (32 + v) 0 = (if y = 0 then z else if y % 2 = 1 then z + g y else eac 1 g f (y / 2) (z + g y)) := e1
    refine z_lv (lv2 := [some (.ref a), some (.int (nI v)), some (.int z), some (.int (nI y))]) (fun _ _ q => q) ?_
    refine z_iload_n X d_D_startingAt_7 rfl ?_
    refine z_iconst X d_D_startingAt_8 (v := nI 1) (by decide +kernel) ?_
    refine z_icmp_ltN X d_D_startingAt_9 (tgt := 38) (by decide) (by omega) (by omega) (fun hA => ?_) (fun hA => ?_)
    · skip
      refine z_iload_n X d_D_startingAt_38 rfl ?_
      exact z_iret X d_D_startingAt_39 (by omega) (by omega) (⟨by rw [e1, if_pos (by omega)], rfl⟩)
    · skip
      rw [if_neg (by omega)] at e1
      refine z_iload_n X d_D_startingAt_12 rfl ?_
      refine z_aload_n X d_D_startingAt_13 rfl ?_
      refine z_get X h0 rfl in_D 1 (by decide) (wq lf_D_9) rfl d_D_startingAt_14 ?_
      refine z_iload_n X d_D_startingAt_17 rfl ?_
      refine z_iald X h1 0 rfl (j := y) rfl (by omega) (by omega) d_D_startingAt_18 ?_
      refine z_iadd X d_D_startingAt_19 ?_
      refine z_istore_n X d_D_startingAt_20 (by decide) rfl ?_
      refine z_lv (lv2 := [some (.ref a), some (.int (nI v)), some (.int (z + (g y))), some (.int (nI y))]) (fun _ _ q => q) ?_
      refine z_iload_n X d_D_startingAt_21 rfl ?_
      refine z_iconst X d_D_startingAt_22 (v := nI 2) (by decide +kernel) ?_
      refine z_iremN X d_D_startingAt_23 (by omega) (by omega) (by omega) ?_
      refine z_iconst X d_D_startingAt_24 (v := nI 1) (by decide +kernel) ?_
      refine z_icmp_neN X d_D_startingAt_25 (tgt := 31) (by decide) (by omega) (by omega) (fun hB => ?_) (fun hB => ?_)
      · skip
        refine z_iload_n X d_D_startingAt_31 rfl ?_
        refine z_iconst X d_D_startingAt_32 (v := nI 2) (by decide +kernel) ?_
        refine z_idivN X d_D_startingAt_33 (by omega) (by omega) (by omega) ?_
        refine z_istore_n X d_D_startingAt_34 (by decide) rfl ?_
        refine z_lv (lv2 := [some (.ref a), some (.int (nI v)), some (.int (z + (g y))), some (.int (nI (y / 2)))]) (fun _ _ q => q) ?_
        refine z_goto X d_D_startingAt_35 (tgt := 7) (by decide) ?_
        exact z_at (ih (y / 2, z + g y) ⟨by rw [e1, if_neg (by omega)], by show y / 2 < 2 ^ f; omega, by show y / 2 < 64; omega⟩) rfl rfl
      · skip
        refine z_goto X d_D_startingAt_28 (tgt := 38) (by decide) ?_
        refine z_iload_n X d_D_startingAt_38 rfl ?_
        exact z_iret X d_D_startingAt_39 (by omega) (by omega) (⟨by rw [e1, if_pos (by omega)], rfl⟩)
set_option maxHeartbeats 4000000 in
set_option maxRecDepth 100000 in
/-- D_endingBefore -/
theorem c_D_endingBefore {a : Nat} {dv : Int32} {g : Nat → Int32} {y : Nat} (h0 : zc b N k a (.inr (1, [.int dv, .ref (a + 1)]))) (h1 : zc b N k (a + 1) (aI tI 64 g)) (hy : y ≤ 32) : Met l y_D_endingBefore (wy y_D_endingBefore b_D_endingBefore 4 (some .int)) (rm 1 0 0) (zPc D (tyl tI tZ tN tM) b N k [.ref a, .int (nI y)]) (zQi D b N (fun x k2 => x = eb g y ∧ k2 = k)) 0 0 (zA b) := by
  refine z_met (own := R_D) (by decide) rfl rfl (Nat.le_of_ble_eq_true rfl) [some (.ref a), some (.int (nI y)), none, none] rfl ?_
  intro p e s m args below meth c X hin
  refine z_iconst X d_D_endingBefore_0 (v := nI 0) (by decide +kernel) ?_
  refine z_istore_n X d_D_endingBefore_1 (by decide) rfl ?_
  refine z_lv (lv2 := [some (.ref a), some (.int (nI y)), some (.int (nI 0)), none]) (fun _ _ q => q) ?_
  refine z_iconst X d_D_endingBefore_2 (v := nI 0) (by decide +kernel) ?_
  refine z_istore_n X d_D_endingBefore_3 (by decide) rfl ?_
  refine z_lv (lv2 := [some (.ref a), some (.int (nI y)), some (.int (nI 0)), some (.int (nI 0))]) (fun _ _ q => q) ?_
  refine z_loop (σ := Unit) (K := fun _ _ => k) (LV := fun v _ => [some (.ref a), some (.int (nI y)), some (.int (eb g v)), some (.int (nI v))]) (I := fun _ _ => True) y 0 () (by omega) (trivial) (rfl) (by rw [nI_0]; rfl) ?_ ?_
  · intro s1 _
    refine z_lv (lv2 := [some (.ref a), some (.int (nI y)), some (.int (eb g y)), some (.int (nI y))]) (fun _ _ q => q) ?_
    refine z_iload_n X d_D_endingBefore_4 rfl ?_
    refine z_iload_n X d_D_endingBefore_5 rfl ?_
    refine z_icmp_geN X d_D_endingBefore_6 (tgt := 23) (by decide) (by omega) (by omega) (fun _ => ?_) (fun h => absurd h (by omega))
    refine z_iload_n X d_D_endingBefore_23 rfl ?_
    exact z_iret X d_D_endingBefore_24 (by omega) (by omega) (⟨rfl, rfl⟩)
  · intro v s1 hv _ ih
    refine z_lv (lv2 := [some (.ref a), some (.int (nI y)), some (.int (eb g v)), some (.int (nI v))]) (fun _ _ q => q) ?_
    refine z_iload_n X d_D_endingBefore_4 rfl ?_
    refine z_iload_n X d_D_endingBefore_5 rfl ?_
    refine z_icmp_geN X d_D_endingBefore_6 (tgt := 23) (by decide) (by omega) (by omega) (fun h => absurd h (by omega)) (fun _ => ?_)
    refine z_iload_n X d_D_endingBefore_9 rfl ?_
    refine z_aload_n X d_D_endingBefore_10 rfl ?_
    refine z_iload_n X d_D_endingBefore_11 rfl ?_
    refine z_callVi X (c_D_endingAt h0 h1 (v := v) (by omega)) h0 rfl (cwV 1 X.1.2.2.2.2 (gi_V lm_D_31 vi_D_endingAt ve_D_endingAt vn_D vc_D_endingAt) rfl rfl rfl (by decide +kernel) ⟨Nat.le_of_ble_eq_true rfl, Nat.le_of_ble_eq_true rfl⟩) (As := [.int (nI v)]) (st := [.int (eb g v)]) rfl rfl (Nat.le_of_ble_eq_true rfl) d_D_endingBefore_12 ⟨Nat.le_of_ble_eq_true rfl, Nat.le_of_ble_eq_true rfl⟩ (fun x k2 hq => ?_)
    obtain ⟨rfl, rfl⟩ := hq
    refine z_iadd X d_D_endingBefore_15 ?_
    refine z_istore_n X d_D_endingBefore_16 (by decide) rfl ?_
    refine z_lv (lv2 := [some (.ref a), some (.int (nI y)), some (.int ((eb g v) + (eac 0 g 6 (32 + v) 0))), some (.int (nI v))]) (fun _ _ q => q) ?_
    refine z_iincU X d_D_endingBefore_17 rfl (by decide) rfl ?_
    refine z_lv (lv2 := [some (.ref a), some (.int (nI y)), some (.int ((eb g v) + (eac 0 g 6 (32 + v) 0))), some (.int (nI (v + 1)))]) (fun _ _ q => q) ?_
    refine z_goto X d_D_endingBefore_20 (tgt := 4) (by decide) ?_
    exact z_at (ih () trivial) rfl rfl
set_option maxHeartbeats 4000000 in
set_option maxRecDepth 100000 in
/-- D_startingBefore -/
theorem c_D_startingBefore {a : Nat} {dv : Int32} {g : Nat → Int32} {y : Nat} (h0 : zc b N k a (.inr (1, [.int dv, .ref (a + 1)]))) (h1 : zc b N k (a + 1) (aI tI 64 g)) (hy : y ≤ 32) : Met l y_D_startingBefore (wy y_D_startingBefore b_D_startingBefore 4 (some .int)) (rm 1 0 0) (zPc D (tyl tI tZ tN tM) b N k [.ref a, .int (nI y)]) (zQi D b N (fun x k2 => x = sb g y ∧ k2 = k)) 0 0 (zA b) := by
  refine z_met (own := R_D) (by decide) rfl rfl (Nat.le_of_ble_eq_true rfl) [some (.ref a), some (.int (nI y)), none, none] rfl ?_
  intro p e s m args below meth c X hin
  refine z_iconst X d_D_startingBefore_0 (v := nI 0) (by decide +kernel) ?_
  refine z_istore_n X d_D_startingBefore_1 (by decide) rfl ?_
  refine z_lv (lv2 := [some (.ref a), some (.int (nI y)), some (.int (nI 0)), none]) (fun _ _ q => q) ?_
  refine z_iconst X d_D_startingBefore_2 (v := nI 0) (by decide +kernel) ?_
  refine z_istore_n X d_D_startingBefore_3 (by decide) rfl ?_
  refine z_lv (lv2 := [some (.ref a), some (.int (nI y)), some (.int (nI 0)), some (.int (nI 0))]) (fun _ _ q => q) ?_
  refine z_loop (σ := Unit) (K := fun _ _ => k) (LV := fun v _ => [some (.ref a), some (.int (nI y)), some (.int (sb g v)), some (.int (nI v))]) (I := fun _ _ => True) y 0 () (by omega) (trivial) (rfl) (by rw [nI_0]; rfl) ?_ ?_
  · intro s1 _
    refine z_lv (lv2 := [some (.ref a), some (.int (nI y)), some (.int (sb g y)), some (.int (nI y))]) (fun _ _ q => q) ?_
    refine z_iload_n X d_D_startingBefore_4 rfl ?_
    refine z_iload_n X d_D_startingBefore_5 rfl ?_
    refine z_icmp_geN X d_D_startingBefore_6 (tgt := 23) (by decide) (by omega) (by omega) (fun _ => ?_) (fun h => absurd h (by omega))
    refine z_iload_n X d_D_startingBefore_23 rfl ?_
    exact z_iret X d_D_startingBefore_24 (by omega) (by omega) (⟨rfl, rfl⟩)
  · intro v s1 hv _ ih
    refine z_lv (lv2 := [some (.ref a), some (.int (nI y)), some (.int (sb g v)), some (.int (nI v))]) (fun _ _ q => q) ?_
    refine z_iload_n X d_D_startingBefore_4 rfl ?_
    refine z_iload_n X d_D_startingBefore_5 rfl ?_
    refine z_icmp_geN X d_D_startingBefore_6 (tgt := 23) (by decide) (by omega) (by omega) (fun h => absurd h (by omega)) (fun _ => ?_)
    refine z_iload_n X d_D_startingBefore_9 rfl ?_
    refine z_aload_n X d_D_startingBefore_10 rfl ?_
    refine z_iload_n X d_D_startingBefore_11 rfl ?_
    refine z_callVi X (c_D_startingAt h0 h1 (v := v) (by omega)) h0 rfl (cwV 1 X.1.2.2.2.2 (gi_V lm_D_35 vi_D_startingAt ve_D_startingAt vn_D vc_D_startingAt) rfl rfl rfl (by decide +kernel) ⟨Nat.le_of_ble_eq_true rfl, Nat.le_of_ble_eq_true rfl⟩) (As := [.int (nI v)]) (st := [.int (sb g v)]) rfl rfl (Nat.le_of_ble_eq_true rfl) d_D_startingBefore_12 ⟨Nat.le_of_ble_eq_true rfl, Nat.le_of_ble_eq_true rfl⟩ (fun x k2 hq => ?_)
    obtain ⟨rfl, rfl⟩ := hq
    refine z_iadd X d_D_startingBefore_15 ?_
    refine z_istore_n X d_D_startingBefore_16 (by decide) rfl ?_
    refine z_lv (lv2 := [some (.ref a), some (.int (nI y)), some (.int ((sb g v) + (eac 1 g 6 (32 + v) 0))), some (.int (nI v))]) (fun _ _ q => q) ?_
    refine z_iincU X d_D_startingBefore_17 rfl (by decide) rfl ?_
    refine z_lv (lv2 := [some (.ref a), some (.int (nI y)), some (.int ((sb g v) + (eac 1 g 6 (32 + v) 0))), some (.int (nI (v + 1)))]) (fun _ _ q => q) ?_
    refine z_goto X d_D_startingBefore_20 (tgt := 4) (by decide) ?_
    exact z_at (ih () trivial) rfl rfl
set_option maxHeartbeats 4000000 in
set_option maxRecDepth 100000 in
/-- D_valueReaching -/
theorem c_D_valueReaching {a : Nat} {dv : Int32} {g : Nat → Int32} {th : Int32} (h0 : zc b N k a (.inr (1, [.int dv, .ref (a + 1)]))) (h1 : zc b N k (a + 1) (aI tI 64 g)) : Met l y_D_valueReaching (wy y_D_valueReaching b_D_valueReaching 4 (some .int)) (rm 1 0 0) (zPc D (tyl tI tZ tN tM) b N k [.ref a, .int th]) (zQi D b N (fun x k2 => x = vq g th 32 ∧ k2 = k)) 0 0 (zA b) := by
  refine z_met (own := R_D) (by decide) rfl rfl (Nat.le_of_ble_eq_true rfl) [some (.ref a), some (.int th), none, none] rfl ?_
  intro p e s m args below meth c X hin
  refine z_iconst X d_D_valueReaching_0 (v := nI 0) (by decide +kernel) ?_
  refine z_istore_n X d_D_valueReaching_1 (by decide) rfl ?_
  refine z_lv (lv2 := [some (.ref a), some (.int th), some (.int (nI 0)), none]) (fun _ _ q => q) ?_
  refine z_iconst X d_D_valueReaching_2 (v := nI 0) (by decide +kernel) ?_
  refine z_istore_n X d_D_valueReaching_3 (by decide) rfl ?_
  refine z_lv (lv2 := [some (.ref a), some (.int th), some (.int (nI 0)), some (.int (nI 0))]) (fun _ _ q => q) ?_
  refine z_loop (σ := Unit) (K := fun _ _ => k) (LV := fun v _ => [some (.ref a), some (.int th), some (.int (eb g v)), some (.int (nI v))]) (I := fun v _ => vq g th 32 = vq g th (32 - v)) 32 0 () (by omega) (rfl) (rfl) (by rw [nI_0]; rfl) ?_ ?_
  · intro s1 hI
    refine z_lv (lv2 := [some (.ref a), some (.int th), some (.int (eb g 32)), some (.int (nI 32))]) (fun _ _ q => q) ?_
    refine z_iload_n X d_D_valueReaching_4 rfl ?_
    refine z_bipush X d_D_valueReaching_5 (v := nI 32) (by decide +kernel) ?_
    refine z_icmp_geN X d_D_valueReaching_7 (tgt := 40) (by decide) (by omega) (by omega) (fun _ => ?_) (fun h => absurd h (by omega))
    refine z_iconst X d_D_valueReaching_40 (v := -1) (by decide +kernel) ?_
    exact z_iret X d_D_valueReaching_41 (by omega) (by omega) (⟨hI.symm, rfl⟩)
  · intro v s1 hv hI ih
    rw [vq_at g th hv] at hI
    refine z_lv (lv2 := [some (.ref a), some (.int th), some (.int (eb g v)), some (.int (nI v))]) (fun _ _ q => q) ?_
    refine z_iload_n X d_D_valueReaching_4 rfl ?_
    refine z_bipush X d_D_valueReaching_5 (v := nI 32) (by decide +kernel) ?_
    refine z_icmp_geN X d_D_valueReaching_7 (tgt := 40) (by decide) (by omega) (by omega) (fun h => absurd h (by omega)) (fun _ => ?_)
    refine z_iload_n X d_D_valueReaching_10 rfl ?_
    refine z_aload_n X d_D_valueReaching_11 rfl ?_
    refine z_iload_n X d_D_valueReaching_12 rfl ?_
    refine z_callVi X (c_D_endingAt h0 h1 hv) h0 rfl (cwV 1 X.1.2.2.2.2 (gi_V lm_D_31 vi_D_endingAt ve_D_endingAt vn_D vc_D_endingAt) rfl rfl rfl (by decide +kernel) ⟨Nat.le_of_ble_eq_true rfl, Nat.le_of_ble_eq_true rfl⟩) (As := [.int (nI v)]) (st := [.int (eb g v)]) rfl rfl (Nat.le_of_ble_eq_true rfl) d_D_valueReaching_13 ⟨Nat.le_of_ble_eq_true rfl, Nat.le_of_ble_eq_true rfl⟩ (fun x k2 hq => ?_)
    obtain ⟨rfl, rfl⟩ := hq
    refine z_iadd X d_D_valueReaching_16 ?_
    refine z_top (y := .int (eb g (v + 1))) (rfl) ?_
    refine z_istore_n X d_D_valueReaching_17 (by decide) rfl ?_
    refine z_lv (lv2 := [some (.ref a), some (.int th), some (.int (eb g (v + 1))), some (.int (nI v))]) (fun _ _ q => q) ?_
    refine z_iload_n X d_D_valueReaching_18 rfl ?_
    refine z_iconst X d_D_valueReaching_19 (v := nI 1) (by decide +kernel) ?_
    refine z_icmp_lt X d_D_valueReaching_20 (tgt := 34) (by decide) (fun hA => ?_) (fun hA => ?_)
    · skip
      refine z_iincU X d_D_valueReaching_34 rfl (by decide) rfl ?_
      refine z_lv (lv2 := [some (.ref a), some (.int th), some (.int (eb g (v + 1))), some (.int (nI (v + 1)))]) (fun _ _ q => q) ?_
      refine z_goto X d_D_valueReaching_37 (tgt := 4) (by decide) ?_
      exact z_at (ih () (by rw [hI, if_neg (fun q => q.1 hA)])) rfl rfl
    · skip
      refine z_sipush X d_D_valueReaching_23 (v := nI 1000) (by decide +kernel) ?_
      refine z_iload_n X d_D_valueReaching_26 rfl ?_
      refine z_imul X d_D_valueReaching_27 ?_
      refine z_iload_n X d_D_valueReaching_28 rfl ?_
      refine z_icmp_lt X d_D_valueReaching_29 (tgt := 34) (by decide) (fun hB => ?_) (fun hB => ?_)
      · skip
        refine z_iincU X d_D_valueReaching_34 rfl (by decide) rfl ?_
        refine z_lv (lv2 := [some (.ref a), some (.int th), some (.int (eb g (v + 1))), some (.int (nI (v + 1)))]) (fun _ _ q => q) ?_
        refine z_goto X d_D_valueReaching_37 (tgt := 4) (by decide) ?_
        exact z_at (ih () (by rw [hI, if_neg (fun q => q.2 hB)])) rfl rfl
      · skip
        refine z_iload_n X d_D_valueReaching_32 rfl ?_
        exact z_iret X d_D_valueReaching_33 (by omega) (by omega) (⟨by rw [hI, if_pos ⟨hA, hB⟩], rfl⟩)
end
