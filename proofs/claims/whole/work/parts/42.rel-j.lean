/-! Pure: the relation over crash of a leaf, and over the writing of a block -/
theorem REL_crashL {kk t nc j : Nat} {dv lm ms : Int32} {F : Cf} {op : Nat → Nat → Int32} {oc : Nat → Nat} {Sn Sk Sm : Nat → Sv} {f0 f1 f2 f3 f4 f5 f6 f7 f8 f9 f10 f11 f12 : Nat → Int32} {up : Nat → Nat} {jr : Nat → Nat → Nat} {wr : Nat → Nat} {kp ca : Nat → Nat → Nat} {sd : Nat → Nat} (h : REL kk dv t nc lm F op oc Sn Sk Sm ms f0 f1 f2 f3 f4 f5 f6 f7 f8 f9 f10 f11 f12 up jr wr kp ca sd) (hj : j < nc) (hl : ¬ f1 j = 0) : REL kk dv t nc lm F op (va_up oc j 0) Sn Sk Sm ms f0 f1 f2 f3 f4 f5 (upd f6 j 0) (fk7 f0 f7 (nI j) (nc - 1)) f8 f9 f10 f11 f12 up jr wr kp ca sd := by
  obtain ⟨h1, h2, h3, h4, ⟨b1, b2, b3, b4⟩, h6, h7⟩ := h
  have e7 : fk7 f0 f7 (nI j) (nc - 1) = f7 := by
    funext c
    rw [fk7_at, if_neg]
    intro q
    have hc : c < nc := by have := h2.1; omega
    rw [h2.2.2.2.2.2.2.1 c (by have := h2.1; omega), nI_eq (by have := h2.2.2.2.1 c; have := h2.1; omega) (by have := h2.1; omega)] at q
    have := h2.2.2.2.2.2.2.2.2.2.1 c q.1 hc
    rw [q.2.2] at this
    exact hl this
  rw [e7]
  refine ⟨h1, h2, h3, h4, ⟨fun i hi => ?_, b2, fun i q hi hq => ?_, b4⟩, h6, h7⟩
  · obtain ⟨a1, a2, a3, a4, a5⟩ := b1 i hi
    by_cases z : i = j
    · subst z
      rw [upd_eq, up_eq]
      exact ⟨a1, nI_0.symm, by omega, by omega, fun w => ⟨(a5 w).1, rfl⟩⟩
    · rw [upd_ne z, up_ne z]
      exact ⟨a1, a2, a3, a4, a5⟩
  · by_cases z : i = j
    · subst z
      rw [up_eq] at hq
      omega
    · rw [up_ne z] at hq
      exact b3 i q hi hq
theorem SR_wr {kk nc j : Nat} {dv : Int32} {up : Nat → Nat} {jr jr2 : Nat → Nat → Nat} {kn wr : Nat → Nat} {s : Sv} (hN : nc ≤ 12) (hj : j < 12) (hk : ∀ l, l < 12 → kn l ≤ wr l) (he : ∀ l i, l < 12 → i < wr l → jr l i = jr2 l i) (h : SR kk dv up nc jr j kn s) : SR kk dv up nc jr2 j kn s := by
  refine SR_jr hN hj (fun l i hi => ?_) h
  have hl : l < 12 := ((h.2.2.2.2 l).2 (by omega)).1
  have := hk l hl
  exact he l i hl (by omega)
/-- m items of leaf j's open block, ov, are written -/
theorem REL_write {kk t nc j m : Nat} {dv lm ms : Int32} {F : Cf} {op : Nat → Nat → Int32} {oc : Nat → Nat} {Sn Sk Sm : Nat → Sv} {f0 f1 f2 f3 f4 f5 f6 f7 f8 f9 f10 f11 f12 g5 g6 : Nat → Int32} {op2 : Nat → Nat → Int32} {up : Nat → Nat} {jr : Nat → Nat → Nat} {wr : Nat → Nat} {kp ca : Nat → Nat → Nat} {sd : Nat → Nat} {ov : Nat → Nat} (h : REL kk dv t nc lm F op oc Sn Sk Sm ms f0 f1 f2 f3 f4 f5 f6 f7 f8 f9 f10 f11 f12 up jr wr kp ca sd) (hj : j < nc) (hl : ¬ f1 j = 0) (hm : wr j + m ≤ 48) (hv : ∀ q, q < m → g5 (4 * j + q) = nI (ov q) ∧ ov q < 32) (h5 : ∀ i q, i < 12 → q < 4 → op2 i q = g5 (4 * i + q)) (ho : ∀ i, i ≠ j → op2 i = op i) (h66 : ∀ i, i < 12 → i ≠ j → g6 i = f6 i) (h6j : g6 j = 0) : REL kk dv t nc lm F op2 (va_up oc j 0) (va_up Sn j (tkSs kk dv (Sn j) ov j m)) Sk Sm ms f0 f1 f2 (pr (48 * j + wr j) m (fun i => g5 (4 * j + i)) f3) (upd f4 j (nI (wr j + m))) g5 g6 f7 f8 f9 f10 f11 f12 up (va_up jr j (fun q => if q < wr j then jr j q else ov (q - wr j))) (va_up wr j (wr j + m)) kp ca sd := by
  have hkn := fun i => knN_le (j := i) h
  obtain ⟨h1, h2, h3, h4, ⟨b1, b2, b3, b4⟩, h6, h7⟩ := h
  have hnc := h2.1
  generalize hjr : va_up jr j (fun q => if q < wr j then jr j q else ov (q - wr j)) = jr2
  have he : ∀ l i, l < 12 → i < wr l → jr l i = jr2 l i := fun l i hl2 hi => by
    rw [← hjr]
    by_cases z : l = j
    · subst z
      rw [up_eq, if_pos hi]
    · rw [up_ne z]
  have hnew : ∀ q, q < m → jr2 j (wr j + q) = ov q := fun q hq => by
    rw [← hjr, up_eq, if_neg (by omega)]
    congr 1
    omega
  have hch : ∀ c, j < c → c < nc → up c ≠ j := fun c c1 c2 e => by
    have := h2.2.2.2.2.2.2.2.2.2.1 c (by omega) c2
    rw [e] at this
    exact hl this
  refine ⟨h1, h2, h3, h4, ⟨fun i hi => ?_, h5, fun i q hi hq => ?_, fun l i hl2 hi => ?_⟩, fun c l hc hl2 => ?_, fun i hi => ⟨?_, SR_wr hnc.2 hi (fun l hl2 => (h6 i l hi hl2).2.2.1) he (h7 i hi).2.1, SR_wr hnc.2 ((h4.2.2 i hi).2.2.2.2.1) (fun l hl2 => (h6 i l hi hl2).2.2.2) he (h7 i hi).2.2⟩⟩
  · obtain ⟨a1, a2, a3, a4, a5⟩ := b1 i hi
    by_cases z : i = j
    · subst z
      rw [upd_eq, up_eq, up_eq, h6j]
      exact ⟨rfl, nI_0.symm, by omega, by omega, fun w => absurd w hl⟩
    · rw [upd_ne z, up_ne z, up_ne z, h66 i hi z]
      exact ⟨a1, a2, a3, a4, a5⟩
  · by_cases z : i = j
    · subst z
      rw [up_eq] at hq
      omega
    · rw [up_ne z] at hq
      rw [ho i z]
      exact b3 i q hi hq
  · by_cases z : l = j
    · subst z
      rw [up_eq] at hi
      by_cases w : i < wr l
      · rw [pr_out (by omega), ← he l i hl2 w]
        exact b4 l i hl2 w
      · obtain ⟨q, rfl⟩ : ∃ q, i = wr l + q := ⟨i - wr l, by omega⟩
        rw [← Nat.add_assoc, pr_in (by omega), hnew q (by omega)]
        exact hv q (by omega)
    · rw [up_ne z] at hi
      have := (b1 l hl2).2.2.2.1
      rw [pr_out (by omega), ← he l i hl2 hi]
      exact b4 l i hl2 hi
  · obtain ⟨a1, a2, a3, a4⟩ := h6 c l hc hl2
    refine ⟨a1, a2, ?_, ?_⟩
    · by_cases z : l = j
      · subst z; rw [up_eq]; omega
      · rw [up_ne z]; exact a3
    · by_cases z : l = j
      · subst z; rw [up_eq]; omega
      · rw [up_ne z]; exact a4
  · by_cases z : i = j
    · subst z
      rw [up_eq]
      have s0 := SR_wr hnc.2 hi (hkn i) he (h7 i hi).1
      have k0 : knN up f1 wr (fun c => decide (0 < f7 c)) kp nc i = kn1 i (wr i) := by unfold knN; rw [if_neg hl]
      have k1 : knN up f1 (va_up wr i (wr i + m)) (fun c => decide (0 < f7 c)) kp nc i = kn1 i (wr i + m) := by unfold knN; rw [if_neg hl, up_eq]
      rw [k0] at s0
      rw [k1]
      exact SR_takes hnc.2 hi hch s0 m hm (fun q hq => ⟨hnew q hq, (hv q hq).2⟩)
    · rw [up_ne z]
      have k0 : knN up f1 (va_up wr j (wr j + m)) (fun c => decide (0 < f7 c)) kp nc i = knN up f1 wr (fun c => decide (0 < f7 c)) kp nc i := by unfold knN; rw [up_ne z]
      rw [k0]
      exact SR_wr hnc.2 hi (hkn i) he (h7 i hi).1
