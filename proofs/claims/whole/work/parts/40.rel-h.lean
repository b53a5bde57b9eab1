/-! Pure: the relation over deliver -/
theorem kno_congr {up : Nat → Nat} {kv kv2 : Nat → Bool} {kp kp2 : Nat → Nat → Nat} {j : Nat} : ∀ m, (∀ c, 1 ≤ c → c ≤ m → up c = j → kv c = kv2 c ∧ (kv c = true → kp c = kp2 c)) → kno up kv kp j m = kno up kv2 kp2 j m
  | 0, _ => rfl
  | m + 1, h => by
    funext l
    simp only [kno]
    rw [kno_congr m (fun c a b => h c a (by omega))]
    by_cases q : up (m + 1) = j
    · obtain ⟨h1, h2⟩ := h (m + 1) (by omega) (by omega) q
      by_cases w : kv (m + 1) = true
      · rw [if_pos ⟨q, w⟩, if_pos ⟨q, by rw [← h1]; exact w⟩, h2 w]
      · rw [if_neg (fun z => w z.2), if_neg (fun z => w (by rw [h1]; exact z.2))]
    · rw [if_neg (fun z => q z.1), if_neg (fun z => q z.1)]
theorem knN_congr {up : Nat → Nat} {f1 : Nat → Int32} {wr : Nat → Nat} {kv kv2 : Nat → Bool} {kp kp2 : Nat → Nat → Nat} {nc j : Nat} (h : ∀ c, 1 ≤ c → c ≤ nc - 1 → up c = j → kv c = kv2 c ∧ (kv c = true → kp c = kp2 c)) : knN up f1 wr kv kp nc j = knN up f1 wr kv2 kp2 nc j := by
  unfold knN
  rw [kno_congr (nc - 1) h]
theorem REL_deliver {kk t nc p : Nat} {dv lm ms : Int32} {F : Cf} {op : Nat → Nat → Int32} {oc : Nat → Nat} {Sn Sk Sm : Nat → Sv} {f0 f1 f2 f3 f4 f5 f6 f7 f8 f9 f10 f11 f12 : Nat → Int32} {up : Nat → Nat} {jr : Nat → Nat → Nat} {wr : Nat → Nat} {kp ca : Nat → Nat → Nat} {sd : Nat → Nat} (h : REL kk dv t nc lm F op oc Sn Sk Sm ms f0 f1 f2 f3 f4 f5 f6 f7 f8 f9 f10 f11 f12 up jr wr kp ca sd) (hp : p < 12) (hn : ¬ f9 p = 0) : REL kk dv t nc lm (fU (fU F 4 p 0) 3 (sd p) (F 6 p)) op oc (va_up Sn (up (sd p)) (mks kk dv (fU (fU F 4 p 0) 3 (sd p) (F 6 p)) (va_up Sk (sd p) (Sm p)) (nI (up (sd p))) (clS (Sn (up (sd p)))) (nc - 1))) (va_up Sk (sd p) (Sm p)) Sm ms f0 f1 f2 f3 f4 f5 f6 (upd f7 (sd p) (f11 p)) (pr (12 * sd p) 12 (fun l => f12 (12 * p + l)) f8) (upd f9 p 0) f10 f11 f12 up jr wr (va_up kp (sd p) (ca p)) ca sd := by
  have hd := REL_drop (p := p) h
  obtain ⟨h1, h2, h3, h4, h5, h6, h7⟩ := h
  obtain ⟨d1, d2, d3, d4, d5, d6, d7⟩ := hd
  obtain ⟨a1, a2, a3, a4, a5, a6, a7⟩ := h4.2.2 p hp
  obtain ⟨b1, b2⟩ := a7 hn
  obtain ⟨⟨n1, n2⟩, t1, t2, u1, u2, u3, t3, t4, t5, t6, t7⟩ := h2
  generalize hc : sd p = c at *
  have hcp := u2 c b1 b2
  have hV : rV (fU (fU F 4 p 0) 3 c (F 6 p)) f2 (upd f7 c (f11 p)) := fun i hi => by
    obtain ⟨e1, e2⟩ := h3 i hi
    rw [fU_c (d := 2) (by omega), fU_c (d := 2) (by omega)]
    by_cases z : i = c
    · subst z
      rw [fU_eq, upd_eq]
      exact ⟨e1, a3⟩
    · rw [fU_j z, fU_c (d := 3) (by omega), upd_ne z]
      exact ⟨e1, e2⟩
  have hSk : ∀ i, i < 12 → SR kk dv up nc jr i (va_up kp c (ca p) i) (va_up Sk c (Sm p) i) := fun i hi => by
    by_cases z : i = c
    · subst z
      rw [up_eq, up_eq]
      have := (h7 p hp).2.2
      rw [hc] at this
      exact this
    · rw [up_ne z, up_ne z]
      exact (h7 i hi).2.1
  refine ⟨h1, rT_4 d2 (by omega), hV, rM_2 d4 (by omega), h5, fun q l hq hl => ?_, fun j hj => ?_⟩
  · obtain ⟨e1, e2, e3, e4⟩ := h6 q l hq hl
    by_cases z : q = c
    · subst z
      rw [up_eq, pr_in hl]
      exact ⟨(h6 p l hp hl).2.1, e2, (h6 p l hp hl).2.2.2, e4⟩
    · rw [up_ne z, pr_out (by omega)]
      exact ⟨e1, e2, e3, e4⟩
  · refine ⟨?_, hSk j hj, (h7 j hj).2.2⟩
    by_cases z : j = up c
    · subst z
      rw [up_eq]
      have hl : f1 (up c) = 0 := t6 c b1 b2
      unfold knN
      rw [if_pos hl]
      exact mks_SR n2 (by omega) u1 u2 (fun i i1 i2 => by rw [fU_c (d := 0) (by omega), fU_c (d := 0) (by omega)]; exact t2 i i1 i2) (fun i hi => by rw [(hV i (by omega)).2]) (fun i hi => hSk i (by omega))
    · rw [up_ne z]
      rw [← knN_congr (kv := fun i => decide (0 < f7 i)) (kp := kp) (fun i i1 i2 hi => by
        have hne : i ≠ c := fun w => z (by rw [← w]; exact hi.symm)
        rw [upd_ne hne, up_ne hne]
        exact ⟨rfl, fun _ => rfl⟩)]
      exact (h7 j hj).1
