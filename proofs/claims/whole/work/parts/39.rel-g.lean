/-! Pure: the relation over report and copy -/
theorem knN_le {kk t nc j : Nat} {dv lm ms : Int32} {F : Cf} {op : Nat → Nat → Int32} {oc : Nat → Nat} {Sn Sk Sm : Nat → Sv} {f0 f1 f2 f3 f4 f5 f6 f7 f8 f9 f10 f11 f12 : Nat → Int32} {up : Nat → Nat} {jr : Nat → Nat → Nat} {wr : Nat → Nat} {kp ca : Nat → Nat → Nat} {sd : Nat → Nat} (h : REL kk dv t nc lm F op oc Sn Sk Sm ms f0 f1 f2 f3 f4 f5 f6 f7 f8 f9 f10 f11 f12 up jr wr kp ca sd) : ∀ l, l < 12 → knN up f1 wr (fun c => decide (0 < f7 c)) kp nc j l ≤ wr l := by
  obtain ⟨h1, ⟨⟨n1, n2⟩, -, -, u1, u2, -⟩, h3, h4, h5, h6, h7⟩ := h
  intro l hl
  unfold knN
  split
  · have hs : ∀ c l, c < nc → kp c l ≠ 0 → sub up c l := fun c l hc w => (((h7 c (by omega)).2.1.2.2.2.2 l).2 w).2
    rcases kno_le (kv := fun c => decide (0 < f7 c)) (p := j) (l := l) u1 u2 hs (nc - 1) (by omega) with w | ⟨c, a1, a2, -, -, -, w⟩
    · omega
    · rw [w]
      exact (h6 c l (by omega) hl).2.2.1
  · unfold kn1
    split
    · rename_i w
      rw [w]
      exact Nat.le_refl _
    · exact Nat.zero_le _
theorem rK_put {f8 f12 G : Nat → Int32} {kp ca : Nat → Nat → Nat} {wr kn : Nat → Nat} {p : Nat} (h : rK f8 f12 kp ca wr) (hG : ∀ l, l < 12 → G l = nI (kn l)) (hk : ∀ l, l < 12 → kn l ≤ wr l) : rK f8 (pr (12 * p) 12 G f12) kp (va_up ca p kn) wr := by
  intro c l hc hl
  obtain ⟨a1, a2, a3, a4⟩ := h c l hc hl
  by_cases z : c = p
  · subst z
    rw [up_eq, pr_in hl]
    exact ⟨a1, hG l hl, a3, hk l hl⟩
  · rw [up_ne z, pr_out (by omega)]
    exact ⟨a1, a2, a3, a4⟩
theorem rSS_put {kk nc p jn : Nat} {dv : Int32} {up : Nat → Nat} {jr : Nat → Nat → Nat} {f1 f7 : Nat → Int32} {wr kn : Nat → Nat} {kp ca : Nat → Nat → Nat} {sd : Nat → Nat} {Sn Sk Sm : Nat → Sv} {s : Sv} (h : rSS kk dv nc up jr f1 f7 wr kp ca sd Sn Sk Sm) (hs : SR kk dv up nc jr jn kn s) : rSS kk dv nc up jr f1 f7 wr kp (va_up ca p kn) (va_up sd p jn) Sn Sk (va_up Sm p s) := by
  intro j hj
  obtain ⟨a1, a2, a3⟩ := h j hj
  refine ⟨a1, a2, ?_⟩
  by_cases z : j = p
  · subst z
    rw [up_eq, up_eq, up_eq]
    exact hs
  · rw [up_ne z, up_ne z, up_ne z]
    exact a3
theorem rM_put {nc t p jn : Nat} {F : Cf} {lm ms x : Int32} {f9 f10 f11 : Nat → Int32} {sd : Nat → Nat} (h : rM nc t F lm ms f9 f10 f11 sd) (h1 : 1 ≤ jn) (h2 : jn < nc) (hnc : nc ≤ 12) : rM nc (t + 1) (fU (fU (fU F 4 p (lm + 1)) 5 p (nI jn)) 6 p x) (lm + 1) (ms + 1) (upd f9 p (ms + 1)) (upd f10 p (nI jn)) (upd f11 p x) (va_up sd p jn) := by
  obtain ⟨m1, ⟨q, m2, m3⟩, m4⟩ := h
  refine ⟨by rw [m1], ⟨q + 1, by omega, by rw [m3, nI_1]⟩, fun r hr => ?_⟩
  obtain ⟨a1, a2, a3, a4, a5, ⟨w, a6, a7⟩, a8⟩ := m4 r hr
  by_cases z : r = p
  · subst z
    rw [fU_c (d := 4) (by omega), fU_c (d := 4) (by omega), fU_eq, fU_c (d := 5) (by omega), fU_eq, fU_eq, upd_eq, upd_eq, upd_eq, up_eq]
    exact ⟨by rw [m1], rfl, rfl, rfl, by omega, ⟨q + 1, by omega, by rw [m3, nI_1]⟩, fun _ => ⟨h1, h2⟩⟩
  · rw [fU_n z, fU_n z, fU_n z, fU_n z, fU_n z, fU_n z, fU_n z, fU_n z, fU_n z, upd_ne z, upd_ne z, upd_ne z, up_ne z]
    exact ⟨a1, a2, a3, a4, a5, ⟨w, by omega, a7⟩, a8⟩
theorem rM_2 {nc t c j : Nat} {F : Cf} {lm ms x : Int32} {f9 f10 f11 : Nat → Int32} {sd : Nat → Nat} (h : rM nc t F lm ms f9 f10 f11 sd) (hc : c < 4) : rM nc t (fU F c j x) lm ms f9 f10 f11 sd := by
  obtain ⟨m1, m2, m4⟩ := h
  refine ⟨m1, m2, fun r hr => ?_⟩
  rw [fU_c (by omega), fU_c (by omega), fU_c (by omega)]
  exact m4 r hr
/-- report of node j into slot p -/
theorem REL_report {kk t nc j p : Nat} {dv lm ms : Int32} {F : Cf} {op : Nat → Nat → Int32} {oc : Nat → Nat} {Sn Sk Sm : Nat → Sv} {f0 f1 f2 f3 f4 f5 f6 f7 f8 f9 f10 f11 f12 G : Nat → Int32} {up : Nat → Nat} {jr : Nat → Nat → Nat} {wr : Nat → Nat} {kp ca : Nat → Nat → Nat} {sd : Nat → Nat} (h : REL kk dv t nc lm F op oc Sn Sk Sm ms f0 f1 f2 f3 f4 f5 f6 f7 f8 f9 f10 f11 f12 up jr wr kp ca sd) (hj : 1 ≤ j) (hj2 : j < nc) (hG : ∀ l, l < 12 → G l = nI (knN up f1 wr (fun c => decide (0 < f7 c)) kp nc j l)) : REL kk dv (t + 1) nc (lm + 1) (fU (fU (fU (fU F 2 j (F 2 j + 1)) 4 p (lm + 1)) 5 p (nI j)) 6 p (F 2 j + 1)) op oc Sn Sk (va_up Sm p (Sn j)) (ms + 1) f0 f1 (upd f2 j (f2 j + 1)) f3 f4 f5 f6 f7 f8 (upd f9 p (ms + 1)) (upd f10 p (nI j)) (upd f11 p (f2 j + 1)) (pr (12 * p) 12 G f12) up jr wr kp (va_up ca p (knN up f1 wr (fun c => decide (0 < f7 c)) kp nc j)) (va_up sd p j) := by
  have hle := knN_le (j := j) h
  obtain ⟨h1, h2, h3, h4, h5, h6, h7⟩ := h
  have hnc := h2.1.2
  have e2 := (h3 j (by omega)).1
  have hm := rM_put (p := p) (x := f2 j + 1) (rM_2 (c := 2) (j := j) (x := F 2 j + 1) h4 (by omega)) hj hj2 hnc
  refine ⟨h1, rT_4 (rT_4 (rT_4 (rT_4 h2 (by omega)) (by omega)) (by omega)) (by omega), fun i hi => ?_, by rw [e2] at hm ⊢; exact hm, h5, rK_put h6 hG hle, rSS_put h7 (h7 j (by omega)).1⟩
  rw [fU_c (d := 2) (by omega), fU_c (d := 2) (by omega), fU_c (d := 2) (by omega), fU_c (d := 3) (by omega), fU_c (d := 3) (by omega), fU_c (d := 3) (by omega), fU_c (d := 3) (by omega)]
  obtain ⟨a1, a2⟩ := h3 i hi
  by_cases z : i = j
  · subst z
    rw [fU_eq, upd_eq, a1]
    exact ⟨rfl, a2⟩
  · rw [fU_j z, upd_ne z]
    exact ⟨a1, a2⟩
/-- copy of slot o into slot p -/
theorem REL_copy {kk t nc o p : Nat} {dv lm ms : Int32} {F : Cf} {op : Nat → Nat → Int32} {oc : Nat → Nat} {Sn Sk Sm : Nat → Sv} {f0 f1 f2 f3 f4 f5 f6 f7 f8 f9 f10 f11 f12 : Nat → Int32} {up : Nat → Nat} {jr : Nat → Nat → Nat} {wr : Nat → Nat} {kp ca : Nat → Nat → Nat} {sd : Nat → Nat} (h : REL kk dv t nc lm F op oc Sn Sk Sm ms f0 f1 f2 f3 f4 f5 f6 f7 f8 f9 f10 f11 f12 up jr wr kp ca sd) (ho : o < 12) (hn : ¬ f9 o = 0) : REL kk dv (t + 1) nc (lm + 1) (fU (fU (fU F 4 p (lm + 1)) 5 p (F 5 o)) 6 p (F 6 o)) op oc Sn Sk (va_up Sm p (Sm o)) (ms + 1) f0 f1 f2 f3 f4 f5 f6 f7 f8 (upd f9 p (ms + 1)) (upd f10 p (f10 o)) (upd f11 p (f11 o)) (pr (12 * p) 12 (fun l => f12 (12 * o + l)) f12) up jr wr kp (va_up ca p (ca o)) (va_up sd p (sd o)) := by
  obtain ⟨h1, h2, h3, h4, h5, h6, h7⟩ := h
  have hnc := h2.1.2
  obtain ⟨a1, a2, a3, a4, a5, a6, a7⟩ := h4.2.2 o ho
  obtain ⟨b1, b2⟩ := a7 hn
  have hm := rM_put (p := p) (x := f11 o) h4 b1 b2 hnc
  refine ⟨h1, rT_4 (rT_4 (rT_4 h2 (by omega)) (by omega)) (by omega), rV_4 (rV_4 (rV_4 h3 (by omega)) (by omega)) (by omega), by rw [a3, a2, a4]; exact hm, h5, rK_put h6 (fun l hl => (h6 o l ho hl).2.1) (fun l hl => (h6 o l ho hl).2.2.2), rSS_put h7 (h7 o ho).2.2⟩
