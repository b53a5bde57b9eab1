/-! Pure: rows of arrays; a node's row (n, counters, digest) -/
/-- the first m places from w on are F's, the rest is C's -/
def pr (w m : Nat) (F C : Nat → Int32) : Nat → Int32 := fun q => if w ≤ q ∧ q < w + m then F (q - w) else C q
theorem pr_0 (w : Nat) (F C : Nat → Int32) : pr w 0 F C = C := by
  funext q
  unfold pr
  rw [if_neg (by omega)]
theorem pr_succ (w m : Nat) (F C : Nat → Int32) {x : Int32} (hx : x = F m) : upd (pr w m F C) (w + m) x = pr w (m + 1) F C := by
  subst hx
  funext q
  unfold pr upd
  by_cases h1 : q = w + m
  · subst h1
    rw [if_pos rfl, if_pos (by omega)]
    congr 1
    omega
  · rw [if_neg h1]
    show (if w ≤ q ∧ q < w + m then F (q - w) else C q) = _
    by_cases h2 : w ≤ q ∧ q < w + m
    · rw [if_pos h2, if_pos (by omega)]
    · rw [if_neg h2, if_neg (by omega)]
theorem pr_in {w m j : Nat} {F C : Nat → Int32} (h : j < m) : pr w m F C (w + j) = F j := by
  unfold pr
  rw [if_pos (by omega)]
  congr 1
  omega
theorem pr_out {w m q : Nat} {F C : Nat → Int32} (h : q < w ∨ w + m ≤ q) : pr w m F C q = C q := by
  unfold pr
  rw [if_neg (by omega)]
theorem pr_congr {w m : Nat} {F G C : Nat → Int32} (h : ∀ i, i < m → F i = G i) : pr w m F C = pr w m G C := by
  funext q
  unfold pr
  by_cases h2 : w ≤ q ∧ q < w + m
  · rw [if_pos h2, if_pos h2, h _ (by omega)]
  · rw [if_neg h2, if_neg h2]
theorem pr_upd {w m i : Nat} {F C : Nat → Int32} {x : Int32} (hi : i < m) : upd (pr w m F C) (w + i) x = pr w m (upd F i x) C := by
  funext q
  unfold pr upd
  by_cases h1 : q = w + i
  · subst h1
    rw [if_pos rfl, if_pos (by omega), if_pos (by omega)]
  · rw [if_neg h1]
    show (if w ≤ q ∧ q < w + m then F (q - w) else C q) = _
    by_cases h2 : w ≤ q ∧ q < w + m
    · rw [if_pos h2, if_pos h2, if_neg (by omega)]
    · rw [if_neg h2, if_neg h2]
theorem pr_pr {w m : Nat} {F G C : Nat → Int32} : pr w m F (pr w m G C) = pr w m F C := by
  funext q
  unfold pr
  by_cases h2 : w ≤ q ∧ q < w + m
  · rw [if_pos h2, if_pos h2]
  · rw [if_neg h2, if_neg h2, if_neg h2]
theorem pr_self {w m : Nat} {F C : Nat → Int32} (h : ∀ i, i < m → F i = C (w + i)) : pr w m F C = C := by
  funext q
  unfold pr
  by_cases h2 : w ≤ q ∧ q < w + m
  · rw [if_pos h2, h _ (by omega)]
    congr 1
    omega
  · rw [if_neg h2]
theorem pr_all {m : Nat} {F C : Nat → Int32} (h : ∀ i, m ≤ i → F i = C i) : pr 0 m F C = F := by
  funext q
  unfold pr
  by_cases h2 : 0 ≤ q ∧ q < 0 + m
  · rw [if_pos h2, Nat.sub_zero]
  · rw [if_neg h2, h q (by omega)]
/-- row j of an array of rows of w -/
def rw_ (w : Nat) (C : Nat → Int32) (j : Nat) : Nat → Int32 := fun v => if v < w then C (w * j + v) else 0
theorem rw_in {w v j : Nat} {C : Nat → Int32} (h : v < w) : rw_ w C j v = C (w * j + v) := by
  unfold rw_
  rw [if_pos h]
theorem rw_pr {w j : Nat} {F C : Nat → Int32} (h : ∀ i, w ≤ i → F i = 0) : rw_ w (pr (w * j) w F C) j = F := by
  funext v
  unfold rw_
  by_cases hv : v < w
  · rw [if_pos hv, pr_in hv]
  · rw [if_neg hv, h v (by omega)]
theorem rw_pr_ne {w j i : Nat} {F C : Nat → Int32} (h : i ≠ j) : rw_ w (pr (w * j) w F C) i = rw_ w C i := by
  funext v
  unfold rw_
  by_cases hv : v < w
  · rw [if_pos hv, if_pos hv, pr_out]
    rcases Nat.lt_or_gt_of_ne h with h1 | h1
    · have h2 : w * (i + 1) ≤ w * j := Nat.mul_le_mul_left w h1
      rw [Nat.mul_add, Nat.mul_one] at h2
      omega
    · have h2 : w * (j + 1) ≤ w * i := Nat.mul_le_mul_left w h1
      rw [Nat.mul_add, Nat.mul_one] at h2
      omega
  · rw [if_neg hv, if_neg hv]
theorem pr_rw {w j : Nat} {C : Nat → Int32} : pr (w * j) w (rw_ w C j) C = C := pr_self (fun i hi => by unfold rw_; rw [if_pos hi])
/-- lowering -/
def lw (f : Nat → Int32) (x : Int32) : Nat → Int32 := fun v => if v < 32 then (if 0 < f v - x then f v - x else 0) else f v
def ad (f g : Nat → Int32) : Nat → Int32 := fun i => f i + g i
def tkC (kk : Nat) (f : Nat → Int32) (v : Nat) : Nat → Int32 := if 0 < f v ∨ cn f < kk then upd f v (f v + 1) else lw f 1
def mgC (kk : Nat) (f g : Nat → Int32) : Nat → Int32 := if kk < cn (ad f g) then lw (ad f g) (ad f g ((gu (pu (ad f g) kk) (ad f g) 32).getD 0)) else ad f g
abbrev Row : Type := Int32 × (Nat → Int32) × (Nat → Int32)
def er : Row := (0, fun _ => 0, fun _ => 0)
def tkR (L kk : Nat) (d : Int32) (r : Row) (v : Nat) : Row := (r.1 + 1, tkC kk r.2.1 v, cpr ((r.1 + 1) / d) L (upd r.2.2 (32 + v) (r.2.2 (32 + v) + 1)))
def mgR (L kk : Nat) (d : Int32) (r q : Row) : Row := (r.1 + q.1, mgC kk r.2.1 q.2.1, cpr ((r.1 + q.1) / d) L (ad r.2.2 q.2.2))
/-- nothing stands beyond the arrays' ends, nothing in range 0 -/
def zr (r : Row) : Prop := (∀ i, 32 ≤ i → r.2.1 i = 0) ∧ (∀ i, 64 ≤ i → r.2.2 i = 0) ∧ r.2.2 0 = 0
theorem er_zr : zr er := ⟨fun _ _ => rfl, fun _ _ => rfl, rfl⟩
theorem upd_ne {f : Nat → Int32} {j q : Nat} {x : Int32} (h : q ≠ j) : upd f j x q = f q := by simp [upd, h]
theorem upd_eq {f : Nat → Int32} {j : Nat} {x : Int32} : upd f j x j = x := by simp [upd]
theorem ad_z {f g : Nat → Int32} {i : Nat} (h1 : f i = 0) (h2 : g i = 0) : ad f g i = 0 := by
  unfold ad
  rw [h1, h2]
  rfl
theorem tkC_z {kk v : Nat} {f : Nat → Int32} (hv : v < 32) (h : ∀ i, 32 ≤ i → f i = 0) : ∀ i, 32 ≤ i → tkC kk f v i = 0 := by
  intro i hi
  unfold tkC
  split
  · rw [upd_ne (by omega)]
    exact h i hi
  · unfold lw
    rw [if_neg (by omega)]
    exact h i hi
theorem mgC_z {kk : Nat} {f g : Nat → Int32} (h : ∀ i, 32 ≤ i → f i = 0) (h2 : ∀ i, 32 ≤ i → g i = 0) : ∀ i, 32 ≤ i → mgC kk f g i = 0 := by
  intro i hi
  unfold mgC
  split
  · unfold lw
    rw [if_neg (by omega)]
    exact ad_z (h i hi) (h2 i hi)
  · exact ad_z (h i hi) (h2 i hi)
theorem ps_out {t : Int32} {q : Nat} (hq : q = 0 ∨ 64 ≤ q) : ∀ (r : Nat) (g : Nat → Int32) (ch : Bool), r < 32 → (ps t r g ch).1 q = g q
  | 0, g, ch, _ => rfl
  | r + 1, g, ch, hr => by
    simp only [ps]
    split
    · rw [ps_out hq r _ true (by omega)]
      unfold pst
      rw [upd_ne (by omega), upd_ne (by omega), upd_ne (by omega)]
    · exact ps_out hq r g ch (by omega)
theorem cpr_out {t : Int32} {q : Nat} (hq : q = 0 ∨ 64 ≤ q) : ∀ (n : Nat) (g : Nat → Int32), cpr t n g q = g q
  | 0, g => rfl
  | n + 1, g => by
    simp only [cpr]
    split
    · rw [cpr_out hq n, ps_out hq 31 g false (by omega)]
    · exact ps_out hq 31 g false (by omega)
theorem tkR_zr {L kk v : Nat} {d : Int32} {r : Row} (hv : v < 32) (h : zr r) : zr (tkR L kk d r v) := by
  obtain ⟨h1, h2, h3⟩ := h
  refine ⟨tkC_z hv h1, fun i hi => ?_, ?_⟩
  · show cpr _ _ _ i = 0
    rw [cpr_out (Or.inr hi), upd_ne (by omega)]
    exact h2 i hi
  · show cpr _ _ _ 0 = 0
    rw [cpr_out (Or.inl rfl), upd_ne (by omega)]
    exact h3
theorem mgR_zr {L kk : Nat} {d : Int32} {r q : Row} (h : zr r) (g : zr q) : zr (mgR L kk d r q) := by
  obtain ⟨h1, h2, h3⟩ := h
  obtain ⟨g1, g2, g3⟩ := g
  refine ⟨mgC_z h1 g1, fun i hi => ?_, ?_⟩
  · show cpr _ _ _ i = 0
    rw [cpr_out (Or.inr hi)]
    exact ad_z (h2 i hi) (g2 i hi)
  · show cpr _ _ _ 0 = 0
    rw [cpr_out (Or.inl rfl)]
    exact ad_z h3 g3
/-- the digest holds n items in all -/
def rok (r : Row) (n : Nat) : Prop := r.1 = nI n ∧ ∃ h, dok r.2.2 h n
theorem er_rok : rok er 0 := ⟨nI_0.symm, fun _ => 0, fun _ _ => nI_0.symm, sm_0 64 (fun _ _ => rfl)⟩
theorem dok_add {g1 g2 : Nat → Int32} {h1 h2 : Nat → Nat} {n1 n2 : Nat} (a : dok g1 h1 n1) (c : dok g2 h2 n2) : dok (ad g1 g2) (fun r => h1 r + h2 r) (n1 + n2) := by
  refine ⟨fun r hr => ?_, ?_⟩
  · unfold ad
    rw [a.1 r hr, c.1 r hr, nI_add]
  · rw [sm_add, a.2, c.2]
theorem dok_one {g : Nat → Int32} {h : Nat → Nat} {n v : Nat} (a : dok g h n) (hv : v < 64) : dok (upd g v (g v + 1)) (va_up h v (h v + 1)) (n + 1) := by
  refine ⟨fun r hr => ?_, ?_⟩
  · by_cases hq : r = v
    · subst hq
      rw [upd_eq, a.1 r hr, nI_1]
      simp [va_up]
    · rw [upd_ne hq, a.1 r hr]
      simp [va_up, hq]
  · have := sm_up (h := h) (i := v) (x := h v + 1) 64 hv
    have := a.2
    omega
theorem tkR_both {kk v n : Nat} {d : Int32} {r : Row} (hv : v < 32) (h : rok r n) (hn : n + 1 < 2 ^ 29) : tkR 4096 kk d r v = tkR 4000 kk d r v ∧ rok (tkR 4000 kk d r v) (n + 1) := by
  obtain ⟨h1, hh, h2⟩ := h
  have h3 := dok_one (v := 32 + v) h2 (by omega)
  refine ⟨?_, ?_, ?_⟩
  · unfold tkR
    rw [cpr_both hn h3]
  · show r.1 + 1 = nI (n + 1)
    rw [h1, nI_1]
  · exact cpr_dok hn 4000 _ _ h3
theorem mgR_both {kk n n2 : Nat} {d : Int32} {r q : Row} (h : rok r n) (g : rok q n2) (hn : n + n2 < 2 ^ 29) : mgR 4096 kk d r q = mgR 4000 kk d r q ∧ rok (mgR 4000 kk d r q) (n + n2) := by
  obtain ⟨h1, hh, h2⟩ := h
  obtain ⟨g1, gg, g2⟩ := g
  have h3 := dok_add h2 g2
  refine ⟨?_, ?_, ?_⟩
  · unfold mgR
    rw [cpr_both hn h3]
  · show r.1 + q.1 = nI (n + n2)
    rw [h1, g1, nI_add]
  · exact cpr_dok hn 4000 _ _ h3
