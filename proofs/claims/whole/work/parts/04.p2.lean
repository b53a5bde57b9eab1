/-! Pure: the digest and its passes -/
def sm (h : Nat → Nat) : Nat → Nat
  | 0 => 0
  | n + 1 => sm h n + h n
theorem sm_congr {h g : Nat → Nat} : ∀ n, (∀ r, r < n → h r = g r) → sm h n = sm g n
  | 0, _ => rfl
  | n + 1, hh => by
    simp only [sm]
    rw [sm_congr n (fun r hr => hh r (by omega)), hh n (by omega)]
theorem sm_up {h : Nat → Nat} {i x : Nat} : ∀ n, i < n → sm (va_up h i x) n + h i = sm h n + x
  | 0, hi => by omega
  | n + 1, hi => by
    simp only [sm]
    by_cases hin : i = n
    · subst hin
      rw [sm_congr (h := va_up h i x) (g := h) i (fun r hr => by simp [va_up, Nat.ne_of_lt hr])]
      simp [va_up]
      omega
    · have ih := sm_up (h := h) (i := i) (x := x) n (by omega)
      have e : va_up h i x n = h n := by simp [va_up, Ne.symm hin]
      rw [e]
      omega
theorem sm_le {h : Nat → Nat} {i : Nat} : ∀ n, i < n → h i ≤ sm h n
  | 0, hi => by omega
  | n + 1, hi => by
    simp only [sm]
    by_cases hin : i = n
    · subst hin; omega
    · have := sm_le (h := h) (i := i) n (by omega); omega
theorem sm_mono {h g : Nat → Nat} : ∀ n, (∀ r, r < n → h r ≤ g r) → sm h n ≤ sm g n
  | 0, _ => Nat.le_refl _
  | n + 1, hh => by
    simp only [sm]
    have := sm_mono n (fun r hr => hh r (by omega))
    have := hh n (by omega)
    omega
theorem sm_add {h g : Nat → Nat} : ∀ n, sm (fun r => h r + g r) n = sm h n + sm g n
  | 0 => rfl
  | n + 1 => by
    simp only [sm]
    rw [sm_add n]
    omega
theorem sm_0 {h : Nat → Nat} : ∀ n, (∀ r, r < n → h r = 0) → sm h n = 0
  | 0, _ => rfl
  | n + 1, hh => by
    simp only [sm]
    rw [sm_0 n (fun r hr => hh r (by omega)), hh n (by omega)]
/-- one range of a pass -/
def bl (g : Nat → Int32) (r : Nat) : Int32 := g (2 * r) + g (2 * r + 1)
def pok (t : Int32) (g : Nat → Int32) (r : Nat) : Bool := decide (0 < bl g r) && decide (g r + bl g r ≤ t)
def pst (g : Nat → Int32) (r : Nat) : Nat → Int32 := upd (upd (upd g r (g r + bl g r)) (2 * r) 0) (2 * r + 1) 0
/-- the ranges r, r - 1, .., 1 -/
def ps (t : Int32) : Nat → (Nat → Int32) → Bool → (Nat → Int32) × Bool
  | 0, g, ch => (g, ch)
  | r + 1, g, ch => if pok t g (r + 1) = true then ps t r (pst g (r + 1)) true else ps t r g ch
/-- passes, at most n -/
def cpr (t : Int32) : Nat → (Nat → Int32) → Nat → Int32
  | 0, g => g
  | n + 1, g => if (ps t 31 g false).2 = true then cpr t n (ps t 31 g false).1 else (ps t 31 g false).1
/-- no count is negative, and their sum is n -/
def dok (g : Nat → Int32) (h : Nat → Nat) (n : Nat) : Prop := (∀ r, r < 64 → g r = nI (h r)) ∧ sm h 64 = n
def wt (h : Nat → Nat) (r : Nat) : Nat := if h r = 0 then 0 else Nat.log2 r
def mu (h : Nat → Nat) : Nat := sm (wt h) 64
theorem log2_half : ∀ r, r < 32 → 1 ≤ r → Nat.log2 (2 * r) = Nat.log2 r + 1 ∧ Nat.log2 (2 * r + 1) = Nat.log2 r + 1 := by decide +kernel
def psth (h : Nat → Nat) (r : Nat) : Nat → Nat := va_up (va_up (va_up h r (h r + (h (2 * r) + h (2 * r + 1)))) (2 * r) 0) (2 * r + 1) 0
theorem pst_dok {g : Nat → Int32} {h : Nat → Nat} {n r : Nat} (hd : dok g h n) (hn : n < 2 ^ 29) (h1 : 1 ≤ r) (h2 : r < 32) (hb : 0 < bl g r) : dok (pst g r) (psth h r) n ∧ mu (psth h r) < mu h := by
  obtain ⟨hg, hs⟩ := hd
  have e0 := hg r (by omega)
  have e1 := hg (2 * r) (by omega)
  have e2 := hg (2 * r + 1) (by omega)
  have ebl : bl g r = nI (h (2 * r) + h (2 * r + 1)) := by unfold bl; rw [e1, e2, nI_add]
  have l1 := sm_le (h := h) (i := 2 * r) 64 (by omega)
  have l2 := sm_le (h := h) (i := 2 * r + 1) 64 (by omega)
  have hpos : 0 < h (2 * r) + h (2 * r + 1) := by
    rw [ebl] at hb
    have h0 : nI 0 < nI (h (2 * r) + h (2 * r + 1)) := by rw [nI_0]; exact hb
    exact (nI_ltI (by omega) (by omega)).mp h0
  refine ⟨⟨fun q hq => ?_, ?_⟩, ?_⟩
  · simp only [pst, psth, upd, va_up]
    by_cases q1 : q = 2 * r + 1
    · simp [q1, nI_0]
    · by_cases q2 : q = 2 * r
      · simp [q2, nI_0]
      · by_cases q3 : q = r
        · simp [q1, q2, q3, e0, ebl, nI_add]
          have a1 : ¬ r = 2 * r + 1 := by omega
          have a2 : ¬ r = 2 * r := by omega
          simp [a1, a2]
        · simp [q1, q2, q3, hg q hq]
  · have a1 := sm_up (h := va_up (va_up h r (h r + (h (2 * r) + h (2 * r + 1)))) (2 * r) 0) (i := 2 * r + 1) (x := 0) 64 (by omega)
    have a2 := sm_up (h := va_up h r (h r + (h (2 * r) + h (2 * r + 1)))) (i := 2 * r) (x := 0) 64 (by omega)
    have a3 := sm_up (h := h) (i := r) (x := h r + (h (2 * r) + h (2 * r + 1))) 64 (by omega)
    have b1 : va_up (va_up h r (h r + (h (2 * r) + h (2 * r + 1)))) (2 * r) 0 (2 * r + 1) = h (2 * r + 1) := by
      have c1 : ¬ 2 * r + 1 = 2 * r := by omega
      have c2 : ¬ 2 * r + 1 = r := by omega
      simp [va_up, c1, c2]
    have b2 : va_up h r (h r + (h (2 * r) + h (2 * r + 1))) (2 * r) = h (2 * r) := by
      have c2 : ¬ 2 * r = r := by omega
      simp [va_up, c2]
    rw [b1] at a1
    rw [b2] at a2
    unfold psth
    omega
  · obtain ⟨g1, g2⟩ := log2_half r h2 h1
    have ew : ∀ q, q < 64 → wt (psth h r) q = va_up (va_up (va_up (wt h) r (Nat.log2 r)) (2 * r) 0) (2 * r + 1) 0 q := by
      intro q hq
      simp only [wt, psth, va_up]
      by_cases q1 : q = 2 * r + 1
      · simp [q1]
      · by_cases q2 : q = 2 * r
        · simp [q2]
        · by_cases q3 : q = r
          · have a1 : ¬ r = 2 * r + 1 := by omega
            have a2 : ¬ r = 2 * r := by omega
            have a3 : ¬ (h r + (h (2 * r) + h (2 * r + 1)) = 0) := by omega
            simp [q3, a1, a2]
            intro z1 z2 z3
            omega
          · simp [q1, q2, q3]
    have a1 := sm_up (h := va_up (va_up (wt h) r (Nat.log2 r)) (2 * r) 0) (i := 2 * r + 1) (x := 0) 64 (by omega)
    have a2 := sm_up (h := va_up (wt h) r (Nat.log2 r)) (i := 2 * r) (x := 0) 64 (by omega)
    have a3 := sm_up (h := wt h) (i := r) (x := Nat.log2 r) 64 (by omega)
    have b1 : va_up (va_up (wt h) r (Nat.log2 r)) (2 * r) 0 (2 * r + 1) = wt h (2 * r + 1) := by
      have c1 : ¬ 2 * r + 1 = 2 * r := by omega
      have c2 : ¬ 2 * r + 1 = r := by omega
      simp [va_up, c1, c2]
    have b2 : va_up (wt h) r (Nat.log2 r) (2 * r) = wt h (2 * r) := by
      have c2 : ¬ 2 * r = r := by omega
      simp [va_up, c2]
    rw [b1] at a1
    rw [b2] at a2
    have hw : Nat.log2 r + 1 ≤ wt h (2 * r) + wt h (2 * r + 1) := by
      unfold wt
      by_cases z1 : h (2 * r) = 0
      · have z2 : ¬ h (2 * r + 1) = 0 := by omega
        simp [z1, z2, g2]
      · simp [z1, g1]
    unfold mu
    rw [sm_congr 64 ew]
    omega
theorem ps_dok {t : Int32} {n : Nat} (hn : n < 2 ^ 29) : ∀ (r : Nat) (g : Nat → Int32) (h : Nat → Nat) (ch : Bool), r < 32 → dok g h n → ∃ h2, dok (ps t r g ch).1 h2 n ∧ mu h2 ≤ mu h ∧ ((ps t r g ch).2 = true → ch = true ∨ mu h2 < mu h)
  | 0, g, h, ch, _, hd => ⟨h, hd, Nat.le_refl _, fun q => Or.inl q⟩
  | r + 1, g, h, ch, hr, hd => by
    simp only [ps]
    by_cases hp : pok t g (r + 1) = true
    · rw [if_pos hp]
      have hb : 0 < bl g (r + 1) := by
        simp only [pok, Bool.and_eq_true, decide_eq_true_eq] at hp
        exact hp.1
      obtain ⟨d1, d2⟩ := pst_dok hd hn (by omega) hr hb
      obtain ⟨h2, e1, e2, e3⟩ := ps_dok hn r (pst g (r + 1)) (psth h (r + 1)) true (by omega) d1
      exact ⟨h2, e1, by omega, fun _ => Or.inr (by omega)⟩
    · rw [if_neg hp]
      exact ps_dok hn r g h ch (by omega) hd
theorem ps_same {t : Int32} : ∀ (r : Nat) (g : Nat → Int32), (ps t r g true).2 = true
  | 0, g => rfl
  | r + 1, g => by
    simp only [ps]
    split
    · exact ps_same r _
    · exact ps_same r g
theorem cpr_stop {t : Int32} {n : Nat} (hn : n < 2 ^ 29) : ∀ (i j : Nat) (g : Nat → Int32) (h : Nat → Nat), dok g h n → mu h < i → mu h < j → cpr t i g = cpr t j g
  | 0, j, g, h, _, hi, _ => by omega
  | i + 1, 0, g, h, _, _, hj => by omega
  | i + 1, j + 1, g, h, hd, hi, hj => by
    simp only [cpr]
    by_cases hc : (ps t 31 g false).2 = true
    · rw [if_pos hc, if_pos hc]
      obtain ⟨h2, e1, e2, e3⟩ := ps_dok (t := t) hn 31 g h false (by omega) hd
      rcases e3 hc with e3 | e3
      · cases e3
      · exact cpr_stop hn i j _ h2 e1 (by omega) (by omega)
    · rw [if_neg hc, if_neg hc]
theorem mu_le (h : Nat → Nat) : mu h ≤ 258 := by
  have h1 : sm (wt h) 64 ≤ sm Nat.log2 64 := sm_mono 64 (fun r _ => by unfold wt; split <;> omega)
  have h2 : sm Nat.log2 64 = 258 := by decide +kernel
  unfold mu
  omega
theorem cpr_dok {t : Int32} {n : Nat} (hn : n < 2 ^ 29) : ∀ (i : Nat) (g : Nat → Int32) (h : Nat → Nat), dok g h n → ∃ h2, dok (cpr t i g) h2 n
  | 0, g, h, hd => ⟨h, hd⟩
  | i + 1, g, h, hd => by
    obtain ⟨h2, e1, e2, e3⟩ := ps_dok (t := t) hn 31 g h false (by omega) hd
    simp only [cpr]
    split
    · exact cpr_dok hn i _ h2 e1
    · exact ⟨h2, e1⟩
/-- 4096 passes or 4000: the same -/
theorem cpr_both {t : Int32} {n : Nat} {g : Nat → Int32} {h : Nat → Nat} (hn : n < 2 ^ 29) (hd : dok g h n) : cpr t 4096 g = cpr t 4000 g := by
  have := mu_le h
  exact cpr_stop hn 4096 4000 g h hd (by omega) (by omega)
