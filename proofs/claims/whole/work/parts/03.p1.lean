/-! Pure: counting, ranks, picks -/
def ct (P : Nat → Bool) : Nat → Nat
  | 0 => 0
  | n + 1 => ct P n + (if P n = true then 1 else 0)
theorem ct_le (P : Nat → Bool) : ∀ n, ct P n ≤ n
  | 0 => Nat.le_refl _
  | n + 1 => by
    have := ct_le P n
    simp only [ct]
    split <;> omega
theorem ct_congr {P Q : Nat → Bool} : ∀ n, (∀ v, v < n → P v = Q v) → ct P n = ct Q n
  | 0, _ => rfl
  | n + 1, h => by
    simp only [ct]
    rw [ct_congr n (fun v hv => h v (by omega)), h n (by omega)]
theorem ct_mono {P Q : Nat → Bool} : ∀ n, (∀ v, v < n → P v = true → Q v = true) → ct P n ≤ ct Q n
  | 0, _ => Nat.le_refl _
  | n + 1, h => by
    have h1 := ct_mono n (fun v hv => h v (by omega))
    have h2 := h n (by omega)
    simp only [ct]
    by_cases hP : P n = true
    · simp [hP, h2 hP]; omega
    · simp [hP]; omega
theorem ct_lt {P Q : Nat → Bool} {x : Nat} : ∀ n, (∀ v, v < n → P v = true → Q v = true) → x < n → P x = false → Q x = true → ct P n < ct Q n
  | 0, _, hx, _, _ => by omega
  | n + 1, h, hx, hp, hq => by
    have h1 := ct_mono n (fun v hv => h v (by omega))
    simp only [ct]
    by_cases hxn : x = n
    · subst hxn
      simp [hp, hq]; omega
    · have h3 := ct_lt n (fun v hv => h v (by omega)) (by omega) hp hq
      have h2 := h n (by omega)
      by_cases hP : P n = true
      · simp [hP, h2 hP]; omega
      · simp [hP]; omega
theorem ct_add {P Q : Nat → Bool} {x : Nat} : ∀ n, (∀ v, v < n → v ≠ x → Q v = P v) → x < n → P x = false → Q x = true → ct Q n = ct P n + 1
  | 0, _, hx, _, _ => by omega
  | n + 1, h, hx, hp, hq => by
    simp only [ct]
    by_cases hxn : x = n
    · subst hxn
      rw [ct_congr x (fun v hv => h v (by omega) (by omega))]
      simp [hp, hq]
    · rw [ct_add n (fun v hv => h v (by omega)) (by omega) hp hq, h n (by omega) (Ne.symm hxn)]
      omega
theorem ct_all {P : Nat → Bool} : ∀ n, (∀ v, v < n → P v = true) → ct P n = n
  | 0, _ => rfl
  | n + 1, h => by
    simp only [ct]
    rw [ct_all n (fun v hv => h v (by omega)), h n (by omega)]
    simp
theorem ct_0 {P : Nat → Bool} : ∀ n, (∀ v, v < n → P v = false) → ct P n = 0
  | 0, _ => rfl
  | n + 1, h => by
    simp only [ct]
    rw [ct_0 n (fun v hv => h v (by omega)), h n (by omega)]
    simp
/-- v stands before x -/
def pb (f : Nat → Int32) (x v : Nat) : Bool := decide (f x < f v) || (decide (f v = f x) && decide (v < x))
theorem pb_iff {f : Nat → Int32} {x v : Nat} : pb f x v = true ↔ (f x).toInt < (f v).toInt ∨ ((f v).toInt = (f x).toInt ∧ v < x) := by
  simp only [pb, Bool.or_eq_true, Bool.and_eq_true, decide_eq_true_eq, Int32.lt_iff_toInt_lt, ← Int32.toInt_inj]
def rank (f : Nat → Int32) (x : Nat) : Nat := ct (pb f x) 32
def cn (f : Nat → Int32) : Nat := ct (fun v => decide (0 < f v)) 32
theorem rank_lt (f : Nat → Int32) {x y : Nat} (hx : x < 32) (h : pb f y x = true) : rank f x < rank f y := by
  refine ct_lt (x := x) 32 (fun v hv hp => ?_) hx ?_ h
  · have h1 := pb_iff.mp h
    have h2 := pb_iff.mp hp
    exact pb_iff.mpr (by omega)
  · cases hq : pb f x x with
    | false => rfl
    | true => have := pb_iff.mp hq; omega
theorem rank_inj (f : Nat → Int32) {x y : Nat} (hx : x < 32) (hy : y < 32) (h : rank f x = rank f y) : x = y := by
  by_cases h1 : pb f y x = true
  · have := rank_lt f hx h1; omega
  · by_cases h2 : pb f x y = true
    · have := rank_lt f hy h2; omega
    · rw [pb_iff] at h1 h2; omega
theorem rank_32 (f : Nat → Int32) {x : Nat} (hx : x < 32) : rank f x < 32 := by
  have h1 : ct (pb f x) 32 < ct (fun _ => true) 32 := by
    refine ct_lt (x := x) 32 (fun _ _ _ => rfl) hx ?_ rfl
    cases hq : pb f x x with
    | false => rfl
    | true => have := pb_iff.mp hq; omega
  have h2 := ct_all (P := fun _ => true) 32 (fun _ _ => rfl)
  unfold rank
  omega
/-- the first of the greatest that aren't used -/
def gu (u : Nat → Bool) (f : Nat → Int32) : Nat → Option Nat
  | 0 => none
  | v + 1 => match gu u f v with
    | none => if u v = true then none else some v
    | some x => if u v = false ∧ f x < f v then some v else some x
theorem gu_spec (u : Nat → Bool) (f : Nat → Int32) : ∀ n, (gu u f n = none → ∀ v, v < n → u v = true) ∧ ∀ x, gu u f n = some x → x < n ∧ u x = false ∧ ∀ v, v < n → u v = false → v ≠ x → pb f v x = true
  | 0 => ⟨fun _ v hv => by omega, fun x h => by simp [gu] at h⟩
  | n + 1 => by
    obtain ⟨h1, h2⟩ := gu_spec u f n
    cases hg : gu u f n with
    | none =>
      have h1 := h1 hg
      cases hu : u n with
      | true =>
        have e : gu u f (n + 1) = none := by simp [gu, hg, hu]
        rw [e]
        refine ⟨fun _ v hv => ?_, fun x h => (by cases h)⟩
        by_cases hvn : v = n
        · subst hvn; exact hu
        · exact h1 v (by omega)
      | false =>
        have e : gu u f (n + 1) = some n := by simp [gu, hg, hu]
        rw [e]
        refine ⟨fun h => (by cases h), fun x h => ?_⟩
        cases h
        refine ⟨by omega, hu, fun v hv hv1 hne => ?_⟩
        have := h1 v (by omega)
        rw [this] at hv1
        cases hv1
    | some x =>
      obtain ⟨a1, a2, a3⟩ := h2 x hg
      by_cases hc : u n = false ∧ f x < f n
      · have e : gu u f (n + 1) = some n := by simp [gu, hg, hc]
        rw [e]
        refine ⟨fun h => (by cases h), fun y h => ?_⟩
        cases h
        have hlt := Int32.lt_iff_toInt_lt.mp hc.2
        refine ⟨by omega, hc.1, fun v hv hv1 hne => ?_⟩
        by_cases hvx : v = x
        · subst hvx
          exact pb_iff.mpr (by omega)
        · have := pb_iff.mp (a3 v (by omega) hv1 hvx)
          exact pb_iff.mpr (by omega)
      · have e : gu u f (n + 1) = some x := by simp [gu, hg, hc]
        rw [e]
        refine ⟨fun h => (by cases h), fun y h => ?_⟩
        cases h
        refine ⟨by omega, a2, fun v hv hv1 hne => ?_⟩
        by_cases hvn : v = n
        · subst hvn
          have hlt : ¬ f x < f v := fun q => hc ⟨hv1, q⟩
          rw [Int32.lt_iff_toInt_lt] at hlt
          exact pb_iff.mpr (by omega)
        · exact a3 v (by omega) hv1 hne
/-- what is used after q picks -/
def pu (f : Nat → Int32) : Nat → Nat → Bool
  | 0 => fun _ => false
  | q + 1 => fun v => pu f q v || decide (gu (pu f q) f 32 = some v)
theorem pu_inv (f : Nat → Int32) : ∀ q, q ≤ 32 → ct (pu f q) 32 = q ∧ ∀ u v, u < 32 → v < 32 → pu f q u = true → pu f q v = false → pb f v u = true
  | 0, _ => ⟨ct_0 32 (fun _ _ => rfl), fun u v _ _ h _ => by simp [pu] at h⟩
  | q + 1, hq => by
    obtain ⟨h1, h2⟩ := pu_inv f q (by omega)
    obtain ⟨g1, g2⟩ := gu_spec (pu f q) f 32
    cases hg : gu (pu f q) f 32 with
    | none =>
      have := ct_all 32 (g1 hg)
      omega
    | some x =>
      obtain ⟨a1, a2, a3⟩ := g2 x hg
      have e : ∀ v, pu f (q + 1) v = (pu f q v || decide (v = x)) := by
        intro v
        simp only [pu, hg, Option.some.injEq]
        by_cases hv : v = x
        · simp [hv]
        · simp [hv, Ne.symm hv]
      refine ⟨?_, fun u v hu hv p1 p2 => ?_⟩
      · rw [ct_add (P := pu f q) (Q := pu f (q + 1)) (x := x) 32 (fun v _ hne => by rw [e]; simp [hne]) a1 a2 (by rw [e]; simp), h1]
      · rw [e] at p1 p2
        have q2 : pu f q v = false ∧ v ≠ x := by simpa using p2
        have q1 : pu f q u = true ∨ u = x := by simpa using p1
        rcases q1 with q1 | q1
        · exact h2 u v hu hv q1 q2.1
        · subst q1
          exact a3 v hv q2.1 q2.2
theorem pick (f : Nat → Int32) {q : Nat} (hq : q < 32) : ∃ x, gu (pu f q) f 32 = some x ∧ x < 32 ∧ rank f x = q ∧ pu f q x = false := by
  obtain ⟨h1, h2⟩ := pu_inv f q (by omega)
  obtain ⟨g1, g2⟩ := gu_spec (pu f q) f 32
  cases hg : gu (pu f q) f 32 with
  | none =>
    have := ct_all 32 (g1 hg)
    omega
  | some x =>
    obtain ⟨a1, a2, a3⟩ := g2 x hg
    refine ⟨x, rfl, a1, ?_, a2⟩
    rw [← h1]
    refine ct_congr 32 (fun v hv => ?_)
    cases hu : pu f q v with
    | true => exact h2 v x hv a1 hu a2
    | false =>
      cases hb : pb f x v with
      | false => rfl
      | true =>
        have e1 := pb_iff.mp hb
        by_cases hvx : v = x
        · subst hvx; omega
        · have e2 := pb_iff.mp (a3 v hv hu hvx)
          omega
theorem pick_pos (f : Nat → Int32) {x q : Nat} (hx : x < 32) (hr : rank f x = q) : q < cn f ↔ 0 < f x := by
  constructor
  · intro h
    by_cases hp : 0 < f x
    · exact hp
    · exfalso
      have h1 : cn f ≤ rank f x := by
        refine ct_mono 32 (fun v hv hv1 => ?_)
        have e1 : 0 < f v := by simpa using hv1
        rw [Int32.lt_iff_toInt_lt] at e1 hp
        exact pb_iff.mpr (by omega)
      omega
  · intro hp
    have h1 : rank f x < cn f := by
      refine ct_lt (x := x) 32 (fun v hv hv1 => ?_) hx ?_ (by simpa using hp)
      · have e1 := pb_iff.mp hv1
        have e2 := hp
        rw [Int32.lt_iff_toInt_lt] at e2
        have e3 : (0 : Int32) < f v := by rw [Int32.lt_iff_toInt_lt]; omega
        simpa using e3
      · cases hb : pb f x x with
        | false => rfl
        | true => have := pb_iff.mp hb; omega
    omega
/-- the first value with a counter and that rank, from 32 - n on -/
def vr (f : Nat → Int32) (r : Int32) : Nat → Int32
  | 0 => -1
  | n + 1 => if 0 < f (31 - n) ∧ nI (rank f (31 - n)) = r then nI (31 - n) else vr f r n
theorem vr_pick (f : Nat → Int32) {x q : Nat} (hq : q < 32) (hx : x < 32) (hr : rank f x = q) : ∀ n, n ≤ 32 → vr f (nI q) n = if 32 - n ≤ x ∧ 0 < f x then nI x else -1
  | 0, _ => by rw [if_neg (by omega)]; rfl
  | n + 1, hn => by
    have ih := vr_pick f hq hx hr n (by omega)
    have hv : 31 - n < 32 := by omega
    have hk : nI (rank f (31 - n)) = nI q ↔ 31 - n = x := by
      rw [nI_eq (by have := rank_32 f hv; omega) (by omega)]
      constructor
      · intro h
        exact rank_inj f hv hx (h.trans hr.symm)
      · intro h
        rw [h]; exact hr
    simp only [vr, hk]
    by_cases hc : 31 - n = x
    · subst hc
      by_cases hp : 0 < f (31 - n)
      · rw [if_pos ⟨hp, rfl⟩, if_pos ⟨by omega, hp⟩]
      · rw [if_neg (fun h => hp h.1), ih, if_neg (fun h => hp h.2), if_neg (fun h => hp h.2)]
    · rw [if_neg (fun h => hc h.2), ih]
      by_cases hp : 0 < f x
      · by_cases hlt : 32 - n ≤ x
        · rw [if_pos ⟨hlt, hp⟩, if_pos ⟨by omega, hp⟩]
        · rw [if_neg (fun h => hlt h.1), if_neg (fun h => hlt (by omega))]
      · rw [if_neg (fun h => hp h.2), if_neg (fun h => hp h.2)]
theorem vr_none (f : Nat → Int32) {r : Int32} (h : ∀ v, v < 32 → nI (rank f v) ≠ r) : ∀ n, n ≤ 32 → vr f r n = -1
  | 0, _ => rfl
  | n + 1, hn => by
    simp only [vr]
    rw [if_neg (fun q => h (31 - n) (by omega) q.2)]
    exact vr_none f h n (by omega)
theorem vr_neg (f : Nat → Int32) {q : Nat} (hq : q < 32) : vr f (nI q) 32 < 0 ↔ cn f ≤ q := by
  obtain ⟨x, -, hx, hr, -⟩ := pick f hq
  rw [vr_pick f hq hx hr 32 (Nat.le_refl _)]
  have hp := pick_pos f hx hr
  by_cases h : 0 < f x
  · rw [if_pos ⟨by omega, h⟩]
    have h1 := hp.mpr h
    have h2 := nI_pos (n := x) (by omega)
    constructor
    · intro q; exact absurd q h2
    · intro q; omega
  · rw [if_neg (fun q => h q.2)]
    have h1 : ¬ q < cn f := fun q => h (hp.mp q)
    constructor
    · intro _; omega
    · intro _; decide
