/-! Pure: the least and the greatest item, one after another -/
def isEx (g : Bool) (jr : Nat → Nat → Nat) (kn : Nat → Nat) (x : Nat) : Prop := if g = true then isHi jr kn x else isLo jr kn x
def exS (g : Bool) (jr : Nat → Nat → Nat) (kn : Nat → Nat) (z : Int32) : Prop := (sm kn 12 = 0 ∧ z = -1) ∨ (0 < sm kn 12 ∧ ∃ x, z = nI x ∧ isEx g jr kn x)
theorem ex_step {g : Bool} {jr : Nat → Nat → Nat} {kt : Nat → Nat} {n : Nat} {z : Int32} (hn : n < 12) (hv : jr n (kt n) < 32) (h : exS g jr kt z) : exS g jr (va_up kt n (kt n + 1)) (xs1 g z (nI (jr n (kt n)))) := by
  have hs := sm_up (h := kt) (i := n) (x := kt n + 1) 12 hn
  have split : ∀ l i, i < va_up kt n (kt n + 1) l → i < kt l ∨ (l = n ∧ i = kt n) := fun l i p => by
    by_cases q : l = n
    · subst q
      rw [up_eq] at p
      by_cases w : i = kt l
      · exact Or.inr ⟨rfl, w⟩
      · exact Or.inl (by omega)
    · rw [up_ne q] at p
      exact Or.inl p
  have up1 : ∀ l i, i < kt l → i < va_up kt n (kt n + 1) l := fun l i p => by
    by_cases q : l = n
    · subst q
      rw [up_eq]
      omega
    · rw [up_ne q]
      exact p
  have own : kt n < va_up kt n (kt n + 1) n := by rw [up_eq]; omega
  refine Or.inr ⟨by omega, ?_⟩
  rcases h with ⟨h1, h2⟩ | ⟨h1, x, h2, h3⟩
  · subst h2
    have zk := sm_zero h1
    refine ⟨jr n (kt n), xs_a (by decide), ?_⟩
    have all : ∀ l i, l < 12 → i < va_up kt n (kt n + 1) l → jr l i = jr n (kt n) := fun l i p1 p2 => by
      rcases split l i p2 with w | ⟨w1, w2⟩
      · have := zk l p1
        omega
      · subst w1; subst w2; rfl
    unfold isEx
    cases g
    · exact ⟨hv, ⟨n, kt n, hn, own, rfl⟩, fun l i p1 p2 => by rw [all l i p1 p2]; exact Nat.le_refl _⟩
    · exact ⟨hv, ⟨n, kt n, hn, own, rfl⟩, fun l i p1 p2 => by rw [all l i p1 p2]; exact Nat.le_refl _⟩
  · subst h2
    unfold isEx at h3
    cases g
    · obtain ⟨x1, ⟨l1, i1, a1, a2, a3⟩, x3⟩ := (show isLo jr kt x from h3)
      have np := nI_pos (n := x) (by omega)
      refine ⟨if jr n (kt n) < x then jr n (kt n) else x, ?_, ?_⟩
      · unfold xs1
        by_cases q : jr n (kt n) < x
        · rw [if_pos q, if_pos (Or.inr (by simp; exact (nI_ltI (by omega) (by omega)).mpr q))]
        · rw [if_neg q, if_neg (fun w => w.elim np (fun w => q (by simp at w; exact (nI_ltI (by omega) (by omega)).mp w)))]
      · show isLo jr _ _
        refine ⟨by split <;> omega, ?_, fun l i p1 p2 => ?_⟩
        · by_cases q : jr n (kt n) < x
          · rw [if_pos q]; exact ⟨n, kt n, hn, own, rfl⟩
          · rw [if_neg q]; exact ⟨l1, i1, a1, up1 l1 i1 a2, a3⟩
        · rcases split l i p2 with w | ⟨w1, w2⟩
          · have := x3 l i p1 w
            by_cases q : jr n (kt n) < x <;> simp [q] <;> omega
          · subst w1; subst w2
            by_cases q : jr l (kt l) < x <;> simp [q] <;> omega
    · obtain ⟨x1, ⟨l1, i1, a1, a2, a3⟩, x3⟩ := (show isHi jr kt x from h3)
      have np := nI_pos (n := x) (by omega)
      refine ⟨if x < jr n (kt n) then jr n (kt n) else x, ?_, ?_⟩
      · unfold xs1
        by_cases q : x < jr n (kt n)
        · rw [if_pos q, if_pos (Or.inr (by simp; exact (nI_ltI (by omega) (by omega)).mpr q))]
        · rw [if_neg q, if_neg (fun w => w.elim np (fun w => q (by simp at w; exact (nI_ltI (by omega) (by omega)).mp w)))]
      · show isHi jr _ _
        refine ⟨by split <;> omega, ?_, fun l i p1 p2 => ?_⟩
        · by_cases q : x < jr n (kt n)
          · rw [if_pos q]; exact ⟨n, kt n, hn, own, rfl⟩
          · rw [if_neg q]; exact ⟨l1, i1, a1, up1 l1 i1 a2, a3⟩
        · rcases split l i p2 with w | ⟨w1, w2⟩
          · have := x3 l i p1 w
            by_cases q : x < jr n (kt n) <;> simp [q] <;> omega
          · subst w1; subst w2
            by_cases q : x < jr l (kt l) <;> simp [q] <;> omega
/-- the counts up to journal n, m of journal n -/
def kup (kn : Nat → Nat) (n m : Nat) : Nat → Nat := fun l => if l < n then kn l else if l = n then m else 0
theorem ex_all {g : Bool} {f3 : Nat → Int32} {jr : Nat → Nat → Nat} {kn : Nat → Nat} (h : ∀ l, l < 12 → ∀ i, i < kn l → f3 (48 * l + i) = nI (jr l i) ∧ jr l i < 32) : ∀ n, n ≤ 12 → exS g jr (kup kn n 0) (xjs g f3 kn n)
  | 0, _ => Or.inl ⟨sm_0 12 (fun l _ => by simp [kup]), rfl⟩
  | n + 1, hn => by
    have ih := ex_all (g := g) h n (by omega)
    have key : ∀ i, i ≤ kn n → exS g jr (kup kn n i) (xj g (fun i => f3 (48 * n + i)) (xjs g f3 kn n) i) := by
      intro i
      induction i with
      | zero => intro _; exact ih
      | succ i ihi =>
        intro hi
        obtain ⟨e1, e2⟩ := h n (by omega) i (by omega)
        have e : kup kn n i n = i := by simp [kup]
        have st := ex_step (n := n) (by omega) (by rw [e]; exact e2) (ihi (by omega))
        rw [e] at st
        have ek : va_up (kup kn n i) n (i + 1) = kup kn n (i + 1) := by
          funext l
          by_cases q : l = n
          · subst q; rw [up_eq]; simp [kup]
          · rw [up_ne q]; simp [kup, q]
        rw [ek] at st
        simp only [xj]
        rw [e1]
        exact st
    have fin := key (kn n) (Nat.le_refl _)
    have ek : kup kn n (kn n) = kup kn (n + 1) 0 := by
      funext l
      unfold kup
      by_cases q : l < n
      · rw [if_pos q, if_pos (by omega)]
      · rw [if_neg q]
        by_cases w : l = n
        · subst w; rw [if_pos rfl, if_pos (by omega)]
        · rw [if_neg w, if_neg (by omega)]
          simp
    rw [ek] at fin
    exact fin
theorem isLo_eq {jr : Nat → Nat → Nat} {kn : Nat → Nat} {x y : Nat} (h : isLo jr kn x) (g : isLo jr kn y) : x = y := by
  obtain ⟨-, ⟨l1, i1, a1, a2, a3⟩, x3⟩ := h
  obtain ⟨-, ⟨l2, i2, c1, c2, c3⟩, y3⟩ := g
  have := x3 l2 i2 c1 c2
  have := y3 l1 i1 a1 a2
  omega
theorem isHi_eq {jr : Nat → Nat → Nat} {kn : Nat → Nat} {x y : Nat} (h : isHi jr kn x) (g : isHi jr kn y) : x = y := by
  obtain ⟨-, ⟨l1, i1, a1, a2, a3⟩, x3⟩ := h
  obtain ⟨-, ⟨l2, i2, c1, c2, c3⟩, y3⟩ := g
  have := x3 l2 i2 c1 c2
  have := y3 l1 i1 a1 a2
  omega
/-- extreme: the class's answer is the reference's -/
theorem ans_extreme {f3 : Nat → Int32} {jr : Nat → Nat → Nat} {kn : Nat → Nat} {s : Sv} {y : Int32} (h : ∀ l, l < 12 → ∀ i, i < kn l → f3 (48 * l + i) = nI (jr l i) ∧ jr l i < 32) (hk : ∀ l, kn l ≤ 48) (hs : SX jr kn s) : (if ¬ s.1 = 0 then (if y = 0 then s.2.2.1 else s.2.2.2.1) else -1) = xjs (!decide (y = 0)) f3 kn 12 := by
  obtain ⟨h1, -, -, h4⟩ := hs
  have hb := sm_48 hk 12
  have ek : sm (kup kn 12 0) 12 = sm kn 12 := sm_congr 12 (fun l hl => by simp [kup, hl])
  have cg : ∀ l, l < 12 → kup kn 12 0 l = kn l := fun l hl => by simp [kup, hl]
  rcases ex_all (g := !decide (y = 0)) h 12 (Nat.le_refl _) with ⟨q1, q2⟩ | ⟨q1, x, q2, q3⟩
  · rw [q2, if_neg]
    rw [h1, show sm kn 12 = 0 by omega]
    exact fun w => w nI_0
  · rw [q2]
    have n0 : ¬ s.1 = 0 := by rw [h1]; exact nI_ne0 (by omega) (by omega)
    rw [if_pos n0]
    obtain ⟨u, v, e1, e2, e3, e4⟩ := h4 (by omega)
    have lo : ∀ x, isLo jr (kup kn 12 0) x → isLo jr kn x := fun x w => ⟨w.1, by obtain ⟨l, i, a1, a2, a3⟩ := w.2.1; exact ⟨l, i, a1, by rw [← cg l a1]; exact a2, a3⟩, fun l i p1 p2 => w.2.2 l i p1 (by rw [cg l p1]; exact p2)⟩
    have hi : ∀ x, isHi jr (kup kn 12 0) x → isHi jr kn x := fun x w => ⟨w.1, by obtain ⟨l, i, a1, a2, a3⟩ := w.2.1; exact ⟨l, i, a1, by rw [← cg l a1]; exact a2, a3⟩, fun l i p1 p2 => w.2.2 l i p1 (by rw [cg l p1]; exact p2)⟩
    by_cases hy : y = 0
    · rw [if_pos hy, e1]
      have q3 : isLo jr (kup kn 12 0) x := by simpa [isEx, hy] using q3
      rw [isLo_eq e3 (lo x q3)]
    · rw [if_neg hy, e2]
      have q3 : isHi jr (kup kn 12 0) x := by simpa [isEx, hy] using q3
      rw [isHi_eq e4 (hi x q3)]
