/-! Pure: what a summary says of the items that it covers, by the counts kn of each journal -/
def tot (jr : Nat → Nat → Nat) (kn : Nat → Nat) : Nat := sm (fun l => sm (jr l) (kn l)) 12
def isLo (jr : Nat → Nat → Nat) (kn : Nat → Nat) (x : Nat) : Prop := x < 32 ∧ (∃ l i, l < 12 ∧ i < kn l ∧ jr l i = x) ∧ ∀ l i, l < 12 → i < kn l → x ≤ jr l i
def isHi (jr : Nat → Nat → Nat) (kn : Nat → Nat) (x : Nat) : Prop := x < 32 ∧ (∃ l i, l < 12 ∧ i < kn l ∧ jr l i = x) ∧ ∀ l i, l < 12 → i < kn l → jr l i ≤ x
def SX (jr : Nat → Nat → Nat) (kn : Nat → Nat) (s : Sv) : Prop := s.1 = nI (sm kn 12) ∧ s.2.1 = lN (tot jr kn) ∧ (∀ l, l < 12 → s.2.2.2.2.1 l = nI (kn l)) ∧ (0 < sm kn 12 → ∃ x y, s.2.2.1 = nI x ∧ s.2.2.2.1 = nI y ∧ isLo jr kn x ∧ isHi jr kn y)
theorem sm_pos {h : Nat → Nat} : ∀ n, 0 < sm h n → ∃ l, l < n ∧ 0 < h l
  | 0, hp => by simp [sm] at hp
  | n + 1, hp => by
    simp only [sm] at hp
    by_cases h1 : 0 < h n
    · exact ⟨n, by omega, h1⟩
    · obtain ⟨l, h2, h3⟩ := sm_pos (h := h) n (by omega)
      exact ⟨l, by omega, h3⟩
theorem sm_zero {h : Nat → Nat} {n : Nat} (hz : sm h n = 0) : ∀ l, l < n → h l = 0 := fun l hl => by
  have := sm_le (h := h) (i := l) n hl
  omega
theorem tot_congr {jr jr2 : Nat → Nat → Nat} {kn kn2 : Nat → Nat} (h : ∀ l, l < 12 → kn l = kn2 l ∧ ∀ i, i < kn l → jr l i = jr2 l i) : tot jr kn = tot jr2 kn2 := by
  refine sm_congr 12 (fun l hl => ?_)
  obtain ⟨h1, h2⟩ := h l hl
  rw [← h1]
  exact sm_congr (kn l) h2
theorem tot_add {jr : Nat → Nat → Nat} {k1 k2 : Nat → Nat} (hd : ∀ l, l < 12 → k1 l = 0 ∨ k2 l = 0) : tot jr (fun l => k1 l + k2 l) = tot jr k1 + tot jr k2 := by
  unfold tot
  rw [← sm_add]
  refine sm_congr 12 (fun l hl => ?_)
  show sm (jr l) (k1 l + k2 l) = sm (jr l) (k1 l) + sm (jr l) (k2 l)
  rcases hd l hl with h | h
  · rw [h]; simp [sm]
  · rw [h]; simp [sm]
theorem SX_congr {jr jr2 : Nat → Nat → Nat} {kn kn2 : Nat → Nat} {s : Sv} (h : SX jr kn s) (hc : ∀ l, l < 12 → kn l = kn2 l ∧ ∀ i, i < kn l → jr l i = jr2 l i) : SX jr2 kn2 s := by
  obtain ⟨h1, h2, h3, h4⟩ := h
  have hs : sm kn 12 = sm kn2 12 := sm_congr 12 (fun l hl => (hc l hl).1)
  refine ⟨by rw [h1, hs], by rw [h2, tot_congr hc], fun l hl => by rw [h3 l hl, (hc l hl).1], fun hp => ?_⟩
  obtain ⟨x, y, e1, e2, ⟨x1, ⟨l1, i1, a1, a2, a3⟩, x3⟩, ⟨y1, ⟨l2, i2, c1, c2, c3⟩, y3⟩⟩ := h4 (by omega)
  refine ⟨x, y, e1, e2, ⟨x1, ⟨l1, i1, a1, by rw [← (hc l1 a1).1]; exact a2, by rw [← (hc l1 a1).2 i1 a2]; exact a3⟩, fun l i p1 p2 => ?_⟩, ⟨y1, ⟨l2, i2, c1, by rw [← (hc l2 c1).1]; exact c2, by rw [← (hc l2 c1).2 i2 c2]; exact c3⟩, fun l i p1 p2 => ?_⟩⟩
  · rw [← (hc l p1).1] at p2
    rw [← (hc l p1).2 i p2]
    exact x3 l i p1 p2
  · rw [← (hc l p1).1] at p2
    rw [← (hc l p1).2 i p2]
    exact y3 l i p1 p2
theorem SX_0 {jr : Nat → Nat → Nat} {kn : Nat → Nat} (v : Sv) (h : ∀ l, l < 12 → kn l = 0) : SX jr kn (clS v) := by
  have hs : sm kn 12 = 0 := sm_0 12 h
  refine ⟨by rw [hs, nI_0]; rfl, ?_, fun l hl => by rw [h l hl, nI_0]; rfl, fun hp => by omega⟩
  have : tot jr kn = 0 := sm_0 12 (fun l hl => by rw [h l hl]; rfl)
  rw [this]
  rfl
theorem SX_merge {jr : Nat → Nat → Nat} {k1 k2 : Nat → Nat} {a s : Sv} {kk : Nat} {dv : Int32} (h : SX jr k1 a) (g : SX jr k2 s) (hd : ∀ l, l < 12 → k1 l = 0 ∨ k2 l = 0) (hp : 0 < sm k2 12) (hb : sm k1 12 + sm k2 12 < 2 ^ 20) : SX jr (fun l => k1 l + k2 l) (mgS kk dv a s) := by
  obtain ⟨h1, h2, h3, h4⟩ := h
  obtain ⟨g1, g2, g3, g4⟩ := g
  refine ⟨?_, ?_, fun l hl => ?_, fun _ => ?_⟩
  · show a.1 + s.1 = _
    rw [h1, g1, nI_add, sm_add]
  · show a.2.1 + s.2.1 = _
    rw [h2, g2, lN_add, tot_add hd]
  · show a.2.2.2.2.1 l + s.2.2.2.2.1 l = _
    rw [h3 l hl, g3 l hl, nI_add]
  · obtain ⟨x, y, e1, e2, ⟨x1, ⟨l1, i1, a1, a2, a3⟩, x3⟩, ⟨y1, ⟨l2, i2, c1, c2, c3⟩, y3⟩⟩ := g4 hp
    by_cases hz : sm k1 12 = 0
    · have z := sm_zero hz
      have n0 : a.1 = 0 := by rw [h1, hz]; exact nI_0
      refine ⟨x, y, ?_, ?_, ⟨x1, ⟨l1, i1, a1, show i1 < k1 l1 + k2 l1 by omega, a3⟩, fun l i p1 p2 => x3 l i p1 (by have := z l p1; have p2 : i < k1 l + k2 l := p2; omega)⟩, ⟨y1, ⟨l2, i2, c1, show i2 < k1 l2 + k2 l2 by omega, c3⟩, fun l i p1 p2 => y3 l i p1 (by have := z l p1; have p2 : i < k1 l + k2 l := p2; omega)⟩⟩
      · show wLo a.1 a.2.2.1 s.2.2.1 = nI x
        unfold wLo
        rw [if_pos n0, e1]
      · show wHi a.1 a.2.2.2.1 s.2.2.2.1 = nI y
        unfold wHi
        rw [if_pos n0, e2]
    · obtain ⟨u, v, f1, f2, ⟨u1, ⟨l3, i3, b1, b2, b3⟩, u3⟩, ⟨v1, ⟨l4, i4, d1, d2, d3⟩, v3⟩⟩ := h4 (by omega)
      have n0 : ¬ a.1 = 0 := by rw [h1]; exact nI_ne0 (by omega) (by omega)
      have split : ∀ l i, l < 12 → i < k1 l + k2 l → i < k1 l ∨ i < k2 l := fun l i p1 p2 => by
        rcases hd l p1 with q | q <;> omega
      refine ⟨if x < u then x else u, if v < y then y else v, ?_, ?_, ⟨by split <;> omega, ?_, fun l i p1 p2 => ?_⟩, ⟨by split <;> omega, ?_, fun l i p1 p2 => ?_⟩⟩
      · show wLo a.1 a.2.2.1 s.2.2.1 = _
        unfold wLo
        rw [if_neg n0, f1, e1]
        by_cases q : x < u
        · rw [if_pos q, if_pos ((nI_ltI (by omega) (by omega)).mpr q)]
        · rw [if_neg q, if_neg (fun z => q ((nI_ltI (by omega) (by omega)).mp z))]
      · show wHi a.1 a.2.2.2.1 s.2.2.2.1 = _
        unfold wHi
        rw [if_neg n0, f2, e2]
        by_cases q : v < y
        · rw [if_pos q, if_pos ((nI_ltI (by omega) (by omega)).mpr q)]
        · rw [if_neg q, if_neg (fun z => q ((nI_ltI (by omega) (by omega)).mp z))]
      · by_cases q : x < u
        · rw [if_pos q]; exact ⟨l1, i1, a1, show i1 < k1 l1 + k2 l1 by omega, a3⟩
        · rw [if_neg q]; exact ⟨l3, i3, b1, show i3 < k1 l3 + k2 l3 by omega, b3⟩
      · rcases split l i p1 p2 with w | w
        · have := u3 l i p1 w
          by_cases q : x < u <;> simp [q] <;> omega
        · have := x3 l i p1 w
          by_cases q : x < u <;> simp [q] <;> omega
      · by_cases q : v < y
        · rw [if_pos q]; exact ⟨l2, i2, c1, show i2 < k1 l2 + k2 l2 by omega, c3⟩
        · rw [if_neg q]; exact ⟨l4, i4, d1, show i4 < k1 l4 + k2 l4 by omega, d3⟩
      · rcases split l i p1 p2 with w | w
        · have := v3 l i p1 w
          by_cases q : v < y <;> simp [q] <;> omega
        · have := y3 l i p1 w
          by_cases q : v < y <;> simp [q] <;> omega
/-- a leaf's counts: its own journal alone -/
def kn1 (j m : Nat) : Nat → Nat := fun l => if l = j then m else 0
theorem kn1_sm {j m : Nat} (hj : j < 12) : sm (kn1 j m) 12 = m := by
  have h := sm_up (h := fun _ => 0) (i := j) (x := m) 12 hj
  have e : va_up (fun _ => 0) j m = kn1 j m := by funext q; simp [va_up, kn1]
  rw [e] at h
  have z : sm (fun _ => 0) 12 = 0 := sm_0 12 (fun _ _ => rfl)
  omega
theorem kn1_tot {jr : Nat → Nat → Nat} {j m : Nat} (hj : j < 12) : tot jr (kn1 j m) = sm (jr j) m := by
  have h := sm_up (h := fun _ => 0) (i := j) (x := sm (jr j) m) 12 hj
  have e : sm (va_up (fun _ => 0) j (sm (jr j) m)) 12 = tot jr (kn1 j m) := by
    refine sm_congr 12 (fun l hl => ?_)
    by_cases q : l = j
    · subst q; simp [va_up, kn1]
    · simp [va_up, kn1, q, sm]
  have z : sm (fun _ => 0) 12 = 0 := sm_0 12 (fun _ _ => rfl)
  omega
theorem SX_take {jr : Nat → Nat → Nat} {j m kk : Nat} {dv : Int32} {s : Sv} (hj : j < 12) (hm : m < 2 ^ 20) (hx : jr j m < 32) (h : SX jr (kn1 j m) s) : SX jr (kn1 j (m + 1)) (tkS kk dv s (jr j m) j) := by
  obtain ⟨h1, h2, h3, h4⟩ := h
  rw [kn1_sm hj] at h1 h4
  rw [kn1_tot hj] at h2
  refine ⟨?_, ?_, fun l hl => ?_, fun _ => ?_⟩
  · show s.1 + 1 = _
    rw [h1, kn1_sm hj, nI_1]
  · show s.2.1 + (nI (jr j m)).toInt64 = _
    rw [h2, kn1_tot hj, nI_l (by omega), lN_add]
    rfl
  · show upd s.2.2.2.2.1 j (s.2.2.2.2.1 j + 1) l = _
    by_cases q : l = j
    · subst q
      rw [upd_eq, h3 l hl]
      simp [kn1, nI_1]
    · rw [upd_ne q, h3 l hl]
      simp [kn1, q]
  · by_cases hz : m = 0
    · subst hz
      have n0 : s.1 = 0 := by rw [h1]; exact nI_0
      refine ⟨jr j 0, jr j 0, ?_, ?_, ⟨hx, ⟨j, 0, hj, by simp [kn1], rfl⟩, fun l i p1 p2 => ?_⟩, ⟨hx, ⟨j, 0, hj, by simp [kn1], rfl⟩, fun l i p1 p2 => ?_⟩⟩
      · show wLo s.1 s.2.2.1 (nI (jr j 0)) = _
        unfold wLo
        rw [if_pos n0]
      · show wHi s.1 s.2.2.2.1 (nI (jr j 0)) = _
        unfold wHi
        rw [if_pos n0]
      all_goals
        by_cases q : l = j
        · subst q
          simp [kn1] at p2
          rw [p2]
          exact Nat.le_refl _
        · simp [kn1, q] at p2
    · obtain ⟨u, v, f1, f2, ⟨u1, ⟨l3, i3, b1, b2, b3⟩, u3⟩, ⟨v1, ⟨l4, i4, d1, d2, d3⟩, v3⟩⟩ := h4 (by omega)
      have n0 : ¬ s.1 = 0 := by rw [h1]; exact nI_ne0 (by omega) (by omega)
      have split : ∀ l i, i < kn1 j (m + 1) l → i < kn1 j m l ∨ (l = j ∧ i = m) := fun l i p2 => by
        by_cases q : l = j
        · simp only [kn1, q] at p2 ⊢
          simp at p2 ⊢
          omega
        · simp [kn1, q] at p2
      have up1 : ∀ l i, i < kn1 j m l → i < kn1 j (m + 1) l := fun l i p => by
        by_cases q : l = j
        · simp only [kn1, q] at p ⊢
          simp at p ⊢
          omega
        · simp [kn1, q] at p
      have own : m < kn1 j (m + 1) j := by simp [kn1]
      refine ⟨if jr j m < u then jr j m else u, if v < jr j m then jr j m else v, ?_, ?_, ⟨by split <;> omega, ?_, fun l i p1 p2 => ?_⟩, ⟨by split <;> omega, ?_, fun l i p1 p2 => ?_⟩⟩
      · show wLo s.1 s.2.2.1 (nI (jr j m)) = _
        unfold wLo
        rw [if_neg n0, f1]
        by_cases q : jr j m < u
        · rw [if_pos q, if_pos ((nI_ltI (by omega) (by omega)).mpr q)]
        · rw [if_neg q, if_neg (fun z => q ((nI_ltI (by omega) (by omega)).mp z))]
      · show wHi s.1 s.2.2.2.1 (nI (jr j m)) = _
        unfold wHi
        rw [if_neg n0, f2]
        by_cases q : v < jr j m
        · rw [if_pos q, if_pos ((nI_ltI (by omega) (by omega)).mpr q)]
        · rw [if_neg q, if_neg (fun z => q ((nI_ltI (by omega) (by omega)).mp z))]
      · by_cases q : jr j m < u
        · rw [if_pos q]; exact ⟨j, m, hj, own, rfl⟩
        · rw [if_neg q]; exact ⟨l3, i3, b1, up1 l3 i3 b2, b3⟩
      · rcases split l i p2 with w | ⟨w1, w2⟩
        · have := u3 l i p1 w
          by_cases q : jr j m < u <;> simp [q] <;> omega
        · subst w1; subst w2
          by_cases q : jr l i < u <;> simp [q] <;> omega
      · by_cases q : v < jr j m
        · rw [if_pos q]; exact ⟨j, m, hj, own, rfl⟩
        · rw [if_neg q]; exact ⟨l4, i4, d1, up1 l4 i4 d2, d3⟩
      · rcases split l i p2 with w | ⟨w1, w2⟩
        · have := v3 l i p1 w
          by_cases q : v < jr j m <;> simp [q] <;> omega
        · subst w1; subst w2
          by_cases q : v < jr l i <;> simp [q] <;> omega
