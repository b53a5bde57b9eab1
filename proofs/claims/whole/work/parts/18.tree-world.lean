/-! The class's world: the tree at b, its two arrays, 12 nodes of 14 cells, 12 messages of 7 cells -/
abbrev aQ (t : ClassId) (n : Nat) (f : Nat → Option Nat) : va_E := .inl (t, n, .inr (.inr (.inr (.inr f))))
abbrev oT (nc : Nat) (lm : Int32) (b : Nat) : va_E := .inr (5, [.ref (b + 1), .int (nI nc), .ref (b + 2), .int lm])
/-- the numbers of the fields: 0 parent, 1 leaf, 2 reports, 3 keptVersion (of a node); 4 number, 5 sender, 6 version (of a message) -/
abbrev Cf : Type := Nat → Nat → Int32
def CW (tI tN tM : ClassId) (b N : Nat) (k : Nat → va_E) (kk : Nat) (dv : Int32) (nc : Nat) (lm : Int32) (F : Cf) (op : Nat → Nat → Int32) (oc : Nat → Nat) (Sn Sk Sm : Nat → Sv) : Prop :=
  zc b N k b (oT nc lm b) ∧ (∃ g, zc b N k (b + 1) (aQ tN 12 g) ∧ ∀ j, j < 12 → g j = some (b + 3 + 14 * j)) ∧ (∃ g, zc b N k (b + 2) (aQ tM 12 g) ∧ ∀ p, p < 12 → g p = some (b + 171 + 7 * p)) ∧
  (∀ j, j < 12 → zc b N k (b + 3 + 14 * j) (oN j (F 0 j) (F 1 j) (oc j) (F 2 j) (F 3 j) (b + 3 + 14 * j))) ∧ (∀ j, j < 12 → zc b N k ((b + 3 + 14 * j) + 1) (aI tI 4 (op j))) ∧
  (∀ j, j < 12 → isS tI b N k kk dv ((b + 3 + 14 * j) + 2) (Sn j)) ∧ (∀ j, j < 12 → isS tI b N k kk dv ((b + 3 + 14 * j) + 8) (Sk j)) ∧
  (∀ p, p < 12 → zc b N k (b + 171 + 7 * p) (oM (F 4 p) (F 5 p) (F 6 p) (b + 171 + 7 * p))) ∧ (∀ p, p < 12 → isS tI b N k kk dv ((b + 171 + 7 * p) + 1) (Sm p))
/-- one field of one object -/
def fU (F : Cf) (c j : Nat) (x : Int32) : Cf := va_up F c (va_up (F c) j x)
theorem fU_eq {F : Cf} {c j : Nat} {x : Int32} : fU F c j x c j = x := by simp [fU, va_up]
theorem fU_c {F : Cf} {c j d i : Nat} {x : Int32} (h : d ≠ c) : fU F c j x d i = F d i := by simp [fU, va_up, h]
theorem fU_j {F : Cf} {c j i : Nat} {x : Int32} (h : i ≠ j) : fU F c j x c i = F c i := by simp [fU, va_up, h]
theorem fU_n {F : Cf} {c j d i : Nat} {x : Int32} (h : i ≠ j) : fU F c j x d i = F d i := by
  by_cases hd : d = c
  · subst hd; exact fU_j h
  · exact fU_c hd
section
variable {tI tN tM : ClassId} {b N : Nat} {k k2 : Nat → va_E} {kk : Nat} {dv : Int32} {nc : Nat} {lm : Int32} {F : Cf} {op : Nat → Nat → Int32} {oc : Nat → Nat} {Sn Sk Sm : Nat → Sv}
theorem CW.keep (h : CW tI tN tM b N k kk dv nc lm F op oc Sn Sk Sm) (hk : ∀ q, q < b + 255 → k2 q = k q) : CW tI tN tM b N k2 kk dv nc lm F op oc Sn Sk Sm := by
  obtain ⟨h0, ⟨g1, h1, e1⟩, ⟨g2, h2, e2⟩, h3, h4, h5, h6, h7, h8⟩ := h
  exact ⟨h0.to (hk _ (by omega)), ⟨g1, h1.to (hk _ (by omega)), e1⟩, ⟨g2, h2.to (hk _ (by omega)), e2⟩, fun j hj => (h3 j hj).to (hk _ (by omega)), fun j hj => (h4 j hj).to (hk _ (by omega)), fun j hj => (h5 j hj).to (fun q q1 q2 => hk _ (by omega)), fun j hj => (h6 j hj).to (fun q q1 q2 => hk _ (by omega)), fun j hj => (h7 j hj).to (hk _ (by omega)), fun j hj => (h8 j hj).to (fun q q1 q2 => hk _ (by omega))⟩
/-- the tree's own fields -/
theorem CW.tree (h : CW tI tN tM b N k kk dv nc lm F op oc Sn Sk Sm) {nc2 : Nat} {lm2 : Int32} (he : zc b N k2 b (oT nc2 lm2 b)) (hk : ∀ q, q ≠ b → k2 q = k q) : CW tI tN tM b N k2 kk dv nc2 lm2 F op oc Sn Sk Sm := by
  obtain ⟨h0, ⟨g1, h1, e1⟩, ⟨g2, h2, e2⟩, h3, h4, h5, h6, h7, h8⟩ := h
  exact ⟨he, ⟨g1, h1.to (hk _ (by omega)), e1⟩, ⟨g2, h2.to (hk _ (by omega)), e2⟩, fun j hj => (h3 j hj).to (hk _ (by omega)), fun j hj => (h4 j hj).to (hk _ (by omega)), fun j hj => (h5 j hj).to (fun q q1 q2 => hk _ (by omega)), fun j hj => (h6 j hj).to (fun q q1 q2 => hk _ (by omega)), fun j hj => (h7 j hj).to (hk _ (by omega)), fun j hj => (h8 j hj).to (fun q q1 q2 => hk _ (by omega))⟩
/-- a node: its fields, its open block, its summary -/
theorem CW.node (h : CW tI tN tM b N k kk dv nc lm F op oc Sn Sk Sm) {j : Nat} {F2 : Cf} {op2 : Nat → Nat → Int32} {oc2 : Nat → Nat} {Sn2 Sk2 : Nat → Sv} (hj : j < 12) (he : zc b N k2 (b + 3 + 14 * j) (oN j (F2 0 j) (F2 1 j) (oc2 j) (F2 2 j) (F2 3 j) (b + 3 + 14 * j))) (ho : zc b N k2 ((b + 3 + 14 * j) + 1) (aI tI 4 (op2 j))) (hs : isS tI b N k2 kk dv ((b + 3 + 14 * j) + 2) (Sn2 j)) (ht : isS tI b N k2 kk dv ((b + 3 + 14 * j) + 8) (Sk2 j)) (hk : ∀ q, q < (b + 3 + 14 * j) ∨ (b + 3 + 14 * j) + 14 ≤ q → k2 q = k q) (hF : ∀ c i, i ≠ j ∨ 4 ≤ c → F2 c i = F c i) (hop : ∀ i, i ≠ j → op2 i = op i) (hoc : ∀ i, i ≠ j → oc2 i = oc i) (hSn : ∀ i, i ≠ j → Sn2 i = Sn i) (hSk : ∀ i, i ≠ j → Sk2 i = Sk i) : CW tI tN tM b N k2 kk dv nc lm F2 op2 oc2 Sn2 Sk2 Sm := by
  obtain ⟨h0, ⟨g1, h1, e1⟩, ⟨g2, h2, e2⟩, h3, h4, h5, h6, h7, h8⟩ := h
  refine ⟨h0.to (hk _ (by omega)), ⟨g1, h1.to (hk _ (by omega)), e1⟩, ⟨g2, h2.to (hk _ (by omega)), e2⟩, fun i hi => ?_, fun i hi => ?_, fun i hi => ?_, fun i hi => ?_, fun i hi => ?_, fun i hi => ?_⟩
  · by_cases hij : i = j
    · subst hij; exact he
    · rw [hF 0 i (Or.inl hij), hF 1 i (Or.inl hij), hF 2 i (Or.inl hij), hF 3 i (Or.inl hij), hoc i hij]
      exact (h3 i hi).to (hk _ (by omega))
  · by_cases hij : i = j
    · subst hij; exact ho
    · rw [hop i hij]
      exact (h4 i hi).to (hk _ (by omega))
  · by_cases hij : i = j
    · subst hij; exact hs
    · rw [hSn i hij]
      exact (h5 i hi).to (fun q q1 q2 => hk _ (by omega))
  · by_cases hij : i = j
    · subst hij; exact ht
    · rw [hSk i hij]
      exact (h6 i hi).to (fun q q1 q2 => hk _ (by omega))
  · rw [hF 4 i (Or.inr (by omega)), hF 5 i (Or.inr (by omega)), hF 6 i (Or.inr (by omega))]
    exact (h7 i hi).to (hk _ (by omega))
  · exact (h8 i hi).to (fun q q1 q2 => hk _ (by omega))
/-- a message: its fields, its summary -/
theorem CW.msg (h : CW tI tN tM b N k kk dv nc lm F op oc Sn Sk Sm) {p : Nat} {F2 : Cf} {Sm2 : Nat → Sv} (hp : p < 12) (he : zc b N k2 (b + 171 + 7 * p) (oM (F2 4 p) (F2 5 p) (F2 6 p) (b + 171 + 7 * p))) (hs : isS tI b N k2 kk dv ((b + 171 + 7 * p) + 1) (Sm2 p)) (hk : ∀ q, q < (b + 171 + 7 * p) ∨ (b + 171 + 7 * p) + 7 ≤ q → k2 q = k q) (hF : ∀ c i, i ≠ p ∨ c < 4 → F2 c i = F c i) (hSm : ∀ i, i ≠ p → Sm2 i = Sm i) : CW tI tN tM b N k2 kk dv nc lm F2 op oc Sn Sk Sm2 := by
  obtain ⟨h0, ⟨g1, h1, e1⟩, ⟨g2, h2, e2⟩, h3, h4, h5, h6, h7, h8⟩ := h
  refine ⟨h0.to (hk _ (by omega)), ⟨g1, h1.to (hk _ (by omega)), e1⟩, ⟨g2, h2.to (hk _ (by omega)), e2⟩, fun i hi => ?_, fun i hi => ?_, fun i hi => ?_, fun i hi => ?_, fun i hi => ?_, fun i hi => ?_⟩
  · rw [hF 0 i (Or.inr (by omega)), hF 1 i (Or.inr (by omega)), hF 2 i (Or.inr (by omega)), hF 3 i (Or.inr (by omega))]
    exact (h3 i hi).to (hk _ (by omega))
  · exact (h4 i hi).to (hk _ (by omega))
  · exact (h5 i hi).to (fun q q1 q2 => hk _ (by omega))
  · exact (h6 i hi).to (fun q q1 q2 => hk _ (by omega))
  · by_cases hij : i = p
    · subst hij; exact he
    · rw [hF 4 i (Or.inl hij), hF 5 i (Or.inl hij), hF 6 i (Or.inl hij)]
      exact (h7 i hi).to (hk _ (by omega))
  · by_cases hij : i = p
    · subst hij; exact hs
    · rw [hSm i hij]
      exact (h8 i hi).to (fun q q1 q2 => hk _ (by omega))
end
