/-! Pure: the relation between the class's state and the reference's -/
/-- the tree -/
def rT (nc : Nat) (F : Cf) (f0 f1 : Nat → Int32) (up : Nat → Nat) : Prop := (1 ≤ nc ∧ nc ≤ 12) ∧ F 0 0 = -1 ∧ (∀ j, 1 ≤ j → j < nc → F 0 j = nI (up j)) ∧ (∀ x, up x ≤ x) ∧ (∀ x, 1 ≤ x → x < nc → up x < x) ∧ (∀ x, nc ≤ x → up x = 0) ∧ (∀ c, c < 12 → f0 c = nI (up c)) ∧ (∀ j, j < 12 → F 1 j = f1 j ∧ (f1 j = 0 ∨ f1 j = 1)) ∧ (∀ j, nc ≤ j → f1 j = 0) ∧ (∀ c, 1 ≤ c → c < nc → f1 (up c) = 0) ∧ f1 0 = 0
/-- reports and kept versions -/
def rV (F : Cf) (f2 f7 : Nat → Int32) : Prop := ∀ j, j < 12 → F 2 j = f2 j ∧ F 3 j = f7 j
/-- messages; t calls have been made -/
def rM (nc t : Nat) (F : Cf) (lm ms : Int32) (f9 f10 f11 : Nat → Int32) (sd : Nat → Nat) : Prop := lm = ms ∧ (∃ q, q ≤ t ∧ ms = nI q) ∧ ∀ p, p < 12 → F 4 p = f9 p ∧ F 5 p = f10 p ∧ F 6 p = f11 p ∧ f10 p = nI (sd p) ∧ sd p < 12 ∧ (∃ q, q ≤ t ∧ f9 p = nI q) ∧ (¬ f9 p = 0 → 1 ≤ sd p ∧ sd p < nc)
/-- blocks and journals -/
def rB (f1 : Nat → Int32) (op : Nat → Nat → Int32) (oc : Nat → Nat) (f3 f4 f5 f6 : Nat → Int32) (jr : Nat → Nat → Nat) (wr : Nat → Nat) : Prop := (∀ j, j < 12 → f4 j = nI (wr j) ∧ f6 j = nI (oc j) ∧ oc j < 4 ∧ wr j + oc j ≤ 48 ∧ (f1 j = 0 → wr j = 0 ∧ oc j = 0)) ∧ (∀ j i, j < 12 → i < 4 → op j i = f5 (4 * j + i)) ∧ (∀ j i, j < 12 → i < oc j → ∃ v, v < 32 ∧ op j i = nI v) ∧ ∀ l i, l < 12 → i < wr l → f3 (48 * l + i) = nI (jr l i) ∧ jr l i < 32
/-- what is kept, what is carried -/
def rK (f8 f12 : Nat → Int32) (kp ca : Nat → Nat → Nat) (wr : Nat → Nat) : Prop := ∀ c l, c < 12 → l < 12 → f8 (12 * c + l) = nI (kp c l) ∧ f12 (12 * c + l) = nI (ca c l) ∧ kp c l ≤ wr l ∧ ca c l ≤ wr l
/-- the summaries -/
def rSS (kk : Nat) (dv : Int32) (nc : Nat) (up : Nat → Nat) (jr : Nat → Nat → Nat) (f1 f7 : Nat → Int32) (wr : Nat → Nat) (kp ca : Nat → Nat → Nat) (sd : Nat → Nat) (Sn Sk Sm : Nat → Sv) : Prop := ∀ j, j < 12 → SR kk dv up nc jr j (knN up f1 wr (fun c => decide (0 < f7 c)) kp nc j) (Sn j) ∧ SR kk dv up nc jr j (kp j) (Sk j) ∧ SR kk dv up nc jr (sd j) (ca j) (Sm j)
def REL (kk : Nat) (dv : Int32) (t nc : Nat) (lm : Int32) (F : Cf) (op : Nat → Nat → Int32) (oc : Nat → Nat) (Sn Sk Sm : Nat → Sv) (ms : Int32) (f0 f1 f2 f3 f4 f5 f6 f7 f8 f9 f10 f11 f12 : Nat → Int32) (up : Nat → Nat) (jr : Nat → Nat → Nat) (wr : Nat → Nat) (kp ca : Nat → Nat → Nat) (sd : Nat → Nat) : Prop := (1 ≤ kk ∧ kk ≤ 6 ∧ ¬ dv = 0) ∧ rT nc F f0 f1 up ∧ rV F f2 f7 ∧ rM nc t F lm ms f9 f10 f11 sd ∧ rB f1 op oc f3 f4 f5 f6 jr wr ∧ rK f8 f12 kp ca wr ∧ rSS kk dv nc up jr f1 f7 wr kp ca sd Sn Sk Sm
theorem REL_init {kk dd : Nat} (h1 : 1 ≤ kk) (h6 : kk ≤ 6) (hd : 2 ≤ dd) (hd2 : dd ≤ 16) : REL kk (nI dd) 0 1 0 F0_ (fun _ _ => 0) (fun _ => 0) (fun _ => eS) (fun _ => eS) (fun _ => eS) 0 (fun _ => 0) (fun _ => 0) (fun _ => 0) (fun _ => 0) (fun _ => 0) (fun _ => 0) (fun _ => 0) (fun _ => 0) (fun _ => 0) (fun _ => 0) (fun _ => 0) (fun _ => 0) (fun _ => 0) (fun _ => 0) (fun _ _ => 0) (fun _ => 0) (fun _ _ => 0) (fun _ _ => 0) (fun _ => 0) := by
  refine ⟨⟨h1, h6, nI_ne0 (by omega) (by omega)⟩, ⟨⟨by omega, by omega⟩, rfl, fun j a c => by omega, fun x => Nat.zero_le _, fun x a c => by omega, fun _ _ => rfl, fun c _ => nI_0.symm, fun j _ => ⟨rfl, Or.inl rfl⟩, fun _ _ => rfl, fun c a d => by omega, rfl⟩, fun j _ => ⟨rfl, rfl⟩, ⟨rfl, ⟨0, by omega, nI_0.symm⟩, fun p _ => ⟨rfl, rfl, rfl, nI_0.symm, Nat.zero_lt_succ _, ⟨0, by omega, nI_0.symm⟩, fun q => absurd rfl q⟩⟩, ⟨fun j _ => ⟨nI_0.symm, nI_0.symm, Nat.zero_lt_succ _, Nat.zero_le _, fun _ => ⟨rfl, rfl⟩⟩, fun _ _ _ _ => rfl, fun j i _ h => absurd h (Nat.not_lt_zero _), fun l i _ h => absurd h (Nat.not_lt_zero _)⟩, fun c l _ _ => ⟨nI_0.symm, nI_0.symm, Nat.le_refl _, Nat.le_refl _⟩, fun j hj => ?_⟩
  refine ⟨?_, SR_0 (v := eS) (by omega) hj, SR_0 (v := eS) (by omega) (Nat.zero_lt_succ _)⟩
  have e : knN (fun _ => 0) (fun _ => (0 : Int32)) (fun _ => 0) (fun c => decide ((0 : Int32) < (fun _ => 0) c)) (fun _ _ => 0) 1 j = fun _ => 0 := by
    unfold knN
    rw [if_pos rfl]
    rfl
  rw [e]
  exact SR_0 (v := eS) (by omega) hj
/-- a call more, nothing changed -/
theorem rM_t {nc t t2 : Nat} {F : Cf} {lm ms : Int32} {f9 f10 f11 : Nat → Int32} {sd : Nat → Nat} (h : rM nc t F lm ms f9 f10 f11 sd) (ht : t ≤ t2) : rM nc t2 F lm ms f9 f10 f11 sd := by
  obtain ⟨h1, ⟨q, h2, h3⟩, h4⟩ := h
  refine ⟨h1, ⟨q, by omega, h3⟩, fun p hp => ?_⟩
  obtain ⟨a1, a2, a3, a4, a5, ⟨r, a6, a7⟩, a8⟩ := h4 p hp
  exact ⟨a1, a2, a3, a4, a5, ⟨r, by omega, a7⟩, a8⟩
theorem REL_t {kk t t2 nc : Nat} {dv lm ms : Int32} {F : Cf} {op : Nat → Nat → Int32} {oc : Nat → Nat} {Sn Sk Sm : Nat → Sv} {f0 f1 f2 f3 f4 f5 f6 f7 f8 f9 f10 f11 f12 : Nat → Int32} {up : Nat → Nat} {jr : Nat → Nat → Nat} {wr : Nat → Nat} {kp ca : Nat → Nat → Nat} {sd : Nat → Nat} (h : REL kk dv t nc lm F op oc Sn Sk Sm ms f0 f1 f2 f3 f4 f5 f6 f7 f8 f9 f10 f11 f12 up jr wr kp ca sd) (ht : t ≤ t2) : REL kk dv t2 nc lm F op oc Sn Sk Sm ms f0 f1 f2 f3 f4 f5 f6 f7 f8 f9 f10 f11 f12 up jr wr kp ca sd :=
  ⟨h.1, h.2.1, h.2.2.1, rM_t h.2.2.2.1 ht, h.2.2.2.2.1, h.2.2.2.2.2.1, h.2.2.2.2.2.2⟩
theorem rT_4 {nc c p : Nat} {F : Cf} {x : Int32} {f0 f1 : Nat → Int32} {up : Nat → Nat} (h : rT nc F f0 f1 up) (hc : 2 ≤ c) : rT nc (fU F c p x) f0 f1 up := by
  obtain ⟨h0, h1, h2, h3, h4, h5, h6, h7, h8⟩ := h
  exact ⟨h0, by rw [fU_c (by omega)]; exact h1, fun j a d => by rw [fU_c (by omega)]; exact h2 j a d, h3, h4, h5, h6, fun j hj => by rw [fU_c (by omega)]; exact h7 j hj, h8⟩
theorem rV_4 {c p : Nat} {F : Cf} {x : Int32} {f2 f7 : Nat → Int32} (h : rV F f2 f7) (hc : 4 ≤ c) : rV (fU F c p x) f2 f7 := fun j hj => by
  rw [fU_c (by omega), fU_c (by omega)]
  exact h j hj
/-- drop -/
theorem REL_drop {kk t nc p : Nat} {dv lm ms : Int32} {F : Cf} {op : Nat → Nat → Int32} {oc : Nat → Nat} {Sn Sk Sm : Nat → Sv} {f0 f1 f2 f3 f4 f5 f6 f7 f8 f9 f10 f11 f12 : Nat → Int32} {up : Nat → Nat} {jr : Nat → Nat → Nat} {wr : Nat → Nat} {kp ca : Nat → Nat → Nat} {sd : Nat → Nat} (h : REL kk dv t nc lm F op oc Sn Sk Sm ms f0 f1 f2 f3 f4 f5 f6 f7 f8 f9 f10 f11 f12 up jr wr kp ca sd) : REL kk dv t nc lm (fU F 4 p 0) op oc Sn Sk Sm ms f0 f1 f2 f3 f4 f5 f6 f7 f8 (upd f9 p 0) f10 f11 f12 up jr wr kp ca sd := by
  obtain ⟨h1, h2, h3, ⟨m1, m2, m3⟩, h5, h6, h7⟩ := h
  refine ⟨h1, rT_4 h2 (by omega), rV_4 h3 (by omega), ⟨m1, m2, fun q hq => ?_⟩, h5, h6, h7⟩
  obtain ⟨a1, a2, a3, a4, a5, a6, a7⟩ := m3 q hq
  by_cases z : q = p
  · subst z
    rw [fU_eq, upd_eq, fU_c (by omega), fU_c (by omega)]
    exact ⟨rfl, a2, a3, a4, a5, ⟨0, by omega, nI_0.symm⟩, fun w => absurd rfl w⟩
  · rw [fU_n z, fU_n z, fU_n z, upd_ne z]
    exact ⟨a1, a2, a3, a4, a5, a6, a7⟩
