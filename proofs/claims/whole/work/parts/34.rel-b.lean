/-! Pure: a summary of a node, and the merging of what is kept -/
def rS (s : Sv) : Row := (s.1, s.2.2.2.2.2.1, s.2.2.2.2.2.2)
theorem an_add (up : Nat → Nat) (a l : Nat) : ∀ d, an up (d + a) l = an up d (an up a l)
  | 0 => by rw [Nat.zero_add]; rfl
  | d + 1 => by
    rw [show d + 1 + a = (d + a) + 1 by omega]
    simp only [an]
    rw [an_add up a l d]
theorem an_le {up : Nat → Nat} (hu : ∀ x, up x ≤ x) (p : Nat) : ∀ d, an up d p ≤ p
  | 0 => Nat.le_refl _
  | d + 1 => Nat.le_trans (hu _) (an_le hu p d)
theorem an_in (up : Nat → Nat) (c : Nat) : ∀ d, an up (d + 1) c = an up d (up c)
  | 0 => rfl
  | d + 1 => by
    show up (an up (d + 1) c) = up (an up d (up c))
    rw [an_in up c d]
theorem sub_disj {up : Nat → Nat} {c c2 p l : Nat} (hu : ∀ x, up x ≤ x) (h1 : up c = p) (h2 : up c2 = p) (l1 : p < c) (l2 : p < c2) (hne : c ≠ c2) (s1 : sub up c l) (s2 : sub up c2 l) : False := by
  obtain ⟨a, ha⟩ := s1
  obtain ⟨d, hd⟩ := s2
  have key : ∀ a d c c2, up c = p → p < c2 → c ≠ c2 → an up a l = c → an up d l = c2 → a ≤ d → False := by
    intro a d c c2 h1 l2 hne ha hd hle
    obtain ⟨e, rfl⟩ : ∃ e, d = e + a := ⟨d - a, by omega⟩
    rw [an_add, ha] at hd
    cases e with
    | zero => exact hne hd
    | succ e =>
      rw [an_in, h1] at hd
      have := an_le hu p e
      omega
  rcases Nat.le_total a d with h | h
  · exact key a d c c2 h1 l2 hne ha hd h
  · exact key d a c2 c h2 l1 (Ne.symm hne) hd ha h
theorem sub_ge {up : Nat → Nat} {c l : Nat} (hu : ∀ x, up x ≤ x) (h : sub up c l) : c ≤ l := by
  obtain ⟨n, hn⟩ := h
  rw [← hn]
  exact an_le hu l n
/-- the known counts of an inner node: what is kept of its children 1 .. m -/
def kno (up : Nat → Nat) (kv : Nat → Bool) (kp : Nat → Nat → Nat) (p : Nat) : Nat → Nat → Nat
  | 0 => fun _ => 0
  | c + 1 => fun l => kno up kv kp p c l + (if up (c + 1) = p ∧ kv (c + 1) = true then kp (c + 1) l else 0)
theorem kno_0 {up : Nat → Nat} {kv : Nat → Bool} {kp : Nat → Nat → Nat} {p l : Nat} : ∀ m, (∀ c, 1 ≤ c → c ≤ m → up c = p → kp c l = 0) → kno up kv kp p m l = 0
  | 0, _ => rfl
  | m + 1, h => by
    simp only [kno]
    rw [kno_0 m (fun c h1 h2 => h c h1 (by omega))]
    split
    · rename_i q
      rw [h (m + 1) (by omega) (by omega) q.1]
    · rfl
theorem kno_sub {up : Nat → Nat} {kv : Nat → Bool} {kp : Nat → Nat → Nat} {p c l nc : Nat} (hu : ∀ x, up x ≤ x) (hu1 : ∀ x, 1 ≤ x → x < nc → up x < x) (hs : ∀ c l, c < nc → kp c l ≠ 0 → sub up c l) (h1 : 1 ≤ c) (hc : up c = p) (hl : sub up c l) : ∀ m, m < nc → c ≤ m → kno up kv kp p m l = if kv c = true then kp c l else 0
  | 0, _, hm => by omega
  | m + 1, hn, hm => by
    have oth : ∀ c2, 1 ≤ c2 → c2 ≤ m + 1 → up c2 = p → c2 ≠ c → kp c2 l = 0 := by
      intro c2 a1 a2 a3 a4
      by_cases q : kp c2 l = 0
      · exact q
      · have x1 := hu1 c h1 (by omega)
        have x2 := hu1 c2 a1 (by omega)
        exact (sub_disj hu hc a3 (by omega) (by omega) (Ne.symm a4) hl (hs c2 l (by omega) q)).elim
    simp only [kno]
    by_cases hcm : c = m + 1
    · rw [kno_0 m (fun c2 a1 a2 a3 => oth c2 a1 (by omega) a3 (by omega)), ← hcm]
      by_cases q : kv c = true
      · rw [if_pos ⟨hc, q⟩, if_pos q, Nat.zero_add]
      · rw [if_neg (fun z => q z.2), if_neg q]
    · rw [kno_sub hu hu1 hs h1 hc hl m (by omega) (by omega)]
      by_cases q : up (m + 1) = p
      · rw [oth (m + 1) (by omega) (by omega) q (by omega)]
        simp
      · simp [q]
theorem kno_le {up : Nat → Nat} {kv : Nat → Bool} {kp : Nat → Nat → Nat} {p l nc : Nat} (hu : ∀ x, up x ≤ x) (hu1 : ∀ x, 1 ≤ x → x < nc → up x < x) (hs : ∀ c l, c < nc → kp c l ≠ 0 → sub up c l) (m : Nat) (hm : m < nc) : kno up kv kp p m l = 0 ∨ ∃ c, 1 ≤ c ∧ c ≤ m ∧ up c = p ∧ kv c = true ∧ sub up c l ∧ kno up kv kp p m l = kp c l := by
  by_cases h : ∃ c, 1 ≤ c ∧ c ≤ m ∧ up c = p ∧ kp c l ≠ 0
  · obtain ⟨c, h1, h2, h3, h4⟩ := h
    have hl := hs c l (by omega) h4
    have e := kno_sub (kv := kv) hu hu1 hs h1 h3 hl m hm h2
    by_cases q : kv c = true
    · rw [if_pos q] at e
      exact Or.inr ⟨c, h1, h2, h3, q, hl, e⟩
    · rw [if_neg q] at e
      exact Or.inl e
  · refine Or.inl (kno_0 m (fun c a1 a2 a3 => ?_))
    by_cases q : kp c l = 0
    · exact q
    · exact (h ⟨c, a1, a2, a3, q⟩).elim
theorem sm_48 {kn : Nat → Nat} (h : ∀ l, kn l ≤ 48) : ∀ n, sm kn n ≤ 48 * n
  | 0 => Nat.le_refl _
  | n + 1 => by
    simp only [sm]
    have := sm_48 h n
    have := h n
    omega
/-- a summary s of node j that covers the counts kn -/
def SR (kk : Nat) (dv : Int32) (up : Nat → Nat) (nc : Nat) (jr : Nat → Nat → Nat) (j : Nat) (kn : Nat → Nat) (s : Sv) : Prop := nS s ∧ rS s = FF kk dv up nc jr kn j ∧ SX jr kn s ∧ rok (rS s) (sm kn 12) ∧ ∀ l, kn l ≤ 48 ∧ (kn l ≠ 0 → l < 12 ∧ sub up j l)
theorem mks_ok {kk nc p : Nat} {dv : Int32} {up : Nat → Nat} {jr : Nat → Nat → Nat} {kp : Nat → Nat → Nat} {kv : Nat → Bool} {F : Cf} {Sk : Nat → Sv} {v : Sv} (hnc : nc ≤ 12) (hp : p < nc) (hu : ∀ x, up x ≤ x) (hu1 : ∀ x, 1 ≤ x → x < nc → up x < x) (hF0 : ∀ c, 1 ≤ c → c < nc → F 0 c = nI (up c)) (hkv : ∀ c, c < nc → kv c = decide (0 < F 3 c)) (hS : ∀ c, c < nc → SR kk dv up nc jr c (kp c) (Sk c)) : ∀ m, m < nc → SX jr (kno up kv kp p m) (mks kk dv F Sk (nI p) (clS v) m) ∧ nS (mks kk dv F Sk (nI p) (clS v) m) ∧ rok (rS (mks kk dv F Sk (nI p) (clS v) m)) (sm (kno up kv kp p m) 12) ∧ rS (mks kk dv F Sk (nI p) (clS v) m) = mgs kk dv up (FF kk dv up nc jr (kno up kv kp p (nc - 1))) p er 1 m
  | 0, _ => by
    have z : sm (kno up kv kp p 0) 12 = 0 := sm_0 12 (fun _ _ => rfl)
    refine ⟨SX_0 v (fun _ _ => rfl), nS_clS v, ?_, rfl⟩
    rw [z]
    exact er_rok
  | m + 1, hm => by
    obtain ⟨i1, i2, i3, i4⟩ := mks_ok (v := v) hnc hp hu hu1 hF0 hkv hS m (by omega)
    obtain ⟨s1, s2, s3, s4, s5⟩ := hS (m + 1) hm
    have hs : ∀ c l, c < nc → kp c l ≠ 0 → sub up c l := fun c l hc h => ((hS c hc).2.2.2.2 l).2 h |>.2
    have b48 : ∀ l, kno up kv kp p m l ≤ 48 := fun l => by
      rcases kno_le (kv := kv) (p := p) (l := l) hu hu1 hs m (by omega) with h | ⟨c, a1, a2, -, -, -, h⟩
      · omega
      · rw [h]; exact ((hS c (by omega)).2.2.2.2 l).1
    have bA := sm_48 b48 12
    have bB := sm_48 (fun l => (s5 l).1) 12
    have hup := hF0 (m + 1) (by omega) hm
    have same : (∀ l, (if up (m + 1) = p ∧ kv (m + 1) = true then kp (m + 1) l else 0) = 0) → kno up kv kp p (m + 1) = kno up kv kp p m := fun h => by
      funext l
      simp only [kno]
      rw [h l, Nat.add_zero]
    have x1 := hu1 (m + 1) (by omega) hm
    by_cases ha : up (m + 1) = p
    · have hFe : F 0 (m + 1) = nI p := by rw [hup, ha]
      by_cases hb : kv (m + 1) = true
      · have hv3 : 0 < F 3 (m + 1) := by rw [hkv _ hm] at hb; simpa using hb
        have hFF : FF kk dv up nc jr (kno up kv kp p (nc - 1)) (m + 1) = rS (Sk (m + 1)) := by
          rw [s2]
          refine FF_congr hnc 12 (m + 1) (by omega) (by omega) (fun l hl => ⟨?_, fun _ _ => rfl⟩)
          rw [kno_sub (kv := kv) hu hu1 hs (by omega) ha hl (nc - 1) (by omega) (by omega), if_pos hb]
        have hn : 0 < (Sk (m + 1)).1 ↔ 0 < sm (kp (m + 1)) 12 := by
          rw [s3.1]
          have := nI_ltI (a := 0) (b := sm (kp (m + 1)) 12) (by omega) (by omega)
          rw [nI_0] at this
          exact this
        by_cases hz : 0 < sm (kp (m + 1)) 12
        · have hpos := hn.mpr hz
          have e1 : mks kk dv F Sk (nI p) (clS v) (m + 1) = mgS kk dv (mks kk dv F Sk (nI p) (clS v) m) (Sk (m + 1)) := by
            simp only [mks]
            rw [if_pos ⟨hFe, hv3, hpos⟩]
          have e2 : kno up kv kp p (m + 1) = fun l => kno up kv kp p m l + kp (m + 1) l := by
            funext l
            simp only [kno]
            rw [if_pos ⟨ha, hb⟩]
          have hdis : ∀ l, l < 12 → kno up kv kp p m l = 0 ∨ kp (m + 1) l = 0 := fun l _ => by
            by_cases q : kp (m + 1) l = 0
            · exact Or.inr q
            · refine Or.inl ?_
              rcases kno_le (kv := kv) (p := p) (l := l) hu hu1 hs m (by omega) with h | ⟨c, a1, a2, a3, a4, a5, h⟩
              · exact h
              · have x2 := hu1 c a1 (by omega)
                exact (sub_disj hu a3 ha (by omega) (by omega) (by omega) a5 (hs (m + 1) l hm q)).elim
          have hmg := mgR_both (kk := kk) (d := dv) i3 s4 (by omega)
          have er_ : rS (mgS kk dv (mks kk dv F Sk (nI p) (clS v) m) (Sk (m + 1))) = mgR 4096 kk dv (rS (mks kk dv F Sk (nI p) (clS v) m)) (rS (Sk (m + 1))) := rfl
          rw [e1, e2]
          refine ⟨SX_merge i1 s3 hdis hz (by omega), nS_mgS i2 s1, ?_, ?_⟩
          · rw [er_, hmg.1, sm_add]
            exact hmg.2
          · rw [er_, hmg.1]
            simp only [mgs]
            rw [show 1 + m = m + 1 by omega, hFF, if_pos ⟨ha, hpos⟩, i4]
        · have hz0 : sm (kp (m + 1)) 12 = 0 := by omega
          have kz : ∀ l, kp (m + 1) l = 0 := fun l => by
            by_cases q : kp (m + 1) l = 0
            · exact q
            · have := sm_zero hz0 l ((s5 l).2 q).1
              exact this
          have e1 : mks kk dv F Sk (nI p) (clS v) (m + 1) = mks kk dv F Sk (nI p) (clS v) m := by
            simp only [mks]
            rw [if_neg (fun q => hz (hn.mp q.2.2))]
          rw [e1, same (fun l => by rw [kz l]; simp)]
          refine ⟨i1, i2, i3, ?_⟩
          simp only [mgs]
          rw [show 1 + m = m + 1 by omega, hFF, if_neg (fun q => hz (hn.mp q.2))]
          exact i4
      · have e1 : mks kk dv F Sk (nI p) (clS v) (m + 1) = mks kk dv F Sk (nI p) (clS v) m := by
          simp only [mks]
          rw [if_neg (fun q => hb (by rw [hkv _ hm]; simpa using q.2.1))]
        have hFF : FF kk dv up nc jr (kno up kv kp p (nc - 1)) (m + 1) = er := by
          refine FF_0 hnc 12 (m + 1) (by omega) (by omega) (fun l hl => ?_)
          rw [kno_sub (kv := kv) hu hu1 hs (by omega) ha hl (nc - 1) (by omega) (by omega), if_neg hb]
        rw [e1, same (fun l => if_neg (fun q => hb q.2))]
        refine ⟨i1, i2, i3, ?_⟩
        simp only [mgs]
        rw [show 1 + m = m + 1 by omega, hFF, if_neg (fun q => absurd q.2 (by decide))]
        exact i4
    · have e1 : mks kk dv F Sk (nI p) (clS v) (m + 1) = mks kk dv F Sk (nI p) (clS v) m := by
        simp only [mks]
        rw [if_neg (fun q => ha ((nI_eq (by omega) (by omega)).mp (hup.symm.trans q.1)))]
      rw [e1, same (fun l => if_neg (fun q => ha q.1))]
      refine ⟨i1, i2, i3, ?_⟩
      simp only [mgs]
      rw [show 1 + m = m + 1 by omega, if_neg (fun q => ha q.1)]
      exact i4
/-- what the class merges for node p is its summary of what is kept -/
theorem mks_SR {kk nc p : Nat} {dv : Int32} {up : Nat → Nat} {jr : Nat → Nat → Nat} {kp : Nat → Nat → Nat} {kv : Nat → Bool} {F : Cf} {Sk : Nat → Sv} {v : Sv} (hnc : nc ≤ 12) (hp : p < nc) (hu : ∀ x, up x ≤ x) (hu1 : ∀ x, 1 ≤ x → x < nc → up x < x) (hF0 : ∀ c, 1 ≤ c → c < nc → F 0 c = nI (up c)) (hkv : ∀ c, c < nc → kv c = decide (0 < F 3 c)) (hS : ∀ c, c < nc → SR kk dv up nc jr c (kp c) (Sk c)) : SR kk dv up nc jr p (kno up kv kp p (nc - 1)) (mks kk dv F Sk (nI p) (clS v) (nc - 1)) := by
  obtain ⟨i1, i2, i3, i4⟩ := mks_ok (v := v) (p := p) hnc hp hu hu1 hF0 hkv hS (nc - 1) (by omega)
  have hs : ∀ c l, c < nc → kp c l ≠ 0 → sub up c l := fun c l hc h => ((hS c hc).2.2.2.2 l).2 h |>.2
  have hsup : ∀ l, kno up kv kp p (nc - 1) l ≤ 48 ∧ (kno up kv kp p (nc - 1) l ≠ 0 → l < 12 ∧ p < l ∧ sub up p l) := fun l => by
    rcases kno_le (kv := kv) (p := p) (l := l) hu hu1 hs (nc - 1) (by omega) with h | ⟨c, a1, a2, a3, a4, a5, h⟩
    · exact ⟨by omega, fun q => absurd h q⟩
    · rw [h]
      have h9 := (hS c (by omega)).2.2.2.2 l
      refine ⟨h9.1, fun q => ⟨(h9.2 q).1, ?_, ?_⟩⟩
      · have x1 := hu1 c a1 (by omega)
        have x2 := sub_ge hu a5
        omega
      · have := sub_up a5
        rwa [a3] at this
  have hkp0 : kno up kv kp p (nc - 1) p = 0 := by
    by_cases q : kno up kv kp p (nc - 1) p = 0
    · exact q
    · have := ((hsup p).2 q).2.1
      omega
  refine ⟨i2, ?_, i1, i3, fun l => ⟨(hsup l).1, fun q => ⟨((hsup l).2 q).1, ((hsup l).2 q).2.2⟩⟩⟩
  rw [i4, FF_eq hnc (by omega), hkp0, show nc - 1 = p + (nc - (p + 1)) by omega, mgs_add, show 1 + p = p + 1 by omega]
  have hz : mgs kk dv up (FF kk dv up nc jr (kno up kv kp p (p + (nc - (p + 1))))) p er 1 p = er := mgs_skip p (fun i hi hui => by
    have := hu1 (1 + i) (by omega) (by omega)
    omega)
  rw [hz]
  rfl
