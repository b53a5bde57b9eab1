/-! Pure: the answers of the class and of the reference out of one summary -/
theorem ans_top (f : Nat → Int32) (y : Int32) : vr f y 32 = if ¬ y < 0 ∧ y < nI (cn f) then oI (gu (pu f y.toNatClampNeg) f 32) else -1 := by
  have hc : cn f ≤ 32 := ct_le _ _
  by_cases h : y < 0
  · rw [if_neg (fun q => q.1 h)]
    refine vr_none f (fun v hv e => ?_) 32 (Nat.le_refl _)
    rw [← e] at h
    exact nI_pos (by have := rank_32 f hv; omega) h
  · obtain ⟨q, hq, rfl⟩ := nI_of h
    rw [nI_clamp hq]
    by_cases h32 : q < 32
    · rcases vr_cases f h32 with ⟨h1, h2⟩ | ⟨x, h1, h2, h3, h4⟩
      · rw [h1, if_neg (fun z => by have := (nI_ltI hq (by omega)).mp z.2; omega)]
      · rw [h2, if_pos ⟨h, (nI_ltI hq (by omega)).mpr h3⟩, h4]
        rfl
    · rw [if_neg (fun z => by have := (nI_ltI hq (by omega)).mp z.2; omega)]
      refine vr_none f (fun v hv e => ?_) 32 (Nat.le_refl _)
      have := rank_32 f hv
      have := (nI_eq (by omega) hq).mp e
      omega
theorem ans_below (g : Nat → Int32) (w : Int32) {v : Nat} (hv : v ≤ 32) : (if w = 0 then eb g v else sb g v) = sel (fun r => if w = 0 then decide (en r < v) else decide (fs_ r < v)) g 63 := by
  by_cases h : w = 0
  · rw [if_pos h, eb_sel g v hv]
    exact sel_congr 63 (fun r _ => by simp [h])
  · rw [if_neg h, sb_sel g v hv]
    exact sel_congr 63 (fun r _ => by simp [h])
theorem ans_way {f g : Nat → Int32} (h : ∀ p, p < 12 → f p = g p ∧ ∃ q, q < 2 ^ 31 ∧ g p = nI q) : ct (fun p => !decide (f p = 0)) 12 = ct (fun p => decide (0 < g p)) 12 := by
  refine ct_congr 12 (fun p hp => ?_)
  obtain ⟨h1, q, hq, h2⟩ := h p hp
  rw [h1, h2]
  by_cases z : q = 0
  · subst z
    rw [nI_0]
    decide
  · have n0 := nI_ne0 (n := q) (by omega) hq
    have p0 : (0 : Int32) < nI q := by
      have := (nI_ltI (a := 0) (b := q) (by omega) hq).mpr (by omega)
      rwa [nI_0] at this
    simp [n0, p0]
/-- the known counts of any node -/
def knN (up : Nat → Nat) (lf : Nat → Int32) (wr : Nat → Nat) (kv : Nat → Bool) (kp : Nat → Nat → Nat) (nc j : Nat) : Nat → Nat := if lf j = 0 then kno up kv kp j (nc - 1) else kn1 j (wr j)
theorem kac_N {f0 f7 f8 z : Nat → Int32} {up : Nat → Nat} {kv : Nat → Bool} {kp : Nat → Nat → Nat} {nc j : Nat} (hnc : nc ≤ 12) (hj : j < 12) (h0 : ∀ c, c < 12 → f0 c = nI (up c) ∧ up c < 12) (h7 : ∀ c, c < 12 → kv c = decide (0 < f7 c)) (h8 : ∀ c l, c < 12 → l < 12 → f8 (12 * c + l) = nI (kp c l)) (hz : ∀ l, l < 12 → z l = nI 0) : ∀ m, m < nc → ∀ l, l < 12 → kac f0 f7 f8 (nI j) z m l = nI (kno up kv kp j m l)
  | 0, _, l, hl => hz l hl
  | m + 1, hm, l, hl => by
    have ih := kac_N hnc hj h0 h7 h8 hz m (by omega)
    simp only [kac, kno]
    have hc : (f0 (m + 1) = nI j ∧ 0 < f7 (m + 1)) ↔ (up (m + 1) = j ∧ kv (m + 1) = true) := by
      rw [(h0 (m + 1) (by omega)).1, h7 (m + 1) (by omega), nI_eq (by have := (h0 (m + 1) (by omega)).2; omega) (by omega)]
      simp
    by_cases q : up (m + 1) = j ∧ kv (m + 1) = true
    · rw [if_pos (hc.mpr q), if_pos q, pr_i0 hl, ih l hl, h8 (m + 1) l (by omega) hl, nI_add]
    · rw [if_neg (fun w => q (hc.mp w)), if_neg q, Nat.add_zero]
      exact ih l hl
theorem knw_N {f0 f1 f4 f7 f8 f13 : Nat → Int32} {up wr : Nat → Nat} {kv : Nat → Bool} {kp : Nat → Nat → Nat} {nc j : Nat} (hnc : nc ≤ 12) (hn1 : 1 ≤ nc) (hj : j < 12) (h0 : ∀ c, c < 12 → f0 c = nI (up c) ∧ up c < 12) (h4 : f4 j = nI (wr j)) (h7 : ∀ c, c < 12 → kv c = decide (0 < f7 c)) (h8 : ∀ c l, c < 12 → l < 12 → f8 (12 * c + l) = nI (kp c l)) : ∀ l, l < 12 → knw f0 f1 f4 f7 f8 f13 nc j l = nI (knN up f1 wr kv kp nc j l) := by
  intro l hl
  unfold knw knN
  have hz : ∀ l, l < 12 → pr 0 12 (fun _ => (0 : Int32)) f13 l = nI 0 := fun l hl => by rw [pr_i0 hl, nI_0]
  by_cases h : f1 j = 0
  · rw [if_pos h, if_pos h]
    exact kac_N hnc hj h0 h7 h8 hz (nc - 1) (by omega) l hl
  · rw [if_neg h, if_neg h]
    by_cases q : l = j
    · subst q
      rw [upd_eq, h4]
      simp [kn1]
    · rw [upd_ne q, hz l hl]
      simp [kn1, q]
