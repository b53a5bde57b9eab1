/-! Pure: what happens to a summary when the tree or a journal grows -/
theorem an_ne {up : Nat → Nat} {nc p : Nat} (hu : ∀ x, up x ≤ x) {l : Nat} (hl : l < nc) : ∀ n, an (va_up up nc p) n l = an up n l
  | 0 => rfl
  | n + 1 => by
    simp only [an]
    rw [an_ne hu hl n]
    have := an_le hu l n
    exact up_ne (by omega)
theorem SR_attach {kk nc p j : Nat} {dv : Int32} {up : Nat → Nat} {jr : Nat → Nat → Nat} {kn : Nat → Nat} {s : Sv} (hu : ∀ x, up x ≤ x) (hN : nc < 12) (hp : p < nc) (hj : j < 12) (hk : ∀ l, nc ≤ l → kn l = 0) (h : SR kk dv up nc jr j kn s) : SR kk dv (va_up up nc p) (nc + 1) jr j kn s := by
  obtain ⟨h1, h2, h3, h4, h5⟩ := h
  refine ⟨h1, ?_, h3, h4, fun l => ⟨(h5 l).1, fun q => ⟨((h5 l).2 q).1, ?_⟩⟩⟩
  · rw [h2, FF_attach hN (hk nc (Nat.le_refl _)) hp 12 j hj (by omega)]
  · obtain ⟨n, hn⟩ := ((h5 l).2 q).2
    have hl : l < nc := by
      by_cases z : l < nc
      · exact z
      · exact absurd (hk l (by omega)) q
    exact ⟨n, by rw [an_ne hu hl n]; exact hn⟩
theorem SR_jr {kk nc j : Nat} {dv : Int32} {up : Nat → Nat} {jr jr2 : Nat → Nat → Nat} {kn : Nat → Nat} {s : Sv} (hN : nc ≤ 12) (hj : j < 12) (hk : ∀ l i, i < kn l → jr l i = jr2 l i) (h : SR kk dv up nc jr j kn s) : SR kk dv up nc jr2 j kn s := by
  obtain ⟨h1, h2, h3, h4, h5⟩ := h
  refine ⟨h1, ?_, SX_congr h3 (fun l _ => ⟨rfl, hk l⟩), h4, h5⟩
  rw [h2]
  exact FF_congr hN 12 j hj (by omega) (fun l _ => ⟨rfl, hk l⟩)
theorem SR_kn {kk nc j : Nat} {dv : Int32} {up : Nat → Nat} {jr : Nat → Nat → Nat} {kn kn2 : Nat → Nat} {s : Sv} (e : kn = kn2) (h : SR kk dv up nc jr j kn s) : SR kk dv up nc jr j kn2 s := e ▸ h
theorem FF_leaf {kk nc j m : Nat} {dv : Int32} {up : Nat → Nat} {jr : Nat → Nat → Nat} (hN : nc ≤ 12) (hj : j < 12) (hc : ∀ c, j < c → c < nc → up c ≠ j) : FF kk dv up nc jr (kn1 j m) j = tks kk dv (jr j) m := by
  rw [FF_eq hN hj]
  have e : kn1 j m j = m := by simp [kn1]
  rw [e]
  exact mgs_skip _ (fun i hi hu => absurd hu (hc _ (by omega) (by omega)))
theorem SR_take {kk nc j m : Nat} {dv : Int32} {up : Nat → Nat} {jr : Nat → Nat → Nat} {s : Sv} (hN : nc ≤ 12) (hj : j < 12) (hc : ∀ c, j < c → c < nc → up c ≠ j) (hm : m < 48) (hx : jr j m < 32) (h : SR kk dv up nc jr j (kn1 j m) s) : SR kk dv up nc jr j (kn1 j (m + 1)) (tkS kk dv s (jr j m) j) := by
  obtain ⟨h1, h2, h3, h4, h5⟩ := h
  rw [kn1_sm hj] at h4
  have hb := tkR_both (kk := kk) (d := dv) hx h4 (by omega)
  have e : rS (tkS kk dv s (jr j m) j) = tkR 4096 kk dv (rS s) (jr j m) := rfl
  refine ⟨nS_tkS h1 hx hj, ?_, SX_take hj (by omega) hx h3, ?_, fun l => ?_⟩
  · rw [e, hb.1, h2, FF_leaf hN hj hc, FF_leaf hN hj hc]
    rfl
  · rw [e, hb.1, kn1_sm hj]
    exact hb.2
  · by_cases q : l = j
    · subst q
      simp only [kn1]
      exact ⟨by simp; omega, fun _ => ⟨hj, sub_self up l⟩⟩
    · simp [kn1, q]
/-- a whole block is taken -/
theorem SR_takes {kk nc j m : Nat} {dv : Int32} {up : Nat → Nat} {jr : Nat → Nat → Nat} {s : Sv} {ov : Nat → Nat} (hN : nc ≤ 12) (hj : j < 12) (hc : ∀ c, j < c → c < nc → up c ≠ j) (h : SR kk dv up nc jr j (kn1 j m) s) : ∀ i, m + i ≤ 48 → (∀ q, q < i → jr j (m + q) = ov q ∧ ov q < 32) → SR kk dv up nc jr j (kn1 j (m + i)) (tkSs kk dv s ov j i)
  | 0, _, _ => h
  | i + 1, hm, hv => by
    have ih := SR_takes hN hj hc h i (by omega) (fun q hq => hv q (by omega))
    obtain ⟨e1, e2⟩ := hv i (by omega)
    have := SR_take hN hj hc (show m + i < 48 by omega) (by rw [e1]; exact e2) ih
    rw [e1] at this
    exact this
/-- a node of which nothing is known -/
theorem SR_0 {kk nc j : Nat} {dv : Int32} {up : Nat → Nat} {jr : Nat → Nat → Nat} {v : Sv} (hN : nc ≤ 12) (hj : j < 12) : SR kk dv up nc jr j (fun _ => 0) (clS v) := by
  have z : sm (fun _ => 0) 12 = 0 := sm_0 12 (fun _ _ => rfl)
  refine ⟨nS_clS v, ?_, SX_0 v (fun _ _ => rfl), ?_, fun l => ⟨Nat.zero_le _, fun q => absurd rfl q⟩⟩
  · rw [FF_0 hN 12 j hj (by omega) (fun _ _ => rfl)]
    rfl
  · rw [z]
    exact er_rok
theorem eS_cl : eS = clS eS := rfl
/-! the answers of both sides: the same out of one summary -/
theorem tot_sum {f3 : Nat → Int32} {jr : Nat → Nat → Nat} {kn : Nat → Nat} (h : ∀ l, l < 12 → ∀ i, i < kn l → f3 (48 * l + i) = nI (jr l i) ∧ jr l i < 32) : ∀ n, n ≤ 12 → sjs f3 kn n = lN (sm (fun l => sm (jr l) (kn l)) n)
  | 0, _ => rfl
  | n + 1, hn => by
    have ih := tot_sum h n (by omega)
    simp only [sjs, sm]
    rw [ih]
    have key : ∀ i, i ≤ kn n → sj (fun i => f3 (48 * n + i)) (lN (sm (fun l => sm (jr l) (kn l)) n)) i = lN (sm (fun l => sm (jr l) (kn l)) n + sm (jr n) i) := by
      intro i
      induction i with
      | zero => intro _; rfl
      | succ i ihi =>
        intro hi
        obtain ⟨e1, e2⟩ := h n (by omega) i (by omega)
        simp only [sj, sm]
        rw [ihi (by omega), e1, nI_l (by omega), lN_add, Nat.add_assoc]
    exact key (kn n) (Nat.le_refl _)
theorem s12_sm {f : Nat → Int32} {kn : Nat → Nat} (h : ∀ l, l < 12 → f l = nI (kn l)) : ∀ n, n ≤ 12 → s12 f n = nI (sm kn n)
  | 0, _ => nI_0.symm
  | n + 1, hn => by
    simp only [s12, sm]
    rw [s12_sm h n (by omega), h n (by omega), nI_add]
