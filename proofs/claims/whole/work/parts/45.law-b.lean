/-! The law: a call of the class and the same call of the reference -/
def LI (tI tZ tN tM : ClassId) (b : Nat) (k : Nat → va_E) (kk dd t : Nat) : Prop := ∃ (nc : Nat) (lm ms : Int32) (F : Cf) (op : Nat → Nat → Int32) (oc : Nat → Nat) (Sn Sk Sm : Nat → Sv) (f0 f1 f2 f3 f4 f5 f6 f7 f8 f9 f10 f11 f12 f13 f14 f15 f16 f17 : Nat → Int32) (up : Nat → Nat) (jr : Nat → Nat → Nat) (wr : Nat → Nat) (kp ca : Nat → Nat → Nat) (sd : Nat → Nat), CW tI tN tM b 274 k kk (nI dd) nc lm F op oc Sn Sk Sm ∧ RW tI tZ b 274 k kk (nI dd) nc ms f0 f1 f2 f3 f4 f5 f6 f7 f8 f9 f10 f11 f12 f13 f14 f15 f16 f17 ∧ REL kk (nI dd) t nc lm F op oc Sn Sk Sm ms f0 f1 f2 f3 f4 f5 f6 f7 f8 f9 f10 f11 f12 up jr wr kp ca sd
def PAIR (l : Launch) (D : va_G) (tI tZ tN tM : ClassId) (b : Nat) (k : Nat → va_E) (kk dd t : Nat) (yT : MethodName) (wT : List Cond) (rT : Room) (yR : MethodName) (wR : List Cond) (rR : Room) (As : List Value) : Prop := ∃ pT : Int32 → (Nat → va_E) → Prop, Met l yT wT rT (zPc D (tyl tI tZ tN tM) b 274 k (.ref b :: As)) (zQi D b 274 pT) 0 0 (zA b) ∧ (∃ fs, zc b 274 k b (.inr (5, fs))) ∧ ∀ r k2, pT r k2 → (∃ fs, zc b 274 k2 (b + 255) (.inr (6, fs))) ∧ ∃ pR : Int32 → (Nat → va_E) → Prop, Met l yR wR rR (zPc D (tyl tI tZ tN tM) b 274 k2 (.ref (b + 255) :: As)) (zQi D b 274 pR) 0 0 (zA b) ∧ ∀ r2 k3, pR r2 k3 → r2 = r ∧ LI tI tZ tN tM b k3 kk dd (t + 1)
theorem isl_eq {nc : Nat} {f g : Nat → Int32} (hnc : nc ≤ 12) (h : ∀ j, j < 12 → f j = g j) (x : Int32) : isl nc f x = isl nc g x := by
  unfold isl
  by_cases h1 : isn nc x = true
  · obtain ⟨j, hj, rfl⟩ := isn_t (by omega) h1
    rw [nI_clamp (by omega), h j (by omega)]
  · simp [h1]
theorem sw_congr {f g : Nat → Int32} {x : Int32} (h : ∀ p, p < 12 → f p = g p) : ∀ n, sw f x n = sw g x n
  | 0 => rfl
  | n + 1 => by
    simp only [sw]
    rw [h (11 - n) (by omega), sw_congr h n]
theorem so_congr {f g : Nat → Int32} {x : Int32} (h : ∀ p, p < 12 → f p = g p) : so f x = so g x := by
  unfold so
  rw [sw_congr h]
theorem so_pos {f : Nat → Int32} {x : Int32} (h : 0 ≤ so f x) : ∃ p, p < 12 ∧ so f x = nI p ∧ ¬ f p = 0 := by
  rcases so_cases f x with h1 | ⟨p, h1, h2, h3, h4⟩
  · rw [h1] at h
    exact absurd h (by decide)
  · refine ⟨p, h1, h2, fun q => ?_⟩
    rw [← h3, q] at h4
    exact absurd h4 (by decide)
theorem sw_pos {f : Nat → Int32} {x : Int32} (h : 0 ≤ sw f x 12) : ∃ p, p < 12 ∧ sw f x 12 = nI p := by
  rcases sw_cases f x 12 (by omega) with ⟨h1, -⟩ | ⟨p, h1, h2, -⟩
  · rw [h1] at h
    exact absurd h (by decide)
  · exact ⟨p, h1, h2⟩
section
variable {l : Launch} {D : va_G} {tI tZ tN tM : ClassId} {b : Nat} {k : Nat → va_E} {kk dd t : Nat}
set_option maxHeartbeats 1000000 in
theorem q_attach {x y : Int32} (hL : LI tI tZ tN tM b k kk dd t) (hy : y = 0 ∨ y = 1) : PAIR l D tI tZ tN tM b k kk dd t y_T_attach (wy y_T_attach b_T_attach 4 (some .int)) (rm 1 0 0) y_R_attach (wy y_R_attach b_R_attach 3 (some .int)) (rm 1 0 0) [.int x, .int y] := by
  obtain ⟨nc, lm, ms, F, op, oc, Sn, Sk, Sm, f0, f1, f2, f3, f4, f5, f6, f7, f8, f9, f10, f11, f12, f13, f14, f15, f16, f17, up, jr, wr, kp, ca, sd, hC, hR, hE⟩ := hL
  have hnc : nc ≤ 12 := hE.2.1.1.2
  have hn1 : 1 ≤ nc := hE.2.1.1.1
  have hF : ∀ j, j < 12 → F 1 j = f1 j := fun j hj => (hE.2.1.2.2.2.2.2.2.2.1 j hj).1
  refine ⟨_, c_T_attach hC hnc hy, ⟨_, hC.1⟩, fun r k2 hp => ?_⟩
  obtain ⟨p1, p2⟩ := hp
  by_cases hc : isn nc x = true ∧ F 1 x.toNatClampNeg = 0 ∧ nc < 12
  · obtain ⟨rfl, hC2, hk⟩ := p1 hc
    have hR2 := hR.keep hk
    refine ⟨⟨_, hR2.1⟩, _, c_R_attach hR2 hnc hy, fun r2 k3 hq => ?_⟩
    obtain ⟨j, hj, rfl⟩ := isn_t (by omega) hc.1
    have hc2 := hc
    rw [nI_clamp (by omega), hF j (by omega)] at hc2
    obtain ⟨e, hR3, hk3⟩ := hq.1 (by rw [nI_clamp (by omega)]; exact hc2)
    exact ⟨e, _, _, _, _, _, _, _, _, _, _, _, _, _, _, _, _, _, _, _, _, _, _, _, _, _, _, _, _, _, _, _, _, _, hC2.keep hk3, hR3, REL_t (REL_attach hE hj hc2.2.1 hc.2.2 hy) (by omega)⟩
  · obtain ⟨rfl, rfl⟩ := p2 hc
    refine ⟨⟨_, hR.1⟩, _, c_R_attach hR hnc hy, fun r2 k3 hq => ?_⟩
    obtain ⟨e, rfl⟩ := hq.2 (fun q => hc (by
      obtain ⟨j, hj, rfl⟩ := isn_t (by omega) q.1
      rw [nI_clamp (by omega)] at q ⊢
      rw [hF j (by omega)]
      exact q))
    exact ⟨e, nc, lm, ms, F, op, oc, Sn, Sk, Sm, f0, f1, f2, f3, f4, f5, f6, f7, f8, f9, f10, f11, f12, f13, f14, f15, f16, f17, up, jr, wr, kp, ca, sd, hC, hR, REL_t hE (by omega)⟩
set_option maxHeartbeats 1000000 in
theorem q_drop {x : Int32} (hL : LI tI tZ tN tM b k kk dd t) : PAIR l D tI tZ tN tM b k kk dd t y_T_drop (wy y_T_drop b_T_drop 3 (some .boolean)) (rm 2 0 0) y_R_drop (wy y_R_drop b_R_drop 3 (some .boolean)) (rm 1 0 0) [.int x] := by
  obtain ⟨nc, lm, ms, F, op, oc, Sn, Sk, Sm, f0, f1, f2, f3, f4, f5, f6, f7, f8, f9, f10, f11, f12, f13, f14, f15, f16, f17, up, jr, wr, kp, ca, sd, hC, hR, hE⟩ := hL
  have hnc : nc ≤ 12 := hE.2.1.1.2
  have hn1 : 1 ≤ nc := hE.2.1.1.1
  have hF : ∀ p, p < 12 → F 4 p = f9 p := fun p hp => (hE.2.2.2.1.2.2 p hp).1
  refine ⟨_, c_T_drop hC hnc, ⟨_, hC.1⟩, fun r k2 hp => ?_⟩
  rw [so_congr hF] at hp
  obtain ⟨p1, p2⟩ := hp
  by_cases hc : 0 ≤ so f9 x
  · obtain ⟨rfl, hC2, hk⟩ := p1 hc
    have hR2 := hR.keep hk
    refine ⟨⟨_, hR2.1⟩, _, c_R_drop hR2, fun r2 k3 hq => ?_⟩
    obtain ⟨e, hR3, hk3⟩ := hq.1 hc
    exact ⟨e, _, _, _, _, _, _, _, _, _, _, _, _, _, _, _, _, _, _, _, _, _, _, _, _, _, _, _, _, _, _, _, _, _, hC2.keep hk3, hR3, REL_t (REL_drop hE) (by omega)⟩
  · obtain ⟨rfl, rfl⟩ := p2 hc
    refine ⟨⟨_, hR.1⟩, _, c_R_drop hR, fun r2 k3 hq => ?_⟩
    obtain ⟨e, rfl⟩ := hq.2 hc
    exact ⟨e, nc, lm, ms, F, op, oc, Sn, Sk, Sm, f0, f1, f2, f3, f4, f5, f6, f7, f8, f9, f10, f11, f12, f13, f14, f15, f16, f17, up, jr, wr, kp, ca, sd, hC, hR, REL_t hE (by omega)⟩
set_option maxHeartbeats 1000000 in
theorem q_crash {x : Int32} (hL : LI tI tZ tN tM b k kk dd t) : PAIR l D tI tZ tN tM b k kk dd t y_T_crash (wy y_T_crash b_T_crash 2 (some .boolean)) (rm 5 0 0) y_R_crash (wy y_R_crash b_R_crash 3 (some .boolean)) (rm 1 0 0) [.int x] := by
  obtain ⟨nc, lm, ms, F, op, oc, Sn, Sk, Sm, f0, f1, f2, f3, f4, f5, f6, f7, f8, f9, f10, f11, f12, f13, f14, f15, f16, f17, up, jr, wr, kp, ca, sd, hC, hR, hE⟩ := hL
  have hnc : nc ≤ 12 := hE.2.1.1.2
  have hn1 : 1 ≤ nc := hE.2.1.1.1
  have hF : ∀ j, j < 12 → F 1 j = f1 j := fun j hj => (hE.2.1.2.2.2.2.2.2.2.1 j hj).1
  have hN : ∀ j, j < 12 → nS (Sn j) ∧ nS (Sk j) ∧ nS (Sm j) := fun j hj => ⟨(hE.2.2.2.2.2.2 j hj).1.1, (hE.2.2.2.2.2.2 j hj).2.1.1, (hE.2.2.2.2.2.2 j hj).2.2.1⟩
  refine ⟨_, c_T_crash hC hnc hn1 hN hE.1.2.1 hE.1.2.2, ⟨_, hC.1⟩, fun r k2 hp => ?_⟩
  obtain ⟨p1, p2⟩ := hp
  by_cases hc : isn nc x = true
  · obtain ⟨rfl, hA, hB, hk⟩ := p1 hc
    have hR2 := hR.keep hk
    refine ⟨⟨_, hR2.1⟩, _, c_R_crash hR2 hnc, fun r2 k3 hq => ?_⟩
    obtain ⟨e, hR3, hk3⟩ := hq.1 hc
    obtain ⟨j, hj, rfl⟩ := isn_t (by omega) hc
    rw [nI_clamp (by omega)] at hA hB hR3
    by_cases hl : f1 j = 0
    · exact ⟨e, _, _, _, _, _, _, _, _, _, _, _, _, _, _, _, _, _, _, _, _, _, _, _, _, _, _, _, _, _, _, _, _, _, (hB (fun q => q (by rw [hF j (by omega)]; exact hl))).keep hk3, hR3, REL_t (REL_crash hE hj hl) (by omega)⟩
    · exact ⟨e, _, _, _, _, _, _, _, _, _, _, _, _, _, _, _, _, _, _, _, _, _, _, _, _, _, _, _, _, _, _, _, _, _, (hA (by rw [hF j (by omega)]; exact hl)).keep hk3, hR3, REL_t (REL_crashL hE hj hl) (by omega)⟩
  · obtain ⟨rfl, rfl⟩ := p2 hc
    refine ⟨⟨_, hR.1⟩, _, c_R_crash hR hnc, fun r2 k3 hq => ?_⟩
    obtain ⟨e, rfl⟩ := hq.2 hc
    exact ⟨e, nc, lm, ms, F, op, oc, Sn, Sk, Sm, f0, f1, f2, f3, f4, f5, f6, f7, f8, f9, f10, f11, f12, f13, f14, f15, f16, f17, up, jr, wr, kp, ca, sd, hC, hR, REL_t hE (by omega)⟩
set_option maxHeartbeats 1000000 in
theorem q_copy {x : Int32} (hL : LI tI tZ tN tM b k kk dd t) : PAIR l D tI tZ tN tM b k kk dd t y_T_copy (wy y_T_copy b_T_copy 5 (some .int)) (rm 3 0 0) y_R_copy (wy y_R_copy b_R_copy 5 (some .int)) (rm 1 0 0) [.int x] := by
  obtain ⟨nc, lm, ms, F, op, oc, Sn, Sk, Sm, f0, f1, f2, f3, f4, f5, f6, f7, f8, f9, f10, f11, f12, f13, f14, f15, f16, f17, up, jr, wr, kp, ca, sd, hC, hR, hE⟩ := hL
  have hnc : nc ≤ 12 := hE.2.1.1.2
  have hn1 : 1 ≤ nc := hE.2.1.1.1
  have hF : ∀ p, p < 12 → F 4 p = f9 p := fun p hp => (hE.2.2.2.1.2.2 p hp).1
  have hN : ∀ j, j < 12 → nS (Sn j) ∧ nS (Sk j) ∧ nS (Sm j) := fun j hj => ⟨(hE.2.2.2.2.2.2 j hj).1.1, (hE.2.2.2.2.2.2 j hj).2.1.1, (hE.2.2.2.2.2.2 j hj).2.2.1⟩
  refine ⟨_, c_T_copy hC hnc hN, ⟨_, hC.1⟩, fun r k2 hp => ?_⟩
  rw [so_congr hF, sw_congr hF, nI_0] at hp
  obtain ⟨p1, p2⟩ := hp
  have hlm : lm = ms := hE.2.2.2.1.1
  by_cases hc : 0 ≤ so f9 x ∧ 0 ≤ sw f9 0 12
  · obtain ⟨rfl, hC2, hk⟩ := p1 hc
    have hR2 := hR.keep hk
    refine ⟨⟨_, hR2.1⟩, _, c_R_copy hR2, fun r2 k3 hq => ?_⟩
    obtain ⟨e, hR3, hk3⟩ := hq.1 hc
    obtain ⟨p, hp, ep, hz⟩ := so_pos hc.1
    rw [ep, nI_clamp (by omega)] at hC2 hR3
    exact ⟨e.trans (by rw [hlm]), _, _, _, _, _, _, _, _, _, _, _, _, _, _, _, _, _, _, _, _, _, _, _, _, _, _, _, _, _, _, _, _, _, hC2.keep hk3, hR3, REL_copy hE hp hz⟩
  · obtain ⟨rfl, rfl⟩ := p2 hc
    refine ⟨⟨_, hR.1⟩, _, c_R_copy hR, fun r2 k3 hq => ?_⟩
    obtain ⟨e, rfl⟩ := hq.2 hc
    exact ⟨e, nc, lm, ms, F, op, oc, Sn, Sk, Sm, f0, f1, f2, f3, f4, f5, f6, f7, f8, f9, f10, f11, f12, f13, f14, f15, f16, f17, up, jr, wr, kp, ca, sd, hC, hR, REL_t hE (by omega)⟩
end
