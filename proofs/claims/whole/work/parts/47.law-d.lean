/-! The law: report, deliver, flush, add -/
section
variable {kk t nc : Nat} {dv lm ms : Int32} {F : Cf} {op : Nat → Nat → Int32} {oc : Nat → Nat} {Sn Sk Sm : Nat → Sv} {f0 f1 f2 f3 f4 f5 f6 f7 f8 f9 f10 f11 f12 f13 : Nat → Int32} {up : Nat → Nat} {jr : Nat → Nat → Nat} {wr : Nat → Nat} {kp ca : Nat → Nat → Nat} {sd : Nat → Nat} {x : Int32}
theorem ro_all (hE : REL kk dv t nc lm F op oc Sn Sk Sm ms f0 f1 f2 f3 f4 f5 f6 f7 f8 f9 f10 f11 f12 up jr wr kp ca sd) {j : Nat} (hj : j < nc) : F 0 j = -1 ↔ j = 0 := by
  constructor
  · intro h
    apply Classical.byContradiction
    intro h0
    have h1 := hE.2.1.2.2.1 j (by omega) hj
    have h2 := hE.2.1.2.2.2.2.1 j (by omega) hj
    have h3 := hE.2.1.1.2
    rw [h1] at h
    have h4 := nI_toInt (n := up j) (by omega)
    rw [h] at h4
    have h5 : (-1 : Int32).toInt = -1 := by decide
    omega
  · rintro rfl
    exact hE.2.1.2.1
theorem ov_all (hE : REL kk dv t nc lm F op oc Sn Sk Sm ms f0 f1 f2 f3 f4 f5 f6 f7 f8 f9 f10 f11 f12 up jr wr kp ca sd) : ∀ j, j < 12 → ∀ i, i < oc j → op j i = nI ((fun j i => (op j i).toNatClampNeg) j i) ∧ (fun j i => (op j i).toNatClampNeg) j i < 32 := by
  intro j hj i hi
  obtain ⟨v, hv, e⟩ := hE.2.2.2.2.1.2.2.1 j i hj hi
  show op j i = nI (op j i).toNatClampNeg ∧ (op j i).toNatClampNeg < 32
  rw [e, nI_clamp (by omega)]
  exact ⟨rfl, hv⟩
theorem isl_t {f : Nat → Int32} (hnc : nc ≤ 12) (h : isl nc f x = true) : ∃ j, j < nc ∧ x = nI j ∧ ¬ f j = 0 := by
  unfold isl at h
  simp only [Bool.and_eq_true] at h
  obtain ⟨j, hj, rfl⟩ := isn_t (by omega) h.1
  refine ⟨j, hj, rfl, fun q => ?_⟩
  have h2 := h.2
  rw [nI_clamp (by omega)] at h2
  simp [q] at h2
theorem up_same {α : Type} {f : Nat → α} {j : Nat} : va_up f j (f j) = f := by
  funext i
  by_cases h : i = j
  · subst h; exact up_eq
  · exact up_ne h
end
section
variable {l : Launch} {D : va_G} {tI tZ tN tM : ClassId} {b : Nat} {k : Nat → va_E} {kk dd t : Nat}
set_option maxHeartbeats 1000000 in
theorem q_report {x : Int32} (hL : LI tI tZ tN tM b k kk dd t) : PAIR l D tI tZ tN tM b k kk dd t y_T_report (wy y_T_report b_T_report 3 (some .int)) (rm 3 0 0) y_R_report (wy y_R_report b_R_report 4 (some .int)) (rm 1 0 0) [.int x] := by
  obtain ⟨nc, lm, ms, F, op, oc, Sn, Sk, Sm, f0, f1, f2, f3, f4, f5, f6, f7, f8, f9, f10, f11, f12, f13, f14, f15, f16, f17, up, jr, wr, kp, ca, sd, hC, hR, hE⟩ := hL
  have hnc : nc ≤ 12 := hE.2.1.1.2
  have hn1 : 1 ≤ nc := hE.2.1.1.1
  have hN : ∀ j, j < 12 → nS (Sn j) ∧ nS (Sk j) ∧ nS (Sm j) := fun j hj => ⟨(hE.2.2.2.2.2.2 j hj).1.1, (hE.2.2.2.2.2.2 j hj).2.1.1, (hE.2.2.2.2.2.2 j hj).2.2.1⟩
  have hF : ∀ p, p < 12 → F 4 p = f9 p := fun p hp => (hE.2.2.2.1.2.2 p hp).1
  refine ⟨_, c_T_report hC hnc hN, ⟨_, hC.1⟩, fun r k2 hp => ?_⟩
  rw [sw_congr hF, nI_0] at hp
  obtain ⟨p1, p2⟩ := hp
  have hlm : lm = ms := hE.2.2.2.1.1
  have hiff : isn nc x = true → (F 0 x.toNatClampNeg = -1 ↔ x = 0) := fun h => by
    obtain ⟨j, hj, rfl⟩ := isn_t (by omega) h
    rw [nI_clamp (by omega), ro_all hE hj]
    constructor
    · rintro rfl; exact nI_0
    · intro q
      exact (nI_eq (by omega) (show 0 < 2 ^ 31 by omega)).mp (q.trans nI_0.symm)
  by_cases hc : isn nc x = true ∧ ¬ x = 0 ∧ 0 ≤ sw f9 0 12
  · obtain ⟨rfl, hC2, hk⟩ := p1 ⟨hc.1, fun q => hc.2.1 ((hiff hc.1).mp q), hc.2.2⟩
    have hR2 := hR.keep hk
    refine ⟨⟨_, hR2.1⟩, _, c_R_report hR2 hnc hn1, fun r2 k3 hq => ?_⟩
    obtain ⟨e, hR3, hk3⟩ := hq.1 hc
    have hG := fun l hl => (kn_all (f13 := f13) hE hc.1 l hl).1
    have hx0 := hc.2.1
    obtain ⟨j, hj, rfl⟩ := isn_t (by omega) hc.1
    rw [nI_clamp (by omega)] at hC2 hR3 hG
    have h1 : 1 ≤ j := Nat.one_le_iff_ne_zero.mpr (fun q => hx0 (by rw [q]; exact nI_0))
    exact ⟨e.trans (by rw [hlm]), _, _, _, _, _, _, _, _, _, _, _, _, _, _, _, _, _, _, _, _, _, _, _, _, _, _, _, _, _, _, _, _, _, hC2.keep hk3, hR3, REL_report hE h1 hj hG⟩
  · obtain ⟨rfl, rfl⟩ := p2 (fun q => hc ⟨q.1, fun w => q.2.1 ((hiff q.1).mpr w), q.2.2⟩)
    refine ⟨⟨_, hR.1⟩, _, c_R_report hR hnc hn1, fun r2 k3 hq => ?_⟩
    obtain ⟨e, rfl⟩ := hq.2 hc
    exact ⟨e, nc, lm, ms, F, op, oc, Sn, Sk, Sm, f0, f1, f2, f3, f4, f5, f6, f7, f8, f9, f10, f11, f12, f13, f14, f15, f16, f17, up, jr, wr, kp, ca, sd, hC, hR, REL_t hE (by omega)⟩
set_option maxHeartbeats 1000000 in
theorem q_deliver {x : Int32} (hL : LI tI tZ tN tM b k kk dd t) : PAIR l D tI tZ tN tM b k kk dd t y_T_deliver (wy y_T_deliver b_T_deliver 5 (some .int)) (rm 5 0 0) y_R_deliver (wy y_R_deliver b_R_deliver 5 (some .int)) (rm 1 0 0) [.int x] := by
  obtain ⟨nc, lm, ms, F, op, oc, Sn, Sk, Sm, f0, f1, f2, f3, f4, f5, f6, f7, f8, f9, f10, f11, f12, f13, f14, f15, f16, f17, up, jr, wr, kp, ca, sd, hC, hR, hE⟩ := hL
  have hnc : nc ≤ 12 := hE.2.1.1.2
  have hn1 : 1 ≤ nc := hE.2.1.1.1
  have hN : ∀ j, j < 12 → nS (Sn j) ∧ nS (Sk j) ∧ nS (Sm j) := fun j hj => ⟨(hE.2.2.2.2.2.2 j hj).1.1, (hE.2.2.2.2.2.2 j hj).2.1.1, (hE.2.2.2.2.2.2 j hj).2.2.1⟩
  have hF : ∀ p, p < 12 → F 4 p = f9 p := fun p hp => (hE.2.2.2.1.2.2 p hp).1
  have hsd : ∀ p, p < 12 → F 5 p = nI (sd p) ∧ sd p < 12 := fun p hp => by
    obtain ⟨a1, a2, a3, a4, a5, -⟩ := hE.2.2.2.1.2.2 p hp
    exact ⟨a2.trans a4, a5⟩
  have hsd2 : ∀ p, p < 12 → f10 p = nI (sd p) ∧ sd p < 12 := fun p hp => by
    obtain ⟨a1, a2, a3, a4, a5, -⟩ := hE.2.2.2.1.2.2 p hp
    exact ⟨a4, a5⟩
  have hup : ∀ p, p < 12 → ¬ F 4 p = 0 → F 0 (sd p) = nI (up (sd p)) ∧ up (sd p) < 12 := fun p hp hz => by
    obtain ⟨a1, a2, a3, a4, a5, a6, a7⟩ := hE.2.2.2.1.2.2 p hp
    obtain ⟨c1, c2⟩ := a7 (by rw [← a1]; exact hz)
    exact ⟨hE.2.1.2.2.1 _ c1 c2, (up_all hE _ a5).2⟩
  refine ⟨_, c_T_deliver hC hnc hn1 hN hE.1.2.1 hE.1.2.2 hsd hup, ⟨_, hC.1⟩, fun r k2 hp => ?_⟩
  rw [so_congr hF] at hp
  obtain ⟨p1, p2, p3⟩ := hp
  by_cases hc : 0 ≤ so f9 x
  · obtain ⟨p, hp, ep, hz⟩ := so_pos hc
    rw [ep, nI_clamp (by omega)] at p1 p2
    obtain ⟨a1, a2, a3, a4, a5, -⟩ := hE.2.2.2.1.2.2 p hp
    have a8 := (hE.2.2.1 (sd p) a5).2
    by_cases hv : f7 (sd p) < f11 p
    · obtain ⟨rfl, hC2, hk⟩ := p1 ⟨by rw [← ep]; exact hc, by rw [a8, a3]; exact hv⟩
      have hR2 := hR.keep hk
      refine ⟨⟨_, hR2.1⟩, _, c_R_deliver hR2 hsd2, fun r2 k3 hq => ?_⟩
      rw [ep, nI_clamp (by omega)] at hq
      obtain ⟨e, hR3, hk3⟩ := hq.1 ⟨by rw [← ep]; exact hc, hv⟩
      exact ⟨e, _, _, _, _, _, _, _, _, _, _, _, _, _, _, _, _, _, _, _, _, _, _, _, _, _, _, _, _, _, _, _, _, _, hC2.keep hk3, hR3, REL_t (REL_deliver hE hp hz) (by omega)⟩
    · obtain ⟨rfl, hC2, hk⟩ := p2 ⟨by rw [← ep]; exact hc, by rw [a8, a3]; exact hv⟩
      have hR2 := hR.keep hk
      refine ⟨⟨_, hR2.1⟩, _, c_R_deliver hR2 hsd2, fun r2 k3 hq => ?_⟩
      rw [ep, nI_clamp (by omega)] at hq
      obtain ⟨e, hR3, hk3⟩ := hq.2.1 ⟨by rw [← ep]; exact hc, hv⟩
      exact ⟨e, _, _, _, _, _, _, _, _, _, _, _, _, _, _, _, _, _, _, _, _, _, _, _, _, _, _, _, _, _, _, _, _, _, hC2.keep hk3, hR3, REL_t (REL_drop hE) (by omega)⟩
  · obtain ⟨rfl, rfl⟩ := p3 hc
    refine ⟨⟨_, hR.1⟩, _, c_R_deliver hR hsd2, fun r2 k3 hq => ?_⟩
    obtain ⟨e, rfl⟩ := hq.2.2 hc
    exact ⟨e, nc, lm, ms, F, op, oc, Sn, Sk, Sm, f0, f1, f2, f3, f4, f5, f6, f7, f8, f9, f10, f11, f12, f13, f14, f15, f16, f17, up, jr, wr, kp, ca, sd, hC, hR, REL_t hE (by omega)⟩
set_option maxHeartbeats 1000000 in
theorem q_flush {x : Int32} (hL : LI tI tZ tN tM b k kk dd t) : PAIR l D tI tZ tN tM b k kk dd t y_T_flush (wy y_T_flush b_T_flush 2 (some .int)) (rm 5 0 0) y_R_flush (wy y_R_flush b_R_flush 3 (some .int)) (rm 2 0 0) [.int x] := by
  obtain ⟨nc, lm, ms, F, op, oc, Sn, Sk, Sm, f0, f1, f2, f3, f4, f5, f6, f7, f8, f9, f10, f11, f12, f13, f14, f15, f16, f17, up, jr, wr, kp, ca, sd, hC, hR, hE⟩ := hL
  have hnc : nc ≤ 12 := hE.2.1.1.2
  have hn1 : 1 ≤ nc := hE.2.1.1.1
  have hF : ∀ j, j < 12 → F 1 j = f1 j := fun j hj => (hE.2.1.2.2.2.2.2.2.2.1 j hj).1
  have hoc : ∀ j, j < 12 → oc j < 4 := fun j hj => (hE.2.2.2.2.1.1 j hj).2.2.1
  have hwr : ∀ j, j < 12 → f4 j = nI (wr j) := fun j hj => (hE.2.2.2.2.1.1 j hj).1
  have hod : ∀ j, j < 12 → f6 j = nI (oc j) ∧ oc j < 4 ∧ wr j + oc j ≤ 48 := fun j hj => ⟨(hE.2.2.2.2.1.1 j hj).2.1, (hE.2.2.2.2.1.1 j hj).2.2.1, (hE.2.2.2.2.1.1 j hj).2.2.2.1⟩
  refine ⟨_, c_T_flush hC hnc hoc (ov_all hE) hE.1.1 hE.1.2.1 hE.1.2.2, ⟨_, hC.1⟩, fun r k2 hp => ?_⟩
  rw [isl_eq hnc hF] at hp
  obtain ⟨p1, p2⟩ := hp
  by_cases hc : isl nc f1 x = true
  · obtain ⟨rfl, hC2, hk⟩ := p1 hc
    have hR2 := hR.keep hk
    refine ⟨⟨_, hR2.1⟩, _, c_R_flush hR2 hnc hwr hod, fun r2 k3 hq => ?_⟩
    obtain ⟨e, hR3, hk3⟩ := hq.1 hc
    obtain ⟨j, hj, rfl, hl⟩ := isl_t hnc hc
    rw [nI_clamp (by omega)] at hC2 hR3
    refine ⟨e, _, _, _, _, _, _, _, _, _, _, _, _, _, _, _, _, _, _, _, _, _, _, _, _, _, _, _, _, _, _, _, _, _, hC2.keep hk3, hR3, REL_t (REL_write (ov := fun i => (op j i).toNatClampNeg) hE hj hl (hod j (by omega)).2.2 (fun q hq => ?_) hE.2.2.2.2.1.2.1 (fun _ _ => rfl) (fun i hi hz => upd_ne hz) upd_eq) (by omega)⟩
    rw [← hE.2.2.2.2.1.2.1 j q (by omega) (by have := hoc j (by omega); omega)]
    exact ov_all hE j (by omega) q hq
  · obtain ⟨rfl, rfl⟩ := p2 hc
    refine ⟨⟨_, hR.1⟩, _, c_R_flush hR hnc hwr hod, fun r2 k3 hq => ?_⟩
    obtain ⟨e, rfl⟩ := hq.2 hc
    exact ⟨e, nc, lm, ms, F, op, oc, Sn, Sk, Sm, f0, f1, f2, f3, f4, f5, f6, f7, f8, f9, f10, f11, f12, f13, f14, f15, f16, f17, up, jr, wr, kp, ca, sd, hC, hR, REL_t hE (by omega)⟩
set_option maxHeartbeats 1000000 in
theorem q_add {x y : Int32} (hL : LI tI tZ tN tM b k kk dd t) : PAIR l D tI tZ tN tM b k kk dd t y_T_add (wy y_T_add b_T_add 3 (some .boolean)) (rm 6 0 0) y_R_add (wy y_R_add b_R_add 3 (some .boolean)) (rm 2 0 0) [.int x, .int y] := by
  obtain ⟨nc, lm, ms, F, op, oc, Sn, Sk, Sm, f0, f1, f2, f3, f4, f5, f6, f7, f8, f9, f10, f11, f12, f13, f14, f15, f16, f17, up, jr, wr, kp, ca, sd, hC, hR, hE⟩ := hL
  have hnc : nc ≤ 12 := hE.2.1.1.2
  have hn1 : 1 ≤ nc := hE.2.1.1.1
  have hF : ∀ j, j < 12 → F 1 j = f1 j := fun j hj => (hE.2.1.2.2.2.2.2.2.2.1 j hj).1
  have hoc : ∀ j, j < 12 → oc j < 4 := fun j hj => (hE.2.2.2.2.1.1 j hj).2.2.1
  have hwr : ∀ j, j < 12 → f4 j = nI (wr j) := fun j hj => (hE.2.2.2.2.1.1 j hj).1
  have hod : ∀ j, j < 12 → f6 j = nI (oc j) ∧ oc j < 4 ∧ wr j + oc j ≤ 48 := fun j hj => ⟨(hE.2.2.2.2.1.1 j hj).2.1, (hE.2.2.2.2.1.1 j hj).2.2.1, (hE.2.2.2.2.1.1 j hj).2.2.2.1⟩
  refine ⟨_, c_T_add hC hnc hoc (ov_all hE) hE.1.1 hE.1.2.1 hE.1.2.2, ⟨_, hC.1⟩, fun r k2 hp => ?_⟩
  rw [isl_eq hnc hF] at hp
  obtain ⟨p1, p2⟩ := hp
  have hiff : isl nc f1 x = true → ((Sn x.toNatClampNeg).1 + nI (oc x.toNatClampNeg) < nI 48 ↔ wr x.toNatClampNeg + oc x.toNatClampNeg < 48) := fun h => by
    obtain ⟨j, hj, rfl, hl⟩ := isl_t hnc h
    rw [nI_clamp (by omega)]
    have h1 := (hE.2.2.2.2.2.2 j (by omega)).1.2.2.1.1
    unfold knN at h1
    rw [if_neg hl, kn1_sm (by omega)] at h1
    rw [h1, nI_add]
    have h2 := (hod j (by omega)).2.2
    exact nI_ltI (by omega) (by omega)
  by_cases hc : isl nc f1 x = true ∧ isn 32 y = true ∧ wr x.toNatClampNeg + oc x.toNatClampNeg < 48
  · obtain ⟨rfl, hC2, hk⟩ := p1 ⟨hc.1, hc.2.1, (hiff hc.1).mpr hc.2.2⟩
    have hR2 := hR.keep hk
    refine ⟨⟨_, hR2.1⟩, _, c_R_add hR2 hnc hwr hod, fun r2 k3 hq => ?_⟩
    obtain ⟨e, hA, hB, hk3⟩ := hq.1 hc
    obtain ⟨hc1, hc2, hc3⟩ := hc
    obtain ⟨j, hj, rfl, hl⟩ := isl_t hnc hc1
    obtain ⟨v, hv, rfl⟩ := isn_t (by omega) hc2
    rw [nI_clamp (by omega)] at hC2 hA hB hc3
    rw [nI_clamp (by omega)] at hC2
    by_cases h3 : oc j = 3
    · have hR3 := hA h3
      rw [if_pos h3, if_pos h3] at hC2
      refine ⟨e, _, _, _, _, _, _, _, _, _, _, _, _, _, _, _, _, _, _, _, _, _, _, _, _, _, _, _, _, _, _, _, _, _, hC2.keep hk3, hR3, REL_t (REL_write hE hj hl (by omega) (fun q hq => ?_) (op_put (hoc j (by omega)) hE.2.2.2.2.1.2.1) (fun i hi => up_ne hi) (fun i hi hz => upd_ne hz) upd_eq) (by omega)⟩
      by_cases hq3 : q = oc j
      · subst hq3
        rw [upd_eq, up_eq]
        exact ⟨rfl, hv⟩
      · rw [upd_ne (by omega), up_ne hq3, ← hE.2.2.2.2.1.2.1 j q (by omega) (by omega)]
        exact ov_all hE j (by omega) q (by omega)
    · have hR3 := hB h3
      rw [if_neg h3, if_neg h3, up_same] at hC2
      have := hoc j (by omega)
      exact ⟨e, _, _, _, _, _, _, _, _, _, _, _, _, _, _, _, _, _, _, _, _, _, _, _, _, _, _, _, _, _, _, _, _, _, hC2.keep hk3, hR3, REL_t (REL_add hE hj hl hv (by omega) hc3) (by omega)⟩
  · obtain ⟨rfl, rfl⟩ := p2 (fun q => hc ⟨q.1, q.2.1, (hiff q.1).mp q.2.2⟩)
    refine ⟨⟨_, hR.1⟩, _, c_R_add hR hnc hwr hod, fun r2 k3 hq => ?_⟩
    obtain ⟨e, rfl⟩ := hq.2 hc
    exact ⟨e, nc, lm, ms, F, op, oc, Sn, Sk, Sm, f0, f1, f2, f3, f4, f5, f6, f7, f8, f9, f10, f11, f12, f13, f14, f15, f16, f17, up, jr, wr, kp, ca, sd, hC, hR, REL_t hE (by omega)⟩
end
