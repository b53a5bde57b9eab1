/-! The law: the questions -/
def PAIRl (l : Launch) (D : va_G) (tI tZ tN tM : ClassId) (b : Nat) (k : Nat → va_E) (kk dd t : Nat) (yT : MethodName) (wT : List Cond) (rT : Room) (yR : MethodName) (wR : List Cond) (rR : Room) (As : List Value) : Prop := ∃ pT : Int64 → (Nat → va_E) → Prop, Met l yT wT rT (zPc D (tyl tI tZ tN tM) b 274 k (.ref b :: As)) (zQl D b 274 pT) 0 0 (zA b) ∧ (∃ fs, zc b 274 k b (.inr (5, fs))) ∧ ∀ r k2, pT r k2 → (∃ fs, zc b 274 k2 (b + 255) (.inr (6, fs))) ∧ ∃ pR : Int64 → (Nat → va_E) → Prop, Met l yR wR rR (zPc D (tyl tI tZ tN tM) b 274 k2 (.ref (b + 255) :: As)) (zQl D b 274 pR) 0 0 (zA b) ∧ ∀ r2 k3, pR r2 k3 → r2 = r ∧ LI tI tZ tN tM b k3 kk dd (t + 1)
section
variable {kk t nc : Nat} {dv lm ms : Int32} {F : Cf} {op : Nat → Nat → Int32} {oc : Nat → Nat} {Sn Sk Sm : Nat → Sv} {f0 f1 f2 f3 f4 f5 f6 f7 f8 f9 f10 f11 f12 f13 : Nat → Int32} {up : Nat → Nat} {jr : Nat → Nat → Nat} {wr : Nat → Nat} {kp ca : Nat → Nat → Nat} {sd : Nat → Nat} {x : Int32}
theorem isn_lt (hnc : nc ≤ 12) (h : isn nc x = true) : x.toNatClampNeg < nc := by
  obtain ⟨j, hj, rfl⟩ := isn_t (by omega) h
  rw [nI_clamp (by omega)]
  exact hj
theorem up_all (hE : REL kk dv t nc lm F op oc Sn Sk Sm ms f0 f1 f2 f3 f4 f5 f6 f7 f8 f9 f10 f11 f12 up jr wr kp ca sd) : ∀ c, c < 12 → f0 c = nI (up c) ∧ up c < 12 := fun c hc => ⟨hE.2.1.2.2.2.2.2.2.1 c hc, Nat.lt_of_le_of_lt (hE.2.1.2.2.2.1 c) hc⟩
theorem kn_all (hE : REL kk dv t nc lm F op oc Sn Sk Sm ms f0 f1 f2 f3 f4 f5 f6 f7 f8 f9 f10 f11 f12 up jr wr kp ca sd) (h : isn nc x = true) : ∀ l, l < 12 → knw f0 f1 f4 f7 f8 f13 nc x.toNatClampNeg l = nI (knN up f1 wr (fun c => decide (0 < f7 c)) kp nc x.toNatClampNeg l) ∧ knN up f1 wr (fun c => decide (0 < f7 c)) kp nc x.toNatClampNeg l ≤ 48 := by
  have hj := isn_lt hE.2.1.1.2 h
  have hj2 : x.toNatClampNeg < 12 := Nat.lt_of_lt_of_le hj hE.2.1.1.2
  intro l hl
  exact ⟨knw_N hE.2.1.1.2 hE.2.1.1.1 hj2 (up_all hE) (hE.2.2.2.2.1.1 _ hj2).1 (fun _ _ => rfl) (fun c l hc hl => (hE.2.2.2.2.2.1 c l hc hl).1) l hl, ((hE.2.2.2.2.2.2 _ hj2).1.2.2.2.2 l).1⟩
theorem jr_all (hE : REL kk dv t nc lm F op oc Sn Sk Sm ms f0 f1 f2 f3 f4 f5 f6 f7 f8 f9 f10 f11 f12 up jr wr kp ca sd) (_ : isn nc x = true) : ∀ l, l < 12 → ∀ i, i < knN up f1 wr (fun c => decide (0 < f7 c)) kp nc x.toNatClampNeg l → f3 (48 * l + i) = nI (jr l i) ∧ jr l i < 32 := fun l hl i hi => hE.2.2.2.2.1.2.2.2 l i hl (Nat.lt_of_lt_of_le hi (knN_le hE l hl))
theorem SR_all (hE : REL kk dv t nc lm F op oc Sn Sk Sm ms f0 f1 f2 f3 f4 f5 f6 f7 f8 f9 f10 f11 f12 up jr wr kp ca sd) (h : isn nc x = true) : SR kk dv up nc jr x.toNatClampNeg (knN up f1 wr (fun c => decide (0 < f7 c)) kp nc x.toNatClampNeg) (Sn x.toNatClampNeg) := (hE.2.2.2.2.2.2 _ (Nat.lt_of_lt_of_le (isn_lt hE.2.1.1.2 h) hE.2.1.1.2)).1
end
section
variable {l : Launch} {D : va_G} {tI tZ tN tM : ClassId} {b : Nat} {k : Nat → va_E} {kk dd t : Nat}
set_option maxHeartbeats 1000000 in
theorem q_onTheWay (hL : LI tI tZ tN tM b k kk dd t) (ht : t < 2 ^ 31) : PAIR l D tI tZ tN tM b k kk dd t y_T_onTheWay (wy y_T_onTheWay b_T_onTheWay 3 (some .int)) (rm 0 0 0) y_R_onTheWay (wy y_R_onTheWay b_R_onTheWay 3 (some .int)) (rm 0 0 0) [] := by
  obtain ⟨nc, lm, ms, F, op, oc, Sn, Sk, Sm, f0, f1, f2, f3, f4, f5, f6, f7, f8, f9, f10, f11, f12, f13, f14, f15, f16, f17, up, jr, wr, kp, ca, sd, hC, hR, hE⟩ := hL
  have hnc : nc ≤ 12 := hE.2.1.1.2
  have hn1 : 1 ≤ nc := hE.2.1.1.1
  refine ⟨_, c_T_onTheWay hC hnc, ⟨_, hC.1⟩, fun r k2 hp => ?_⟩
  obtain ⟨rfl, rfl⟩ := hp
  refine ⟨⟨_, hR.1⟩, _, c_R_onTheWay hR, fun r2 k3 hq => ?_⟩
  obtain ⟨e, rfl⟩ := hq
  refine ⟨e.trans ?_, nc, lm, ms, F, op, oc, Sn, Sk, Sm, f0, f1, f2, f3, f4, f5, f6, f7, f8, f9, f10, f11, f12, f13, f14, f15, f16, f17, up, jr, wr, kp, ca, sd, hC, hR, REL_t hE (by omega)⟩
  rw [ans_way (f := F 4) (g := f9) (fun p hp => ?_)]
  obtain ⟨a1, -, -, -, -, ⟨q, a2, a3⟩, -⟩ := hE.2.2.2.1.2.2 p hp
  exact ⟨a1, q, by omega, a3⟩
set_option maxHeartbeats 1000000 in
theorem q_total {x : Int32} (hL : LI tI tZ tN tM b k kk dd t) : PAIR l D tI tZ tN tM b k kk dd t y_T_total (wy y_T_total b_T_total 2 (some .int)) (rm 1 0 0) y_R_total (wy y_R_total b_R_total 4 (some .int)) (rm 1 0 0) [.int x] := by
  obtain ⟨nc, lm, ms, F, op, oc, Sn, Sk, Sm, f0, f1, f2, f3, f4, f5, f6, f7, f8, f9, f10, f11, f12, f13, f14, f15, f16, f17, up, jr, wr, kp, ca, sd, hC, hR, hE⟩ := hL
  have hnc : nc ≤ 12 := hE.2.1.1.2
  have hn1 : 1 ≤ nc := hE.2.1.1.1
  refine ⟨_, c_T_total hC hnc, ⟨_, hC.1⟩, fun r k2 hp => ?_⟩
  obtain ⟨rfl, rfl⟩ := hp
  refine ⟨⟨_, hR.1⟩, _, c_R_total hR hnc hn1, fun r2 k3 hq => ?_⟩
  obtain ⟨e, g13, hR3, hk3⟩ := hq
  refine ⟨e.trans ?_, _, _, _, _, _, _, _, _, _, _, _, _, _, _, _, _, _, _, _, _, _, _, _, _, _, _, _, _, _, _, _, _, _, hC.keep hk3, hR3, REL_t hE (by omega)⟩
  by_cases hx : isn nc x = true
  · rw [if_pos hx, if_pos hx, s12_sm (fun l hl => (kn_all hE hx l hl).1) 12 (by omega)]
    exact (SR_all hE hx).2.2.1.1.symm
  · rw [if_neg hx, if_neg hx]
set_option maxHeartbeats 1000000 in
theorem q_sum {x : Int32} (hL : LI tI tZ tN tM b k kk dd t) : PAIRl l D tI tZ tN tM b k kk dd t y_T_sum (wy y_T_sum b_T_sum 2 (some .long)) (rm 1 0 0) y_R_sum (wy y_R_sum b_R_sum 6 (some .long)) (rm 1 0 0) [.int x] := by
  obtain ⟨nc, lm, ms, F, op, oc, Sn, Sk, Sm, f0, f1, f2, f3, f4, f5, f6, f7, f8, f9, f10, f11, f12, f13, f14, f15, f16, f17, up, jr, wr, kp, ca, sd, hC, hR, hE⟩ := hL
  have hnc : nc ≤ 12 := hE.2.1.1.2
  have hn1 : 1 ≤ nc := hE.2.1.1.1
  refine ⟨_, c_T_sum hC hnc, ⟨_, hC.1⟩, fun r k2 hp => ?_⟩
  obtain ⟨rfl, rfl⟩ := hp
  refine ⟨⟨_, hR.1⟩, _, c_R_sum hR hnc hn1 (kn_all hE), fun r2 k3 hq => ?_⟩
  obtain ⟨e, g13, hR3, hk3⟩ := hq
  refine ⟨e.trans ?_, _, _, _, _, _, _, _, _, _, _, _, _, _, _, _, _, _, _, _, _, _, _, _, _, _, _, _, _, _, _, _, _, _, hC.keep hk3, hR3, REL_t hE (by omega)⟩
  by_cases hx : isn nc x = true
  · rw [if_pos hx, if_pos hx, tot_sum (jr_all hE hx) 12 (by omega)]
    exact (SR_all hE hx).2.2.1.2.1.symm
  · rw [if_neg hx, if_neg hx]
set_option maxHeartbeats 1000000 in
theorem q_extreme {x y : Int32} (hL : LI tI tZ tN tM b k kk dd t) : PAIR l D tI tZ tN tM b k kk dd t y_T_extreme (wy y_T_extreme b_T_extreme 3 (some .int)) (rm 1 0 0) y_R_extreme (wy y_R_extreme b_R_extreme 7 (some .int)) (rm 1 0 0) [.int x, .int y] := by
  obtain ⟨nc, lm, ms, F, op, oc, Sn, Sk, Sm, f0, f1, f2, f3, f4, f5, f6, f7, f8, f9, f10, f11, f12, f13, f14, f15, f16, f17, up, jr, wr, kp, ca, sd, hC, hR, hE⟩ := hL
  have hnc : nc ≤ 12 := hE.2.1.1.2
  have hn1 : 1 ≤ nc := hE.2.1.1.1
  refine ⟨_, c_T_extreme hC hnc, ⟨_, hC.1⟩, fun r k2 hp => ?_⟩
  obtain ⟨rfl, rfl⟩ := hp
  refine ⟨⟨_, hR.1⟩, _, c_R_extreme hR hnc hn1 (kn_all hE), fun r2 k3 hq => ?_⟩
  obtain ⟨e, g13, hR3, hk3⟩ := hq
  refine ⟨e.trans ?_, _, _, _, _, _, _, _, _, _, _, _, _, _, _, _, _, _, _, _, _, _, _, _, _, _, _, _, _, _, _, _, _, _, hC.keep hk3, hR3, REL_t hE (by omega)⟩
  by_cases hx : isn nc x = true
  · rw [if_pos hx, ← ans_extreme (jr_all hE hx) (fun l => ((SR_all hE hx).2.2.2.2 l).1) (SR_all hE hx).2.2.1]
    simp only [hx, true_and]
  · rw [if_neg hx, if_neg (fun q => hx q.1)]
set_option maxHeartbeats 1000000 in
theorem q_covered {x y : Int32} (hL : LI tI tZ tN tM b k kk dd t) : PAIR l D tI tZ tN tM b k kk dd t y_T_covered (wy y_T_covered b_T_covered 3 (some .int)) (rm 2 0 0) y_R_covered (wy y_R_covered b_R_covered 3 (some .int)) (rm 2 0 0) [.int x, .int y] := by
  obtain ⟨nc, lm, ms, F, op, oc, Sn, Sk, Sm, f0, f1, f2, f3, f4, f5, f6, f7, f8, f9, f10, f11, f12, f13, f14, f15, f16, f17, up, jr, wr, kp, ca, sd, hC, hR, hE⟩ := hL
  have hnc : nc ≤ 12 := hE.2.1.1.2
  have hn1 : 1 ≤ nc := hE.2.1.1.1
  refine ⟨_, c_T_covered hC hnc, ⟨_, hC.1⟩, fun r k2 hp => ?_⟩
  obtain ⟨rfl, rfl⟩ := hp
  refine ⟨⟨_, hR.1⟩, _, c_R_covered hR hnc hn1, fun r2 k3 hq => ?_⟩
  obtain ⟨e, g13, hR3, hk3⟩ := hq
  refine ⟨e.trans ?_, _, _, _, _, _, _, _, _, _, _, _, _, _, _, _, _, _, _, _, _, _, _, _, _, _, _, _, _, _, _, _, _, _, hC.keep hk3, hR3, REL_t hE (by omega)⟩
  have hF : ∀ j, j < 12 → F 1 j = f1 j := fun j hj => (hE.2.1.2.2.2.2.2.2.2.1 j hj).1
  rw [isl_eq hnc hF]
  by_cases hx : isn nc x = true ∧ isl nc f1 y = true
  · rw [if_pos hx, if_pos hx]
    have hy : y.toNatClampNeg < 12 := by
      have h1 : isn nc y = true := by
        have := hx.2
        unfold isl at this
        simp only [Bool.and_eq_true] at this
        exact this.1
      exact Nat.lt_of_lt_of_le (isn_lt hnc h1) hnc
    rw [(kn_all hE hx.1 _ hy).1]
    exact ((SR_all hE hx.1).2.2.1.2.2.1 _ hy).symm
  · rw [if_neg hx, if_neg hx]
set_option maxHeartbeats 1000000 in
theorem q_estimate {x y : Int32} (hL : LI tI tZ tN tM b k kk dd t) : PAIR l D tI tZ tN tM b k kk dd t y_T_estimate (wy y_T_estimate b_T_estimate 3 (some .int)) (rm 1 0 0) y_R_estimate (wy y_R_estimate b_R_estimate 3 (some .int)) (rm 3 0 0) [.int x, .int y] := by
  obtain ⟨nc, lm, ms, F, op, oc, Sn, Sk, Sm, f0, f1, f2, f3, f4, f5, f6, f7, f8, f9, f10, f11, f12, f13, f14, f15, f16, f17, up, jr, wr, kp, ca, sd, hC, hR, hE⟩ := hL
  have hnc : nc ≤ 12 := hE.2.1.1.2
  have hn1 : 1 ≤ nc := hE.2.1.1.1
  refine ⟨_, c_T_estimate hC hnc, ⟨_, hC.1⟩, fun r k2 hp => ?_⟩
  obtain ⟨rfl, rfl⟩ := hp
  refine ⟨⟨_, hR.1⟩, _, c_R_estimate hR hnc hn1 hE.1.2.2 hE.1.2.1 (up_all hE) (kn_all hE) (jr_all hE), fun r2 k3 hq => ?_⟩
  obtain ⟨e, g13, g14, g15, g16, g17, hR3, hk3⟩ := hq
  refine ⟨e.trans ?_, _, _, _, _, _, _, _, _, _, _, _, _, _, _, _, _, _, _, _, _, _, _, _, _, _, _, _, _, _, _, _, _, _, hC.keep hk3, hR3, REL_t hE (by omega)⟩
  by_cases hx : isn nc x = true ∧ isn 32 y = true
  · rw [if_pos hx, if_pos hx, ← (SR_all hE hx.1).2.1]
    rfl
  · rw [if_neg hx, if_neg hx]
set_option maxHeartbeats 1000000 in
theorem q_top {x y : Int32} (hL : LI tI tZ tN tM b k kk dd t) : PAIR l D tI tZ tN tM b k kk dd t y_T_top (wy y_T_top b_T_top 3 (some .int)) (rm 2 0 0) y_R_top (wy y_R_top b_R_top 5 (some .int)) (rm 3 0 0) [.int x, .int y] := by
  obtain ⟨nc, lm, ms, F, op, oc, Sn, Sk, Sm, f0, f1, f2, f3, f4, f5, f6, f7, f8, f9, f10, f11, f12, f13, f14, f15, f16, f17, up, jr, wr, kp, ca, sd, hC, hR, hE⟩ := hL
  have hnc : nc ≤ 12 := hE.2.1.1.2
  have hn1 : 1 ≤ nc := hE.2.1.1.1
  refine ⟨_, c_T_top hC hnc, ⟨_, hC.1⟩, fun r k2 hp => ?_⟩
  obtain ⟨rfl, rfl⟩ := hp
  refine ⟨⟨_, hR.1⟩, _, c_R_top hR hnc hn1 hE.1.2.2 hE.1.2.1 (up_all hE) (kn_all hE) (jr_all hE), fun r2 k3 hq => ?_⟩
  obtain ⟨e, g13, g14, g15, g16, g17, hR3, hk3⟩ := hq
  refine ⟨e.trans ?_, _, _, _, _, _, _, _, _, _, _, _, _, _, _, _, _, _, _, _, _, _, _, _, _, _, _, _, _, _, _, _, _, _, hC.keep hk3, hR3, REL_t hE (by omega)⟩
  by_cases hx : isn nc x = true
  · rw [if_pos hx, ans_top, ← (SR_all hE hx).2.1]
    simp only [hx, true_and]
    rfl
  · rw [if_neg hx, if_neg (fun q => hx q.1)]
set_option maxHeartbeats 1000000 in
theorem q_digestSize {x : Int32} (hL : LI tI tZ tN tM b k kk dd t) : PAIR l D tI tZ tN tM b k kk dd t y_T_digestSize (wy y_T_digestSize b_T_digestSize 2 (some .int)) (rm 1 0 0) y_R_digestSize (wy y_R_digestSize b_R_digestSize 4 (some .int)) (rm 3 0 0) [.int x] := by
  obtain ⟨nc, lm, ms, F, op, oc, Sn, Sk, Sm, f0, f1, f2, f3, f4, f5, f6, f7, f8, f9, f10, f11, f12, f13, f14, f15, f16, f17, up, jr, wr, kp, ca, sd, hC, hR, hE⟩ := hL
  have hnc : nc ≤ 12 := hE.2.1.1.2
  have hn1 : 1 ≤ nc := hE.2.1.1.1
  refine ⟨_, c_T_digestSize hC hnc, ⟨_, hC.1⟩, fun r k2 hp => ?_⟩
  obtain ⟨rfl, rfl⟩ := hp
  refine ⟨⟨_, hR.1⟩, _, c_R_digestSize hR hnc hn1 hE.1.2.2 hE.1.2.1 (up_all hE) (kn_all hE) (jr_all hE), fun r2 k3 hq => ?_⟩
  obtain ⟨e, g13, g14, g15, g16, g17, hR3, hk3⟩ := hq
  refine ⟨e.trans ?_, _, _, _, _, _, _, _, _, _, _, _, _, _, _, _, _, _, _, _, _, _, _, _, _, _, _, _, _, _, _, _, _, _, hC.keep hk3, hR3, REL_t hE (by omega)⟩
  by_cases hx : isn nc x = true
  · rw [if_pos hx, if_pos hx, ← (SR_all hE hx).2.1]
    rfl
  · rw [if_neg hx, if_neg hx]
set_option maxHeartbeats 1000000 in
theorem q_below {x y w : Int32} (hL : LI tI tZ tN tM b k kk dd t) : PAIR l D tI tZ tN tM b k kk dd t y_T_below (wy y_T_below b_T_below 5 (some .int)) (rm 2 0 0) y_R_below (wy y_R_below b_R_below 9 (some .int)) (rm 3 0 0) [.int x, .int y, .int w] := by
  obtain ⟨nc, lm, ms, F, op, oc, Sn, Sk, Sm, f0, f1, f2, f3, f4, f5, f6, f7, f8, f9, f10, f11, f12, f13, f14, f15, f16, f17, up, jr, wr, kp, ca, sd, hC, hR, hE⟩ := hL
  have hnc : nc ≤ 12 := hE.2.1.1.2
  have hn1 : 1 ≤ nc := hE.2.1.1.1
  refine ⟨_, c_T_below hC hnc, ⟨_, hC.1⟩, fun r k2 hp => ?_⟩
  obtain ⟨rfl, rfl⟩ := hp
  refine ⟨⟨_, hR.1⟩, _, c_R_below hR hnc hn1 hE.1.2.2 hE.1.2.1 (up_all hE) (kn_all hE) (jr_all hE), fun r2 k3 hq => ?_⟩
  obtain ⟨e, g13, g14, g15, g16, g17, hR3, hk3⟩ := hq
  refine ⟨e.trans ?_, _, _, _, _, _, _, _, _, _, _, _, _, _, _, _, _, _, _, _, _, _, _, _, _, _, _, _, _, _, _, _, _, _, hC.keep hk3, hR3, REL_t hE (by omega)⟩
  by_cases hx : isn nc x = true ∧ isn 33 y = true
  · rw [if_pos hx, if_pos hx, ← (SR_all hE hx.1).2.1]
    have hy : y.toNatClampNeg ≤ 32 := by
      obtain ⟨v, hv, rfl⟩ := isn_t (by omega) hx.2
      rw [nI_clamp (by omega)]
      omega
    rw [ans_below _ w hy]
    rfl
  · rw [if_neg hx, if_neg hx]
set_option maxHeartbeats 1000000 in
theorem q_quantile {x y : Int32} (hL : LI tI tZ tN tM b k kk dd t) : PAIR l D tI tZ tN tM b k kk dd t y_T_quantile (wy y_T_quantile b_T_quantile 4 (some .int)) (rm 2 0 0) y_R_quantile (wy y_R_quantile b_R_quantile 8 (some .int)) (rm 3 0 0) [.int x, .int y] := by
  obtain ⟨nc, lm, ms, F, op, oc, Sn, Sk, Sm, f0, f1, f2, f3, f4, f5, f6, f7, f8, f9, f10, f11, f12, f13, f14, f15, f16, f17, up, jr, wr, kp, ca, sd, hC, hR, hE⟩ := hL
  have hnc : nc ≤ 12 := hE.2.1.1.2
  have hn1 : 1 ≤ nc := hE.2.1.1.1
  refine ⟨_, c_T_quantile hC hnc, ⟨_, hC.1⟩, fun r k2 hp => ?_⟩
  obtain ⟨rfl, rfl⟩ := hp
  refine ⟨⟨_, hR.1⟩, _, c_R_quantile hR hnc hn1 hE.1.2.2 hE.1.2.1 (up_all hE) (kn_all hE) (jr_all hE), fun r2 k3 hq => ?_⟩
  obtain ⟨e, g13, g14, g15, g16, g17, hR3, hk3⟩ := hq
  refine ⟨e.trans ?_, _, _, _, _, _, _, _, _, _, _, _, _, _, _, _, _, _, _, _, _, _, _, _, _, _, _, _, _, _, _, _, _, _, hC.keep hk3, hR3, REL_t hE (by omega)⟩
  by_cases hx : isn nc x = true ∧ isn 1001 y = true
  · rw [if_pos hx, if_pos hx, ← (SR_all hE hx.1).2.1]
    rfl
  · rw [if_neg hx, if_neg hx]
end
