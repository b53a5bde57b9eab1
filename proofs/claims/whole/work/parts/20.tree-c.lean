/-! Contracts: the tree's changes -/
section
variable {tI tN tM : ClassId} {b N : Nat} {k k2 : Nat → va_E} {kk : Nat} {dv : Int32} {nc : Nat} {lm : Int32} {F : Cf} {op : Nat → Nat → Int32} {oc : Nat → Nat} {Sn Sk Sm : Nat → Sv}
theorem CW.put0 (h : CW tI tN tM b N k kk dv nc lm F op oc Sn Sk Sm) {j : Nat} {x : Int32} (hj : j < 12) (hk : k2 = va_up k (b + 3 + 14 * j) (oN j x (F 1 j) (oc j) (F 2 j) (F 3 j) (b + 3 + 14 * j))) : CW tI tN tM b N k2 kk dv nc lm (fU F 0 j x) op oc Sn Sk Sm := by
  have ⟨h0, ⟨g1, h1, e1⟩, ⟨g2, h2, e2⟩, h3, h4, h5, h6, h7, h8⟩ := h
  have hq : ∀ q, q ≠ (b + 3 + 14 * j) → k2 q = k q := fun q hq => by rw [hk]; exact up_ne hq
  refine h.node (j := j) hj ?_ ((h4 j hj).to (hq _ (by omega))) ((h5 j hj).to (fun q q1 q2 => hq _ (by omega))) ((h6 j hj).to (fun q q1 q2 => hq _ (by omega))) (fun q z => hq q (by omega)) (fun d i z => ?_) (fun _ _ => rfl) (fun _ _ => rfl) (fun _ _ => rfl) (fun _ _ => rfl)
  · rw [fU_eq, fU_c (d := 1) (by omega), fU_c (d := 2) (by omega), fU_c (d := 3) (by omega), hk]
    exact (h3 j hj).up
  · rcases z with z | z
    · exact fU_n z
    · exact fU_c (by omega)
theorem CW.put1 (h : CW tI tN tM b N k kk dv nc lm F op oc Sn Sk Sm) {j : Nat} {x : Int32} (hj : j < 12) (hk : k2 = va_up k (b + 3 + 14 * j) (oN j (F 0 j) x (oc j) (F 2 j) (F 3 j) (b + 3 + 14 * j))) : CW tI tN tM b N k2 kk dv nc lm (fU F 1 j x) op oc Sn Sk Sm := by
  have ⟨h0, ⟨g1, h1, e1⟩, ⟨g2, h2, e2⟩, h3, h4, h5, h6, h7, h8⟩ := h
  have hq : ∀ q, q ≠ (b + 3 + 14 * j) → k2 q = k q := fun q hq => by rw [hk]; exact up_ne hq
  refine h.node (j := j) hj ?_ ((h4 j hj).to (hq _ (by omega))) ((h5 j hj).to (fun q q1 q2 => hq _ (by omega))) ((h6 j hj).to (fun q q1 q2 => hq _ (by omega))) (fun q z => hq q (by omega)) (fun d i z => ?_) (fun _ _ => rfl) (fun _ _ => rfl) (fun _ _ => rfl) (fun _ _ => rfl)
  · rw [fU_c (d := 0) (by omega), fU_eq, fU_c (d := 2) (by omega), fU_c (d := 3) (by omega), hk]
    exact (h3 j hj).up
  · rcases z with z | z
    · exact fU_n z
    · exact fU_c (by omega)
theorem CW.put2 (h : CW tI tN tM b N k kk dv nc lm F op oc Sn Sk Sm) {j : Nat} {x : Int32} (hj : j < 12) (hk : k2 = va_up k (b + 3 + 14 * j) (oN j (F 0 j) (F 1 j) (oc j) x (F 3 j) (b + 3 + 14 * j))) : CW tI tN tM b N k2 kk dv nc lm (fU F 2 j x) op oc Sn Sk Sm := by
  have ⟨h0, ⟨g1, h1, e1⟩, ⟨g2, h2, e2⟩, h3, h4, h5, h6, h7, h8⟩ := h
  have hq : ∀ q, q ≠ (b + 3 + 14 * j) → k2 q = k q := fun q hq => by rw [hk]; exact up_ne hq
  refine h.node (j := j) hj ?_ ((h4 j hj).to (hq _ (by omega))) ((h5 j hj).to (fun q q1 q2 => hq _ (by omega))) ((h6 j hj).to (fun q q1 q2 => hq _ (by omega))) (fun q z => hq q (by omega)) (fun d i z => ?_) (fun _ _ => rfl) (fun _ _ => rfl) (fun _ _ => rfl) (fun _ _ => rfl)
  · rw [fU_c (d := 0) (by omega), fU_c (d := 1) (by omega), fU_eq, fU_c (d := 3) (by omega), hk]
    exact (h3 j hj).up
  · rcases z with z | z
    · exact fU_n z
    · exact fU_c (by omega)
theorem CW.put3 (h : CW tI tN tM b N k kk dv nc lm F op oc Sn Sk Sm) {j : Nat} {x : Int32} (hj : j < 12) (hk : k2 = va_up k (b + 3 + 14 * j) (oN j (F 0 j) (F 1 j) (oc j) (F 2 j) x (b + 3 + 14 * j))) : CW tI tN tM b N k2 kk dv nc lm (fU F 3 j x) op oc Sn Sk Sm := by
  have ⟨h0, ⟨g1, h1, e1⟩, ⟨g2, h2, e2⟩, h3, h4, h5, h6, h7, h8⟩ := h
  have hq : ∀ q, q ≠ (b + 3 + 14 * j) → k2 q = k q := fun q hq => by rw [hk]; exact up_ne hq
  refine h.node (j := j) hj ?_ ((h4 j hj).to (hq _ (by omega))) ((h5 j hj).to (fun q q1 q2 => hq _ (by omega))) ((h6 j hj).to (fun q q1 q2 => hq _ (by omega))) (fun q z => hq q (by omega)) (fun d i z => ?_) (fun _ _ => rfl) (fun _ _ => rfl) (fun _ _ => rfl) (fun _ _ => rfl)
  · rw [fU_c (d := 0) (by omega), fU_c (d := 1) (by omega), fU_c (d := 2) (by omega), fU_eq, hk]
    exact (h3 j hj).up
  · rcases z with z | z
    · exact fU_n z
    · exact fU_c (by omega)
theorem CW.putOc (h : CW tI tN tM b N k kk dv nc lm F op oc Sn Sk Sm) {j x : Nat} (hj : j < 12) (hk : k2 = va_up k (b + 3 + 14 * j) (oN j (F 0 j) (F 1 j) x (F 2 j) (F 3 j) (b + 3 + 14 * j))) : CW tI tN tM b N k2 kk dv nc lm F op (va_up oc j x) Sn Sk Sm := by
  have ⟨h0, ⟨g1, h1, e1⟩, ⟨g2, h2, e2⟩, h3, h4, h5, h6, h7, h8⟩ := h
  have hq : ∀ q, q ≠ (b + 3 + 14 * j) → k2 q = k q := fun q hq => by rw [hk]; exact up_ne hq
  refine h.node (j := j) hj ?_ ((h4 j hj).to (hq _ (by omega))) ((h5 j hj).to (fun q q1 q2 => hq _ (by omega))) ((h6 j hj).to (fun q q1 q2 => hq _ (by omega))) (fun q z => hq q (by omega)) (fun d i z => rfl) (fun _ _ => rfl) (fun i hi => up_ne hi) (fun _ _ => rfl) (fun _ _ => rfl)
  rw [up_eq, hk]
  exact (h3 j hj).up
theorem CW.put4 (h : CW tI tN tM b N k kk dv nc lm F op oc Sn Sk Sm) {p : Nat} {x : Int32} (hp : p < 12) (hk : k2 = va_up k (b + 171 + 7 * p) (oM x (F 5 p) (F 6 p) (b + 171 + 7 * p))) : CW tI tN tM b N k2 kk dv nc lm (fU F 4 p x) op oc Sn Sk Sm := by
  have ⟨h0, ⟨g1, h1, e1⟩, ⟨g2, h2, e2⟩, h3, h4, h5, h6, h7, h8⟩ := h
  have hq : ∀ q, q ≠ b + 171 + 7 * p → k2 q = k q := fun q hq => by rw [hk]; exact up_ne hq
  refine h.msg (p := p) hp ?_ ((h8 p hp).to (fun q q1 q2 => hq _ (by omega))) (fun q z => hq q (by omega)) (fun d i z => ?_) (fun _ _ => rfl)
  · rw [fU_eq, fU_c (d := 5) (by omega), fU_c (d := 6) (by omega), hk]
    exact (h7 p hp).up
  · rcases z with z | z
    · exact fU_n z
    · exact fU_c (by omega)
theorem CW.putT (h : CW tI tN tM b N k kk dv nc lm F op oc Sn Sk Sm) {nc2 : Nat} {lm2 : Int32} (hk : k2 = va_up k b (oT nc2 lm2 b)) : CW tI tN tM b N k2 kk dv nc2 lm2 F op oc Sn Sk Sm := by
  have h0 := h.1
  refine h.tree ?_ (fun q hq => by rw [hk]; exact up_ne hq)
  rw [hk]
  exact h0.up
/-- the summary of a node; what its parent keeps; a message -/
theorem CW.setSn (h : CW tI tN tM b N k kk dv nc lm F op oc Sn Sk Sm) {j : Nat} {v : Sv} (hj : j < 12) (hs : isS tI b N k2 kk dv ((b + 3 + 14 * j) + 2) v) (hf : frm k k2 ((b + 3 + 14 * j) + 2) 6) : CW tI tN tM b N k2 kk dv nc lm F op oc (va_up Sn j v) Sk Sm := by
  have ⟨h0, ⟨g1, h1, e1⟩, ⟨g2, h2, e2⟩, h3, h4, h5, h6, h7, h8⟩ := h
  refine h.node (j := j) hj ((h3 j hj).to (hf _ (by omega))) ((h4 j hj).to (hf _ (by omega))) ?_ ((h6 j hj).to (fun q q1 q2 => hf _ (by omega))) (fun q z => hf q (by omega)) (fun d i z => rfl) (fun _ _ => rfl) (fun _ _ => rfl) (fun i hi => up_ne hi) (fun _ _ => rfl)
  rw [up_eq]
  exact hs
theorem CW.setSk (h : CW tI tN tM b N k kk dv nc lm F op oc Sn Sk Sm) {j : Nat} {v : Sv} (hj : j < 12) (hs : isS tI b N k2 kk dv ((b + 3 + 14 * j) + 8) v) (hf : frm k k2 ((b + 3 + 14 * j) + 8) 6) : CW tI tN tM b N k2 kk dv nc lm F op oc Sn (va_up Sk j v) Sm := by
  have ⟨h0, ⟨g1, h1, e1⟩, ⟨g2, h2, e2⟩, h3, h4, h5, h6, h7, h8⟩ := h
  refine h.node (j := j) hj ((h3 j hj).to (hf _ (by omega))) ((h4 j hj).to (hf _ (by omega))) ((h5 j hj).to (fun q q1 q2 => hf _ (by omega))) ?_ (fun q z => hf q (by omega)) (fun d i z => rfl) (fun _ _ => rfl) (fun _ _ => rfl) (fun _ _ => rfl) (fun i hi => up_ne hi)
  rw [up_eq]
  exact hs
theorem CW.setM (h : CW tI tN tM b N k kk dv nc lm F op oc Sn Sk Sm) {p : Nat} {x y z : Int32} {v : Sv} (hp : p < 12) (he : zc b N k2 (b + 171 + 7 * p) (oM x y z (b + 171 + 7 * p))) (hs : isS tI b N k2 kk dv (b + 171 + 7 * p + 1) v) (hf : frm k k2 (b + 171 + 7 * p) 7) : CW tI tN tM b N k2 kk dv nc lm (fU (fU (fU F 4 p x) 5 p y) 6 p z) op oc Sn Sk (va_up Sm p v) := by
  refine h.msg (p := p) hp ?_ ?_ hf (fun d i w => ?_) (fun i hi => up_ne hi)
  · rw [fU_c (d := 4) (by omega), fU_c (d := 4) (by omega), fU_eq, fU_c (d := 5) (by omega), fU_eq, fU_eq]
    exact he
  · rw [up_eq]
    exact hs
  · rcases w with w | w
    · rw [fU_n w, fU_n w, fU_n w]
    · rw [fU_c (by omega), fU_c (by omega), fU_c (by omega)]
end
def fgt (F : Cf) (x : Int32) : Nat → Cf
  | 0 => F
  | c + 1 => if F 0 (c + 1) = x then fU (fgt F x c) 3 (c + 1) 0 else fgt F x c
theorem fgt_c (F : Cf) (x : Int32) {d : Nat} (hd : d ≠ 3) (i : Nat) : ∀ c, fgt F x c d i = F d i
  | 0 => rfl
  | c + 1 => by
    simp only [fgt]
    split
    · rw [fU_c hd]
      exact fgt_c F x hd i c
    · exact fgt_c F x hd i c
def mks (kk : Nat) (dv : Int32) (F : Cf) (Sk : Nat → Sv) (x : Int32) (v : Sv) : Nat → Sv
  | 0 => v
  | c + 1 => if F 0 (c + 1) = x ∧ 0 < F 3 (c + 1) ∧ 0 < (Sk (c + 1)).1 then mgS kk dv (mks kk dv F Sk x v c) (Sk (c + 1)) else mks kk dv F Sk x v c
theorem nS_clS (v : Sv) : nS (clS v) := ⟨fun _ _ => rfl, fun _ _ => rfl, fun _ _ => rfl⟩
theorem nS_mgS {kk : Nat} {dv : Int32} {v w : Sv} (h : nS v) (g : nS w) : nS (mgS kk dv v w) := by
  obtain ⟨h1, h2, h3⟩ := h
  obtain ⟨g1, g2, g3⟩ := g
  refine ⟨fun i hi => ad_z (h1 i hi) (g1 i hi), mgC_z h2 g2, fun i hi => ?_⟩
  show cpr _ _ _ i = 0
  rw [cpr_out (Or.inr hi)]
  exact ad_z (h3 i hi) (g3 i hi)
theorem nS_tkS {kk x lf : Nat} {dv : Int32} {v : Sv} (h : nS v) (hx : x < 32) (hl : lf < 12) : nS (tkS kk dv v x lf) := by
  obtain ⟨h1, h2, h3⟩ := h
  refine ⟨fun i hi => ?_, tkC_z hx h2, fun i hi => ?_⟩
  · show upd _ _ _ i = 0
    rw [upd_ne (by omega)]
    exact h1 i hi
  · show cpr _ _ _ i = 0
    rw [cpr_out (Or.inr hi), upd_ne (by omega)]
    exact h3 i hi
theorem nS_mks {kk : Nat} {dv x : Int32} {F : Cf} {Sk : Nat → Sv} {v : Sv} (h : nS v) : ∀ c, (∀ j, j ≤ c → nS (Sk j)) → nS (mks kk dv F Sk x v c)
  | 0, _ => h
  | c + 1, hk => by
    simp only [mks]
    split
    · exact nS_mgS (nS_mks h c (fun j hj => hk j (by omega))) (hk _ (by omega))
    · exact nS_mks h c (fun j hj => hk j (by omega))
section
variable {l : Launch} {D : va_G} {tI tZ tN tM : ClassId} {b N : Nat} {k : Nat → va_E}
set_option maxHeartbeats 4000000 in
set_option maxRecDepth 100000 in
/-- T_attach -/
theorem c_T_attach {kk nc : Nat} {dv lm : Int32} {F : Cf} {op : Nat → Nat → Int32} {oc : Nat → Nat} {Sn Sk Sm : Nat → Sv} {x y : Int32} (hC : CW tI tN tM b N k kk dv nc lm F op oc Sn Sk Sm) (hnc : nc ≤ 12) (hy : y = 0 ∨ y = 1) : Met l y_T_attach (wy y_T_attach b_T_attach 4 (some .int)) (rm 1 0 0) (zPc D (tyl tI tZ tN tM) b N k [.ref b, .int x, .int y]) (zQi D b N (fun z k2 => (isn nc x = true ∧ F 1 x.toNatClampNeg = 0 ∧ nc < 12 → z = nI nc ∧ CW tI tN tM b N k2 kk dv (nc + 1) lm (fU (fU F 0 nc x) 1 nc y) op oc Sn Sk Sm ∧ ∀ q, b + 255 ≤ q → k2 q = k q) ∧ (¬ (isn nc x = true ∧ F 1 x.toNatClampNeg = 0 ∧ nc < 12) → z = -1 ∧ k2 = k))) 0 0 (zA b) := by
  refine z_met (own := R_T) (by decide) rfl rfl (Nat.le_of_ble_eq_true rfl) [some (.ref b), some (.int x), some (.int y), none] rfl ?_
  intro p e s m args below meth c X hin
  have ⟨h0, ⟨g1, h1, e1⟩, ⟨g2, h2, e2⟩, h3, h4, h5, h6, h7, h8⟩ := hC
  refine z_aload_n X d_T_attach_0 rfl ?_
  refine z_iload_n X d_T_attach_1 rfl ?_
  refine z_callVi X (c_T_isNode hC hnc) h0 rfl (cwV 1 X.1.2.2.2.2 (gi_V lm_T_43 vi_T_isNode ve_T_isNode vn_T vc_T_isNode) rfl rfl rfl (by decide +kernel) ⟨Nat.le_of_ble_eq_true rfl, Nat.le_of_ble_eq_true rfl⟩) (As := [.int x]) (st := []) rfl rfl (Nat.le_of_ble_eq_true rfl) d_T_attach_2 ⟨Nat.le_of_ble_eq_true rfl, Nat.le_of_ble_eq_true rfl⟩ (fun z k2 hq => ?_)
  obtain ⟨rfl, hk9⟩ := hq
  have hk9 := hk9.symm
  subst hk9
  cases hx : isn nc x
  · skip
    refine z_if_eqN X d_T_attach_5 (tgt := 29) (by decide) (by decide) (fun _ => ?_) (fun h => absurd h (by decide))
    refine z_iconst X d_T_attach_29 (v := -1) (by decide +kernel) ?_
    exact z_iret X d_T_attach_30 (by omega) (by omega) (⟨fun q => absurd q (by simp), fun _ => ⟨rfl, rfl⟩⟩)
  · skip
    refine z_if_eqN X d_T_attach_5 (tgt := 29) (by decide) (by decide) (fun h => absurd h (by decide)) (fun _ => ?_)
    obtain ⟨j, hj, rfl⟩ := isn_t (by omega) hx
    refine z_lv (lv2 := [some (.ref b), some (.int (nI j)), some (.int y), none]) (fun _ _ q => q) ?_
    rw [nI_clamp (by omega)]
    refine z_aload_n X d_T_attach_8 rfl ?_
    refine z_get X h0 rfl in_T 0 (by decide) (wq lf_T_11) rfl d_T_attach_9 ?_
    refine z_iload_n X d_T_attach_12 rfl ?_
    refine z_aald X h1 2 rfl (j := j) (v := b + 3 + 14 * j) rfl (by omega) (by omega) (e1 _ (by omega)) d_T_attach_13 ?_
    refine z_get X (h3 j (by omega)) rfl in_N 2 (by decide) (wq lf_T_47) rfl d_T_attach_14 ?_
    refine z_if_ne X d_T_attach_17 (tgt := 29) (by decide) (fun hB => ?_) (fun hB => ?_)
    · skip
      refine z_iconst X d_T_attach_29 (v := -1) (by decide +kernel) ?_
      exact z_iret X d_T_attach_30 (by omega) (by omega) (⟨fun q => absurd q (fun q => hB q.2.1), fun _ => ⟨rfl, rfl⟩⟩)
    · skip
      refine z_aload_n X d_T_attach_20 rfl ?_
      refine z_get X h0 rfl in_T 1 (by decide) (wq lf_T_15) rfl d_T_attach_21 ?_
      refine z_bipush X d_T_attach_24 (v := nI 12) (by decide +kernel) ?_
      refine z_icmp_ltN X d_T_attach_26 (tgt := 31) (by decide) (by omega) (by omega) (fun hD => ?_) (fun hD => ?_)
      · skip
        have hfr : ∀ q, b + 255 ≤ q → k q = k q := fun _ _ => rfl
        refine z_aload_n X d_T_attach_31 rfl ?_
        refine z_get X h0 rfl in_T 1 (by decide) (wq lf_T_15) rfl d_T_attach_32 ?_
        refine z_istore_n X d_T_attach_35 (by decide) rfl ?_
        refine z_lv (lv2 := [some (.ref b), some (.int (nI j)), some (.int y), some (.int (nI nc))]) (fun _ _ q => q) ?_
        refine z_aload_n X d_T_attach_36 rfl ?_
        refine z_get X h0 rfl in_T 0 (by decide) (wq lf_T_11) rfl d_T_attach_37 ?_
        refine z_iload_n X d_T_attach_40 rfl ?_
        refine z_aald X h1 2 rfl (j := nc) (v := b + 3 + 14 * nc) rfl (by omega) (by omega) (e1 _ (by omega)) d_T_attach_41 ?_
        refine z_iload_n X d_T_attach_42 rfl ?_
        refine z_put X (h3 nc (by omega)) rfl in_N ty_N_ok n_N 1 (by decide) (wq lf_T_51) rfl rfl rfl (Nat.le_of_ble_eq_true rfl) d_T_attach_43 ?_
        refine z_named (fun k_1 hk9 => ?_)
        have hC := hC.put0 (j := nc) (x := nI j) hD hk9
        have hfr : ∀ q, b + 255 ≤ q → k_1 q = k q := fun q hq => by rw [hk9]; exact (up_ne (by omega)).trans (hfr q hq)
        clear hk9
        have ⟨h0, ⟨g1, h1, e1⟩, ⟨g2, h2, e2⟩, h3, h4, h5, h6, h7, h8⟩ := hC
        refine z_aload_n X d_T_attach_46 rfl ?_
        refine z_get X h0 rfl in_T 0 (by decide) (wq lf_T_11) rfl d_T_attach_47 ?_
        refine z_iload_n X d_T_attach_50 rfl ?_
        refine z_aald X h1 2 rfl (j := nc) (v := b + 3 + 14 * nc) rfl (by omega) (by omega) (e1 _ (by omega)) d_T_attach_51 ?_
        refine z_iload_n X d_T_attach_52 rfl ?_
        refine z_put X (h3 nc (by omega)) rfl in_N ty_N_ok n_N 2 (by decide) (wq lf_T_47) rfl (by rcases hy with rfl | rfl <;> decide +kernel) (by rcases hy with rfl | rfl <;> decide +kernel) (Nat.le_of_ble_eq_true rfl) d_T_attach_53 ?_
        refine z_named (fun k_2 hk9 => ?_)
        have hC := hC.put1 (j := nc) (x := y) hD hk9
        have hfr : ∀ q, b + 255 ≤ q → k_2 q = k q := fun q hq => by rw [hk9]; exact (up_ne (by omega)).trans (hfr q hq)
        clear hk9
        have ⟨h0, ⟨g1, h1, e1⟩, ⟨g2, h2, e2⟩, h3, h4, h5, h6, h7, h8⟩ := hC
        refine z_aload_n X d_T_attach_56 rfl ?_
        refine z_dup X d_T_attach_57 rfl ?_
        refine z_get X h0 rfl in_T 1 (by decide) (wq lf_T_15) rfl d_T_attach_58 ?_
        refine z_iconst X d_T_attach_61 (v := nI 1) (by decide +kernel) ?_
        refine z_iaddN X d_T_attach_62 ?_
        refine z_put X h0 rfl in_T ty_T_ok n_T 1 (by decide) (wq lf_T_15) rfl rfl rfl (Nat.le_of_ble_eq_true rfl) d_T_attach_63 ?_
        refine z_named (fun k_3 hk9 => ?_)
        have hC := hC.putT (nc2 := nc + 1) (lm2 := lm) hk9
        have hfr : ∀ q, b + 255 ≤ q → k_3 q = k q := fun q hq => by rw [hk9]; exact (up_ne (by omega)).trans (hfr q hq)
        clear hk9
        have ⟨h0, ⟨g1, h1, e1⟩, ⟨g2, h2, e2⟩, h3, h4, h5, h6, h7, h8⟩ := hC
        refine z_iload_n X d_T_attach_66 rfl ?_
        exact z_iret X d_T_attach_67 (by omega) (by omega) (⟨fun _ => ⟨rfl, hC, hfr⟩, fun q => absurd ⟨rfl, hB, hD⟩ q⟩)
      · skip
        refine z_iconst X d_T_attach_29 (v := -1) (by decide +kernel) ?_
        exact z_iret X d_T_attach_30 (by omega) (by omega) (⟨fun q => absurd q (by omega), fun _ => ⟨rfl, rfl⟩⟩)
set_option maxHeartbeats 4000000 in
set_option maxRecDepth 100000 in
/-- T_add -/
theorem c_T_add {kk nc : Nat} {dv lm : Int32} {F : Cf} {op : Nat → Nat → Int32} {oc : Nat → Nat} {Sn Sk Sm : Nat → Sv} {x y : Int32} {ov : Nat → Nat → Nat} (hC : CW tI tN tM b N k kk dv nc lm F op oc Sn Sk Sm) (hnc : nc ≤ 12) (hoc : ∀ j, j < 12 → oc j < 4) (hov : ∀ j, j < 12 → ∀ i, i < oc j → op j i = nI (ov j i) ∧ ov j i < 32) (hk1 : 1 ≤ kk) (hk6 : kk ≤ 6) (hd : ¬ dv = 0)  : Met l y_T_add (wy y_T_add b_T_add 3 (some .boolean)) (rm 6 0 0) (zPc D (tyl tI tZ tN tM) b N k [.ref b, .int x, .int y]) (zQi D b N (fun z k2 => (isl nc (F 1) x = true ∧ isn 32 y = true ∧ (Sn x.toNatClampNeg).1 + nI (oc x.toNatClampNeg) < nI 48 → z = 1 ∧ CW tI tN tM b N k2 kk dv nc lm F (va_up op x.toNatClampNeg (upd (op x.toNatClampNeg) (oc x.toNatClampNeg) y)) (va_up oc x.toNatClampNeg (if oc x.toNatClampNeg = 3 then 0 else oc x.toNatClampNeg + 1)) (va_up Sn x.toNatClampNeg (if oc x.toNatClampNeg = 3 then tkSs kk dv (Sn x.toNatClampNeg) (va_up (ov x.toNatClampNeg) (oc x.toNatClampNeg) y.toNatClampNeg) x.toNatClampNeg 4 else Sn x.toNatClampNeg)) Sk Sm ∧ ∀ q, b + 255 ≤ q → k2 q = k q) ∧ (¬ (isl nc (F 1) x = true ∧ isn 32 y = true ∧ (Sn x.toNatClampNeg).1 + nI (oc x.toNatClampNeg) < nI 48) → z = 0 ∧ k2 = k))) 0 0 (zA b) := by
  refine z_met (own := R_T) (by decide) rfl rfl (Nat.le_of_ble_eq_true rfl) [some (.ref b), some (.int x), some (.int y)] rfl ?_
  intro p e s m args below meth c X hin
  have ⟨h0, ⟨g1, h1, e1⟩, ⟨g2, h2, e2⟩, h3, h4, h5, h6, h7, h8⟩ := hC
  refine z_aload_n X d_T_add_0 rfl ?_
  refine z_iload_n X d_T_add_1 rfl ?_
  refine z_callVi X (c_T_isLeaf hC hnc) h0 rfl (cwV 1 X.1.2.2.2.2 (gi_V lm_T_54 vi_T_isLeaf ve_T_isLeaf vn_T vc_T_isLeaf) rfl rfl rfl (by decide +kernel) ⟨Nat.le_of_ble_eq_true rfl, Nat.le_of_ble_eq_true rfl⟩) (As := [.int x]) (st := []) rfl rfl (Nat.le_of_ble_eq_true rfl) d_T_add_2 ⟨Nat.le_of_ble_eq_true rfl, Nat.le_of_ble_eq_true rfl⟩ (fun z k2 hq => ?_)
  obtain ⟨rfl, hk9⟩ := hq
  have hk9 := hk9.symm
  subst hk9
  cases hx : isl nc (F 1) x
  · skip
    refine z_if_eqN X d_T_add_5 (tgt := 29) (by decide) (by decide) (fun _ => ?_) (fun h => absurd h (by decide))
    refine z_iconst X d_T_add_29 (v := nI 0) (by decide +kernel) ?_
    exact z_zret X d_T_add_30 (by decide) (by omega) (by omega) (⟨fun q => absurd q (by simp), fun _ => ⟨rfl, rfl⟩⟩)
  · skip
    refine z_if_eqN X d_T_add_5 (tgt := 29) (by decide) (by decide) (fun h => absurd h (by decide)) (fun _ => ?_)
    have hy2 : isn nc x = true := by cases hz : isn nc x with | true => rfl | false => rw [isl, hz] at hx; simp at hx
    obtain ⟨j, hj, rfl⟩ := isn_t (by omega) hy2
    refine z_lv (lv2 := [some (.ref b), some (.int (nI j)), some (.int y)]) (fun _ _ q => q) ?_
    rw [nI_clamp (n := j) (by omega)]
    refine z_iload_n X d_T_add_8 rfl ?_
    refine z_callSi X (a := 0) (c_T_isValue) (cwS 1 X.1.2.2.2.2 (gi_S lm_T_57 vs_T_isValue vn_T vc_T_isValue) rfl rfl rfl (by decide +kernel) ⟨Nat.le_of_ble_eq_true rfl, Nat.le_of_ble_eq_true rfl⟩) (As := [.int y]) (st := []) rfl rfl (Nat.le_of_ble_eq_true rfl) d_T_add_9 ⟨Nat.le_of_ble_eq_true rfl, Nat.le_of_ble_eq_true rfl⟩ (fun z k2 hq => ?_)
    obtain ⟨rfl, hk9⟩ := hq
    have hk9 := hk9.symm
    subst hk9
    cases hy : isn 32 y
    · skip
      refine z_if_eqN X d_T_add_12 (tgt := 29) (by decide) (by decide) (fun _ => ?_) (fun h => absurd h (by decide))
      refine z_iconst X d_T_add_29 (v := nI 0) (by decide +kernel) ?_
      exact z_zret X d_T_add_30 (by decide) (by omega) (by omega) (⟨fun q => absurd q (by simp), fun _ => ⟨rfl, rfl⟩⟩)
    · skip
      refine z_if_eqN X d_T_add_12 (tgt := 29) (by decide) (by decide) (fun h => absurd h (by decide)) (fun _ => ?_)
      obtain ⟨v, hv, rfl⟩ := isn_t (by omega) hy
      refine z_lv (lv2 := [some (.ref b), some (.int (nI j)), some (.int (nI v))]) (fun _ _ q => q) ?_
      rw [nI_clamp (n := v) (by omega)]
      refine z_aload_n X d_T_add_15 rfl ?_
      refine z_get X h0 rfl in_T 0 (by decide) (wq lf_T_11) rfl d_T_add_16 ?_
      refine z_iload_n X d_T_add_19 rfl ?_
      refine z_aald X h1 2 rfl (j := j) (v := b + 3 + 14 * j) rfl (by omega) (by omega) (e1 _ (by omega)) d_T_add_20 ?_
      refine z_callVi X (c_N_itemCount (h3 j (by omega)) (h5 j (by omega))) (h3 j (by omega)) rfl (cwV 0 X.1.2.2.2.2 (gi_V lm_T_60 vi_N_itemCount ve_N_itemCount vn_N vc_N_itemCount) rfl rfl rfl (by decide +kernel) ⟨Nat.le_of_ble_eq_true rfl, Nat.le_of_ble_eq_true rfl⟩) (As := []) (st := []) rfl rfl (Nat.le_of_ble_eq_true rfl) d_T_add_21 ⟨Nat.le_of_ble_eq_true rfl, Nat.le_of_ble_eq_true rfl⟩ (fun z k2 hq => ?_)
      obtain ⟨rfl, hk9⟩ := hq
      have hk9 := hk9.symm
      subst hk9
      refine z_bipush X d_T_add_24 (v := nI 48) (by decide +kernel) ?_
      refine z_icmp_lt X d_T_add_26 (tgt := 31) (by decide) (fun hD => ?_) (fun hD => ?_)
      · skip
        refine z_aload_n X d_T_add_31 rfl ?_
        refine z_get X h0 rfl in_T 0 (by decide) (wq lf_T_11) rfl d_T_add_32 ?_
        refine z_iload_n X d_T_add_35 rfl ?_
        refine z_aald X h1 2 rfl (j := j) (v := b + 3 + 14 * j) rfl (by omega) (by omega) (e1 _ (by omega)) d_T_add_36 ?_
        refine z_iload_n X d_T_add_37 rfl ?_
        refine z_callVv X (c_N_putIntoOpenBlock (ov := ov j) (h3 j (by omega)) (h4 j (by omega)) (h5 j (by omega)) (by omega) (hoc j (by omega)) (hov j (by omega)) hk1 hk6 hd hv) (h3 j (by omega)) rfl (cwV 1 X.1.2.2.2.2 (gi_V lm_T_64 vi_N_putIntoOpenBlock ve_N_putIntoOpenBlock vn_N vc_N_putIntoOpenBlock) rfl rfl rfl (by decide +kernel) ⟨Nat.le_of_ble_eq_true rfl, Nat.le_of_ble_eq_true rfl⟩) (As := [.int (nI v)]) (st := []) rfl rfl (Nat.le_of_ble_eq_true rfl) d_T_add_38 ⟨Nat.le_of_ble_eq_true rfl, Nat.le_of_ble_eq_true rfl⟩ (fun k2 hq => ?_)
        obtain ⟨q0, q1, q2, q3⟩ := hq
        have hC2 := hC.node (j := j) (k2 := k2) (F2 := F) (op2 := va_up op j (upd (op j) (oc j) (nI v))) (oc2 := va_up oc j (if oc j = 3 then 0 else oc j + 1)) (Sn2 := va_up Sn j (if oc j = 3 then tkSs kk dv (Sn j) (va_up (ov j) (oc j) v) j 4 else Sn j)) (Sk2 := Sk) (by omega) (by rw [up_eq]; exact q0) (by rw [up_eq]; exact q1) (by rw [up_eq]; exact q2) ((h6 j (by omega)).to (fun q z1 z2 => q3 q (by omega) (by omega) (by omega))) (fun q z => q3 q (by omega) (by omega) (by omega)) (fun _ _ _ => rfl) (fun i hi => up_ne hi) (fun i hi => up_ne hi) (fun i hi => up_ne hi) (fun _ _ => rfl)
        refine z_iconst X d_T_add_41 (v := nI 1) (by decide +kernel) ?_
        exact z_zret X d_T_add_42 (by decide) (by omega) (by omega) (⟨fun _ => ⟨rfl, hC2, fun q hq => q3 q (by omega) (by omega) (by omega)⟩, fun q => absurd ⟨rfl, rfl, hD⟩ q⟩)
      · skip
        refine z_iconst X d_T_add_29 (v := nI 0) (by decide +kernel) ?_
        exact z_zret X d_T_add_30 (by decide) (by omega) (by omega) (⟨fun q => absurd q (fun q => hD q.2.2), fun _ => ⟨rfl, rfl⟩⟩)
set_option maxHeartbeats 4000000 in
set_option maxRecDepth 100000 in
/-- T_flush -/
theorem c_T_flush {kk nc : Nat} {dv lm : Int32} {F : Cf} {op : Nat → Nat → Int32} {oc : Nat → Nat} {Sn Sk Sm : Nat → Sv} {x : Int32} {ov : Nat → Nat → Nat} (hC : CW tI tN tM b N k kk dv nc lm F op oc Sn Sk Sm) (hnc : nc ≤ 12) (hoc : ∀ j, j < 12 → oc j < 4) (hov : ∀ j, j < 12 → ∀ i, i < oc j → op j i = nI (ov j i) ∧ ov j i < 32) (hk1 : 1 ≤ kk) (hk6 : kk ≤ 6) (hd : ¬ dv = 0)  : Met l y_T_flush (wy y_T_flush b_T_flush 2 (some .int)) (rm 5 0 0) (zPc D (tyl tI tZ tN tM) b N k [.ref b, .int x]) (zQi D b N (fun z k2 => (isl nc (F 1) x = true → z = nI (oc x.toNatClampNeg) ∧ CW tI tN tM b N k2 kk dv nc lm F op (va_up oc x.toNatClampNeg 0) (va_up Sn x.toNatClampNeg (tkSs kk dv (Sn x.toNatClampNeg) (ov x.toNatClampNeg) x.toNatClampNeg (oc x.toNatClampNeg))) Sk Sm ∧ ∀ q, b + 255 ≤ q → k2 q = k q) ∧ (¬ (isl nc (F 1) x = true) → z = -1 ∧ k2 = k))) 0 0 (zA b) := by
  refine z_met (own := R_T) (by decide) rfl rfl (Nat.le_of_ble_eq_true rfl) [some (.ref b), some (.int x)] rfl ?_
  intro p e s m args below meth c X hin
  have ⟨h0, ⟨g1, h1, e1⟩, ⟨g2, h2, e2⟩, h3, h4, h5, h6, h7, h8⟩ := hC
  refine z_aload_n X d_T_flush_0 rfl ?_
  refine z_iload_n X d_T_flush_1 rfl ?_
  refine z_callVi X (c_T_isLeaf hC hnc) h0 rfl (cwV 1 X.1.2.2.2.2 (gi_V lm_T_54 vi_T_isLeaf ve_T_isLeaf vn_T vc_T_isLeaf) rfl rfl rfl (by decide +kernel) ⟨Nat.le_of_ble_eq_true rfl, Nat.le_of_ble_eq_true rfl⟩) (As := [.int x]) (st := []) rfl rfl (Nat.le_of_ble_eq_true rfl) d_T_flush_2 ⟨Nat.le_of_ble_eq_true rfl, Nat.le_of_ble_eq_true rfl⟩ (fun z k2 hq => ?_)
  obtain ⟨rfl, hk9⟩ := hq
  have hk9 := hk9.symm
  subst hk9
  cases hx : isl nc (F 1) x
  · skip
    refine z_if_eqN X d_T_flush_5 (tgt := 20) (by decide) (by decide) (fun _ => ?_) (fun h => absurd h (by decide))
    refine z_iconst X d_T_flush_20 (v := -1) (by decide +kernel) ?_
    exact z_iret X d_T_flush_21 (by omega) (by omega) (⟨fun q => absurd q (by simp), fun _ => ⟨rfl, rfl⟩⟩)
  · skip
    refine z_if_eqN X d_T_flush_5 (tgt := 20) (by decide) (by decide) (fun h => absurd h (by decide)) (fun _ => ?_)
    have hy2 : isn nc x = true := by cases hz : isn nc x with | true => rfl | false => rw [isl, hz] at hx; simp at hx
    obtain ⟨j, hj, rfl⟩ := isn_t (by omega) hy2
    refine z_lv (lv2 := [some (.ref b), some (.int (nI j))]) (fun _ _ q => q) ?_
    rw [nI_clamp (n := j) (by omega)]
    refine z_aload_n X d_T_flush_8 rfl ?_
    refine z_get X h0 rfl in_T 0 (by decide) (wq lf_T_11) rfl d_T_flush_9 ?_
    refine z_iload_n X d_T_flush_12 rfl ?_
    refine z_aald X h1 2 rfl (j := j) (v := b + 3 + 14 * j) rfl (by omega) (by omega) (e1 _ (by omega)) d_T_flush_13 ?_
    have ho4 := hoc j (by omega)
    refine z_callVi X (c_N_writeOpenBlock (ov := ov j) (h3 j (by omega)) (h4 j (by omega)) (h5 j (by omega)) (by omega) (by omega) (hov j (by omega)) hk1 hk6 hd) (h3 j (by omega)) rfl (cwV 0 X.1.2.2.2.2 (gi_V lm_T_68 vi_N_writeOpenBlock ve_N_writeOpenBlock vn_N vc_N_writeOpenBlock) rfl rfl rfl (by decide +kernel) ⟨Nat.le_of_ble_eq_true rfl, Nat.le_of_ble_eq_true rfl⟩) (As := []) (st := []) rfl rfl (Nat.le_of_ble_eq_true rfl) d_T_flush_14 ⟨Nat.le_of_ble_eq_true rfl, Nat.le_of_ble_eq_true rfl⟩ (fun z k2 hq => ?_)
    obtain ⟨rfl, q0, q2, q3⟩ := hq
    have hC2 := hC.node (j := j) (k2 := k2) (F2 := F) (op2 := op) (oc2 := va_up oc j 0) (Sn2 := va_up Sn j (tkSs kk dv (Sn j) (ov j) j (oc j))) (Sk2 := Sk) (by omega) (by rw [up_eq]; exact q0) ((h4 j (by omega)).to (q3 _ (by omega) (by omega))) (by rw [up_eq]; exact q2) ((h6 j (by omega)).to (fun q z1 z2 => q3 q (by omega) (by omega))) (fun q z => q3 q (by omega) (by omega)) (fun _ _ _ => rfl) (fun _ _ => rfl) (fun i hi => up_ne hi) (fun i hi => up_ne hi) (fun _ _ => rfl)
    refine z_goto X d_T_flush_17 (tgt := 21) (by decide) ?_
    exact z_iret X d_T_flush_21 (by omega) (by omega) (⟨fun _ => ⟨rfl, hC2, fun q hq => q3 q (by omega) (by omega)⟩, fun q => absurd rfl q⟩)
set_option maxHeartbeats 4000000 in
set_option maxRecDepth 100000 in
/-- T_forgetChildren -/
theorem c_T_forgetChildren {kk nc : Nat} {dv lm : Int32} {F : Cf} {op : Nat → Nat → Int32} {oc : Nat → Nat} {Sn Sk Sm : Nat → Sv} {x : Int32} (hC : CW tI tN tM b N k kk dv nc lm F op oc Sn Sk Sm) (hnc : nc ≤ 12) (hn1 : 1 ≤ nc) : Met l y_T_forgetChildren (wy y_T_forgetChildren b_T_forgetChildren 3 none) (rm 0 0 0) (zPc D (tyl tI tZ tN tM) b N k [.ref b, .int x]) (zQv D b N (fun k2 => CW tI tN tM b N k2 kk dv nc lm (fgt F x (nc - 1)) op oc Sn Sk Sm ∧ ∀ q, b + 255 ≤ q → k2 q = k q)) 0 0 (zA b) := by
  refine z_met (own := R_T) (by decide) rfl rfl (Nat.le_of_ble_eq_true rfl) [some (.ref b), some (.int x), none] rfl ?_
  intro p e s m args below meth c X hin
  have ⟨h0, ⟨g1, h1, e1⟩, ⟨g2, h2, e2⟩, h3, h4, h5, h6, h7, h8⟩ := hC
  refine z_iconst X d_T_forgetChildren_0 (v := nI 1) (by decide +kernel) ?_
  refine z_istore_n X d_T_forgetChildren_1 (by decide) rfl ?_
  refine z_lv (lv2 := [some (.ref b), some (.int x), some (.int (nI 1))]) (fun _ _ q => q) ?_
  refine z_loop (σ := Nat → va_E) (K := fun _ k9 => k9) (LV := fun v _ => [some (.ref b), some (.int x), some (.int (nI (v + 1)))]) (I := fun v k9 => CW tI tN tM b N k9 kk dv nc lm (fgt F x v) op oc Sn Sk Sm ∧ ∀ q, b + 255 ≤ q → k9 q = k q) (nc - 1) 0 k (by omega) (⟨hC, fun _ _ => rfl⟩) (rfl) (rfl) ?_ ?_
  · intro k9 hI
    obtain ⟨hC, hfr⟩ := hI
    have ⟨h0, ⟨g1, h1, e1⟩, ⟨g2, h2, e2⟩, h3, h4, h5, h6, h7, h8⟩ := hC
    refine z_lv (lv2 := [some (.ref b), some (.int x), some (.int (nI (nc - 1 + 1)))]) (fun _ _ q => q) ?_
    refine z_iload_n X d_T_forgetChildren_2 rfl ?_
    refine z_aload_n X d_T_forgetChildren_3 rfl ?_
    refine z_get X h0 rfl in_T 1 (by decide) (wq lf_T_15) rfl d_T_forgetChildren_4 ?_
    refine z_icmp_geN X d_T_forgetChildren_7 (tgt := 39) (by decide) (by omega) (by omega) (fun _ => ?_) (fun h => absurd h (by omega))
    exact z_vret X d_T_forgetChildren_39 (by omega) (by omega) (⟨hC, hfr⟩)
  · intro v k9 hv hI ih
    obtain ⟨hC, hfr⟩ := hI
    have ⟨h0, ⟨g1, h1, e1⟩, ⟨g2, h2, e2⟩, h3, h4, h5, h6, h7, h8⟩ := hC
    refine z_lv (lv2 := [some (.ref b), some (.int x), some (.int (nI (v + 1)))]) (fun _ _ q => q) ?_
    refine z_iload_n X d_T_forgetChildren_2 rfl ?_
    refine z_aload_n X d_T_forgetChildren_3 rfl ?_
    refine z_get X h0 rfl in_T 1 (by decide) (wq lf_T_15) rfl d_T_forgetChildren_4 ?_
    refine z_icmp_geN X d_T_forgetChildren_7 (tgt := 39) (by decide) (by omega) (by omega) (fun h => absurd h (by omega)) (fun _ => ?_)
    refine z_aload_n X d_T_forgetChildren_10 rfl ?_
    refine z_get X h0 rfl in_T 0 (by decide) (wq lf_T_11) rfl d_T_forgetChildren_11 ?_
    refine z_iload_n X d_T_forgetChildren_14 rfl ?_
    refine z_aald X h1 2 rfl (j := v + 1) (v := b + 3 + 14 * (v + 1)) rfl (by omega) (by omega) (e1 _ (by omega)) d_T_forgetChildren_15 ?_
    refine z_get X (h3 (v + 1) (by omega)) rfl in_N 1 (by decide) (wq lf_T_51) rfl d_T_forgetChildren_16 ?_
    refine z_iload_n X d_T_forgetChildren_19 rfl ?_
    refine z_icmp_ne X d_T_forgetChildren_20 (tgt := 33) (by decide) (fun hA => ?_) (fun hA => ?_)
    · rw [fgt_c F x (by omega)] at hA
      refine z_iincU X d_T_forgetChildren_33 rfl (by decide) rfl ?_
      refine z_lv (lv2 := [some (.ref b), some (.int x), some (.int (nI (v + 1 + 1)))]) (fun _ _ q => q) ?_
      refine z_goto X d_T_forgetChildren_36 (tgt := 2) (by decide) ?_
      exact ih k9 ⟨by simp only [fgt]; rw [if_neg hA]; exact hC, hfr⟩
    · rw [fgt_c F x (by omega)] at hA
      refine z_aload_n X d_T_forgetChildren_23 rfl ?_
      refine z_get X h0 rfl in_T 0 (by decide) (wq lf_T_11) rfl d_T_forgetChildren_24 ?_
      refine z_iload_n X d_T_forgetChildren_27 rfl ?_
      refine z_aald X h1 2 rfl (j := v + 1) (v := b + 3 + 14 * (v + 1)) rfl (by omega) (by omega) (e1 _ (by omega)) d_T_forgetChildren_28 ?_
      refine z_iconst X d_T_forgetChildren_29 (v := nI 0) (by decide +kernel) ?_
      refine z_put X (h3 (v + 1) (by omega)) rfl in_N ty_N_ok n_N 8 (by decide) (wq lf_T_108) rfl rfl rfl (Nat.le_of_ble_eq_true rfl) d_T_forgetChildren_30 ?_
      refine z_named (fun k_1 hk9 => ?_)
      have hC := hC.put3 (j := v + 1) (x := 0) (by omega) hk9
      have hfr : ∀ q, b + 255 ≤ q → k_1 q = k q := fun q hq => by rw [hk9]; exact (up_ne (by omega)).trans (hfr q hq)
      clear hk9
      have ⟨h0, ⟨g1, h1, e1⟩, ⟨g2, h2, e2⟩, h3, h4, h5, h6, h7, h8⟩ := hC
      refine z_iincU X d_T_forgetChildren_33 rfl (by decide) rfl ?_
      refine z_lv (lv2 := [some (.ref b), some (.int x), some (.int (nI (v + 1 + 1)))]) (fun _ _ q => q) ?_
      refine z_goto X d_T_forgetChildren_36 (tgt := 2) (by decide) ?_
      exact ih k_1 ⟨by simp only [fgt]; rw [if_pos hA]; exact hC, hfr⟩
end
