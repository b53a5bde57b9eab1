/-! Contracts: the tree's constructor -/
section
variable {p : Program} {l : Launch} {e : Env} {R : Room} {s : State} {m : MethodId} {args : Array Value} {below : List Frame} {meth : Method} {c : Code} {cells slots : Nat} {Q : State → Prop}
variable {nL : Nat} {D : va_G} {b N : Nat} {k : Nat → va_E} {pc : Nat} {lv : List (Option Value)} {st : List Value}
/-- counting up, the world growing -/
theorem z_loopN {σ : Type} (NN CC SS : Nat → Nat) (K : Nat → σ → Nat → va_E) (LV : Nat → σ → List (Option Value)) (I : Nat → σ → Prop) (e2 i0 : Nat) (s0 : σ) (h0 : i0 ≤ e2) (hi : I i0 s0) (hN : N = NN i0) (hc : cells = CC i0) (hs0 : slots = SS i0) (hk : k = K i0 s0) (hlv : lv = LV i0 s0) (hx : ∀ s1, I e2 s1 → Z p l e R s m args below meth c nL D b (NN e2) (K e2 s1) (CC e2) (SS e2) Q pc (LV e2 s1) st) (hs : ∀ i s1, i < e2 → I i s1 → (∀ s2, I (i + 1) s2 → Z p l e R s m args below meth c nL D b (NN (i + 1)) (K (i + 1) s2) (CC (i + 1)) (SS (i + 1)) Q pc (LV (i + 1) s2) st) → Z p l e R s m args below meth c nL D b (NN i) (K i s1) (CC i) (SS i) Q pc (LV i s1) st) : Z p l e R s m args below meth c nL D b N k cells slots Q pc lv st := by
  subst hk
  subst hlv
  subst hN
  subst hc
  subst hs0
  exact z_up (P := fun i => ∀ s1, I i s1 → Z p l e R s m args below meth c nL D b (NN i) (K i s1) (CC i) (SS i) Q pc (LV i s1) st) e2 hx (fun i hi ih s1 h1 => hs i s1 hi h1 ih) i0 h0 s0 hi
end
def clk (lo hi : Nat) (x : Int32) : Int32 := if nI lo < (if x < nI hi then x else nI hi) then (if x < nI hi then x else nI hi) else nI lo
theorem clk_nat {lo hi : Nat} (h : lo ≤ hi) (hh : hi < 65536) (x : Int32) : ∃ q, lo ≤ q ∧ q ≤ hi ∧ clk lo hi x = nI q := by
  unfold clk
  by_cases h1 : x < nI hi
  · rw [if_pos h1]
    by_cases h2 : nI lo < x
    · rw [if_pos h2]
      rw [Int32.lt_iff_toInt_lt, nI_toInt (by omega)] at h1 h2
      have h3 : ¬ x < 0 := by rw [Int32.lt_iff_toInt_lt, Int32.toInt_zero]; omega
      obtain ⟨j, hj, rfl⟩ := nI_of h3
      rw [nI_toInt hj] at h1 h2
      exact ⟨j, by omega, by omega, rfl⟩
    · rw [if_neg h2]
      exact ⟨lo, by omega, h, rfl⟩
  · rw [if_neg h1]
    by_cases h2 : nI lo < nI hi
    · rw [if_pos h2]
      exact ⟨hi, h, by omega, rfl⟩
    · rw [if_neg h2]
      exact ⟨lo, by omega, h, rfl⟩
def F0_ : Cf := fun c _ => if c = 0 then -1 else 0
def isNd (tI : ClassId) (b N : Nat) (k : Nat → va_E) (kk : Nat) (dv : Int32) (j : Nat) : Prop := zc b N k (b + 3 + 14 * j) (oN j (-1) 0 0 0 0 (b + 3 + 14 * j)) ∧ zc b N k (b + 3 + 14 * j + 1) (aI tI 4 (fun _ => 0)) ∧ isS tI b N k kk dv (b + 3 + 14 * j + 2) eS ∧ isS tI b N k kk dv (b + 3 + 14 * j + 8) eS
def isMs (tI : ClassId) (b N : Nat) (k : Nat → va_E) (kk : Nat) (dv : Int32) (j : Nat) : Prop := zc b N k (b + 171 + 7 * j) (oM 0 0 0 (b + 171 + 7 * j)) ∧ isS tI b N k kk dv (b + 171 + 7 * j + 1) eS
theorem isNd.to {tI : ClassId} {b N N2 : Nat} {k k2 : Nat → va_E} {kk : Nat} {dv : Int32} {j : Nat} (h : isNd tI b N k kk dv j) (he : ∀ q, b + 3 + 14 * j ≤ q → q < b + 3 + 14 * j + 14 → k2 q = k q) (hN : N ≤ N2) : isNd tI b N2 k2 kk dv j := by
  obtain ⟨h0, h1, h2, h3⟩ := h
  exact ⟨(h0.to (he _ (by omega) (by omega))).more hN, (h1.to (he _ (by omega) (by omega))).more hN, (h2.to (fun q q1 q2 => he q (by omega) (by omega))).more hN, (h3.to (fun q q1 q2 => he q (by omega) (by omega))).more hN⟩
theorem isMs.to {tI : ClassId} {b N N2 : Nat} {k k2 : Nat → va_E} {kk : Nat} {dv : Int32} {j : Nat} (h : isMs tI b N k kk dv j) (he : ∀ q, b + 171 + 7 * j ≤ q → q < b + 171 + 7 * j + 7 → k2 q = k q) (hN : N ≤ N2) : isMs tI b N2 k2 kk dv j := by
  obtain ⟨h0, h1⟩ := h
  exact ⟨(h0.to (he _ (by omega) (by omega))).more hN, (h1.to (fun q q1 q2 => he q (by omega) (by omega))).more hN⟩
section
variable {p : Program} {l : Launch} {e : Env} {R : Room} {s : State} {m : MethodId} {args : Array Value} {below : List Frame} {meth : Method} {c : Code} {cells slots : Nat} {Q : State → Prop}
variable {nL : Nat} {D : va_G} {b N : Nat} {k : Nat → va_E} {pc : Nat} {lv : List (Option Value)} {st : List Value}
theorem z_N {N2 : Nat} (h : N = N2) (kk : Z p l e R s m args below meth c nL D b N2 k cells slots Q pc lv st) : Z p l e R s m args below meth c nL D b N k cells slots Q pc lv st := by subst h; exact kk
end
section
variable {l : Launch} {D : va_G} {tI tZ tN tM : ClassId} {b : Nat} {k : Nat → va_E}
set_option maxHeartbeats 4000000 in
set_option maxRecDepth 100000 in
/-- TelemetryTree(k, d) -/
theorem c_T_init {kk dd : Nat} {x y : Int32} (h0 : zc b 1 k b (.inr (5, [.null, .int 0, .null, .int 0]))) (hkk : clk 1 6 x = nI kk) (hdd : clk 2 16 y = nI dd) : Met l y_T_init (wy y_T_init b_T_init 6 none) (rm 4 254 4512) (zPc D (tyl tI tZ tN tM) b 1 k [.ref b, .int x, .int y]) (zQv D b 255 (fun k2 => CW tI tN tM b 255 k2 kk (nI dd) 1 0 F0_ (fun _ _ => 0) (fun _ => 0) (fun _ => eS) (fun _ => eS) (fun _ => eS))) 254 4512 (zA b) := by
  refine z_met (own := R_T) (by decide) rfl rfl (Nat.le_of_ble_eq_true rfl) [some (.ref b), some (.int x), some (.int y), none, none, none] rfl ?_
  intro p e s m args below meth c X hin
  refine z_aload_n X d_T_init_0 rfl ?_
  refine z_objInit X (wq lm_T_1) (wq vi_O) (wq vc_O) d_T_init_1 (Nat.le_of_ble_eq_true rfl) (Nat.le_of_ble_eq_true rfl) ?_
  refine z_aload_n X d_T_init_4 rfl ?_
  refine z_bipush X d_T_init_5 (v := nI 12) (by decide +kernel) ?_
  refine z_newq X (cA := tN) (wq lc_T_9) (zn_N X.2.2.2.2.2) 2 rfl (n := 12) rfl (by decide) (Nat.le_of_ble_eq_true rfl) (Nat.le_of_ble_eq_true rfl) d_T_init_7 ?_
  refine z_named (fun k_1 hk9 => ?_)
  have h0 := (h0.to (k2 := k_1) (by rw [hk9]; exact up_ne (by omega))).more (N2 := 1 + 1) (by omega)
  have h1 : zc b (1 + 1) k_1 (b + (1)) (aQ tN 12 (fun _ => none)) := by rw [hk9]; exact ⟨by omega, by omega, up_eq⟩
  clear hk9
  refine z_putF X h0 rfl in_T ty_T_ok n_T 0 (by decide) (wq lf_T_11) rfl hin rfl rfl rfl (Nat.le_of_ble_eq_true rfl) d_T_init_10 ?_
  refine z_named (fun k_2 hk9 => ?_)
  have h1 := (h1.to (k2 := k_2) (by rw [hk9]; exact up_ne (by omega)))
  have h0 : zc b (1 + 1) k_2 (b) (.inr (5, [.ref (b + (1)), .int 0, .null, .int 0])) := by rw [hk9]; exact ⟨by omega, by omega, up_eq⟩
  clear hk9
  refine z_aload_n X d_T_init_13 rfl ?_
  refine z_iconst X d_T_init_14 (v := nI 1) (by decide +kernel) ?_
  refine z_put X h0 rfl in_T ty_T_ok n_T 1 (by decide) (wq lf_T_15) rfl rfl rfl (Nat.le_of_ble_eq_true rfl) d_T_init_15 ?_
  refine z_named (fun k_3 hk9 => ?_)
  have h1 := (h1.to (k2 := k_3) (by rw [hk9]; exact up_ne (by omega)))
  have h0 : zc b (1 + 1) k_3 (b) (.inr (5, [.ref (b + (1)), .int (nI 1), .null, .int 0])) := by rw [hk9]; exact ⟨by omega, by omega, up_eq⟩
  clear hk9
  refine z_aload_n X d_T_init_18 rfl ?_
  refine z_bipush X d_T_init_19 (v := nI 12) (by decide +kernel) ?_
  refine z_newq X (cA := tM) (wq lc_T_19) (zn_M X.2.2.2.2.2) 3 rfl (n := 12) rfl (by decide) (Nat.le_of_ble_eq_true rfl) (Nat.le_of_ble_eq_true rfl) d_T_init_21 ?_
  refine z_named (fun k_4 hk9 => ?_)
  have h0 := (h0.to (k2 := k_4) (by rw [hk9]; exact up_ne (by omega))).more (N2 := 1 + 1 + 1) (by omega)
  have h1 := (h1.to (k2 := k_4) (by rw [hk9]; exact up_ne (by omega))).more (N2 := 1 + 1 + 1) (by omega)
  have h2 : zc b (1 + 1 + 1) k_4 (b + (1 + 1)) (aQ tM 12 (fun _ => none)) := by rw [hk9]; exact ⟨by omega, by omega, up_eq⟩
  clear hk9
  refine z_putF X h0 rfl in_T ty_T_ok n_T 2 (by decide) (wq lf_T_21) rfl hin rfl rfl rfl (Nat.le_of_ble_eq_true rfl) d_T_init_24 ?_
  refine z_named (fun k_5 hk9 => ?_)
  have h1 := (h1.to (k2 := k_5) (by rw [hk9]; exact up_ne (by omega)))
  have h2 := (h2.to (k2 := k_5) (by rw [hk9]; exact up_ne (by omega)))
  have h0 : zc b (1 + 1 + 1) k_5 (b) (.inr (5, [.ref (b + (1)), .int (nI 1), .ref (b + (1 + 1)), .int 0])) := by rw [hk9]; exact ⟨by omega, by omega, up_eq⟩
  clear hk9
  refine z_aload_n X d_T_init_27 rfl ?_
  refine z_iconst X d_T_init_28 (v := nI 0) (by decide +kernel) ?_
  refine z_put X h0 rfl in_T ty_T_ok n_T 3 (by decide) (wq lf_T_25) rfl rfl rfl (Nat.le_of_ble_eq_true rfl) d_T_init_29 ?_
  refine z_named (fun k_6 hk9 => ?_)
  have h1 := (h1.to (k2 := k_6) (by rw [hk9]; exact up_ne (by omega)))
  have h2 := (h2.to (k2 := k_6) (by rw [hk9]; exact up_ne (by omega)))
  have h0 : zc b (1 + 1 + 1) k_6 (b) (.inr (5, [.ref (b + (1)), .int (nI 1), .ref (b + (1 + 1)), .int (nI 0)])) := by rw [hk9]; exact ⟨by omega, by omega, up_eq⟩
  clear hk9
  refine z_iconst X d_T_init_32 (v := nI 1) (by decide +kernel) ?_
  refine z_bipush X d_T_init_33 (v := nI 6) (by decide +kernel) ?_
  refine z_iload_n X d_T_init_35 rfl ?_
  refine z_mmin X (wq lm_T_28) (wq vs_min) (wq vn_Math) (wq vc_min) d_T_init_36 (Nat.le_of_ble_eq_true rfl) (Nat.le_of_ble_eq_true rfl) (Nat.le_of_ble_eq_true rfl) (Nat.le_of_ble_eq_true rfl) ?_
  refine z_mmax X (wq lm_T_34) (wq vs_max) (wq vn_Math) (wq vc_max) d_T_init_39 (Nat.le_of_ble_eq_true rfl) (Nat.le_of_ble_eq_true rfl) (Nat.le_of_ble_eq_true rfl) (Nat.le_of_ble_eq_true rfl) ?_
  refine z_top (y := .int (nI kk)) (by rw [← hkk]; rfl) ?_
  refine z_istore_n X d_T_init_42 (by decide) rfl ?_
  refine z_lv (lv2 := [some (.ref b), some (.int x), some (.int y), some (.int (nI kk)), none, none]) (fun _ _ q => q) ?_
  refine z_iconst X d_T_init_43 (v := nI 2) (by decide +kernel) ?_
  refine z_bipush X d_T_init_44 (v := nI 16) (by decide +kernel) ?_
  refine z_iload_n X d_T_init_46 rfl ?_
  refine z_mmin X (wq lm_T_28) (wq vs_min) (wq vn_Math) (wq vc_min) d_T_init_47 (Nat.le_of_ble_eq_true rfl) (Nat.le_of_ble_eq_true rfl) (Nat.le_of_ble_eq_true rfl) (Nat.le_of_ble_eq_true rfl) ?_
  refine z_mmax X (wq lm_T_34) (wq vs_max) (wq vn_Math) (wq vc_max) d_T_init_50 (Nat.le_of_ble_eq_true rfl) (Nat.le_of_ble_eq_true rfl) (Nat.le_of_ble_eq_true rfl) (Nat.le_of_ble_eq_true rfl) ?_
  refine z_top (y := .int (nI dd)) (by rw [← hdd]; rfl) ?_
  refine z_istore X d_T_init_53 (by decide) rfl ?_
  refine z_lv (lv2 := [some (.ref b), some (.int x), some (.int y), some (.int (nI kk)), some (.int (nI dd)), none]) (fun _ _ q => q) ?_
  refine z_iconst X d_T_init_55 (v := nI 0) (by decide +kernel) ?_
  refine z_istore X d_T_init_56 (by decide) rfl ?_
  refine z_lv (lv2 := [some (.ref b), some (.int x), some (.int y), some (.int (nI kk)), some (.int (nI dd)), some (.int (nI 0))]) (fun _ _ q => q) ?_
  refine z_loopN (σ := Nat → va_E) (NN := fun v => 3 + 14 * v) (CC := fun v => 2 + 14 * v) (SS := fun v => 24 + 251 * v) (K := fun _ k9 => k9) (LV := fun v _ => [some (.ref b), some (.int x), some (.int y), some (.int (nI kk)), some (.int (nI dd)), some (.int (nI v))]) (I := fun v k9 => zc b (3 + 14 * v) k9 b (oT 1 0 b) ∧ (∃ g, zc b (3 + 14 * v) k9 (b + 1) (aQ tN 12 g) ∧ ∀ j, j < v → g j = some (b + 3 + 14 * j)) ∧ zc b (3 + 14 * v) k9 (b + 2) (aQ tM 12 (fun _ => none)) ∧ ∀ j, j < v → isNd tI b (3 + 14 * v) k9 kk (nI dd) j) 12 0 k_6 (by omega) ⟨h0, ⟨_, h1, fun j hj => by omega⟩, h2, fun j hj => by omega⟩ rfl rfl rfl rfl rfl ?_ ?_
  · intro k9 hI
    obtain ⟨h0, h1, h2, hn⟩ := hI
    refine z_lv (lv2 := [some (.ref b), some (.int x), some (.int y), some (.int (nI kk)), some (.int (nI dd)), some (.int (nI 12))]) (fun _ _ q => q) ?_
    refine z_iload X d_T_init_58 rfl ?_
    refine z_bipush X d_T_init_60 (v := nI 12) (by decide +kernel) ?_
    refine z_icmp_geN X d_T_init_62 (tgt := 90) (by decide) (by omega) (by omega) (fun _ => ?_) (fun h => absurd h (by omega))
    refine z_iconst X d_T_init_90 (v := nI 0) (by decide +kernel) ?_
    refine z_istore X d_T_init_91 (by decide) rfl ?_
    refine z_lv (lv2 := [some (.ref b), some (.int x), some (.int y), some (.int (nI kk)), some (.int (nI dd)), some (.int (nI 0))]) (fun _ _ q => q) ?_
    refine z_loopN (σ := Nat → va_E) (NN := fun v => 171 + 7 * v) (CC := fun v => 170 + 7 * v) (SS := fun v => 3036 + 123 * v) (K := fun _ k9 => k9) (LV := fun v _ => [some (.ref b), some (.int x), some (.int y), some (.int (nI kk)), some (.int (nI dd)), some (.int (nI v))]) (I := fun v k9 => zc b (171 + 7 * v) k9 b (oT 1 0 b) ∧ (∃ g, zc b (171 + 7 * v) k9 (b + 1) (aQ tN 12 g) ∧ ∀ j, j < 12 → g j = some (b + 3 + 14 * j)) ∧ (∃ g, zc b (171 + 7 * v) k9 (b + 2) (aQ tM 12 g) ∧ ∀ j, j < v → g j = some (b + 171 + 7 * j)) ∧ (∀ j, j < 12 → isNd tI b (171 + 7 * v) k9 kk (nI dd) j) ∧ ∀ j, j < v → isMs tI b (171 + 7 * v) k9 kk (nI dd) j) 12 0 k9 (by omega) ⟨h0, h1, ⟨_, h2, fun j hj => by omega⟩, hn, fun j hj => by omega⟩ rfl rfl rfl rfl rfl ?_ ?_
    · intro k8 hI
      obtain ⟨h0, h1, h2, hn, hm⟩ := hI
      refine z_lv (lv2 := [some (.ref b), some (.int x), some (.int y), some (.int (nI kk)), some (.int (nI dd)), some (.int (nI 12))]) (fun _ _ q => q) ?_
      refine z_iload X d_T_init_93 rfl ?_
      refine z_bipush X d_T_init_95 (v := nI 12) (by decide +kernel) ?_
      refine z_icmp_geN X d_T_init_97 (tgt := 123) (by decide) (by omega) (by omega) (fun _ => ?_) (fun h => absurd h (by omega))
      exact z_vret X d_T_init_123 (by omega) (by omega) (⟨h0, h1, h2, fun j hj => (hn j hj).1, fun j hj => (hn j hj).2.1, fun j hj => (hn j hj).2.2.1, fun j hj => (hn j hj).2.2.2, fun j hj => (hm j hj).1, fun j hj => (hm j hj).2⟩)
    · intro v k8 hv hI ih
      obtain ⟨h0, ⟨g1, h1, e1⟩, ⟨g2, h2, e2⟩, hn, hm⟩ := hI
      refine z_lv (lv2 := [some (.ref b), some (.int x), some (.int y), some (.int (nI kk)), some (.int (nI dd)), some (.int (nI v))]) (fun _ _ q => q) ?_
      refine z_iload X d_T_init_93 rfl ?_
      refine z_bipush X d_T_init_95 (v := nI 12) (by decide +kernel) ?_
      refine z_icmp_geN X d_T_init_97 (tgt := 123) (by decide) (by omega) (by omega) (fun h => absurd h (by omega)) (fun _ => ?_)
      refine z_aload_n X d_T_init_100 rfl ?_
      refine z_get X h0 rfl in_T 2 (by decide) (wq lf_T_21) rfl d_T_init_101 ?_
      refine z_iload X d_T_init_104 rfl ?_
      refine z_new X (ci := 2) (fs := [.int 0, .int 0, .int 0, .null]) rfl in_M ty_M_ok (wq lc_T_19) (wq vm_M) (wq vn_M) (fun j hj => by rcases (show j = 0 ∨ j = 1 ∨ j = 2 ∨ j = 3 by omega) with rfl | rfl | rfl | rfl <;> rfl) (show 170 + 7 * v + 1 ≤ 254 by omega) (show 3036 + 123 * v + 4 ≤ 4512 by omega) d_T_init_106 ?_
      refine z_named (fun k7 hk9 => ?_)
      have e0 : zc b (171 + 7 * v + 1) k7 (b + (171 + 7 * v)) (.inr (2, [.int 0, .int 0, .int 0, .null])) := by rw [hk9]; exact ⟨by omega, by omega, up_eq⟩
      have hf7 : ∀ q, q < b + (171 + 7 * v) → k7 q = k8 q := fun q hq => by rw [hk9]; exact up_ne (by omega)
      clear hk9
      refine z_dup X d_T_init_109 rfl ?_
      refine z_iload_n X d_T_init_110 rfl ?_
      refine z_iload X d_T_init_111 rfl ?_
      refine z_callIv X (rt := none) (c_M_init (N0 := 171 + 7 * v) e0) (cwI 2 X.1.2.2.2.2 (gi_wy vc_M_init) rfl rfl rfl (X.1.2.2.2.2 _ (wq vn_M)) (X.1.2.2.2.2 _ (wq lm_T_40)) (X.1.2.2.2.2 _ (wq vi_M_init)) rfl (by decide +kernel) ⟨Nat.le_of_ble_eq_true rfl, Nat.le_of_ble_eq_true rfl⟩) (As := [.int (nI kk), .int (nI dd)]) (st := [.ref (b + (171 + 7 * v)), .int (nI v), .ref (b + 2)]) rfl rfl (Nat.le_of_ble_eq_true rfl) d_T_init_113 ⟨show 170 + 7 * v + 1 + 6 ≤ 254 by omega, show 3036 + 123 * v + 4 + 119 ≤ 4512 by omega⟩ (fun k6 hq => ?_)
      obtain ⟨q0, q1, q4⟩ := hq
      have hf6 : ∀ q, q < b + (171 + 7 * v) → k6 q = k8 q := fun q hq => (q4 q hq).trans (hf7 q hq)
      have hA := (h2.to (hf6 _ (by omega))).more (N2 := 171 + 7 * v + 7) (by omega)
      refine z_aast X hA 3 rfl q0 rfl (j := v) rfl (by omega) (by omega) d_T_init_116 ?_
      refine z_named (fun k5 hk9 => ?_)
      have hA := hA.up (y := aQ tM 12 (va_up g2 v (some (b + (171 + 7 * v)))))
      rw [← hk9] at hA
      have hf5 : ∀ q, q ≠ b + 2 → k5 q = k6 q := fun q hq => by rw [hk9]; exact up_ne hq
      clear hk9
      refine z_iincU X d_T_init_117 rfl (by decide) rfl ?_
      refine z_lv (lv2 := [some (.ref b), some (.int x), some (.int y), some (.int (nI kk)), some (.int (nI dd)), some (.int (nI (v + 1)))]) (fun _ _ q => q) ?_
      refine z_goto X d_T_init_120 (tgt := 93) (by decide) ?_
      refine z_widen (mc := 170 + 7 * (v + 1)) (ms := 3036 + 123 * (v + 1)) (by omega) (by omega) ?_
      refine z_N (N2 := 171 + 7 * (v + 1)) (by omega) ?_
      have hk : ∀ q, q < b + (171 + 7 * v) → q ≠ b + 2 → k5 q = k8 q := fun q z1 z2 => (hf5 q z2).trans (hf6 q z1)
      have hnew : isMs tI b (171 + 7 * (v + 1)) k5 kk (nI dd) v := by
        unfold isMs
        rw [Nat.add_assoc b 171 (7 * v)]
        exact ⟨(q0.to (hf5 _ (by omega))).more (by omega), (q1.to (fun q z1 z2 => hf5 _ (by omega))).more (by omega)⟩
      exact ih k5 ⟨(h0.to (hk _ (by omega) (by omega))).more (by omega), ⟨g1, (h1.to (hk _ (by omega) (by omega))).more (by omega), e1⟩, ⟨va_up g2 v (some (b + (171 + 7 * v))), hA.more (by omega), fun j hj => by by_cases z : j = v; (subst z; rw [up_eq]; congr 1; omega); (rw [up_ne z]; exact e2 j (by omega))⟩, fun j hj => (hn j hj).to (fun q z1 z2 => hk q (by omega) (by omega)) (by omega), fun j hj => by by_cases z : j = v; (subst z; exact hnew); exact (hm j (by omega)).to (fun q z1 z2 => hk q (by omega) (by omega)) (by omega)⟩
  · intro v k8 hv hI ih
    obtain ⟨h0, ⟨g1, h1, e1⟩, h2, hn⟩ := hI
    refine z_lv (lv2 := [some (.ref b), some (.int x), some (.int y), some (.int (nI kk)), some (.int (nI dd)), some (.int (nI v))]) (fun _ _ q => q) ?_
    refine z_iload X d_T_init_58 rfl ?_
    refine z_bipush X d_T_init_60 (v := nI 12) (by decide +kernel) ?_
    refine z_icmp_geN X d_T_init_62 (tgt := 90) (by decide) (by omega) (by omega) (fun h => absurd h (by omega)) (fun _ => ?_)
    refine z_aload_n X d_T_init_65 rfl ?_
    refine z_get X h0 rfl in_T 0 (by decide) (wq lf_T_11) rfl d_T_init_66 ?_
    refine z_iload X d_T_init_69 rfl ?_
    refine z_new X (ci := 3) (fs := [.int 0, .int 0, .int 0, .null, .int 0, .int 0, .null, .null, .int 0]) rfl in_N ty_N_ok (wq lc_T_9) (wq vm_N) (wq vn_N) (fun j hj => by rcases (show j = 0 ∨ j = 1 ∨ j = 2 ∨ j = 3 ∨ j = 4 ∨ j = 5 ∨ j = 6 ∨ j = 7 ∨ j = 8 by omega) with rfl | rfl | rfl | rfl | rfl | rfl | rfl | rfl | rfl <;> rfl) (show 2 + 14 * v + 1 ≤ 254 by omega) (show 24 + 251 * v + 9 ≤ 4512 by omega) d_T_init_71 ?_
    refine z_named (fun k7 hk9 => ?_)
    have e0 : zc b (3 + 14 * v + 1) k7 (b + (3 + 14 * v)) (.inr (3, [.int 0, .int 0, .int 0, .null, .int 0, .int 0, .null, .null, .int 0])) := by rw [hk9]; exact ⟨by omega, by omega, up_eq⟩
    have hf7 : ∀ q, q < b + (3 + 14 * v) → k7 q = k8 q := fun q hq => by rw [hk9]; exact up_ne (by omega)
    clear hk9
    refine z_dup X d_T_init_74 rfl ?_
    refine z_iload X d_T_init_75 rfl ?_
    refine z_iload_n X d_T_init_77 rfl ?_
    refine z_iload X d_T_init_78 rfl ?_
    refine z_callIv X (rt := none) (c_N_init (N0 := 3 + 14 * v) e0) (cwI 3 X.1.2.2.2.2 (gi_wy vc_N_init) rfl rfl rfl (X.1.2.2.2.2 _ (wq vn_N)) (X.1.2.2.2.2 _ (wq lm_T_37)) (X.1.2.2.2.2 _ (wq vi_N_init)) rfl (by decide +kernel) ⟨Nat.le_of_ble_eq_true rfl, Nat.le_of_ble_eq_true rfl⟩) (As := [.int (nI v), .int (nI kk), .int (nI dd)]) (st := [.ref (b + (3 + 14 * v)), .int (nI v), .ref (b + 1)]) rfl rfl (Nat.le_of_ble_eq_true rfl) d_T_init_80 ⟨show 2 + 14 * v + 1 + 13 ≤ 254 by omega, show 24 + 251 * v + 9 + 242 ≤ 4512 by omega⟩ (fun k6 hq => ?_)
    obtain ⟨q0, q1, q2, q3, q4⟩ := hq
    have hf6 : ∀ q, q < b + (3 + 14 * v) → k6 q = k8 q := fun q hq => (q4 q hq).trans (hf7 q hq)
    have hA := (h1.to (hf6 _ (by omega))).more (N2 := 3 + 14 * v + 14) (by omega)
    refine z_aast X hA 2 rfl q0 rfl (j := v) rfl (by omega) (by omega) d_T_init_83 ?_
    refine z_named (fun k5 hk9 => ?_)
    have hA := hA.up (y := aQ tN 12 (va_up g1 v (some (b + (3 + 14 * v)))))
    rw [← hk9] at hA
    have hf5 : ∀ q, q ≠ b + 1 → k5 q = k6 q := fun q hq => by rw [hk9]; exact up_ne hq
    clear hk9
    refine z_iincU X d_T_init_84 rfl (by decide) rfl ?_
    refine z_lv (lv2 := [some (.ref b), some (.int x), some (.int y), some (.int (nI kk)), some (.int (nI dd)), some (.int (nI (v + 1)))]) (fun _ _ q => q) ?_
    refine z_goto X d_T_init_87 (tgt := 58) (by decide) ?_
    refine z_widen (mc := 2 + 14 * (v + 1)) (ms := 24 + 251 * (v + 1)) (by omega) (by omega) ?_
    refine z_N (N2 := 3 + 14 * (v + 1)) (by omega) ?_
    have hk : ∀ q, q < b + (3 + 14 * v) → q ≠ b + 1 → k5 q = k8 q := fun q z1 z2 => (hf5 q z2).trans (hf6 q z1)
    have hnew : isNd tI b (3 + 14 * (v + 1)) k5 kk (nI dd) v := by
      unfold isNd
      rw [Nat.add_assoc b 3 (14 * v)]
      exact ⟨(q0.to (hf5 _ (by omega))).more (by omega), (q1.to (hf5 _ (by omega))).more (by omega), (q2.to (fun q z1 z2 => hf5 _ (by omega))).more (by omega), (q3.to (fun q z1 z2 => hf5 _ (by omega))).more (by omega)⟩
    exact ih k5 ⟨(h0.to (hk _ (by omega) (by omega))).more (by omega), ⟨va_up g1 v (some (b + (3 + 14 * v))), hA.more (by omega), fun j hj => by by_cases z : j = v; (subst z; rw [up_eq]; congr 1; omega); (rw [up_ne z]; exact e1 j (by omega))⟩, (h2.to (hk _ (by omega) (by omega))).more (by omega), fun j hj => by by_cases z : j = v; (subst z; exact hnew); exact (hn j (by omega)).to (fun q z1 z2 => hk q (by omega) (by omega)) (by omega)⟩
end
