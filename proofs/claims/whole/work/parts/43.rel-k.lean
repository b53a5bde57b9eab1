/-! Pure: the relation over add without writing, and over attach -/
theorem op_put {op : Nat → Nat → Int32} {f5 : Nat → Int32} {j o : Nat} {x : Int32} (ho : o < 4) (h : ∀ i q, i < 12 → q < 4 → op i q = f5 (4 * i + q)) : ∀ i q, i < 12 → q < 4 → va_up op j (upd (op j) o x) i q = upd f5 (4 * j + o) x (4 * i + q) := by
  intro i q hi hq
  by_cases z : i = j
  · subst z
    rw [up_eq]
    by_cases w : q = o
    · subst w; rw [upd_eq, upd_eq]
    · rw [upd_ne w, upd_ne (by omega)]
      exact h i q hi hq
  · rw [up_ne z, upd_ne (by omega)]
    exact h i q hi hq
theorem REL_add {kk t nc j v : Nat} {dv lm ms : Int32} {F : Cf} {op : Nat → Nat → Int32} {oc : Nat → Nat} {Sn Sk Sm : Nat → Sv} {f0 f1 f2 f3 f4 f5 f6 f7 f8 f9 f10 f11 f12 : Nat → Int32} {up : Nat → Nat} {jr : Nat → Nat → Nat} {wr : Nat → Nat} {kp ca : Nat → Nat → Nat} {sd : Nat → Nat} (h : REL kk dv t nc lm F op oc Sn Sk Sm ms f0 f1 f2 f3 f4 f5 f6 f7 f8 f9 f10 f11 f12 up jr wr kp ca sd) (hj : j < nc) (hl : ¬ f1 j = 0) (hv : v < 32) (ho : oc j < 3) (hw : wr j + oc j < 48) : REL kk dv t nc lm F (va_up op j (upd (op j) (oc j) (nI v))) (va_up oc j (oc j + 1)) Sn Sk Sm ms f0 f1 f2 f3 f4 (upd f5 (4 * j + oc j) (nI v)) (upd f6 j (nI (oc j + 1))) f7 f8 f9 f10 f11 f12 up jr wr kp ca sd := by
  obtain ⟨h1, h2, h3, h4, ⟨b1, b2, b3, b4⟩, h6, h7⟩ := h
  refine ⟨h1, h2, h3, h4, ⟨fun i hi => ?_, op_put (by omega) b2, fun i q hi hq => ?_, b4⟩, h6, h7⟩
  · obtain ⟨a1, a2, a3, a4, a5⟩ := b1 i hi
    by_cases z : i = j
    · subst z
      rw [upd_eq, up_eq]
      exact ⟨a1, rfl, by omega, by omega, fun w => absurd w hl⟩
    · rw [upd_ne z, up_ne z]
      exact ⟨a1, a2, a3, a4, a5⟩
  · by_cases z : i = j
    · subst z
      rw [up_eq] at hq ⊢
      by_cases w : q = oc i
      · subst w
        rw [upd_eq]
        exact ⟨v, hv, rfl⟩
      · rw [upd_ne w]
        exact b3 i q hi (by omega)
    · rw [up_ne z] at hq ⊢
      exact b3 i q hi hq
theorem kno_up {up up2 : Nat → Nat} {kv : Nat → Bool} {kp : Nat → Nat → Nat} {j : Nat} : ∀ m, (∀ c, 1 ≤ c → c ≤ m → up c = up2 c) → kno up kv kp j m = kno up2 kv kp j m
  | 0, _ => rfl
  | m + 1, h => by
    funext l
    simp only [kno]
    rw [kno_up m (fun c a b => h c a (by omega)), h (m + 1) (by omega) (by omega)]
theorem REL_attach {kk t nc p : Nat} {dv lm ms y : Int32} {F : Cf} {op : Nat → Nat → Int32} {oc : Nat → Nat} {Sn Sk Sm : Nat → Sv} {f0 f1 f2 f3 f4 f5 f6 f7 f8 f9 f10 f11 f12 : Nat → Int32} {up : Nat → Nat} {jr : Nat → Nat → Nat} {wr : Nat → Nat} {kp ca : Nat → Nat → Nat} {sd : Nat → Nat} (h : REL kk dv t nc lm F op oc Sn Sk Sm ms f0 f1 f2 f3 f4 f5 f6 f7 f8 f9 f10 f11 f12 up jr wr kp ca sd) (hp : p < nc) (hl : f1 p = 0) (hN : nc < 12) (hy : y = 0 ∨ y = 1) : REL kk dv t (nc + 1) lm (fU (fU F 0 nc (nI p)) 1 nc y) op oc Sn Sk Sm ms (upd f0 nc (nI p)) (upd f1 nc y) f2 f3 f4 f5 f6 f7 f8 f9 f10 f11 f12 (va_up up nc p) jr wr kp ca sd := by
  have hkn := fun i => knN_le (j := i) h
  obtain ⟨h1, ⟨⟨n1, n2⟩, t1, t2, u1, u2, u3, t3, t4, t5, t6, t7⟩, h3, ⟨m1, m2, m3⟩, ⟨b1, b2, b3, b4⟩, h6, h7⟩ := h
  have wz : ∀ l, nc ≤ l → l < 12 → wr l = 0 := fun l h9 hl2 => ((b1 l hl2).2.2.2.2 (t5 l h9)).1
  have kz : ∀ (kn : Nat → Nat) (j : Nat) (s : Sv), SR kk dv up nc jr j kn s → (∀ l, l < 12 → kn l ≤ wr l) → ∀ l, nc ≤ l → kn l = 0 := fun kn j s hs hle l hl2 => by
    by_cases q : kn l = 0
    · exact q
    · have a := ((hs.2.2.2.2 l).2 q).1
      have := hle l a
      have := wz l hl2 a
      omega
  have hkp : ∀ l, kp nc l = 0 := fun l => by
    by_cases q : kp nc l = 0
    · exact q
    · have a := ((h7 nc hN).2.1.2.2.2.2 l).2 q
      have b := sub_ge u1 a.2
      have := (h6 nc l hN a.1).2.2.1
      have := wz l b a.1
      omega
  have pz : ∀ i, i ≠ nc → va_up up nc p i = up i := fun i hi => up_ne hi
  refine ⟨h1, ⟨⟨by omega, by omega⟩, ?_, fun j a b => ?_, fun x => ?_, fun x a b => ?_, fun x a => ?_, fun c hc => ?_, fun j hj => ?_, fun j a => ?_, fun c a b => ?_, ?_⟩, fun j hj => ?_, ⟨m1, m2, fun q hq => ?_⟩, ⟨fun i hi => ?_, b2, b3, b4⟩, h6, fun j hj => ?_⟩
  · rw [fU_c (by omega), fU_j (by omega)]; exact t1
  · rw [fU_c (by omega)]
    by_cases z : j = nc
    · subst z; rw [fU_eq, up_eq]
    · rw [fU_j z, up_ne z]; exact t2 j a (by omega)
  · by_cases z : x = nc
    · subst z; rw [up_eq]; omega
    · rw [up_ne z]; exact u1 x
  · by_cases z : x = nc
    · subst z; rw [up_eq]; omega
    · rw [up_ne z]; exact u2 x a (by omega)
  · rw [up_ne (by omega)]; exact u3 x (by omega)
  · by_cases z : c = nc
    · subst z; rw [upd_eq, up_eq]
    · rw [upd_ne z, up_ne z]; exact t3 c hc
  · by_cases z : j = nc
    · subst z; rw [fU_eq, upd_eq]; exact ⟨rfl, hy⟩
    · rw [fU_j z, fU_c (by omega), upd_ne z]; exact t4 j hj
  · rw [upd_ne (by omega)]; exact t5 j (by omega)
  · by_cases z : c = nc
    · subst z; rw [up_eq, upd_ne (by omega)]; exact hl
    · rw [up_ne z]
      have := u1 c
      rw [upd_ne (by omega)]
      exact t6 c a (by omega)
  · rw [upd_ne (by omega)]; exact t7
  · rw [fU_c (by omega), fU_c (by omega), fU_c (by omega), fU_c (by omega)]; exact h3 j hj
  · obtain ⟨a1, a2, a3, a4, a5, a6, a7⟩ := m3 q hq
    rw [fU_c (by omega), fU_c (by omega), fU_c (by omega), fU_c (by omega), fU_c (by omega), fU_c (by omega)]
    exact ⟨a1, a2, a3, a4, a5, a6, fun w => ⟨(a7 w).1, by have := (a7 w).2; omega⟩⟩
  · obtain ⟨a1, a2, a3, a4, a5⟩ := b1 i hi
    refine ⟨a1, a2, a3, a4, fun w => ?_⟩
    by_cases z : i = nc
    · subst z; exact a5 (t5 i (Nat.le_refl _))
    · rw [upd_ne z] at w; exact a5 w
  · obtain ⟨a1, a2, a3⟩ := h7 j hj
    refine ⟨?_, SR_attach u1 hN hp hj (kz _ _ _ a2 (fun l hl2 => (h6 j l hj hl2).2.2.1)) a2, SR_attach u1 hN hp (m3 j hj).2.2.2.2.1 (kz _ _ _ a3 (fun l hl2 => (h6 j l hj hl2).2.2.2)) a3⟩
    have s1 := SR_attach (p := p) u1 hN hp hj (kz _ _ _ a1 (hkn j)) a1
    have e : knN (va_up up nc p) (upd f1 nc y) wr (fun c => decide (0 < f7 c)) kp (nc + 1) j = knN up f1 wr (fun c => decide (0 < f7 c)) kp nc j := by
      have ek : kno (va_up up nc p) (fun c => decide (0 < f7 c)) kp j (nc + 1 - 1) = kno up (fun c => decide (0 < f7 c)) kp j (nc - 1) := by
        rw [show nc + 1 - 1 = (nc - 1) + 1 by omega]
        funext l
        simp only [kno]
        rw [show nc - 1 + 1 = nc by omega, hkp l, kno_up (up2 := up) (nc - 1) (fun c c1 c2 => up_ne (by omega))]
        simp
      unfold knN
      rw [ek]
      by_cases z : j = nc
      · subst z
        rw [upd_eq, if_pos (t5 j (Nat.le_refl _))]
        have k0 : kno up (fun c => decide (0 < f7 c)) kp j (j - 1) = fun _ => 0 := by
          funext l
          exact kno_0 (j - 1) (fun c c1 c2 c3 => by have := u2 c c1 (by omega); omega)
        by_cases w : y = 0
        · rw [if_pos w]
        · rw [if_neg w, k0, wz j (Nat.le_refl _) hN]
          funext l
          simp [kn1]
      · rw [upd_ne z]
    rw [e]
    exact s1
