/-! Pure: the relation over crash -/
theorem fgt_3 (F : Cf) (x : Int32) (c : Nat) : ∀ m, fgt F x m 3 c = if 1 ≤ c ∧ c ≤ m ∧ F 0 c = x then 0 else F 3 c
  | 0 => by rw [if_neg (by omega)]; rfl
  | m + 1 => by
    have ih := fgt_3 F x c m
    simp only [fgt]
    by_cases q : F 0 (m + 1) = x
    · rw [if_pos q]
      by_cases z : c = m + 1
      · subst z
        rw [fU_eq, if_pos ⟨by omega, by omega, q⟩]
      · rw [fU_j z, ih]
        by_cases w : 1 ≤ c ∧ c ≤ m ∧ F 0 c = x
        · rw [if_pos w, if_pos ⟨w.1, by omega, w.2.2⟩]
        · rw [if_neg w, if_neg (fun y => w ⟨y.1, by omega, y.2.2⟩)]
    · rw [if_neg q, ih]
      by_cases w : 1 ≤ c ∧ c ≤ m ∧ F 0 c = x
      · rw [if_pos w, if_pos ⟨w.1, by omega, w.2.2⟩]
      · rw [if_neg w, if_neg (fun y => w ⟨y.1, by
          by_cases e : c = m + 1
          · subst e; exact absurd y.2.2 q
          · omega, y.2.2⟩)]
theorem fk7_at (f0 f7 : Nat → Int32) (x : Int32) (c : Nat) : ∀ m, fk7 f0 f7 x m c = if 1 ≤ c ∧ c ≤ m ∧ f0 c = x then 0 else f7 c
  | 0 => by rw [if_neg (by omega)]; rfl
  | m + 1 => by
    have ih := fk7_at f0 f7 x c m
    simp only [fk7]
    by_cases z : c = m + 1
    · subst z
      rw [upd_eq]
      have e : fk7 f0 f7 x m (m + 1) = f7 (m + 1) := by rw [ih, if_neg (by omega)]
      by_cases q : f0 (m + 1) = x
      · rw [if_pos q, if_pos ⟨by omega, by omega, q⟩]
      · rw [if_neg q, e, if_neg (fun y => q y.2.2)]
    · rw [upd_ne z, ih]
      by_cases w : 1 ≤ c ∧ c ≤ m ∧ f0 c = x
      · rw [if_pos w, if_pos ⟨w.1, by omega, w.2.2⟩]
      · rw [if_neg w, if_neg (fun y => w ⟨y.1, by omega, y.2.2⟩)]
theorem REL_crash {kk t nc j : Nat} {dv lm ms : Int32} {F : Cf} {op : Nat → Nat → Int32} {oc : Nat → Nat} {Sn Sk Sm : Nat → Sv} {f0 f1 f2 f3 f4 f5 f6 f7 f8 f9 f10 f11 f12 : Nat → Int32} {up : Nat → Nat} {jr : Nat → Nat → Nat} {wr : Nat → Nat} {kp ca : Nat → Nat → Nat} {sd : Nat → Nat} (h : REL kk dv t nc lm F op oc Sn Sk Sm ms f0 f1 f2 f3 f4 f5 f6 f7 f8 f9 f10 f11 f12 up jr wr kp ca sd) (hj : j < nc) (hl : f1 j = 0) : REL kk dv t nc lm (fgt F (nI j) (nc - 1)) op oc (va_up Sn j (mks kk dv (fgt F (nI j) (nc - 1)) Sk (nI j) (clS (Sn j)) (nc - 1))) Sk Sm ms f0 f1 f2 f3 f4 f5 (upd f6 j 0) (fk7 f0 f7 (nI j) (nc - 1)) f8 f9 f10 f11 f12 up jr wr kp ca sd := by
  obtain ⟨h1, ⟨⟨n1, n2⟩, t1, t2, u1, u2, u3, t3, t4, t5⟩, h3, ⟨m1, m2, m3⟩, h5, h6, h7⟩ := h
  have e6 : upd f6 j 0 = f6 := upd_self (by
    obtain ⟨a1, a2, a3, a4, a5⟩ := h5.1 j (by omega)
    rw [a2, (a5 hl).2]
    exact nI_0)
  have hV : rV (fgt F (nI j) (nc - 1)) f2 (fk7 f0 f7 (nI j) (nc - 1)) := fun i hi => by
    obtain ⟨a1, a2⟩ := h3 i hi
    rw [fgt_c F _ (by omega), fgt_3, fk7_at]
    refine ⟨a1, ?_⟩
    by_cases w : 1 ≤ i ∧ i ≤ nc - 1
    · have e := t2 i w.1 (by omega)
      have e2 := t3 i hi
      by_cases q : up i = j
      · rw [if_pos ⟨w.1, w.2, by rw [e, q]⟩, if_pos ⟨w.1, w.2, by rw [e2, q]⟩]
      · have hne : nI (up i) ≠ nI j := fun z => q ((nI_eq (by have := u1 i; omega) (by omega)).mp z)
        rw [if_neg (fun z => hne (e.symm.trans z.2.2)), if_neg (fun z => hne (e2.symm.trans z.2.2))]
        exact a2
    · rw [if_neg (fun z => w ⟨z.1, z.2.1⟩), if_neg (fun z => w ⟨z.1, z.2.1⟩)]
      exact a2
  rw [e6]
  refine ⟨h1, ⟨⟨n1, n2⟩, by rw [fgt_c F _ (by omega)]; exact t1, fun i a b => by rw [fgt_c F _ (by omega)]; exact t2 i a b, u1, u2, u3, t3, fun i hi => by rw [fgt_c F _ (by omega)]; exact t4 i hi, t5⟩, hV, ⟨m1, m2, fun i hi => by rw [fgt_c F _ (by omega), fgt_c F _ (by omega), fgt_c F _ (by omega)]; exact m3 i hi⟩, h5, h6, fun i hi => ⟨?_, (h7 i hi).2⟩⟩
  by_cases z : i = j
  · subst z
    rw [up_eq]
    unfold knN
    rw [if_pos hl]
    exact mks_SR n2 hj u1 u2 (fun c c1 c2 => by rw [fgt_c F _ (by omega)]; exact t2 c c1 c2) (fun c hc => by rw [(hV c (by omega)).2]) (fun c hc => (h7 c (by omega)).2.1)
  · rw [up_ne z]
    rw [← knN_congr (kv := fun c => decide (0 < f7 c)) (kp := kp) (fun c c1 c2 hc => by
      have hne : ¬ f0 c = nI j := fun w => by
        rw [t3 c (by omega), nI_eq (by have := u1 c; omega) (by omega)] at w
        omega
      rw [fk7_at, if_neg (fun y => hne y.2.2)]
      exact ⟨rfl, fun _ => rfl⟩)]
    exact (h7 i hi).1
