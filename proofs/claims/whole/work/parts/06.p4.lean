/-! Pure: what a node's row is, out of how many items of each journal are known -/
def tks (kk : Nat) (d : Int32) (jl : Nat → Nat) : Nat → Row
  | 0 => er
  | i + 1 => tkR 4000 kk d (tks kk d jl i) (jl i)
/-- the merging of the children c0, c0 + 1, .. of j, m numbers in all -/
def mgs (kk : Nat) (d : Int32) (up : Nat → Nat) (G : Nat → Row) (j : Nat) (base : Row) (c0 : Nat) : Nat → Row
  | 0 => base
  | m + 1 => if up (c0 + m) = j ∧ 0 < (G (c0 + m)).1 then mgR 4000 kk d (mgs kk d up G j base c0 m) (G (c0 + m)) else mgs kk d up G j base c0 m
theorem mgs_congr {kk : Nat} {d : Int32} {up up2 : Nat → Nat} {G G2 : Nat → Row} {j c0 : Nat} {base : Row} : ∀ m, (∀ i, i < m → (up (c0 + i) = j ↔ up2 (c0 + i) = j) ∧ (up (c0 + i) = j → G (c0 + i) = G2 (c0 + i))) → mgs kk d up G j base c0 m = mgs kk d up2 G2 j base c0 m
  | 0, _ => rfl
  | m + 1, h => by
    simp only [mgs]
    rw [mgs_congr m (fun i hi => h i (by omega))]
    obtain ⟨h1, h2⟩ := h m (by omega)
    by_cases hu : up (c0 + m) = j
    · have hu2 := h1.mp hu
      rw [h2 hu]
      by_cases hp : 0 < (G2 (c0 + m)).1
      · rw [if_pos ⟨hu, hp⟩, if_pos ⟨hu2, hp⟩]
      · rw [if_neg (fun q => hp q.2), if_neg (fun q => hp q.2)]
    · rw [if_neg (fun q => hu q.1), if_neg (fun q => hu (h1.mpr q.1))]
theorem mgs_skip {kk : Nat} {d : Int32} {up : Nat → Nat} {G : Nat → Row} {j c0 : Nat} {base : Row} : ∀ m, (∀ i, i < m → up (c0 + i) = j → ¬ 0 < (G (c0 + i)).1) → mgs kk d up G j base c0 m = base
  | 0, _ => rfl
  | m + 1, h => by
    simp only [mgs]
    rw [if_neg (fun q => h m (by omega) q.1 q.2)]
    exact mgs_skip m (fun i hi => h i (by omega))
theorem mgs_add {kk : Nat} {d : Int32} {up : Nat → Nat} {G : Nat → Row} {j c0 : Nat} {base : Row} (a : Nat) : ∀ m, mgs kk d up G j base c0 (a + m) = mgs kk d up G j (mgs kk d up G j base c0 a) (c0 + a) m
  | 0 => rfl
  | m + 1 => by
    rw [← Nat.add_assoc]
    simp only [mgs]
    rw [mgs_add a m, Nat.add_assoc]
def Fr (kk : Nat) (d : Int32) (up : Nat → Nat) (nodes : Nat) (jr : Nat → Nat → Nat) (kn : Nat → Nat) : Nat → Nat → Row
  | 0, _ => er
  | f + 1, j => mgs kk d up (fun c => Fr kk d up nodes jr kn f c) j (tks kk d (jr j) (kn j)) (j + 1) (nodes - (j + 1))
theorem Fr_st {kk : Nat} {d : Int32} {up : Nat → Nat} {nodes : Nat} {jr : Nat → Nat → Nat} {kn : Nat → Nat} (hN : nodes ≤ 12) : ∀ (f g c : Nat), c < 12 → 12 ≤ f + c → 12 ≤ g + c → Fr kk d up nodes jr kn f c = Fr kk d up nodes jr kn g c
  | 0, _, c, hc, hf, _ => by omega
  | f + 1, 0, c, hc, _, hg => by omega
  | f + 1, g + 1, c, hc, hf, hg => by
    simp only [Fr]
    refine mgs_congr _ (fun i hi => ⟨Iff.rfl, fun _ => ?_⟩)
    exact Fr_st hN f g _ (by omega) (by omega) (by omega)
def FF (kk : Nat) (d : Int32) (up : Nat → Nat) (nodes : Nat) (jr : Nat → Nat → Nat) (kn : Nat → Nat) (j : Nat) : Row := Fr kk d up nodes jr kn (12 - j) j
theorem FF_eq {kk : Nat} {d : Int32} {up : Nat → Nat} {nodes : Nat} {jr : Nat → Nat → Nat} {kn : Nat → Nat} {j : Nat} (hN : nodes ≤ 12) (hj : j < 12) : FF kk d up nodes jr kn j = mgs kk d up (FF kk d up nodes jr kn) j (tks kk d (jr j) (kn j)) (j + 1) (nodes - (j + 1)) := by
  unfold FF
  rw [show 12 - j = (11 - j) + 1 by omega]
  simp only [Fr]
  refine mgs_congr _ (fun i hi => ⟨Iff.rfl, fun _ => ?_⟩)
  exact Fr_st hN _ _ _ (by omega) (by omega) (by omega)
/-- a table of rows that has the same equation is FF -/
theorem tks_congr {kk : Nat} {d : Int32} {jl jl2 : Nat → Nat} : ∀ m, (∀ i, i < m → jl i = jl2 i) → tks kk d jl m = tks kk d jl2 m
  | 0, _ => rfl
  | m + 1, h => by
    simp only [tks]
    rw [tks_congr m (fun i hi => h i (by omega)), h m (by omega)]
/-- ancestors -/
def an (up : Nat → Nat) : Nat → Nat → Nat
  | 0, l => l
  | n + 1, l => up (an up n l)
def sub (up : Nat → Nat) (c l : Nat) : Prop := ∃ n, an up n l = c
theorem sub_self (up : Nat → Nat) (c : Nat) : sub up c c := ⟨0, rfl⟩
theorem sub_up {up : Nat → Nat} {c l : Nat} (h : sub up c l) : sub up (up c) l := by
  obtain ⟨n, hn⟩ := h
  exact ⟨n + 1, by simp [an, hn]⟩
theorem FF_congr {kk : Nat} {d : Int32} {up : Nat → Nat} {nodes : Nat} {jr jr2 : Nat → Nat → Nat} {kn kn2 : Nat → Nat} (hN : nodes ≤ 12) : ∀ (f c : Nat), c < 12 → 12 ≤ f + c → (∀ l, sub up c l → kn l = kn2 l ∧ ∀ i, i < kn l → jr l i = jr2 l i) → FF kk d up nodes jr kn c = FF kk d up nodes jr2 kn2 c
  | 0, c, hc, hf, _ => by omega
  | f + 1, c, hc, hf, h => by
    rw [FF_eq hN hc, FF_eq hN hc]
    have h0 := h c (sub_self up c)
    rw [← h0.1, tks_congr (kn c) h0.2]
    refine mgs_congr _ (fun i hi => ⟨Iff.rfl, fun hu => ?_⟩)
    refine FF_congr hN f _ (by omega) (by omega) (fun l hl => h l ?_)
    have := sub_up hl
    rwa [hu] at this
theorem FF_0 {kk : Nat} {d : Int32} {up : Nat → Nat} {nodes : Nat} {jr : Nat → Nat → Nat} {kn : Nat → Nat} (hN : nodes ≤ 12) : ∀ (f c : Nat), c < 12 → 12 ≤ f + c → (∀ l, sub up c l → kn l = 0) → FF kk d up nodes jr kn c = er
  | 0, c, hc, hf, _ => by omega
  | f + 1, c, hc, hf, h => by
    rw [FF_eq hN hc, h c (sub_self up c)]
    refine mgs_skip _ (fun i hi hu => ?_)
    have e := FF_0 (kk := kk) (d := d) (up := up) (jr := jr) hN f (c + 1 + i) (by omega) (by omega) (fun l hl => h l (by have := sub_up hl; rwa [hu] at this))
    rw [e]
    decide
/-- a node more: nothing changes where nothing of it is known -/
theorem FF_attach {kk : Nat} {d : Int32} {up : Nat → Nat} {nodes p : Nat} {jr : Nat → Nat → Nat} {kn : Nat → Nat} (hN : nodes < 12) (hk : kn nodes = 0) (hp : p < nodes) : ∀ (f c : Nat), c < 12 → 12 ≤ f + c → FF kk d (va_up up nodes p) (nodes + 1) jr kn c = FF kk d up nodes jr kn c
  | 0, c, hc, hf => by omega
  | f + 1, c, hc, hf => by
    rw [FF_eq (by omega) hc, FF_eq (by omega) hc]
    by_cases hcn : c < nodes
    · rw [show nodes + 1 - (c + 1) = (nodes - (c + 1)) + 1 by omega]
      simp only [mgs]
      rw [show c + 1 + (nodes - (c + 1)) = nodes by omega]
      have hz : ¬ 0 < (FF kk d (va_up up nodes p) (nodes + 1) jr kn nodes).1 := by
        rw [FF_eq (by omega) hN, hk, show nodes + 1 - (nodes + 1) = 0 by omega]
        simp only [mgs, tks]
        decide
      rw [if_neg (fun q => hz q.2)]
      refine mgs_congr _ (fun i hi => ?_)
      have e : va_up up nodes p (c + 1 + i) = up (c + 1 + i) := by
        have : ¬ c + 1 + i = nodes := by omega
        simp [va_up, this]
      rw [e]
      exact ⟨Iff.rfl, fun _ => FF_attach hN hk hp f _ (by omega) (by omega)⟩
    · rw [show nodes + 1 - (c + 1) = 0 by omega, show nodes - (c + 1) = 0 by omega]
      rfl
/-- the rows are in order -/
theorem tks_ok {kk : Nat} {d : Int32} {jl : Nat → Nat} : ∀ m, (∀ i, i < m → jl i < 32) → m < 2 ^ 20 → zr (tks kk d jl m) ∧ rok (tks kk d jl m) m
  | 0, _, _ => ⟨er_zr, er_rok⟩
  | m + 1, h, hm => by
    obtain ⟨h1, h2⟩ := tks_ok m (fun i hi => h i (by omega)) (by omega)
    exact ⟨tkR_zr (h m (by omega)) h1, (tkR_both (h m (by omega)) h2 (by omega)).2⟩
