/-! Pure: the ranges, their first and last values -/
def wd (r : Nat) : Nat := if 32 ≤ r then 1 else if 16 ≤ r then 2 else if 8 ≤ r then 4 else if 4 ≤ r then 8 else if 2 ≤ r then 16 else 32
def fs_ (r : Nat) : Nat := (r - 32 / wd r) * wd r
def en (r : Nat) : Nat := fs_ r + wd r - 1
/-- the sum over the ranges 1 .. n with P -/
def sel (P : Nat → Bool) (g : Nat → Int32) : Nat → Int32
  | 0 => 0
  | n + 1 => if P (n + 1) = true then sel P g n + g (n + 1) else sel P g n
theorem sel_congr {P Q : Nat → Bool} {g : Nat → Int32} : ∀ n, (∀ r, r < n → P (r + 1) = Q (r + 1)) → sel P g n = sel Q g n
  | 0, _ => rfl
  | n + 1, h => by
    simp only [sel]
    rw [sel_congr n (fun r hr => h r (by omega)), h n (by omega)]
theorem sel_none {P : Nat → Bool} {g : Nat → Int32} : ∀ n, (∀ r, r < n → P (r + 1) = false) → sel P g n = 0
  | 0, _ => rfl
  | n + 1, h => by
    simp only [sel]
    rw [h n (by omega), sel_none n (fun r hr => h r (by omega))]
    rfl
theorem sel_or {P Q : Nat → Bool} {g : Nat → Int32} : ∀ n, (∀ r, r < n → P (r + 1) = true → Q (r + 1) = false) → sel (fun r => P r || Q r) g n = sel P g n + sel Q g n
  | 0, _ => rfl
  | n + 1, h => by
    simp only [sel]
    rw [sel_or n (fun r hr => h r (by omega))]
    have hn := h n (by omega)
    by_cases hP : P (n + 1) = true
    · have hQ := hn hP
      simp [hP, hQ]
      ac_rfl
    · by_cases hQ : Q (n + 1) = true
      · simp [hP, hQ, Int32.add_assoc]
      · simp [hP, hQ]
/-- the ranges that end (begin) with a value, from the smallest up -/
def eac (o : Nat) (g : Nat → Int32) : Nat → Nat → Int32 → Int32
  | 0, _, a => a
  | f + 1, r, a => if r = 0 then a else if r % 2 = o then a + g r else eac o g f (r / 2) (a + g r)
theorem ea_0 (g : Nat → Int32) : eac 0 g 6 32 0 = sel (fun r => decide (en r = 0)) g 63 := by
  simp [eac, sel, en, fs_, wd]
  try ac_rfl
theorem ea_1 (g : Nat → Int32) : eac 0 g 6 33 0 = sel (fun r => decide (en r = 1)) g 63 := by
  simp [eac, sel, en, fs_, wd]
  try ac_rfl
theorem ea_2 (g : Nat → Int32) : eac 0 g 6 34 0 = sel (fun r => decide (en r = 2)) g 63 := by
  simp [eac, sel, en, fs_, wd]
  try ac_rfl
theorem ea_3 (g : Nat → Int32) : eac 0 g 6 35 0 = sel (fun r => decide (en r = 3)) g 63 := by
  simp [eac, sel, en, fs_, wd]
  try ac_rfl
theorem ea_4 (g : Nat → Int32) : eac 0 g 6 36 0 = sel (fun r => decide (en r = 4)) g 63 := by
  simp [eac, sel, en, fs_, wd]
  try ac_rfl
theorem ea_5 (g : Nat → Int32) : eac 0 g 6 37 0 = sel (fun r => decide (en r = 5)) g 63 := by
  simp [eac, sel, en, fs_, wd]
  try ac_rfl
theorem ea_6 (g : Nat → Int32) : eac 0 g 6 38 0 = sel (fun r => decide (en r = 6)) g 63 := by
  simp [eac, sel, en, fs_, wd]
  try ac_rfl
theorem ea_7 (g : Nat → Int32) : eac 0 g 6 39 0 = sel (fun r => decide (en r = 7)) g 63 := by
  simp [eac, sel, en, fs_, wd]
  try ac_rfl
theorem ea_8 (g : Nat → Int32) : eac 0 g 6 40 0 = sel (fun r => decide (en r = 8)) g 63 := by
  simp [eac, sel, en, fs_, wd]
  try ac_rfl
theorem ea_9 (g : Nat → Int32) : eac 0 g 6 41 0 = sel (fun r => decide (en r = 9)) g 63 := by
  simp [eac, sel, en, fs_, wd]
  try ac_rfl
theorem ea_10 (g : Nat → Int32) : eac 0 g 6 42 0 = sel (fun r => decide (en r = 10)) g 63 := by
  simp [eac, sel, en, fs_, wd]
  try ac_rfl
theorem ea_11 (g : Nat → Int32) : eac 0 g 6 43 0 = sel (fun r => decide (en r = 11)) g 63 := by
  simp [eac, sel, en, fs_, wd]
  try ac_rfl
theorem ea_12 (g : Nat → Int32) : eac 0 g 6 44 0 = sel (fun r => decide (en r = 12)) g 63 := by
  simp [eac, sel, en, fs_, wd]
  try ac_rfl
theorem ea_13 (g : Nat → Int32) : eac 0 g 6 45 0 = sel (fun r => decide (en r = 13)) g 63 := by
  simp [eac, sel, en, fs_, wd]
  try ac_rfl
theorem ea_14 (g : Nat → Int32) : eac 0 g 6 46 0 = sel (fun r => decide (en r = 14)) g 63 := by
  simp [eac, sel, en, fs_, wd]
  try ac_rfl
theorem ea_15 (g : Nat → Int32) : eac 0 g 6 47 0 = sel (fun r => decide (en r = 15)) g 63 := by
  simp [eac, sel, en, fs_, wd]
  try ac_rfl
theorem ea_16 (g : Nat → Int32) : eac 0 g 6 48 0 = sel (fun r => decide (en r = 16)) g 63 := by
  simp [eac, sel, en, fs_, wd]
  try ac_rfl
theorem ea_17 (g : Nat → Int32) : eac 0 g 6 49 0 = sel (fun r => decide (en r = 17)) g 63 := by
  simp [eac, sel, en, fs_, wd]
  try ac_rfl
theorem ea_18 (g : Nat → Int32) : eac 0 g 6 50 0 = sel (fun r => decide (en r = 18)) g 63 := by
  simp [eac, sel, en, fs_, wd]
  try ac_rfl
theorem ea_19 (g : Nat → Int32) : eac 0 g 6 51 0 = sel (fun r => decide (en r = 19)) g 63 := by
  simp [eac, sel, en, fs_, wd]
  try ac_rfl
theorem ea_20 (g : Nat → Int32) : eac 0 g 6 52 0 = sel (fun r => decide (en r = 20)) g 63 := by
  simp [eac, sel, en, fs_, wd]
  try ac_rfl
theorem ea_21 (g : Nat → Int32) : eac 0 g 6 53 0 = sel (fun r => decide (en r = 21)) g 63 := by
  simp [eac, sel, en, fs_, wd]
  try ac_rfl
theorem ea_22 (g : Nat → Int32) : eac 0 g 6 54 0 = sel (fun r => decide (en r = 22)) g 63 := by
  simp [eac, sel, en, fs_, wd]
  try ac_rfl
theorem ea_23 (g : Nat → Int32) : eac 0 g 6 55 0 = sel (fun r => decide (en r = 23)) g 63 := by
  simp [eac, sel, en, fs_, wd]
  try ac_rfl
theorem ea_24 (g : Nat → Int32) : eac 0 g 6 56 0 = sel (fun r => decide (en r = 24)) g 63 := by
  simp [eac, sel, en, fs_, wd]
  try ac_rfl
theorem ea_25 (g : Nat → Int32) : eac 0 g 6 57 0 = sel (fun r => decide (en r = 25)) g 63 := by
  simp [eac, sel, en, fs_, wd]
  try ac_rfl
theorem ea_26 (g : Nat → Int32) : eac 0 g 6 58 0 = sel (fun r => decide (en r = 26)) g 63 := by
  simp [eac, sel, en, fs_, wd]
  try ac_rfl
theorem ea_27 (g : Nat → Int32) : eac 0 g 6 59 0 = sel (fun r => decide (en r = 27)) g 63 := by
  simp [eac, sel, en, fs_, wd]
  try ac_rfl
theorem ea_28 (g : Nat → Int32) : eac 0 g 6 60 0 = sel (fun r => decide (en r = 28)) g 63 := by
  simp [eac, sel, en, fs_, wd]
  try ac_rfl
theorem ea_29 (g : Nat → Int32) : eac 0 g 6 61 0 = sel (fun r => decide (en r = 29)) g 63 := by
  simp [eac, sel, en, fs_, wd]
  try ac_rfl
theorem ea_30 (g : Nat → Int32) : eac 0 g 6 62 0 = sel (fun r => decide (en r = 30)) g 63 := by
  simp [eac, sel, en, fs_, wd]
  try ac_rfl
theorem ea_31 (g : Nat → Int32) : eac 0 g 6 63 0 = sel (fun r => decide (en r = 31)) g 63 := by
  simp [eac, sel, en, fs_, wd]
  try ac_rfl
theorem ea_all (g : Nat → Int32) : ∀ v, v < 32 → eac 0 g 6 (32 + v) 0 = sel (fun r => decide (en r = v)) g 63
  | 0, _ => ea_0 g
  | 1, _ => ea_1 g
  | 2, _ => ea_2 g
  | 3, _ => ea_3 g
  | 4, _ => ea_4 g
  | 5, _ => ea_5 g
  | 6, _ => ea_6 g
  | 7, _ => ea_7 g
  | 8, _ => ea_8 g
  | 9, _ => ea_9 g
  | 10, _ => ea_10 g
  | 11, _ => ea_11 g
  | 12, _ => ea_12 g
  | 13, _ => ea_13 g
  | 14, _ => ea_14 g
  | 15, _ => ea_15 g
  | 16, _ => ea_16 g
  | 17, _ => ea_17 g
  | 18, _ => ea_18 g
  | 19, _ => ea_19 g
  | 20, _ => ea_20 g
  | 21, _ => ea_21 g
  | 22, _ => ea_22 g
  | 23, _ => ea_23 g
  | 24, _ => ea_24 g
  | 25, _ => ea_25 g
  | 26, _ => ea_26 g
  | 27, _ => ea_27 g
  | 28, _ => ea_28 g
  | 29, _ => ea_29 g
  | 30, _ => ea_30 g
  | 31, _ => ea_31 g
  | v + 32, h => by omega
def eb (g : Nat → Int32) : Nat → Int32
  | 0 => 0
  | v + 1 => eb g v + eac 0 g 6 (32 + v) 0
theorem eb_sel (g : Nat → Int32) : ∀ v, v ≤ 32 → eb g v = sel (fun r => decide (en r < v)) g 63
  | 0, _ => (sel_none 63 (fun r _ => by simp)).symm
  | v + 1, hv => by
    simp only [eb]
    rw [eb_sel g v (by omega), ea_all g v (by omega), ← sel_or 63 (fun r _ h => by
      have h1 : en (r + 1) < v := by simpa using h
      simp; omega)]
    refine sel_congr 63 (fun r _ => ?_)
    by_cases h1 : en (r + 1) < v
    · have h2 : en (r + 1) < v + 1 := by omega
      simp [h1, h2]
    · by_cases h3 : en (r + 1) = v
      · have h2 : en (r + 1) < v + 1 := by omega
        simp [h3]
      · have h2 : ¬ en (r + 1) < v + 1 := by omega
        simp [h1, h2, h3]
theorem sa_0 (g : Nat → Int32) : eac 1 g 6 32 0 = sel (fun r => decide (fs_ r = 0)) g 63 := by
  simp [eac, sel, en, fs_, wd]
  try ac_rfl
theorem sa_1 (g : Nat → Int32) : eac 1 g 6 33 0 = sel (fun r => decide (fs_ r = 1)) g 63 := by
  simp [eac, sel, en, fs_, wd]
  try ac_rfl
theorem sa_2 (g : Nat → Int32) : eac 1 g 6 34 0 = sel (fun r => decide (fs_ r = 2)) g 63 := by
  simp [eac, sel, en, fs_, wd]
  try ac_rfl
theorem sa_3 (g : Nat → Int32) : eac 1 g 6 35 0 = sel (fun r => decide (fs_ r = 3)) g 63 := by
  simp [eac, sel, en, fs_, wd]
  try ac_rfl
theorem sa_4 (g : Nat → Int32) : eac 1 g 6 36 0 = sel (fun r => decide (fs_ r = 4)) g 63 := by
  simp [eac, sel, en, fs_, wd]
  try ac_rfl
theorem sa_5 (g : Nat → Int32) : eac 1 g 6 37 0 = sel (fun r => decide (fs_ r = 5)) g 63 := by
  simp [eac, sel, en, fs_, wd]
  try ac_rfl
theorem sa_6 (g : Nat → Int32) : eac 1 g 6 38 0 = sel (fun r => decide (fs_ r = 6)) g 63 := by
  simp [eac, sel, en, fs_, wd]
  try ac_rfl
theorem sa_7 (g : Nat → Int32) : eac 1 g 6 39 0 = sel (fun r => decide (fs_ r = 7)) g 63 := by
  simp [eac, sel, en, fs_, wd]
  try ac_rfl
theorem sa_8 (g : Nat → Int32) : eac 1 g 6 40 0 = sel (fun r => decide (fs_ r = 8)) g 63 := by
  simp [eac, sel, en, fs_, wd]
  try ac_rfl
theorem sa_9 (g : Nat → Int32) : eac 1 g 6 41 0 = sel (fun r => decide (fs_ r = 9)) g 63 := by
  simp [eac, sel, en, fs_, wd]
  try ac_rfl
theorem sa_10 (g : Nat → Int32) : eac 1 g 6 42 0 = sel (fun r => decide (fs_ r = 10)) g 63 := by
  simp [eac, sel, en, fs_, wd]
  try ac_rfl
theorem sa_11 (g : Nat → Int32) : eac 1 g 6 43 0 = sel (fun r => decide (fs_ r = 11)) g 63 := by
  simp [eac, sel, en, fs_, wd]
  try ac_rfl
theorem sa_12 (g : Nat → Int32) : eac 1 g 6 44 0 = sel (fun r => decide (fs_ r = 12)) g 63 := by
  simp [eac, sel, en, fs_, wd]
  try ac_rfl
theorem sa_13 (g : Nat → Int32) : eac 1 g 6 45 0 = sel (fun r => decide (fs_ r = 13)) g 63 := by
  simp [eac, sel, en, fs_, wd]
  try ac_rfl
theorem sa_14 (g : Nat → Int32) : eac 1 g 6 46 0 = sel (fun r => decide (fs_ r = 14)) g 63 := by
  simp [eac, sel, en, fs_, wd]
  try ac_rfl
theorem sa_15 (g : Nat → Int32) : eac 1 g 6 47 0 = sel (fun r => decide (fs_ r = 15)) g 63 := by
  simp [eac, sel, en, fs_, wd]
  try ac_rfl
theorem sa_16 (g : Nat → Int32) : eac 1 g 6 48 0 = sel (fun r => decide (fs_ r = 16)) g 63 := by
  simp [eac, sel, en, fs_, wd]
  try ac_rfl
theorem sa_17 (g : Nat → Int32) : eac 1 g 6 49 0 = sel (fun r => decide (fs_ r = 17)) g 63 := by
  simp [eac, sel, en, fs_, wd]
  try ac_rfl
theorem sa_18 (g : Nat → Int32) : eac 1 g 6 50 0 = sel (fun r => decide (fs_ r = 18)) g 63 := by
  simp [eac, sel, en, fs_, wd]
  try ac_rfl
theorem sa_19 (g : Nat → Int32) : eac 1 g 6 51 0 = sel (fun r => decide (fs_ r = 19)) g 63 := by
  simp [eac, sel, en, fs_, wd]
  try ac_rfl
theorem sa_20 (g : Nat → Int32) : eac 1 g 6 52 0 = sel (fun r => decide (fs_ r = 20)) g 63 := by
  simp [eac, sel, en, fs_, wd]
  try ac_rfl
theorem sa_21 (g : Nat → Int32) : eac 1 g 6 53 0 = sel (fun r => decide (fs_ r = 21)) g 63 := by
  simp [eac, sel, en, fs_, wd]
  try ac_rfl
theorem sa_22 (g : Nat → Int32) : eac 1 g 6 54 0 = sel (fun r => decide (fs_ r = 22)) g 63 := by
  simp [eac, sel, en, fs_, wd]
  try ac_rfl
theorem sa_23 (g : Nat → Int32) : eac 1 g 6 55 0 = sel (fun r => decide (fs_ r = 23)) g 63 := by
  simp [eac, sel, en, fs_, wd]
  try ac_rfl
theorem sa_24 (g : Nat → Int32) : eac 1 g 6 56 0 = sel (fun r => decide (fs_ r = 24)) g 63 := by
  simp [eac, sel, en, fs_, wd]
  try ac_rfl
theorem sa_25 (g : Nat → Int32) : eac 1 g 6 57 0 = sel (fun r => decide (fs_ r = 25)) g 63 := by
  simp [eac, sel, en, fs_, wd]
  try ac_rfl
theorem sa_26 (g : Nat → Int32) : eac 1 g 6 58 0 = sel (fun r => decide (fs_ r = 26)) g 63 := by
  simp [eac, sel, en, fs_, wd]
  try ac_rfl
theorem sa_27 (g : Nat → Int32) : eac 1 g 6 59 0 = sel (fun r => decide (fs_ r = 27)) g 63 := by
  simp [eac, sel, en, fs_, wd]
  try ac_rfl
theorem sa_28 (g : Nat → Int32) : eac 1 g 6 60 0 = sel (fun r => decide (fs_ r = 28)) g 63 := by
  simp [eac, sel, en, fs_, wd]
  try ac_rfl
theorem sa_29 (g : Nat → Int32) : eac 1 g 6 61 0 = sel (fun r => decide (fs_ r = 29)) g 63 := by
  simp [eac, sel, en, fs_, wd]
  try ac_rfl
theorem sa_30 (g : Nat → Int32) : eac 1 g 6 62 0 = sel (fun r => decide (fs_ r = 30)) g 63 := by
  simp [eac, sel, en, fs_, wd]
  try ac_rfl
theorem sa_31 (g : Nat → Int32) : eac 1 g 6 63 0 = sel (fun r => decide (fs_ r = 31)) g 63 := by
  simp [eac, sel, en, fs_, wd]
  try ac_rfl
theorem sa_all (g : Nat → Int32) : ∀ v, v < 32 → eac 1 g 6 (32 + v) 0 = sel (fun r => decide (fs_ r = v)) g 63
  | 0, _ => sa_0 g
  | 1, _ => sa_1 g
  | 2, _ => sa_2 g
  | 3, _ => sa_3 g
  | 4, _ => sa_4 g
  | 5, _ => sa_5 g
  | 6, _ => sa_6 g
  | 7, _ => sa_7 g
  | 8, _ => sa_8 g
  | 9, _ => sa_9 g
  | 10, _ => sa_10 g
  | 11, _ => sa_11 g
  | 12, _ => sa_12 g
  | 13, _ => sa_13 g
  | 14, _ => sa_14 g
  | 15, _ => sa_15 g
  | 16, _ => sa_16 g
  | 17, _ => sa_17 g
  | 18, _ => sa_18 g
  | 19, _ => sa_19 g
  | 20, _ => sa_20 g
  | 21, _ => sa_21 g
  | 22, _ => sa_22 g
  | 23, _ => sa_23 g
  | 24, _ => sa_24 g
  | 25, _ => sa_25 g
  | 26, _ => sa_26 g
  | 27, _ => sa_27 g
  | 28, _ => sa_28 g
  | 29, _ => sa_29 g
  | 30, _ => sa_30 g
  | 31, _ => sa_31 g
  | v + 32, h => by omega
def sb (g : Nat → Int32) : Nat → Int32
  | 0 => 0
  | v + 1 => sb g v + eac 1 g 6 (32 + v) 0
theorem sb_sel (g : Nat → Int32) : ∀ v, v ≤ 32 → sb g v = sel (fun r => decide (fs_ r < v)) g 63
  | 0, _ => (sel_none 63 (fun r _ => by simp)).symm
  | v + 1, hv => by
    simp only [sb]
    rw [sb_sel g v (by omega), sa_all g v (by omega), ← sel_or 63 (fun r _ h => by
      have h1 : fs_ (r + 1) < v := by simpa using h
      simp; omega)]
    refine sel_congr 63 (fun r _ => ?_)
    by_cases h1 : fs_ (r + 1) < v
    · have h2 : fs_ (r + 1) < v + 1 := by omega
      simp [h1, h2]
    · by_cases h3 : fs_ (r + 1) = v
      · have h2 : fs_ (r + 1) < v + 1 := by omega
        simp [h3]
      · have h2 : ¬ fs_ (r + 1) < v + 1 := by omega
        simp [h1, h2, h3]
