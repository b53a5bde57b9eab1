/-! The judgement Z: the world is a function k of addresses (the cells b .. b + N - 1), the locals are a list; one row an instruction. -/
def zl (b N : Nat) (k : Nat → va_E) : va_W := (List.range N).map (fun i => (b + i, k (b + i)))
theorem zl_at {b N q : Nat} {k : Nat → va_E} {x : va_E} (h1 : b ≤ q) (h2 : q < b + N) (he : k q = x) : (zl b N k)[q - b]? = some (q, x) := by
  unfold zl
  have h3 : q - b < N := by omega
  have h4 : b + (q - b) = q := by omega
  rw [List.getElem?_map, List.getElem?_range h3]
  simp [h4, he]
theorem zl_of {b N i : Nat} {k : Nat → va_E} {q : Nat × va_E} (h : (zl b N k)[i]? = some q) : i < N ∧ q = (b + i, k (b + i)) := by
  unfold zl at h
  rw [List.getElem?_map] at h
  by_cases hi : i < N
  · rw [List.getElem?_range hi] at h
    exact ⟨hi, (Option.some.inj h).symm⟩
  · rw [List.getElem?_eq_none (by simp; omega)] at h
    cases h
theorem zl_D {b N : Nat} {k : Nat → va_E} : va_D (fun q => b ≤ q) (zl b N k) := by
  refine ⟨fun i j x y hi hj hxy => ?_, fun i q h => ?_⟩
  · obtain ⟨-, rfl⟩ := zl_of hi
    obtain ⟨-, rfl⟩ := zl_of hj
    dsimp only at hxy
    omega
  · obtain ⟨-, rfl⟩ := zl_of h
    show b ≤ b + i
    omega
theorem zl_P {D : va_G} {cl : List vw_C} {b N : Nat} {k : Nat → va_E} {H : Heap} : va_P D cl (zl b N k) H ↔ ∀ q, b ≤ q → q < b + N → va_at D cl (q, k q) H := by
  refine ⟨fun h q h1 h2 => h (q - b) _ (zl_at h1 h2 rfl), fun h i q hi => ?_⟩
  obtain ⟨h1, rfl⟩ := zl_of hi
  exact h (b + i) (by omega) (by omega)
theorem zl_set {b N q : Nat} {k : Nat → va_E} {x : va_E} (h1 : b ≤ q) (h2 : q < b + N) : (zl b N k).set (q - b) (q, x) = zl b N (va_up k q x) := by
  apply List.ext_getElem?
  intro i
  by_cases hi : i < N
  · have hr : (zl b N (va_up k q x))[i]? = some (b + i, va_up k q x (b + i)) := by
      have := zl_at (b := b) (N := N) (q := b + i) (k := va_up k q x) (by omega) (by omega) rfl
      rwa [Nat.add_sub_cancel_left] at this
    have hl : (zl b N k)[i]? = some (b + i, k (b + i)) := by
      have := zl_at (b := b) (N := N) (q := b + i) (k := k) (by omega) (by omega) rfl
      rwa [Nat.add_sub_cancel_left] at this
    rw [hr]
    by_cases hq : i = q - b
    · subst hq
      have h3 : b + (q - b) = q := by omega
      rw [List.getElem?_set_self (by unfold zl; simp; omega)]
      simp [va_up, h3]
    · rw [List.getElem?_set_ne (Ne.symm hq), hl]
      have h3 : ¬ b + i = q := by omega
      simp [va_up, h3]
  · rw [List.getElem?_eq_none (by unfold zl; simp; omega), List.getElem?_eq_none (by unfold zl; simp; omega)]
theorem zl_push {b N : Nat} {k : Nat → va_E} {x : va_E} : zl b N k ++ [(b + N, x)] = zl b (N + 1) (va_up k (b + N) x) := by
  unfold zl
  rw [List.range_succ, List.map_append]
  congr 1
  · apply List.map_congr_left
    intro i hi
    have h1 := List.mem_range.mp hi
    have h3 : ¬ i = N := by omega
    simp [va_up, h3]
  · simp [va_up]
theorem zl_congr {b N : Nat} {k k' : Nat → va_E} (h : ∀ q, b ≤ q → q < b + N → k q = k' q) : zl b N k = zl b N k' := by
  unfold zl
  apply List.map_congr_left
  intro i hi
  have h1 := List.mem_range.mp hi
  rw [h (b + i) (by omega) (by omega)]
theorem up_eq {α : Type} {f : Nat → α} {q : Nat} {x : α} : va_up f q x q = x := by simp [va_up]
theorem up_ne {α : Type} {f : Nat → α} {q r : Nat} {x : α} (h : r ≠ q) : va_up f q x r = f r := by simp [va_up, h]
/-- the locals, by their places -/
def zp : Nat → List (Option Value) → List (Nat × Value)
  | _, [] => []
  | i, none :: t => zp (i + 1) t
  | i, some v :: t => (i, v) :: zp (i + 1) t
theorem zp_mem {v : Value} : ∀ (lv : List (Option Value)) (j i : Nat), lv[i]? = some (some v) → (j + i, v) ∈ zp j lv
  | [], j, i, h => by simp at h
  | x :: t, j, 0, h => by
    rw [List.getElem?_cons_zero] at h
    cases h
    simp [zp]
  | x :: t, j, i + 1, h => by
    rw [List.getElem?_cons_succ] at h
    have h1 := zp_mem t (j + 1) i h
    rw [show j + 1 + i = j + (i + 1) by omega] at h1
    cases x with
    | none => exact h1
    | some w => exact List.mem_cons_of_mem _ h1
theorem zp_of {q : Nat × Value} : ∀ (lv : List (Option Value)) (j : Nat), q ∈ zp j lv → j ≤ q.1 ∧ lv[q.1 - j]? = some (some q.2)
  | [], j, h => by simp [zp] at h
  | none :: t, j, h => by
    obtain ⟨h1, h2⟩ := zp_of t (j + 1) h
    refine ⟨by omega, ?_⟩
    rw [show q.1 - j = (q.1 - (j + 1)) + 1 by omega, List.getElem?_cons_succ]
    exact h2
  | some w :: t, j, h => by
    rcases List.mem_cons.mp h with h | h
    · subst h
      simp
    · obtain ⟨h1, h2⟩ := zp_of t (j + 1) h
      refine ⟨by omega, ?_⟩
      rw [show q.1 - j = (q.1 - (j + 1)) + 1 by omega, List.getElem?_cons_succ]
      exact h2
def zk (ls : Array Slot) (nL : Nat) (lv : List (Option Value)) : Prop := lv_has ls nL (zp 0 lv)
theorem zk.at {ls : Array Slot} {nL : Nat} {lv : List (Option Value)} {i : Nat} {v : Value} (h : zk ls nL lv) (hl : lv[i]? = some (some v)) : ls[i]? = some (.val v) := by
  have h1 := h.2.2 _ (zp_mem lv 0 i hl)
  simpa using h1
/-- the place before isn't the first half of a long -/
def zfr (lv : List (Option Value)) : Nat → Bool
  | 0 => true
  | i + 1 => match lv[i]? with
    | some (some v) => v.category == 1
    | _ => true
theorem zp_set {lv : List (Option Value)} {i : Nat} {v : Value} (hf : zfr lv i = true) : ∀ q ∈ zp 0 (lv.set i (some v)), q ∈ (i, v) :: (zp 0 lv).filter (fun q => !(q.1 == i) && !(q.1 + 1 == i && q.2.category == 2)) := by
  intro q hq
  obtain ⟨-, h1⟩ := zp_of _ 0 hq
  rw [Nat.sub_zero] at h1
  by_cases hi : q.1 = i
  · subst hi
    have hl : q.1 < lv.length := by
      have := (List.getElem?_eq_some_iff.mp h1).1
      simpa using this
    rw [List.getElem?_set_self hl] at h1
    have h2 : q.2 = v := (Option.some.inj (Option.some.inj h1)).symm
    exact List.mem_cons.mpr (Or.inl (by rw [← h2]))
  · rw [List.getElem?_set_ne (Ne.symm hi)] at h1
    refine List.mem_cons_of_mem _ (List.mem_filter.mpr ⟨?_, ?_⟩)
    · have := zp_mem lv 0 q.1 h1
      simpa using this
    · have h3 : (q.1 == i) = false := by simpa using hi
      rw [h3]
      by_cases h4 : q.1 + 1 = i
      · subst h4
        simp only [zfr, h1] at hf
        have h5 : q.2.category = 1 := by simpa using hf
        simp [h5]
      · have h6 : (q.1 + 1 == i) = false := by simpa using h4
        simp [h6]
theorem zp_set2 {lv : List (Option Value)} {i : Nat} {v : Value} (hf : zfr lv i = true) : ∀ q ∈ zp 0 ((lv.set i (some v)).set (i + 1) none), q ∈ (i, v) :: (zp 0 lv).filter (fun q => !(q.1 == i) && (!(q.1 == i + 1) && !(q.1 + 1 == i && q.2.category == 2))) := by
  intro q hq
  obtain ⟨-, h1⟩ := zp_of _ 0 hq
  rw [Nat.sub_zero] at h1
  have hn : ¬ q.1 = i + 1 := by
    intro hc
    rw [hc] at h1
    have hl : i + 1 < (lv.set i (some v)).length := by
      have := (List.getElem?_eq_some_iff.mp h1).1
      simpa using this
    rw [List.getElem?_set_self hl] at h1
    cases h1
  rw [List.getElem?_set_ne (Ne.symm hn)] at h1
  have hq2 : q ∈ zp 0 (lv.set i (some v)) := by
    have := zp_mem (lv.set i (some v)) 0 q.1 h1
    simpa using this
  rcases List.mem_cons.mp (zp_set hf q hq2) with h | h
  · exact List.mem_cons.mpr (Or.inl h)
  · obtain ⟨h2, h3⟩ := List.mem_filter.mp h
    refine List.mem_cons_of_mem _ (List.mem_filter.mpr ⟨h2, ?_⟩)
    have h4 : (q.1 == i + 1) = false := by simpa using hn
    rw [h4]
    simpa using h3
theorem zk.sub {ls : Array Slot} {nL : Nat} {l : List (Nat × Value)} {lv : List (Option Value)} (h : lv_has ls nL l) (hs : ∀ q ∈ zp 0 lv, q ∈ l) : zk ls nL lv := ⟨h.1, h.2.1, fun q hq => h.2.2 q (hs q hq)⟩
/-- one of the list is forgotten -/
theorem zk.less {ls : Array Slot} {nL : Nat} {lv lv' : List (Option Value)} (h : zk ls nL lv) (hs : ∀ (i : Nat) (v : Value), lv'[i]? = some (some v) → lv[i]? = some (some v)) : zk ls nL lv' := by
  refine ⟨h.1, h.2.1, fun q hq => ?_⟩
  obtain ⟨-, h1⟩ := zp_of _ 0 hq
  rw [Nat.sub_zero] at h1
  exact h.at (hs _ _ h1)
def zA (b : Nat) : Nat → Prop := fun q => b ≤ q
def Z (p : Program) (l : Launch) (e : Env) (R : Room) (s : State) (m : MethodId) (args : Array Value) (below : List Frame) (meth : Method) (c : Code) (nL : Nat) (D : va_G) (b N : Nat) (k : Nat → va_E) (cells slots : Nat) (Q : State → Prop) (pc : Nat) (lv : List (Option Value)) (st : List Value) : Prop :=
  ∀ (H : Heap) (locs : List Loc) (ls : Array Slot), H.size = b + N → va_P D classes (zl b N k) H → va_S (zA b) s.heap H locs → zk ls nL lv → W p l e R s m args below meth c H locs cells slots Q (F0 m pc ls st)
def zX (p : Program) (s : State) (m : MethodId) (args : Array Value) (meth : Method) (c : Code) (cc : ByteArray) (nL : Nat) (own : String) (ret : Option FieldType) (Ts : List Cond) (D : va_G) (tys : List (ClassId × FieldType)) (b : Nat) : Prop :=
  CallFix p m c cc nL s args Ts own ∧ va_K D classes tys s ∧ meth.sig.returnType = ret ∧ meth.locks = false ∧ b ≤ s.heap.size ∧ zN s
/-- counting up: the end, and a step back -/
theorem z_up {P : Nat → Prop} (e : Nat) (hx : P e) (hs : ∀ i, i < e → P (i + 1) → P i) : ∀ i, i ≤ e → P i := by
  intro i hi
  generalize hn : e - i = n
  induction n generalizing i with
  | zero => rw [show i = e by omega]; exact hx
  | succ n ih => exact hs i (by omega) (ih (i + 1) (by omega) (by omega))
/-- counting down -/
theorem z_dn {P : Nat → Prop} (hx : P 0) (hs : ∀ i, P i → P (i + 1)) : ∀ i, P i := by
  intro i
  induction i with
  | zero => exact hx
  | succ i ih => exact hs i ih
section ZR
variable {p : Program} {l : Launch} {e : Env} {R : Room} {s : State} {m : MethodId} {args : Array Value} {below : List Frame} {meth : Method} {c : Code} {cells slots : Nat} {Q : State → Prop}
variable {cc : ByteArray} {nL : Nat} {own : String} {ret : Option FieldType} {Ts : List Cond} {D : va_G} {tys : List (ClassId × FieldType)} {b N : Nat} {k : Nat → va_E} {pc : Nat} {lv : List (Option Value)} {st : List Value}
theorem z_iconst (X : zX p s m args meth c cc nL own ret Ts D tys b) {n : Int} {v : Int32} (d : decode cc pc = .ok (.iconst n, 1)) (hv : Int32.ofInt n = v) (kk : Z p l e R s m args below meth c nL D b N k cells slots Q (pc + 1) lv (.int v :: st)) : Z p l e R s m args below meth c nL D b N k cells slots Q pc lv st :=
  fun H locs ls h1 h2 h3 h4 => lv_iconst X.1.1 X.1.2.1 d hv (kk H locs ls h1 h2 h3 h4)
theorem z_bipush (X : zX p s m args meth c cc nL own ret Ts D tys b) {n : Int} {v : Int32} (d : decode cc pc = .ok (.bipush n, 2)) (hv : (Int8.ofInt n).toInt32 = v) (kk : Z p l e R s m args below meth c nL D b N k cells slots Q (pc + 2) lv (.int v :: st)) : Z p l e R s m args below meth c nL D b N k cells slots Q pc lv st :=
  fun H locs ls h1 h2 h3 h4 => lv_bipush X.1.1 X.1.2.1 d hv (kk H locs ls h1 h2 h3 h4)
theorem z_sipush (X : zX p s m args meth c cc nL own ret Ts D tys b) {n : Int} {v : Int32} (d : decode cc pc = .ok (.sipush n, 3)) (hv : (Int16.ofInt n).toInt32 = v) (kk : Z p l e R s m args below meth c nL D b N k cells slots Q (pc + 3) lv (.int v :: st)) : Z p l e R s m args below meth c nL D b N k cells slots Q pc lv st :=
  fun H locs ls h1 h2 h3 h4 => lv_sipush X.1.1 X.1.2.1 d hv (kk H locs ls h1 h2 h3 h4)
theorem z_lconst (X : zX p s m args meth c cc nL own ret Ts D tys b) {n : Fin 2} {v : Int64} (d : decode cc pc = .ok (.lconst n, 1)) (hv : Int64.ofNat (n : Nat) = v) (kk : Z p l e R s m args below meth c nL D b N k cells slots Q (pc + 1) lv (.long v :: st)) : Z p l e R s m args below meth c nL D b N k cells slots Q pc lv st :=
  fun H locs ls h1 h2 h3 h4 => lv_lconst X.1.1 X.1.2.1 d hv (kk H locs ls h1 h2 h3 h4)
theorem z_ldc2 (X : zX p s m args meth c cc nL own ret Ts D tys b) {index : Nat} {v : Int64} (d : decode cc pc = .ok (.ldc2_w index, 3)) (hw : Cond.constantLong own index v ∈ Ts) (kk : Z p l e R s m args below meth c nL D b N k cells slots Q (pc + 3) lv (.long v :: st)) : Z p l e R s m args below meth c nL D b N k cells slots Q pc lv st :=
  fun H locs ls h1 h2 h3 h4 => lv_ldc2 X.1.1 X.1.2.1 X.1.2.2.2.1 (X.1.2.2.2.2 _ hw) d (kk H locs ls h1 h2 h3 h4)
theorem z_iload_n (X : zX p s m args meth c cc nL own ret Ts D tys b) {j : Fin 4} {x : Int32} (d : decode cc pc = .ok (.iload_n j, 1)) (hl : lv[(j : Nat)]? = some (some (.int x))) (kk : Z p l e R s m args below meth c nL D b N k cells slots Q (pc + 1) lv (.int x :: st)) : Z p l e R s m args below meth c nL D b N k cells slots Q pc lv st :=
  fun H locs ls h1 h2 h3 h4 => lv_iload_n X.1.1 X.1.2.1 d rfl (h4.at hl) (kk H locs ls h1 h2 h3 h4)
theorem z_iload (X : zX p s m args meth c cc nL own ret Ts D tys b) {i : Nat} {x : Int32} (d : decode cc pc = .ok (.iload i, 2)) (hl : lv[i]? = some (some (.int x))) (kk : Z p l e R s m args below meth c nL D b N k cells slots Q (pc + 2) lv (.int x :: st)) : Z p l e R s m args below meth c nL D b N k cells slots Q pc lv st :=
  fun H locs ls h1 h2 h3 h4 => lv_iload X.1.1 X.1.2.1 d (h4.at hl) (kk H locs ls h1 h2 h3 h4)
theorem z_lload_n (X : zX p s m args meth c cc nL own ret Ts D tys b) {j : Fin 4} {x : Int64} (d : decode cc pc = .ok (.lload_n j, 1)) (hl : lv[(j : Nat)]? = some (some (.long x))) (kk : Z p l e R s m args below meth c nL D b N k cells slots Q (pc + 1) lv (.long x :: st)) : Z p l e R s m args below meth c nL D b N k cells slots Q pc lv st :=
  fun H locs ls h1 h2 h3 h4 => lv_lload_n X.1.1 X.1.2.1 d rfl (h4.at hl) (kk H locs ls h1 h2 h3 h4)
theorem z_lload (X : zX p s m args meth c cc nL own ret Ts D tys b) {i : Nat} {x : Int64} (d : decode cc pc = .ok (.lload i, 2)) (hl : lv[i]? = some (some (.long x))) (kk : Z p l e R s m args below meth c nL D b N k cells slots Q (pc + 2) lv (.long x :: st)) : Z p l e R s m args below meth c nL D b N k cells slots Q pc lv st :=
  fun H locs ls h1 h2 h3 h4 => lv_lload X.1.1 X.1.2.1 d (h4.at hl) (kk H locs ls h1 h2 h3 h4)
theorem z_aload_n (X : zX p s m args meth c cc nL own ret Ts D tys b) {j : Fin 4} {x : Nat} (d : decode cc pc = .ok (.aload_n j, 1)) (hl : lv[(j : Nat)]? = some (some (.ref x))) (kk : Z p l e R s m args below meth c nL D b N k cells slots Q (pc + 1) lv (.ref x :: st)) : Z p l e R s m args below meth c nL D b N k cells slots Q pc lv st :=
  fun H locs ls h1 h2 h3 h4 => lv_aload_n X.1.1 X.1.2.1 d rfl (h4.at hl) (kk H locs ls h1 h2 h3 h4)
theorem z_aload (X : zX p s m args meth c cc nL own ret Ts D tys b) {i : Nat} {x : Nat} (d : decode cc pc = .ok (.aload i, 2)) (hl : lv[i]? = some (some (.ref x))) (kk : Z p l e R s m args below meth c nL D b N k cells slots Q (pc + 2) lv (.ref x :: st)) : Z p l e R s m args below meth c nL D b N k cells slots Q pc lv st :=
  fun H locs ls h1 h2 h3 h4 => lv_aload X.1.1 X.1.2.1 d (h4.at hl) (kk H locs ls h1 h2 h3 h4)
theorem z_istore_n (X : zX p s m args meth c cc nL own ret Ts D tys b) {j : Fin 4} {x : Int32} (d : decode cc pc = .ok (.istore_n j, 1)) (hn : (j : Nat) < nL) (hf : zfr lv (j : Nat) = true) (kk : Z p l e R s m args below meth c nL D b N k cells slots Q (pc + 1) (lv.set (j : Nat) (some (.int x))) st) : Z p l e R s m args below meth c nL D b N k cells slots Q pc lv (.int x :: st) :=
  fun H locs ls h1 h2 h3 h4 => lv_istore_n X.1.1 X.1.2.1 d rfl h4 hn rfl (fun ls9 h9 => kk H locs ls9 h1 h2 h3 (zk.sub h9 (zp_set hf)))
theorem z_istore (X : zX p s m args meth c cc nL own ret Ts D tys b) {i : Nat} {x : Int32} (d : decode cc pc = .ok (.istore i, 2)) (hn : i < nL) (hf : zfr lv i = true) (kk : Z p l e R s m args below meth c nL D b N k cells slots Q (pc + 2) (lv.set i (some (.int x))) st) : Z p l e R s m args below meth c nL D b N k cells slots Q pc lv (.int x :: st) :=
  fun H locs ls h1 h2 h3 h4 => lv_istore X.1.1 X.1.2.1 d h4 hn rfl (fun ls9 h9 => kk H locs ls9 h1 h2 h3 (zk.sub h9 (zp_set hf)))
theorem z_astore_n (X : zX p s m args meth c cc nL own ret Ts D tys b) {j : Fin 4} {x : Nat} (d : decode cc pc = .ok (.astore_n j, 1)) (hn : (j : Nat) < nL) (hf : zfr lv (j : Nat) = true) (kk : Z p l e R s m args below meth c nL D b N k cells slots Q (pc + 1) (lv.set (j : Nat) (some (.ref x))) st) : Z p l e R s m args below meth c nL D b N k cells slots Q pc lv (.ref x :: st) :=
  fun H locs ls h1 h2 h3 h4 => lv_astore_n X.1.1 X.1.2.1 d rfl h4 hn rfl (fun ls9 h9 => kk H locs ls9 h1 h2 h3 (zk.sub h9 (zp_set hf)))
theorem z_astore (X : zX p s m args meth c cc nL own ret Ts D tys b) {i : Nat} {x : Nat} (d : decode cc pc = .ok (.astore i, 2)) (hn : i < nL) (hf : zfr lv i = true) (kk : Z p l e R s m args below meth c nL D b N k cells slots Q (pc + 2) (lv.set i (some (.ref x))) st) : Z p l e R s m args below meth c nL D b N k cells slots Q pc lv (.ref x :: st) :=
  fun H locs ls h1 h2 h3 h4 => lv_astore X.1.1 X.1.2.1 d h4 hn rfl (fun ls9 h9 => kk H locs ls9 h1 h2 h3 (zk.sub h9 (zp_set hf)))
theorem z_lstore_n (X : zX p s m args meth c cc nL own ret Ts D tys b) {j : Fin 4} {x : Int64} (d : decode cc pc = .ok (.lstore_n j, 1)) (hn : (j : Nat) + 1 < nL) (hf : zfr lv (j : Nat) = true) (kk : Z p l e R s m args below meth c nL D b N k cells slots Q (pc + 1) ((lv.set (j : Nat) (some (.long x))).set ((j : Nat) + 1) none) st) : Z p l e R s m args below meth c nL D b N k cells slots Q pc lv (.long x :: st) :=
  fun H locs ls h1 h2 h3 h4 => lv_lstore_n X.1.1 X.1.2.1 d rfl h4 hn rfl (fun ls9 h9 => kk H locs ls9 h1 h2 h3 (zk.sub h9 (zp_set2 hf)))
theorem z_lstore (X : zX p s m args meth c cc nL own ret Ts D tys b) {i : Nat} {x : Int64} (d : decode cc pc = .ok (.lstore i, 2)) (hn : i + 1 < nL) (hf : zfr lv i = true) (kk : Z p l e R s m args below meth c nL D b N k cells slots Q (pc + 2) ((lv.set i (some (.long x))).set (i + 1) none) st) : Z p l e R s m args below meth c nL D b N k cells slots Q pc lv (.long x :: st) :=
  fun H locs ls h1 h2 h3 h4 => lv_lstore X.1.1 X.1.2.1 d h4 hn rfl (fun ls9 h9 => kk H locs ls9 h1 h2 h3 (zk.sub h9 (zp_set2 hf)))
theorem z_iinc (X : zX p s m args meth c cc nL own ret Ts D tys b) {i : Nat} {n : Int} {x v : Int32} (d : decode cc pc = .ok (.iinc i n, 3)) (hl : lv[i]? = some (some (.int x))) (hv : x + Int32.ofInt n = v) (hn : i < nL) (hf : zfr lv i = true) (kk : Z p l e R s m args below meth c nL D b N k cells slots Q (pc + 3) (lv.set i (some (.int v))) st) : Z p l e R s m args below meth c nL D b N k cells slots Q pc lv st := by
  intro H locs ls h1 h2 h3 h4
  obtain ⟨j, hj⟩ := List.getElem?_of_mem (zp_mem lv 0 i hl)
  rw [Nat.zero_add] at hj
  exact lv_iinc X.1.1 X.1.2.1 d h4 hj hv hn rfl (fun ls9 h9 => kk H locs ls9 h1 h2 h3 (zk.sub h9 (zp_set hf)))
theorem z_iadd (X : zX p s m args meth c cc nL own ret Ts D tys b) {x y : Int32} (d : decode cc pc = .ok (.iadd, 1)) (kk : Z p l e R s m args below meth c nL D b N k cells slots Q (pc + 1) lv (.int (x + y) :: st)) : Z p l e R s m args below meth c nL D b N k cells slots Q pc lv (.int y :: .int x :: st) :=
  fun H locs ls h1 h2 h3 h4 => lv_iadd X.1.1 X.1.2.1 d (kk H locs ls h1 h2 h3 h4)
theorem z_isub (X : zX p s m args meth c cc nL own ret Ts D tys b) {x y : Int32} (d : decode cc pc = .ok (.isub, 1)) (kk : Z p l e R s m args below meth c nL D b N k cells slots Q (pc + 1) lv (.int (x - y) :: st)) : Z p l e R s m args below meth c nL D b N k cells slots Q pc lv (.int y :: .int x :: st) :=
  fun H locs ls h1 h2 h3 h4 => lv_isub X.1.1 X.1.2.1 d (kk H locs ls h1 h2 h3 h4)
theorem z_imul (X : zX p s m args meth c cc nL own ret Ts D tys b) {x y : Int32} (d : decode cc pc = .ok (.imul, 1)) (kk : Z p l e R s m args below meth c nL D b N k cells slots Q (pc + 1) lv (.int (x * y) :: st)) : Z p l e R s m args below meth c nL D b N k cells slots Q pc lv (.int y :: .int x :: st) :=
  fun H locs ls h1 h2 h3 h4 => lv_imul X.1.1 X.1.2.1 d (kk H locs ls h1 h2 h3 h4)
theorem z_iand (X : zX p s m args meth c cc nL own ret Ts D tys b) {x y : Int32} (d : decode cc pc = .ok (.iand, 1)) (kk : Z p l e R s m args below meth c nL D b N k cells slots Q (pc + 1) lv (.int (x &&& y) :: st)) : Z p l e R s m args below meth c nL D b N k cells slots Q pc lv (.int y :: .int x :: st) :=
  fun H locs ls h1 h2 h3 h4 => lv_iand X.1.1 X.1.2.1 d (kk H locs ls h1 h2 h3 h4)
theorem z_ladd (X : zX p s m args meth c cc nL own ret Ts D tys b) {x y : Int64} (d : decode cc pc = .ok (.ladd, 1)) (kk : Z p l e R s m args below meth c nL D b N k cells slots Q (pc + 1) lv (.long (x + y) :: st)) : Z p l e R s m args below meth c nL D b N k cells slots Q pc lv (.long y :: .long x :: st) :=
  fun H locs ls h1 h2 h3 h4 => lv_ladd X.1.1 X.1.2.1 d (kk H locs ls h1 h2 h3 h4)
theorem z_idiv (X : zX p s m args meth c cc nL own ret Ts D tys b) {x y : Int32} (d : decode cc pc = .ok (.idiv, 1)) (hne : ¬ y = 0) (kk : Z p l e R s m args below meth c nL D b N k cells slots Q (pc + 1) lv (.int (x / y) :: st)) : Z p l e R s m args below meth c nL D b N k cells slots Q pc lv (.int y :: .int x :: st) :=
  fun H locs ls h1 h2 h3 h4 => lv_idiv X.1.1 X.1.2.1 d hne (kk H locs ls h1 h2 h3 h4)
theorem z_irem (X : zX p s m args meth c cc nL own ret Ts D tys b) {x y : Int32} (d : decode cc pc = .ok (.irem, 1)) (hne : ¬ y = 0) (kk : Z p l e R s m args below meth c nL D b N k cells slots Q (pc + 1) lv (.int (x - x / y * y) :: st)) : Z p l e R s m args below meth c nL D b N k cells slots Q pc lv (.int y :: .int x :: st) :=
  fun H locs ls h1 h2 h3 h4 => lv_irem X.1.1 X.1.2.1 d hne (kk H locs ls h1 h2 h3 h4)
theorem z_i2l (X : zX p s m args meth c cc nL own ret Ts D tys b) {x : Int32} (d : decode cc pc = .ok (.i2l, 1)) (kk : Z p l e R s m args below meth c nL D b N k cells slots Q (pc + 1) lv (.long x.toInt64 :: st)) : Z p l e R s m args below meth c nL D b N k cells slots Q pc lv (.int x :: st) :=
  fun H locs ls h1 h2 h3 h4 => lv_i2l X.1.1 X.1.2.1 d rfl (kk H locs ls h1 h2 h3 h4)
theorem z_lcmp (X : zX p s m args meth c cc nL own ret Ts D tys b) {x y : Int64} (d : decode cc pc = .ok (.lcmp, 1)) (kk : Z p l e R s m args below meth c nL D b N k cells slots Q (pc + 1) lv (.int (lg_cmp x y) :: st)) : Z p l e R s m args below meth c nL D b N k cells slots Q pc lv (.long y :: .long x :: st) :=
  fun H locs ls h1 h2 h3 h4 => W.lcmp X.1.1 X.1.2.1 d (kk H locs ls h1 h2 h3 h4)
theorem z_dup (X : zX p s m args meth c cc nL own ret Ts D tys b) {v : Value} (d : decode cc pc = .ok (.dup, 1)) (hc : v.category = 1) (kk : Z p l e R s m args below meth c nL D b N k cells slots Q (pc + 1) lv (v :: v :: st)) : Z p l e R s m args below meth c nL D b N k cells slots Q pc lv (v :: st) :=
  fun H locs ls h1 h2 h3 h4 => lv_dup X.1.1 X.1.2.1 d hc (kk H locs ls h1 h2 h3 h4)
theorem z_pop (X : zX p s m args meth c cc nL own ret Ts D tys b) {v : Value} (d : decode cc pc = .ok (.pop, 1)) (hc : v.category = 1) (kk : Z p l e R s m args below meth c nL D b N k cells slots Q (pc + 1) lv st) : Z p l e R s m args below meth c nL D b N k cells slots Q pc lv (v :: st) :=
  fun H locs ls h1 h2 h3 h4 => lv_pop X.1.1 X.1.2.1 d hc (kk H locs ls h1 h2 h3 h4)
theorem z_dup2 (X : zX p s m args meth c cc nL own ret Ts D tys b) {v w : Value} (d : decode cc pc = .ok (.dup2, 1)) (hc : v.category = 1) (hw : w.category = 1) (kk : Z p l e R s m args below meth c nL D b N k cells slots Q (pc + 1) lv (v :: w :: v :: w :: st)) : Z p l e R s m args below meth c nL D b N k cells slots Q pc lv (v :: w :: st) :=
  fun H locs ls h1 h2 h3 h4 => lv_dup2_11 X.1.1 X.1.2.1 d hc hw (kk H locs ls h1 h2 h3 h4)
theorem z_dup_x1 (X : zX p s m args meth c cc nL own ret Ts D tys b) {v w : Value} (d : decode cc pc = .ok (.dup_x1, 1)) (hc : v.category = 1) (hw : w.category = 1) (kk : Z p l e R s m args below meth c nL D b N k cells slots Q (pc + 1) lv (v :: w :: v :: st)) : Z p l e R s m args below meth c nL D b N k cells slots Q pc lv (v :: w :: st) :=
  fun H locs ls h1 h2 h3 h4 => lv_dup_x1 X.1.1 X.1.2.1 d hc hw (kk H locs ls h1 h2 h3 h4)
theorem z_goto (X : zX p s m args meth c cc nL own ret Ts D tys b) {off : Int} {tgt : Nat} (d : decode cc pc = .ok (.goto off, 3)) (ht : (pc : Int) + off = (tgt : Int)) (kk : Z p l e R s m args below meth c nL D b N k cells slots Q tgt lv st) : Z p l e R s m args below meth c nL D b N k cells slots Q pc lv st :=
  fun H locs ls h1 h2 h3 h4 => lv_goto X.1.1 X.1.2.1 d ht (kk H locs ls h1 h2 h3 h4)
theorem z_if_eq (X : zX p s m args meth c cc nL own ret Ts D tys b) {x : Int32} {off : Int} {tgt : Nat} (d : decode cc pc = .ok (.ifCond .eq off, 3)) (ht : (pc : Int) + off = (tgt : Int)) (kt : x = 0 → Z p l e R s m args below meth c nL D b N k cells slots Q tgt lv st) (kf : ¬ (x = 0) → Z p l e R s m args below meth c nL D b N k cells slots Q (pc + 3) lv st) : Z p l e R s m args below meth c nL D b N k cells slots Q pc lv (.int x :: st) :=
  fun H locs ls h1 h2 h3 h4 => lv_if_eq X.1.1 X.1.2.1 d ht (fun q => kt q H locs ls h1 h2 h3 h4) (fun q => kf q H locs ls h1 h2 h3 h4)
theorem z_icmp_eq (X : zX p s m args meth c cc nL own ret Ts D tys b) {x y : Int32} {off : Int} {tgt : Nat} (d : decode cc pc = .ok (.if_icmp .eq off, 3)) (ht : (pc : Int) + off = (tgt : Int)) (kt : x = y → Z p l e R s m args below meth c nL D b N k cells slots Q tgt lv st) (kf : ¬ (x = y) → Z p l e R s m args below meth c nL D b N k cells slots Q (pc + 3) lv st) : Z p l e R s m args below meth c nL D b N k cells slots Q pc lv (.int y :: .int x :: st) :=
  fun H locs ls h1 h2 h3 h4 => lv_icmp_eq X.1.1 X.1.2.1 d ht (fun q => kt q H locs ls h1 h2 h3 h4) (fun q => kf q H locs ls h1 h2 h3 h4)
theorem z_if_ne (X : zX p s m args meth c cc nL own ret Ts D tys b) {x : Int32} {off : Int} {tgt : Nat} (d : decode cc pc = .ok (.ifCond .ne off, 3)) (ht : (pc : Int) + off = (tgt : Int)) (kt : ¬ x = 0 → Z p l e R s m args below meth c nL D b N k cells slots Q tgt lv st) (kf : x = 0 → Z p l e R s m args below meth c nL D b N k cells slots Q (pc + 3) lv st) : Z p l e R s m args below meth c nL D b N k cells slots Q pc lv (.int x :: st) :=
  fun H locs ls h1 h2 h3 h4 => lv_if_ne X.1.1 X.1.2.1 d ht (fun q => kt q H locs ls h1 h2 h3 h4) (fun q => kf q H locs ls h1 h2 h3 h4)
theorem z_icmp_ne (X : zX p s m args meth c cc nL own ret Ts D tys b) {x y : Int32} {off : Int} {tgt : Nat} (d : decode cc pc = .ok (.if_icmp .ne off, 3)) (ht : (pc : Int) + off = (tgt : Int)) (kt : ¬ x = y → Z p l e R s m args below meth c nL D b N k cells slots Q tgt lv st) (kf : x = y → Z p l e R s m args below meth c nL D b N k cells slots Q (pc + 3) lv st) : Z p l e R s m args below meth c nL D b N k cells slots Q pc lv (.int y :: .int x :: st) :=
  fun H locs ls h1 h2 h3 h4 => lv_icmp_ne X.1.1 X.1.2.1 d ht (fun q => kt q H locs ls h1 h2 h3 h4) (fun q => kf q H locs ls h1 h2 h3 h4)
theorem z_if_lt (X : zX p s m args meth c cc nL own ret Ts D tys b) {x : Int32} {off : Int} {tgt : Nat} (d : decode cc pc = .ok (.ifCond .lt off, 3)) (ht : (pc : Int) + off = (tgt : Int)) (kt : x < 0 → Z p l e R s m args below meth c nL D b N k cells slots Q tgt lv st) (kf : ¬ (x < 0) → Z p l e R s m args below meth c nL D b N k cells slots Q (pc + 3) lv st) : Z p l e R s m args below meth c nL D b N k cells slots Q pc lv (.int x :: st) :=
  fun H locs ls h1 h2 h3 h4 => lv_if_lt X.1.1 X.1.2.1 d ht (fun q => kt q H locs ls h1 h2 h3 h4) (fun q => kf q H locs ls h1 h2 h3 h4)
theorem z_icmp_lt (X : zX p s m args meth c cc nL own ret Ts D tys b) {x y : Int32} {off : Int} {tgt : Nat} (d : decode cc pc = .ok (.if_icmp .lt off, 3)) (ht : (pc : Int) + off = (tgt : Int)) (kt : x < y → Z p l e R s m args below meth c nL D b N k cells slots Q tgt lv st) (kf : ¬ (x < y) → Z p l e R s m args below meth c nL D b N k cells slots Q (pc + 3) lv st) : Z p l e R s m args below meth c nL D b N k cells slots Q pc lv (.int y :: .int x :: st) :=
  fun H locs ls h1 h2 h3 h4 => lv_icmp_lt X.1.1 X.1.2.1 d ht (fun q => kt q H locs ls h1 h2 h3 h4) (fun q => kf q H locs ls h1 h2 h3 h4)
theorem z_if_ge (X : zX p s m args meth c cc nL own ret Ts D tys b) {x : Int32} {off : Int} {tgt : Nat} (d : decode cc pc = .ok (.ifCond .ge off, 3)) (ht : (pc : Int) + off = (tgt : Int)) (kt : 0 ≤ x → Z p l e R s m args below meth c nL D b N k cells slots Q tgt lv st) (kf : ¬ (0 ≤ x) → Z p l e R s m args below meth c nL D b N k cells slots Q (pc + 3) lv st) : Z p l e R s m args below meth c nL D b N k cells slots Q pc lv (.int x :: st) :=
  fun H locs ls h1 h2 h3 h4 => lv_if_ge X.1.1 X.1.2.1 d ht (fun q => kt q H locs ls h1 h2 h3 h4) (fun q => kf q H locs ls h1 h2 h3 h4)
theorem z_icmp_ge (X : zX p s m args meth c cc nL own ret Ts D tys b) {x y : Int32} {off : Int} {tgt : Nat} (d : decode cc pc = .ok (.if_icmp .ge off, 3)) (ht : (pc : Int) + off = (tgt : Int)) (kt : y ≤ x → Z p l e R s m args below meth c nL D b N k cells slots Q tgt lv st) (kf : ¬ (y ≤ x) → Z p l e R s m args below meth c nL D b N k cells slots Q (pc + 3) lv st) : Z p l e R s m args below meth c nL D b N k cells slots Q pc lv (.int y :: .int x :: st) :=
  fun H locs ls h1 h2 h3 h4 => lv_icmp_ge X.1.1 X.1.2.1 d ht (fun q => kt q H locs ls h1 h2 h3 h4) (fun q => kf q H locs ls h1 h2 h3 h4)
theorem z_if_gt (X : zX p s m args meth c cc nL own ret Ts D tys b) {x : Int32} {off : Int} {tgt : Nat} (d : decode cc pc = .ok (.ifCond .gt off, 3)) (ht : (pc : Int) + off = (tgt : Int)) (kt : 0 < x → Z p l e R s m args below meth c nL D b N k cells slots Q tgt lv st) (kf : ¬ (0 < x) → Z p l e R s m args below meth c nL D b N k cells slots Q (pc + 3) lv st) : Z p l e R s m args below meth c nL D b N k cells slots Q pc lv (.int x :: st) :=
  fun H locs ls h1 h2 h3 h4 => lv_if_gt X.1.1 X.1.2.1 d ht (fun q => kt q H locs ls h1 h2 h3 h4) (fun q => kf q H locs ls h1 h2 h3 h4)
theorem z_icmp_gt (X : zX p s m args meth c cc nL own ret Ts D tys b) {x y : Int32} {off : Int} {tgt : Nat} (d : decode cc pc = .ok (.if_icmp .gt off, 3)) (ht : (pc : Int) + off = (tgt : Int)) (kt : y < x → Z p l e R s m args below meth c nL D b N k cells slots Q tgt lv st) (kf : ¬ (y < x) → Z p l e R s m args below meth c nL D b N k cells slots Q (pc + 3) lv st) : Z p l e R s m args below meth c nL D b N k cells slots Q pc lv (.int y :: .int x :: st) :=
  fun H locs ls h1 h2 h3 h4 => lv_icmp_gt X.1.1 X.1.2.1 d ht (fun q => kt q H locs ls h1 h2 h3 h4) (fun q => kf q H locs ls h1 h2 h3 h4)
theorem z_if_le (X : zX p s m args meth c cc nL own ret Ts D tys b) {x : Int32} {off : Int} {tgt : Nat} (d : decode cc pc = .ok (.ifCond .le off, 3)) (ht : (pc : Int) + off = (tgt : Int)) (kt : x ≤ 0 → Z p l e R s m args below meth c nL D b N k cells slots Q tgt lv st) (kf : ¬ (x ≤ 0) → Z p l e R s m args below meth c nL D b N k cells slots Q (pc + 3) lv st) : Z p l e R s m args below meth c nL D b N k cells slots Q pc lv (.int x :: st) :=
  fun H locs ls h1 h2 h3 h4 => lv_if_le X.1.1 X.1.2.1 d ht (fun q => kt q H locs ls h1 h2 h3 h4) (fun q => kf q H locs ls h1 h2 h3 h4)
theorem z_icmp_le (X : zX p s m args meth c cc nL own ret Ts D tys b) {x y : Int32} {off : Int} {tgt : Nat} (d : decode cc pc = .ok (.if_icmp .le off, 3)) (ht : (pc : Int) + off = (tgt : Int)) (kt : x ≤ y → Z p l e R s m args below meth c nL D b N k cells slots Q tgt lv st) (kf : ¬ (x ≤ y) → Z p l e R s m args below meth c nL D b N k cells slots Q (pc + 3) lv st) : Z p l e R s m args below meth c nL D b N k cells slots Q pc lv (.int y :: .int x :: st) :=
  fun H locs ls h1 h2 h3 h4 => lv_icmp_le X.1.1 X.1.2.1 d ht (fun q => kt q H locs ls h1 h2 h3 h4) (fun q => kf q H locs ls h1 h2 h3 h4)
theorem z_top {x y : Value} (h : x = y) (kk : Z p l e R s m args below meth c nL D b N k cells slots Q pc lv (y :: st)) : Z p l e R s m args below meth c nL D b N k cells slots Q pc lv (x :: st) := by subst h; exact kk
theorem z_k {k2 : Nat → va_E} (h : ∀ q, b ≤ q → q < b + N → k q = k2 q) (kk : Z p l e R s m args below meth c nL D b N k2 cells slots Q pc lv st) : Z p l e R s m args below meth c nL D b N k cells slots Q pc lv st := by
  intro H locs ls h1 h2 h3 h4
  rw [zl_congr h] at h2
  exact kk H locs ls h1 h2 h3 h4
theorem z_lv {lv2 : List (Option Value)} (h : ∀ (i : Nat) (v : Value), lv2[i]? = some (some v) → lv[i]? = some (some v)) (kk : Z p l e R s m args below meth c nL D b N k cells slots Q pc lv2 st) : Z p l e R s m args below meth c nL D b N k cells slots Q pc lv st :=
  fun H locs ls h1 h2 h3 h4 => kk H locs ls h1 h2 h3 (h4.less h)
/-- a cell of the world -/
def zc (b N : Nat) (k : Nat → va_E) (a : Nat) (x : va_E) : Prop := b ≤ a ∧ a < b + N ∧ k a = x
theorem zc.up {b N : Nat} {k : Nat → va_E} {a : Nat} {x y : va_E} (h : zc b N k a x) : zc b N (va_up k a y) a y := ⟨h.1, h.2.1, up_eq⟩
theorem zc.ne {b N : Nat} {k : Nat → va_E} {a q : Nat} {x y : va_E} (h : zc b N k a x) (hne : a ≠ q) : zc b N (va_up k q y) a x := ⟨h.1, h.2.1, (up_ne hne).trans h.2.2⟩
theorem zc.to {b N : Nat} {k k2 : Nat → va_E} {a : Nat} {x : va_E} (h : zc b N k a x) (he : k2 a = k a) : zc b N k2 a x := ⟨h.1, h.2.1, he.trans h.2.2⟩
theorem zc.more {b N N2 : Nat} {k : Nat → va_E} {a : Nat} {x : va_E} (h : zc b N k a x) (hN : N ≤ N2) : zc b N2 k a x := ⟨h.1, by have := h.2.1; omega, h.2.2⟩
theorem zc.at {b N : Nat} {k : Nat → va_E} {a : Nat} {x : va_E} (h : zc b N k a x) : (zl b N k)[a - b]? = some (a, x) := zl_at h.1 h.2.1 h.2.2
theorem zc.set {b N : Nat} {k : Nat → va_E} {a : Nat} {x y : va_E} (h : zc b N k a x) : (zl b N k).set (a - b) (a, y) = zl b N (va_up k a y) := zl_set h.1 h.2.1
theorem z_get (X : zX p s m args meth c cc nL own ret Ts D tys b) {C : String} {T : u_T} {n ci index a : Nat} {fs : List Value} (hk : zc b N k a (.inr (ci, fs))) (hc : classes[ci]? = some (C, T, n)) (hin : ∀ w ∈ u_ws C T n, w ∈ Ts) (j : Nat) (hj : j < n) (hl : Cond.fieldLink own index (T j).1 (T j).2.1 (T j).2.2.1 ∈ Ts) {v : Value} (hv : fs[j]? = some v) (d : decode cc pc = .ok (.getfield index, 3)) (kk : Z p l e R s m args below meth c nL D b N k cells slots Q (pc + 3) lv (v :: st)) : Z p l e R s m args below meth c nL D b N k cells slots Q pc lv (.ref a :: st) :=
  fun H locs ls h1 h2 h3 h4 => va_get X.1.1 X.1.2.1 X.1.2.2.2.2 hin X.1.2.2.2.1 X.2.1 h2 (a - b) hk.at hc j hj (X.1.2.2.2.2 _ hl) (fun _ q => q) hv d (kk H locs ls h1 h2 h3 h4)
theorem z_put (X : zX p s m args meth c cc nL own ret Ts D tys b) {C : String} {T : u_T} {n ci index a : Nat} {fs : List Value} (hk : zc b N k a (.inr (ci, fs))) (hc : classes[ci]? = some (C, T, n)) (hin : ∀ w ∈ u_ws C T n, w ∈ Ts) {ty0 : Nat → FieldType} (hty : ∀ j, j < n → parseFieldDescriptor (T j).2.2.1 = some (ty0 j)) (hnm : ∀ i, i < n → ∀ j, j < n → i ≠ j → (T i).2.1 ≠ (T j).2.1) (j : Nat) (hj : j < n) (hl : Cond.fieldLink own index (T j).1 (T j).2.1 (T j).2.2.1 ∈ Ts) (hfin : (T j).2.2.2 = false) {v : Value} (hn : narrow (ty0 j) v = v) (hfit : fits (ty0 j) v = true) (hlen : j < fs.length) (d : decode cc pc = .ok (.putfield index, 3)) (kk : Z p l e R s m args below meth c nL D b N (va_up k a (.inr (ci, fs.set j v))) cells slots Q (pc + 3) lv st) : Z p l e R s m args below meth c nL D b N k cells slots Q pc lv (v :: .ref a :: st) := by
  intro H locs ls h1 h2 h3 h4
  have hap := va_apart (own := own) X.1.2.2.2.2 hin ty0 hty hnm X.2.1 hc
  have he := hk.at
  obtain ⟨r, g1, cell, q1, q2, q3, q4⟩ := h2 (a - b) _ he
  have hr : r = (C, T, n) := Option.some.inj (g1.symm.trans hc)
  subst hr
  obtain ⟨hS, hfc, kC, hkC, hkind⟩ := X.2.1.1 ci _ hc
  obtain ⟨cf, kf, fi, f, hi, hsl⟩ := hS j hj
  have hlay := X.1.2.2.2.2 _ (hin _ (u_in_lay hj))
  unfold u_lay at hlay
  rw [if_neg (by rw [hfin]; decide)] at hlay
  have hst := (u_facts hfc hkC (u_lays X.1.2.2.2.2 hin hj) hi).1
  have h6 := u_store hfc hkC hkind hlay hi (hty j hj) hn hfit
  refine W.putK X.1.1 X.1.2.1 (f := f) ⟨X.1.2.2.2.1, X.1.2.2.2.2 _ hl, ⟨_, _, _, hi⟩, hst⟩ (by rw [q2]; exact h6) q1 q3 (by rw [hsl]; exact k2_hasslot (q4 j hj)) rfl rfl d fun H' e1 e2 e3 => ?_
  rw [hsl] at e1 ⊢
  exact kk H' _ ls (e2.trans h1) (by rw [← hk.set]; exact h2.set zl_D he ⟨_, hc, t_OB.to (V := updV (vp_V fs) j v) ⟨_, e1, q2, q3, t_set q4 hap hj v⟩ (fun i _ => vp_updV_set hlen v i)⟩ e3) (h3.put e2 e3 hk.1) h4
theorem z_putF (X : zX p s m args meth c cc nL own ret Ts D tys b) {C : String} {T : u_T} {n ci index a : Nat} {fs : List Value} (hk : zc b N k a (.inr (ci, fs))) (hc : classes[ci]? = some (C, T, n)) (hin : ∀ w ∈ u_ws C T n, w ∈ Ts) {ty0 : Nat → FieldType} (hty : ∀ j, j < n → parseFieldDescriptor (T j).2.2.1 = some (ty0 j)) (hnm : ∀ i, i < n → ∀ j, j < n → i ≠ j → (T i).2.1 ≠ (T j).2.1) (j : Nat) (hj : j < n) (hl : Cond.fieldLink own index (T j).1 (T j).2.1 (T j).2.2.1 ∈ Ts) (hfin : (T j).2.2.2 = true) (hin2 : meth.name = "<init>") (hdecl : (T j).1 = own) {v : Value} (hn : narrow (ty0 j) v = v) (hfit : fits (ty0 j) v = true) (hlen : j < fs.length) (d : decode cc pc = .ok (.putfield index, 3)) (kk : Z p l e R s m args below meth c nL D b N (va_up k a (.inr (ci, fs.set j v))) cells slots Q (pc + 3) lv st) : Z p l e R s m args below meth c nL D b N k cells slots Q pc lv (v :: .ref a :: st) := by
  intro H locs ls h1 h2 h3 h4
  have hap := va_apart (own := own) X.1.2.2.2.2 hin ty0 hty hnm X.2.1 hc
  have he := hk.at
  obtain ⟨r, g1, cell, q1, q2, q3, q4⟩ := h2 (a - b) _ he
  have hr : r = (C, T, n) := Option.some.inj (g1.symm.trans hc)
  subst hr
  obtain ⟨hS, hfc, kC, hkC, hkind⟩ := X.2.1.1 ci _ hc
  obtain ⟨cf, kf, fi, f, hi, hsl⟩ := hS j hj
  have hlay := X.1.2.2.2.2 _ (hin _ (u_in_lay hj))
  unfold u_lay at hlay
  rw [if_pos hfin] at hlay
  have hst := (u_facts hfc hkC (u_lays X.1.2.2.2.2 hin hj) hi).1
  have hcf : m.cls = cf := by
    obtain ⟨_, _, c', _, _, _, -, -, hf', -, -, -, hown2, -⟩ := Cond.laysFinal_spec hlay
    have e1 : c' = cf := by have := hi.symm.trans hf'; simp at this; exact this.1.symm
    rw [hdecl] at hown2
    rw [← e1]; exact Option.some.inj (X.1.2.2.2.1.symm.trans hown2)
  have h6 := u_fits hfc hkC hkind (Or.inr hlay) hi (hty j hj) hn hfit
  refine W.putFinK X.1.1 X.1.2.1 X.1.2.2.2.1 (X.1.2.2.2.2 _ hl) hi hst hcf hin2 (by rw [q2]; exact h6) q1 q3 (by rw [hsl]; exact k2_hasslot (q4 j hj)) rfl rfl d fun H' e1 e2 e3 => ?_
  rw [hsl] at e1 ⊢
  exact kk H' _ ls (e2.trans h1) (by rw [← hk.set]; exact h2.set zl_D he ⟨_, hc, t_OB.to (V := updV (vp_V fs) j v) ⟨_, e1, q2, q3, t_set q4 hap hj v⟩ (fun i _ => vp_updV_set hlen v i)⟩ e3) (h3.put e2 e3 hk.1) h4
theorem z_iald (X : zX p s m args meth c cc nL own ret Ts D tys b) {a n : Nat} {cA : ClassId} {f : Nat → Int32} (hk : zc b N k a (.inl (cA, n, .inl f))) (t0 : Nat) (ht : tys[t0]? = some (cA, .int)) {i : Int32} {j : Nat} (hi : i = nI j) (hj : j < n) (hn : n < 2 ^ 31) (d : decode cc pc = .ok (.iaload, 1)) (kk : Z p l e R s m args below meth c nL D b N k cells slots Q (pc + 1) lv (.int (f j) :: st)) : Z p l e R s m args below meth c nL D b N k cells slots Q pc lv (.int i :: .ref a :: st) := by
  intro H locs ls h1 h2 h3 h4
  subst hi
  refine va_iald X.1.1 X.1.2.1 X.2.1 h2 (a - b) t0 hk.at ht (vp_in_nI hj hn) d ?_
  rw [nI_clamp (by omega)]
  exact kk H locs ls h1 h2 h3 h4
theorem z_zald (X : zX p s m args meth c cc nL own ret Ts D tys b) {a n : Nat} {cA : ClassId} {f : Nat → Int32} (hk : zc b N k a (.inl (cA, n, .inl f))) (t0 : Nat) (ht : tys[t0]? = some (cA, .boolean)) {i : Int32} {j : Nat} (hi : i = nI j) (hj : j < n) (hn : n < 2 ^ 31) (d : decode cc pc = .ok (.baload, 1)) (kk : Z p l e R s m args below meth c nL D b N k cells slots Q (pc + 1) lv (.int (f j) :: st)) : Z p l e R s m args below meth c nL D b N k cells slots Q pc lv (.int i :: .ref a :: st) := by
  intro H locs ls h1 h2 h3 h4
  subst hi
  refine va_zald X.1.1 X.1.2.1 X.2.1 h2 (a - b) t0 hk.at ht (vp_in_nI hj hn) d ?_
  rw [nI_clamp (by omega)]
  exact kk H locs ls h1 h2 h3 h4
theorem z_aald (X : zX p s m args meth c cc nL own ret Ts D tys b) {a n : Nat} {cA : ClassId} {C : String} {f : Nat → Option Nat} (hk : zc b N k a (.inl (cA, n, .inr (.inr (.inr (.inr f)))))) (t0 : Nat) (ht : tys[t0]? = some (cA, .object C)) {i : Int32} {j v : Nat} (hi : i = nI j) (hj : j < n) (hn : n < 2 ^ 31) (hv : f j = some v) (d : decode cc pc = .ok (.aaload, 1)) (kk : Z p l e R s m args below meth c nL D b N k cells slots Q (pc + 1) lv (.ref v :: st)) : Z p l e R s m args below meth c nL D b N k cells slots Q pc lv (.int i :: .ref a :: st) := by
  intro H locs ls h1 h2 h3 h4
  subst hi
  refine va_aldq X.1.1 X.1.2.1 X.2.1 h2 (a - b) t0 hk.at ht (vp_in_nI hj hn) d ?_
  rw [nI_clamp (by omega), hv]
  exact kk H locs ls h1 h2 h3 h4
theorem z_iast (X : zX p s m args meth c cc nL own ret Ts D tys b) {a n : Nat} {cA : ClassId} {f : Nat → Int32} (hk : zc b N k a (.inl (cA, n, .inl f))) (t0 : Nat) (ht : tys[t0]? = some (cA, .int)) {i x : Int32} {j : Nat} (hi : i = nI j) (hj : j < n) (hn : n < 2 ^ 31) (d : decode cc pc = .ok (.iastore, 1)) (kk : Z p l e R s m args below meth c nL D b N (va_up k a (.inl (cA, n, .inl (upd f j x)))) cells slots Q (pc + 1) lv st) : Z p l e R s m args below meth c nL D b N k cells slots Q pc lv (.int x :: .int i :: .ref a :: st) := by
  intro H locs ls h1 h2 h3 h4
  have hin : vp_in i n := by rw [hi]; exact vp_in_nI hj hn
  have hcl : i.toNatClampNeg = j := by rw [hi]; exact nI_clamp (by omega)
  refine W.iast X.1.1 X.1.2.1 (h2 (a - b) _ hk.at) ((X.2.1.2 t0 _ ht).1 n (fun j => .int (f j))) (fun q => by cases q) (by show ¬ (i < 0 ∨ (arrV _ _ _).slots.size ≤ _); rw [arrV_size]; exact hin) rfl rfl d fun H1 e1 z oq => ?_
  refine kk H1 _ ls (z.trans h1) ?_ (h3.put z oq hk.1) h4
  rw [← hk.set]
  refine h2.set zl_D hk.at ?_ oq
  show H1[a]? = some (vp_cell _ _)
  rw [e1, hcl, vp_cell_i, vp_cell_i, arrV_store]
  congr 2
  funext q
  by_cases hq : q = j
  · subst hq
    simp [updV, upd, vp_nar]
    try rfl
  · simp [updV, upd, hq]
theorem z_zast (X : zX p s m args meth c cc nL own ret Ts D tys b) {a n : Nat} {cA : ClassId} {f : Nat → Int32} (hk : zc b N k a (.inl (cA, n, .inl f))) (t0 : Nat) (ht : tys[t0]? = some (cA, .boolean)) {i x : Int32} {j : Nat} (hi : i = nI j) (hj : j < n) (hn : n < 2 ^ 31) (d : decode cc pc = .ok (.bastore, 1)) (kk : Z p l e R s m args below meth c nL D b N (va_up k a (.inl (cA, n, .inl (upd f j (vp_nar .boolean x))))) cells slots Q (pc + 1) lv st) : Z p l e R s m args below meth c nL D b N k cells slots Q pc lv (.int x :: .int i :: .ref a :: st) := by
  intro H locs ls h1 h2 h3 h4
  have hin : vp_in i n := by rw [hi]; exact vp_in_nI hj hn
  have hcl : i.toNatClampNeg = j := by rw [hi]; exact nI_clamp (by omega)
  refine W.zast X.1.1 X.1.2.1 (h2 (a - b) _ hk.at) ((X.2.1.2 t0 _ ht).1 n (fun j => .int (f j))) (fun q => by cases q) (by show ¬ (i < 0 ∨ (arrV _ _ _).slots.size ≤ _); rw [arrV_size]; exact hin) rfl rfl d fun H1 e1 z oq => ?_
  refine kk H1 _ ls (z.trans h1) ?_ (h3.put z oq hk.1) h4
  rw [← hk.set]
  refine h2.set zl_D hk.at ?_ oq
  show H1[a]? = some (vp_cell _ _)
  rw [e1, hcl, vp_cell_i, vp_cell_i, arrV_store]
  congr 2
  funext q
  by_cases hq : q = j
  · subst hq
    simp [updV, upd, vp_nar]
    try rfl
  · simp [updV, upd, hq]
theorem z_aast (X : zX p s m args meth c cc nL own ret Ts D tys b) {a n : Nat} {cA : ClassId} {f : Nat → Option Nat} {r : vw_C} {v ci : Nat} {vs : List Value} (hk : zc b N k a (.inl (cA, n, .inr (.inr (.inr (.inr f)))))) (t0 : Nat) (ht : tys[t0]? = some (cA, .object r.1)) (hv : zc b N k v (.inr (ci, vs))) (hc : classes[ci]? = some r) {i : Int32} {j : Nat} (hi : i = nI j) (hj : j < n) (hn : n < 2 ^ 31) (d : decode cc pc = .ok (.aastore, 1)) (kk : Z p l e R s m args below meth c nL D b N (va_up k a (.inl (cA, n, .inr (.inr (.inr (.inr (va_up f j (some v)))))))) cells slots Q (pc + 1) lv st) : Z p l e R s m args below meth c nL D b N k cells slots Q pc lv (.ref v :: .int i :: .ref a :: st) := by
  intro H locs ls h1 h2 h3 h4
  have hin : vp_in i n := by rw [hi]; exact vp_in_nI hj hn
  have hcl : i.toNatClampNeg = j := by rw [hi]; exact nI_clamp (by omega)
  have h0 : ¬ i < 0 := fun q => hin (Or.inl q)
  have hlt : i.toNatClampNeg < n := by omega
  obtain ⟨r', hr', cellV, g1, g2, g3, -⟩ := h2 (v - b) _ hv.at
  have hcls := (X.2.1.1 ci r hc).2
  obtain ⟨kA, comp, k1, k2, k3, -⟩ := (X.2.1.2 t0 _ ht).2
  have hcomp : comp = D.1 ci := Option.some.inj (k3.symm.trans hcls.1)
  subst hcomp
  obtain ⟨kC, hkC, -⟩ := hcls.2
  refine W.aast X.1.1 X.1.2.1 (h2 (a - b) _ hk.at) (fun q h => by cases h) (fun h => by cases h) k1 k2 rfl hkC ⟨h0, by show _ < (arrV _ _ _).slots.size; rw [arrV_size]; exact hlt⟩ g1 (fun q h => by rw [g3] at h; cases h) (by rw [g2]; exact hkC) (by rw [g2]; exact va_assign hcls) rfl rfl d fun H1 e1 z oq => ?_
  refine kk H1 _ ls (z.trans h1) ?_ (h3.put z oq hk.1) h4
  rw [← hk.set]
  refine h2.set zl_D hk.at ?_ oq
  show H1[a]? = some (vp_cell _ _)
  rw [e1, hcl, vp_cell_q, vp_cell_q, arrV_store]
  congr 2
  funext q
  by_cases hq : q = j
  · subst hq
    simp [updV, va_up, va_rf]
  · simp [updV, va_up, hq]
theorem z_alen (X : zX p s m args meth c cc nL own ret Ts D tys b) {a : Nat} {cA : ClassId} {x : vp_A} (hk : zc b N k a (.inl (cA, x))) (t0 : Nat) {ty : FieldType} (ht : tys[t0]? = some (cA, ty)) (d : decode cc pc = .ok (.arraylength, 1)) (kk : Z p l e R s m args below meth c nL D b N k cells slots Q (pc + 1) lv (.int (nI x.1) :: st)) : Z p l e R s m args below meth c nL D b N k cells slots Q pc lv (.ref a :: st) :=
  fun H locs ls h1 h2 h3 h4 => va_alen X.1.1 X.1.2.1 X.2.1 h2 (a - b) t0 hk.at ht rfl d (kk H locs ls h1 h2 h3 h4)
theorem zl_grow {D : va_G} {b N : Nat} {k : Nat → va_E} {H H1 : Heap} {x : va_E} (h1 : H.size = b + N) (h2 : va_P D classes (zl b N k) H) (o1 : ∀ q, q < H.size → H1[q]? = H[q]?) (hx : va_at D classes (b + N, x) H1) : va_P D classes (zl b (N + 1) (va_up k (b + N) x)) H1 := by
  rw [← zl_push]
  refine va_P.app (h2.kept fun i q hq => o1 q.1 ((h2 i q hq).lt)) (fun i q hq => ?_)
  have hz : i < 1 := (List.getElem?_eq_some_iff.mp hq).1
  rw [show i = 0 by omega] at hq
  cases hq
  exact hx
theorem zS_grow {b : Nat} {H0 H H1 : Heap} {locs : List Loc} (h3 : va_S (zA b) H0 H locs) (z1 : H1.size = H.size + 1) (o1 : ∀ q, q < H.size → H1[q]? = H[q]?) : va_S (zA b) H0 H1 locs := ⟨Nat.le_trans h3.1 (by omega), fun x g1 g2 => (o1 x (Nat.lt_of_lt_of_le g1 h3.1)).trans (h3.2.1 x g1 g2), h3.2.2⟩
theorem z_new (X : zX p s m args meth c cc nL own ret Ts D tys b) {C : String} {T : u_T} {n ci index : Nat} {fs : List Value} (hc : classes[ci]? = some (C, T, n)) (hin : ∀ w ∈ u_ws C T n, w ∈ Ts) {ty : Nat → FieldType} (hty : ∀ j, j < n → parseFieldDescriptor (T j).2.2.1 = some (ty j)) (hcl : Cond.classLink own index C ∈ Ts) (hinst : Cond.instantiable C n ∈ Ts) (hini : Cond.initialized C ∈ Ts) (hfs : ∀ j, j < n → defaultValue (ty j) = vp_V fs j) (hcells : cells + 1 ≤ R.cells) (hslots : slots + n ≤ R.slots) (d : decode cc pc = .ok (.new index, 3)) (kk : Z p l e R s m args below meth c nL D b (N + 1) (va_up k (b + N) (.inr (ci, fs))) (cells + 1) (slots + n) Q (pc + 3) lv (.ref (b + N) :: st)) : Z p l e R s m args below meth c nL D b N k cells slots Q pc lv st := by
  intro H locs ls h1 h2 h3 h4
  have hKn := X.2.1.1 ci _ hc
  refine W.newcK X.1.1 X.1.2.1 X.1.2.2.2.1 (X.1.2.2.2.2 _ hcl) (X.1.2.2.2.2 _ hinst) (X.1.2.2.2.2 _ hini) rfl d hcells hslots hKn.2.1 h1 fun H1 kC hkC e1 z1 o1 => ?_
  have o2 : ∀ q, q < H.size → H1[q]? = H[q]? := fun q hq => o1 q (by omega)
  exact kk H1 locs ls (by omega) (zl_grow h1 h2 o2 ⟨_, hc, (u_born ty X.1.2.2.2.2 hin hKn hkC e1 hty).to hfs⟩) (zS_grow h3 (by omega) o2) h4
theorem z_newa (X : zX p s m args meth c cc nL own ret Ts D tys b) {atype : ArrayType} {ty : FieldType} {cA : ClassId} (harr : Cond.arrayClass (newarray.typeOf atype) ∈ Ts) (hty : newarray.typeOf atype = ty) (t0 : Nat) (ht : tys[t0]? = some (cA, ty)) (hprim : va_RA s cA ty → s.vm.findClass ("[" ++ ty.toString) = some cA) {i : Int32} {n : Nat} {a0 : vp_A} (ha : vp_cell cA a0 = arrV cA n (fun _ => defaultValue ty)) (hi : i = nI n) (hn : n < 65536) (hbytes : n * componentBytes ty ≤ 536870912) (hcells : cells + 1 ≤ R.cells) (hslots : slots + n ≤ R.slots) (d : decode cc pc = .ok (.newarray atype, 2)) (kk : Z p l e R s m args below meth c nL D b (N + 1) (va_up k (b + N) (.inl (cA, a0))) (cells + 1) (slots + n) Q (pc + 2) lv (.ref (b + N) :: st)) : Z p l e R s m args below meth c nL D b N k cells slots Q pc lv (.int i :: st) := by
  intro H locs ls h1 h2 h3 h4
  subst hty
  subst hi
  refine va_newaK X.1.1 X.1.2.1 (X.1.2.2.2.2 _ harr) rfl d rfl (nI_pos (by omega)) (nI_clamp (by omega)) hbytes hcells hslots h1 fun H1 cB e1 z1 o1 hAr hNm => ?_
  have hcc : cB = cA := Option.some.inj (hNm.symm.trans (hprim (X.2.1.2 t0 _ ht).2))
  subst hcc
  have o2 : ∀ q, q < H.size → H1[q]? = H[q]? := fun q hq => o1 q (by omega)
  exact kk H1 locs ls (by omega) (zl_grow h1 h2 o2 (by show H1[b + N]? = some (vp_cell _ _); rw [ha]; exact e1)) (zS_grow h3 (by omega) o2) h4
theorem z_newq (X : zX p s m args meth c cc nL own ret Ts D tys b) {C : String} {index : Nat} {cA : ClassId} (hcl : Cond.classLink own index C ∈ Ts) (hover : va_AO C s) (t0 : Nat) (ht : tys[t0]? = some (cA, .object C)) {i : Int32} {n : Nat} (hi : i = nI n) (hn : n < 65536) (hcells : cells + 1 ≤ R.cells) (hslots : slots + n ≤ R.slots) (d : decode cc pc = .ok (.anewarray index, 3)) (kk : Z p l e R s m args below meth c nL D b (N + 1) (va_up k (b + N) (.inl (cA, n, .inr (.inr (.inr (.inr (fun _ => none))))))) (cells + 1) (slots + n) Q (pc + 3) lv (.ref (b + N) :: st)) : Z p l e R s m args below meth c nL D b N k cells slots Q pc lv (.int i :: st) := by
  intro H locs ls h1 h2 h3 h4
  subst hi
  have hcl2 : (nI n).toNatClampNeg = n := nI_clamp (by omega)
  refine W.anew X.1.1 X.1.2.1 X.1.2.2.2.1 (X.1.2.2.2.2 _ hcl) (va_AO.use hover) rfl d rfl (nI_pos (by omega)) (by rw [hcl2]; omega) hcells (by rw [hcl2]; exact hslots) fun cB kA comp f1 f2 f3 f4 => ?_
  rw [hcl2]
  obtain ⟨kB, comp2, g1, g2, g3, g4⟩ := (X.2.1.2 t0 _ ht).2
  have hcc : cB = cA := Option.some.inj (f1.symm.trans g4)
  subst hcc
  generalize hH1 : H.push ({ cls := cB, slots := Array.replicate n .null, vm := .none } : Cell) = H1
  have z1 : H1.size = H.size + 1 := by rw [← hH1, Array.size_push]
  have e1 : H1[H.size]? = some (arrV cB n (fun _ => .null)) := by rw [← hH1, Array.getElem?_push_size, ← arrV_new]
  have o1 : ∀ q : Nat, q < H.size → H1[q]? = H[q]? := fun q hq => by rw [← hH1, Array.getElem?_push, if_neg (Nat.ne_of_lt hq)]
  rw [h1] at e1 ⊢
  exact kk H1 locs ls (by omega) (zl_grow h1 h2 o1 (by show H1[b + N]? = some (vp_cell _ _); rw [vp_cell_q]; exact e1)) (zS_grow h3 z1 o1) h4
theorem z_objInit (X : zX p s m args meth c cc nL own ret Ts D tys b) {idx a : Nat} (hl : Cond.methodLink own idx Lib.objectInit ∈ Ts) (hi : Cond.instanceMethod Lib.objectInit ∈ Ts) (hcd : Cond.code Lib.objectInit ⟨#[0xb1]⟩ 1 none ∈ Ts) (d : decode cc pc = .ok (.invokespecial idx, 3)) (hf : 1 ≤ R.frames) (hlo : (st.map fun v => v.category).sum + 12 ≤ R.locals) (kk : Z p l e R s m args below meth c nL D b N k cells slots Q (pc + 3) lv st) : Z p l e R s m args below meth c nL D b N k cells slots Q pc lv (.ref a :: st) := by
  intro H locs ls h1 h2 h3 h4
  refine W.objInit X.1.1 X.1.2.1 X.1.2.2.2.1 (X.1.2.2.2.2 _ hl) (X.1.2.2.2.2 _ hi) (X.1.2.2.2.2 _ hcd) rfl (by rw [X.1.2.2.1]; exact h4.1) rfl d hf (by show 2 * 0 + _ + 12 ≤ _; omega) ?_
  exact kk H locs ls h1 h2 h3 h4
theorem z_mmax (X : zX p s m args meth c cc nL own ret Ts D tys b) {index : Nat} {x y : Int32} (hl : Cond.methodLink own index Lib.Math.max.name ∈ Ts) (hs : Cond.static Lib.Math.max.name ∈ Ts) (hi : Cond.initialized "java/lang/Math" ∈ Ts) (hcd : Cond.code Lib.Math.max.name Lib.Math.max.code 2 (some .int) ∈ Ts) (d : decode cc pc = .ok (.invokestatic index, 3)) (hf : 1 ≤ R.frames) (hlo : (st.map fun v => v.category).sum + 13 ≤ R.locals) (hcells : cells ≤ R.cells) (hslots : slots ≤ R.slots) (kk : Z p l e R s m args below meth c nL D b N k cells slots Q (pc + 3) lv (.int (if x < y then y else x) :: st)) : Z p l e R s m args below meth c nL D b N k cells slots Q pc lv (.int y :: .int x :: st) :=
  fun H locs ls h1 h2 h3 h4 => va_mmax X.1.1 X.1.2.1 (X.1.2.2.1.trans h4.1.symm) X.1.2.2.2.1 (X.1.2.2.2.2 _ hl) (X.1.2.2.2.2 _ hs) (X.1.2.2.2.2 _ hi) (X.1.2.2.2.2 _ hcd) hf hlo hcells hslots d (kk H locs ls h1 h2 h3 h4)
theorem z_mmin (X : zX p s m args meth c cc nL own ret Ts D tys b) {index : Nat} {x y : Int32} (hl : Cond.methodLink own index Lib.Math.min.name ∈ Ts) (hs : Cond.static Lib.Math.min.name ∈ Ts) (hi : Cond.initialized "java/lang/Math" ∈ Ts) (hcd : Cond.code Lib.Math.min.name Lib.Math.min.code 2 (some .int) ∈ Ts) (d : decode cc pc = .ok (.invokestatic index, 3)) (hf : 1 ≤ R.frames) (hlo : (st.map fun v => v.category).sum + 13 ≤ R.locals) (hcells : cells ≤ R.cells) (hslots : slots ≤ R.slots) (kk : Z p l e R s m args below meth c nL D b N k cells slots Q (pc + 3) lv (.int (if y < x then y else x) :: st)) : Z p l e R s m args below meth c nL D b N k cells slots Q pc lv (.int y :: .int x :: st) :=
  fun H locs ls h1 h2 h3 h4 => va_mmin X.1.1 X.1.2.1 (X.1.2.2.1.trans h4.1.symm) X.1.2.2.2.1 (X.1.2.2.2.2 _ hl) (X.1.2.2.2.2 _ hs) (X.1.2.2.2.2 _ hi) (X.1.2.2.2.2 _ hcd) hf hlo hcells hslots d (kk H locs ls h1 h2 h3 h4)
/-- a method's start and end -/
def zPc (D : va_G) (tys : List (ClassId × FieldType)) (b N : Nat) (k : Nat → va_E) (av : List Value) : Array Value → State → Prop := va_Pc av (fun U => U.heap.size = b + N ∧ va_P D classes (zl b N k) U.heap ∧ va_K D classes tys U ∧ zN U)
def zB (D : va_G) (b N : Nat) (k : Nat → va_E) (t : State) : Prop := t.heap.size = b + N ∧ va_P D classes (zl b N k) t.heap
def zQi (D : va_G) (b N : Nat) (post : Int32 → (Nat → va_E) → Prop) : Array Value → State → Outcome → State → Prop := va_Qi post (zB D b N) (zA b)
def zQl (D : va_G) (b N : Nat) (post : Int64 → (Nat → va_E) → Prop) : Array Value → State → Outcome → State → Prop := va_Ql post (zB D b N) (zA b)
def zQv (D : va_G) (b N : Nat) (post : (Nat → va_E) → Prop) : Array Value → State → Outcome → State → Prop := va_Qv post (zB D b N) (zA b)
theorem zPc.blind {D : va_G} {tys : List (ClassId × FieldType)} {b N : Nat} {k : Nat → va_E} {av : List Value} : FrameBlind (zPc D tys b N k av) := fun a U g mk q => ⟨q.1, q.2.1, q.2.2.1, va_K.moved (u := U) (U := U.calling g mk a) (Vm.Alike.refl U.vm) q.2.2.2.1, q.2.2.2.2.blind⟩
theorem z_iret (X : zX p s m args meth c cc nL own (some .int) Ts D tys b) {mc ms : Nat} {post : Int32 → (Nat → va_E) → Prop} {x : Int32} (d : decode cc pc = .ok (.ireturn, 1)) (hc : cells ≤ mc) (hs : slots ≤ ms) (hp : post x k) : Z p l e R s m args below meth c nL D b N k cells slots (MQ below (zQi D b N post) args s mc ms (zA b)) pc lv [.int x] := by
  intro H locs ls h1 h2 h3 h4
  refine W.widen hc hs ?_
  exact W.iret X.1.1 X.1.2.1 X.2.2.1 (fun t ht hW => ⟨⟨x, k, rfl, hp, by rw [ht]; exact h1, by rw [ht]; exact h2⟩, h3.F ht⟩) h3.2.2 d X.2.2.2.1
theorem z_zret (X : zX p s m args meth c cc nL own (some .boolean) Ts D tys b) {mc ms : Nat} {post : Int32 → (Nat → va_E) → Prop} {x : Int32} (d : decode cc pc = .ok (.ireturn, 1)) (hx : narrow .boolean (.int x) = .int x) (hc : cells ≤ mc) (hs : slots ≤ ms) (hp : post x k) : Z p l e R s m args below meth c nL D b N k cells slots (MQ below (zQi D b N post) args s mc ms (zA b)) pc lv [.int x] := by
  intro H locs ls h1 h2 h3 h4
  refine W.widen hc hs ?_
  exact W.zret X.1.1 X.1.2.1 X.2.2.1 hx (fun t ht hW => ⟨⟨x, k, rfl, hp, by rw [ht]; exact h1, by rw [ht]; exact h2⟩, h3.F ht⟩) h3.2.2 d X.2.2.2.1
theorem z_lret (X : zX p s m args meth c cc nL own (some .long) Ts D tys b) {mc ms : Nat} {post : Int64 → (Nat → va_E) → Prop} {x : Int64} (d : decode cc pc = .ok (.lreturn, 1)) (hc : cells ≤ mc) (hs : slots ≤ ms) (hp : post x k) : Z p l e R s m args below meth c nL D b N k cells slots (MQ below (zQl D b N post) args s mc ms (zA b)) pc lv [.long x] := by
  intro H locs ls h1 h2 h3 h4
  refine W.widen hc hs ?_
  exact W.lret X.1.1 X.1.2.1 X.2.2.1 (fun t ht hW => ⟨⟨x, k, rfl, hp, by rw [ht]; exact h1, by rw [ht]; exact h2⟩, h3.F ht⟩) h3.2.2 d X.2.2.2.1
theorem z_vret (X : zX p s m args meth c cc nL own none Ts D tys b) {mc ms : Nat} {post : (Nat → va_E) → Prop} (d : decode cc pc = .ok (.return_, 1)) (hc : cells ≤ mc) (hs : slots ≤ ms) (hp : post k) : Z p l e R s m args below meth c nL D b N k cells slots (MQ below (zQv D b N post) args s mc ms (zA b)) pc lv [] := by
  intro H locs ls h1 h2 h3 h4
  refine W.widen hc hs ?_
  exact W.vret X.1.1 X.1.2.1 X.2.2.1 (fun t ht hW => ⟨⟨k, rfl, hp, by rw [ht]; exact h1, by rw [ht]; exact h2⟩, h3.F ht⟩) h3.2.2 d X.2.2.2.1
theorem z_widen {mc ms : Nat} (hc : cells ≤ mc) (hs : slots ≤ ms) (kk : Z p l e R s m args below meth c nL D b N k mc ms Q pc lv st) : Z p l e R s m args below meth c nL D b N k cells slots Q pc lv st :=
  fun H locs ls h1 h2 h3 h4 => W.widen hc hs (kk H locs ls h1 h2 h3 h4)
theorem z_callVi (X : zX p s m args meth c cc nL own ret Ts D tys b) {y : MethodName} {bytes : ByteArray} {maxL mc ms n index N2 a : Nat} {rt : Option FieldType} {ws : List Cond} {rm : Room} {As st0 : List Value} {post : Int32 → (Nat → va_E) → Prop} (hM : Met l y ws rm (zPc D tys b N k (.ref a :: As)) (zQi D b N2 post) mc ms (zA b)) {C : String} {T : u_T} {nf ci : Nat} {fs : List Value} (hrec : zc b N k a (.inr (ci, fs))) (hcl : classes[ci]? = some (C, T, nf)) (cw : CallW R s args own C index y bytes maxL rt ws rm mc ms n) (hst : st0 = As.reverse ++ .ref a :: st) (hn : As.length = n) (hcat : (st.map fun v => v.category).sum ≤ 8) (d : decode cc pc = .ok (.invokevirtual index, 3)) (hfit : cells + mc ≤ R.cells ∧ slots + ms ≤ R.slots) (kk : ∀ (r : Int32) (k2 : Nat → va_E), post r k2 → Z p l e R s m args below meth c nL D b N2 k2 (cells + mc) (slots + ms) Q (pc + 3) lv (.int r :: st)) : Z p l e R s m args below meth c nL D b N k cells slots Q pc lv st0 := by
  intro H locs ls h1 h2 h3 h4
  exact va_calli (va_runV X.1 hM cw ⟨zPc.blind, va_recv X.2.1 h2 hcl hrec.at, (fun U hU hW => ⟨rfl, by rw [hU]; exact h1, by rw [hU]; exact h2, va_K.moved hW.alike X.2.1, X.2.2.2.2.2.moved hW⟩)⟩ rfl hn h4.1 hst (lv_room hcat) d hfit) h3 (fun _ _ q => q) (fun _ q => q) (fun r u t H1 locs1 ht hvm hp hB hz hk9 hS => kk r u hp H1 locs1 ls (by rw [← ht]; exact hB.1) (by rw [← ht]; exact hB.2) hS h4)
theorem z_callSi (X : zX p s m args meth c cc nL own ret Ts D tys b) {y : MethodName} {bytes : ByteArray} {maxL mc ms n index N2 a : Nat} {rt : Option FieldType} {ws : List Cond} {rm : Room} {As st0 : List Value} {post : Int32 → (Nat → va_E) → Prop} (hM : Met l y ws rm (zPc D tys b N k As) (zQi D b N2 post) mc ms (zA b)) (cw : CallB R s args own index y bytes maxL rt ws rm mc ms n ∧ (Cond.static y).before args s = true) (hst : st0 = As.reverse ++ st) (hn : As.length = n) (hcat : (st.map fun v => v.category).sum ≤ 8) (d : decode cc pc = .ok (.invokestatic index, 3)) (hfit : cells + mc ≤ R.cells ∧ slots + ms ≤ R.slots) (kk : ∀ (r : Int32) (k2 : Nat → va_E), post r k2 → Z p l e R s m args below meth c nL D b N2 k2 (cells + mc) (slots + ms) Q (pc + 3) lv (.int r :: st)) : Z p l e R s m args below meth c nL D b N k cells slots Q pc lv st0 := by
  intro H locs ls h1 h2 h3 h4
  exact va_calli (va_runS X.1 hM cw ⟨zPc.blind, (fun U hU hW => ⟨rfl, by rw [hU]; exact h1, by rw [hU]; exact h2, va_K.moved hW.alike X.2.1, X.2.2.2.2.2.moved hW⟩)⟩ rfl hn h4.1 hst (lv_room hcat) d hfit) h3 (fun _ _ q => q) (fun _ q => q) (fun r u t H1 locs1 ht hvm hp hB hz hk9 hS => kk r u hp H1 locs1 ls (by rw [← ht]; exact hB.1) (by rw [← ht]; exact hB.2) hS h4)
theorem z_callVNi (X : zX p s m args meth c cc nL own ret Ts D tys b) {y : MethodName} {bytes : ByteArray} {maxL mc ms n index N2 a : Nat} {rt : Option FieldType} {ws : List Cond} {rm : Room} {As st0 : List Value} {post : Int32 → (Nat → va_E) → Prop} (hM : Met l y ws rm (zPc D tys b N k (.ref a :: As)) (zQi D b N2 post) mc ms (zA b)) {C : String} {T : u_T} {nf ci : Nat} {fs : List Value} (hrec : zc b N k a (.inr (ci, fs))) (hcl : classes[ci]? = some (C, T, nf)) {host : String} (cw : va_CN R s args own index y host bytes maxL rt ws rm mc ms n ∧ (Cond.instanceMethod y).before args s = true ∧ (Cond.selects C y y).before args s = true) (hst : st0 = As.reverse ++ .ref a :: st) (hn : As.length = n) (hcat : (st.map fun v => v.category).sum ≤ 8) (d : decode cc pc = .ok (.invokevirtual index, 3)) (hfit : cells + mc ≤ R.cells ∧ slots + ms ≤ R.slots) (kk : ∀ (r : Int32) (k2 : Nat → va_E), post r k2 → Z p l e R s m args below meth c nL D b N2 k2 (cells + mc) (slots + ms) Q (pc + 3) lv (.int r :: st)) : Z p l e R s m args below meth c nL D b N k cells slots Q pc lv st0 := by
  intro H locs ls h1 h2 h3 h4
  exact va_calli (va_runVN X.1 hM cw ⟨zPc.blind, va_recv X.2.1 h2 hcl hrec.at, (fun U hU hW => ⟨rfl, by rw [hU]; exact h1, by rw [hU]; exact h2, va_K.moved hW.alike X.2.1, X.2.2.2.2.2.moved hW⟩)⟩ rfl hn h4.1 hst (lv_room hcat) d hfit) h3 (fun _ _ q => q) (fun _ q => q) (fun r u t H1 locs1 ht hvm hp hB hz hk9 hS => kk r u hp H1 locs1 ls (by rw [← ht]; exact hB.1) (by rw [← ht]; exact hB.2) hS h4)
theorem z_callSNi (X : zX p s m args meth c cc nL own ret Ts D tys b) {y : MethodName} {bytes : ByteArray} {maxL mc ms n index N2 a : Nat} {rt : Option FieldType} {ws : List Cond} {rm : Room} {As st0 : List Value} {post : Int32 → (Nat → va_E) → Prop} (hM : Met l y ws rm (zPc D tys b N k As) (zQi D b N2 post) mc ms (zA b)) {host : String} (cw : va_CN R s args own index y host bytes maxL rt ws rm mc ms n ∧ (Cond.static y).before args s = true ∧ True) (hst : st0 = As.reverse ++ st) (hn : As.length = n) (hcat : (st.map fun v => v.category).sum ≤ 8) (d : decode cc pc = .ok (.invokestatic index, 3)) (hfit : cells + mc ≤ R.cells ∧ slots + ms ≤ R.slots) (kk : ∀ (r : Int32) (k2 : Nat → va_E), post r k2 → Z p l e R s m args below meth c nL D b N2 k2 (cells + mc) (slots + ms) Q (pc + 3) lv (.int r :: st)) : Z p l e R s m args below meth c nL D b N k cells slots Q pc lv st0 := by
  intro H locs ls h1 h2 h3 h4
  exact va_calli (va_runSN X.1 hM cw ⟨zPc.blind, (fun U hU hW => ⟨rfl, by rw [hU]; exact h1, by rw [hU]; exact h2, va_K.moved hW.alike X.2.1, X.2.2.2.2.2.moved hW⟩)⟩ rfl hn h4.1 hst (lv_room hcat) d hfit) h3 (fun _ _ q => q) (fun _ q => q) (fun r u t H1 locs1 ht hvm hp hB hz hk9 hS => kk r u hp H1 locs1 ls (by rw [← ht]; exact hB.1) (by rw [← ht]; exact hB.2) hS h4)
theorem z_callVl (X : zX p s m args meth c cc nL own ret Ts D tys b) {y : MethodName} {bytes : ByteArray} {maxL mc ms n index N2 a : Nat} {rt : Option FieldType} {ws : List Cond} {rm : Room} {As st0 : List Value} {post : Int64 → (Nat → va_E) → Prop} (hM : Met l y ws rm (zPc D tys b N k (.ref a :: As)) (zQl D b N2 post) mc ms (zA b)) {C : String} {T : u_T} {nf ci : Nat} {fs : List Value} (hrec : zc b N k a (.inr (ci, fs))) (hcl : classes[ci]? = some (C, T, nf)) (cw : CallW R s args own C index y bytes maxL rt ws rm mc ms n) (hst : st0 = As.reverse ++ .ref a :: st) (hn : As.length = n) (hcat : (st.map fun v => v.category).sum ≤ 8) (d : decode cc pc = .ok (.invokevirtual index, 3)) (hfit : cells + mc ≤ R.cells ∧ slots + ms ≤ R.slots) (kk : ∀ (r : Int64) (k2 : Nat → va_E), post r k2 → Z p l e R s m args below meth c nL D b N2 k2 (cells + mc) (slots + ms) Q (pc + 3) lv (.long r :: st)) : Z p l e R s m args below meth c nL D b N k cells slots Q pc lv st0 := by
  intro H locs ls h1 h2 h3 h4
  exact va_calll (va_runV X.1 hM cw ⟨zPc.blind, va_recv X.2.1 h2 hcl hrec.at, (fun U hU hW => ⟨rfl, by rw [hU]; exact h1, by rw [hU]; exact h2, va_K.moved hW.alike X.2.1, X.2.2.2.2.2.moved hW⟩)⟩ rfl hn h4.1 hst (lv_room hcat) d hfit) h3 (fun _ _ q => q) (fun _ q => q) (fun r u t H1 locs1 ht hvm hp hB hz hk9 hS => kk r u hp H1 locs1 ls (by rw [← ht]; exact hB.1) (by rw [← ht]; exact hB.2) hS h4)
theorem z_callSl (X : zX p s m args meth c cc nL own ret Ts D tys b) {y : MethodName} {bytes : ByteArray} {maxL mc ms n index N2 a : Nat} {rt : Option FieldType} {ws : List Cond} {rm : Room} {As st0 : List Value} {post : Int64 → (Nat → va_E) → Prop} (hM : Met l y ws rm (zPc D tys b N k As) (zQl D b N2 post) mc ms (zA b)) (cw : CallB R s args own index y bytes maxL rt ws rm mc ms n ∧ (Cond.static y).before args s = true) (hst : st0 = As.reverse ++ st) (hn : As.length = n) (hcat : (st.map fun v => v.category).sum ≤ 8) (d : decode cc pc = .ok (.invokestatic index, 3)) (hfit : cells + mc ≤ R.cells ∧ slots + ms ≤ R.slots) (kk : ∀ (r : Int64) (k2 : Nat → va_E), post r k2 → Z p l e R s m args below meth c nL D b N2 k2 (cells + mc) (slots + ms) Q (pc + 3) lv (.long r :: st)) : Z p l e R s m args below meth c nL D b N k cells slots Q pc lv st0 := by
  intro H locs ls h1 h2 h3 h4
  exact va_calll (va_runS X.1 hM cw ⟨zPc.blind, (fun U hU hW => ⟨rfl, by rw [hU]; exact h1, by rw [hU]; exact h2, va_K.moved hW.alike X.2.1, X.2.2.2.2.2.moved hW⟩)⟩ rfl hn h4.1 hst (lv_room hcat) d hfit) h3 (fun _ _ q => q) (fun _ q => q) (fun r u t H1 locs1 ht hvm hp hB hz hk9 hS => kk r u hp H1 locs1 ls (by rw [← ht]; exact hB.1) (by rw [← ht]; exact hB.2) hS h4)
theorem z_callVNl (X : zX p s m args meth c cc nL own ret Ts D tys b) {y : MethodName} {bytes : ByteArray} {maxL mc ms n index N2 a : Nat} {rt : Option FieldType} {ws : List Cond} {rm : Room} {As st0 : List Value} {post : Int64 → (Nat → va_E) → Prop} (hM : Met l y ws rm (zPc D tys b N k (.ref a :: As)) (zQl D b N2 post) mc ms (zA b)) {C : String} {T : u_T} {nf ci : Nat} {fs : List Value} (hrec : zc b N k a (.inr (ci, fs))) (hcl : classes[ci]? = some (C, T, nf)) {host : String} (cw : va_CN R s args own index y host bytes maxL rt ws rm mc ms n ∧ (Cond.instanceMethod y).before args s = true ∧ (Cond.selects C y y).before args s = true) (hst : st0 = As.reverse ++ .ref a :: st) (hn : As.length = n) (hcat : (st.map fun v => v.category).sum ≤ 8) (d : decode cc pc = .ok (.invokevirtual index, 3)) (hfit : cells + mc ≤ R.cells ∧ slots + ms ≤ R.slots) (kk : ∀ (r : Int64) (k2 : Nat → va_E), post r k2 → Z p l e R s m args below meth c nL D b N2 k2 (cells + mc) (slots + ms) Q (pc + 3) lv (.long r :: st)) : Z p l e R s m args below meth c nL D b N k cells slots Q pc lv st0 := by
  intro H locs ls h1 h2 h3 h4
  exact va_calll (va_runVN X.1 hM cw ⟨zPc.blind, va_recv X.2.1 h2 hcl hrec.at, (fun U hU hW => ⟨rfl, by rw [hU]; exact h1, by rw [hU]; exact h2, va_K.moved hW.alike X.2.1, X.2.2.2.2.2.moved hW⟩)⟩ rfl hn h4.1 hst (lv_room hcat) d hfit) h3 (fun _ _ q => q) (fun _ q => q) (fun r u t H1 locs1 ht hvm hp hB hz hk9 hS => kk r u hp H1 locs1 ls (by rw [← ht]; exact hB.1) (by rw [← ht]; exact hB.2) hS h4)
theorem z_callSNl (X : zX p s m args meth c cc nL own ret Ts D tys b) {y : MethodName} {bytes : ByteArray} {maxL mc ms n index N2 a : Nat} {rt : Option FieldType} {ws : List Cond} {rm : Room} {As st0 : List Value} {post : Int64 → (Nat → va_E) → Prop} (hM : Met l y ws rm (zPc D tys b N k As) (zQl D b N2 post) mc ms (zA b)) {host : String} (cw : va_CN R s args own index y host bytes maxL rt ws rm mc ms n ∧ (Cond.static y).before args s = true ∧ True) (hst : st0 = As.reverse ++ st) (hn : As.length = n) (hcat : (st.map fun v => v.category).sum ≤ 8) (d : decode cc pc = .ok (.invokestatic index, 3)) (hfit : cells + mc ≤ R.cells ∧ slots + ms ≤ R.slots) (kk : ∀ (r : Int64) (k2 : Nat → va_E), post r k2 → Z p l e R s m args below meth c nL D b N2 k2 (cells + mc) (slots + ms) Q (pc + 3) lv (.long r :: st)) : Z p l e R s m args below meth c nL D b N k cells slots Q pc lv st0 := by
  intro H locs ls h1 h2 h3 h4
  exact va_calll (va_runSN X.1 hM cw ⟨zPc.blind, (fun U hU hW => ⟨rfl, by rw [hU]; exact h1, by rw [hU]; exact h2, va_K.moved hW.alike X.2.1, X.2.2.2.2.2.moved hW⟩)⟩ rfl hn h4.1 hst (lv_room hcat) d hfit) h3 (fun _ _ q => q) (fun _ q => q) (fun r u t H1 locs1 ht hvm hp hB hz hk9 hS => kk r u hp H1 locs1 ls (by rw [← ht]; exact hB.1) (by rw [← ht]; exact hB.2) hS h4)
theorem z_callVv (X : zX p s m args meth c cc nL own ret Ts D tys b) {y : MethodName} {bytes : ByteArray} {maxL mc ms n index N2 a : Nat} {rt : Option FieldType} {ws : List Cond} {rm : Room} {As st0 : List Value} {post : (Nat → va_E) → Prop} (hM : Met l y ws rm (zPc D tys b N k (.ref a :: As)) (zQv D b N2 post) mc ms (zA b)) {C : String} {T : u_T} {nf ci : Nat} {fs : List Value} (hrec : zc b N k a (.inr (ci, fs))) (hcl : classes[ci]? = some (C, T, nf)) (cw : CallW R s args own C index y bytes maxL rt ws rm mc ms n) (hst : st0 = As.reverse ++ .ref a :: st) (hn : As.length = n) (hcat : (st.map fun v => v.category).sum ≤ 8) (d : decode cc pc = .ok (.invokevirtual index, 3)) (hfit : cells + mc ≤ R.cells ∧ slots + ms ≤ R.slots) (kk : ∀ (k2 : Nat → va_E), post k2 → Z p l e R s m args below meth c nL D b N2 k2 (cells + mc) (slots + ms) Q (pc + 3) lv st) : Z p l e R s m args below meth c nL D b N k cells slots Q pc lv st0 := by
  intro H locs ls h1 h2 h3 h4
  exact va_callv (va_runV X.1 hM cw ⟨zPc.blind, va_recv X.2.1 h2 hcl hrec.at, (fun U hU hW => ⟨rfl, by rw [hU]; exact h1, by rw [hU]; exact h2, va_K.moved hW.alike X.2.1, X.2.2.2.2.2.moved hW⟩)⟩ rfl hn h4.1 hst (lv_room hcat) d hfit) h3 (fun _ _ q => q) (fun _ q => q) (fun u t H1 locs1 ht hvm hp hB hz hk9 hS => kk u hp H1 locs1 ls (by rw [← ht]; exact hB.1) (by rw [← ht]; exact hB.2) hS h4)
theorem z_callSv (X : zX p s m args meth c cc nL own ret Ts D tys b) {y : MethodName} {bytes : ByteArray} {maxL mc ms n index N2 a : Nat} {rt : Option FieldType} {ws : List Cond} {rm : Room} {As st0 : List Value} {post : (Nat → va_E) → Prop} (hM : Met l y ws rm (zPc D tys b N k As) (zQv D b N2 post) mc ms (zA b)) (cw : CallB R s args own index y bytes maxL rt ws rm mc ms n ∧ (Cond.static y).before args s = true) (hst : st0 = As.reverse ++ st) (hn : As.length = n) (hcat : (st.map fun v => v.category).sum ≤ 8) (d : decode cc pc = .ok (.invokestatic index, 3)) (hfit : cells + mc ≤ R.cells ∧ slots + ms ≤ R.slots) (kk : ∀ (k2 : Nat → va_E), post k2 → Z p l e R s m args below meth c nL D b N2 k2 (cells + mc) (slots + ms) Q (pc + 3) lv st) : Z p l e R s m args below meth c nL D b N k cells slots Q pc lv st0 := by
  intro H locs ls h1 h2 h3 h4
  exact va_callv (va_runS X.1 hM cw ⟨zPc.blind, (fun U hU hW => ⟨rfl, by rw [hU]; exact h1, by rw [hU]; exact h2, va_K.moved hW.alike X.2.1, X.2.2.2.2.2.moved hW⟩)⟩ rfl hn h4.1 hst (lv_room hcat) d hfit) h3 (fun _ _ q => q) (fun _ q => q) (fun u t H1 locs1 ht hvm hp hB hz hk9 hS => kk u hp H1 locs1 ls (by rw [← ht]; exact hB.1) (by rw [← ht]; exact hB.2) hS h4)
theorem z_callIv (X : zX p s m args meth c cc nL own ret Ts D tys b) {y : MethodName} {bytes : ByteArray} {maxL mc ms n index N2 a : Nat} {rt : Option FieldType} {ws : List Cond} {rm : Room} {As st0 : List Value} {post : (Nat → va_E) → Prop} (hM : Met l y ws rm (zPc D tys b N k (.ref a :: As)) (zQv D b N2 post) mc ms (zA b)) (cw : CallB R s args own index y bytes maxL none ws rm mc ms n ∧ y.name = "<init>" ∧ (Cond.instanceMethod y).before args s = true) (hst : st0 = As.reverse ++ .ref a :: st) (hn : As.length = n) (hcat : (st.map fun v => v.category).sum ≤ 8) (d : decode cc pc = .ok (.invokespecial index, 3)) (hfit : cells + mc ≤ R.cells ∧ slots + ms ≤ R.slots) (kk : ∀ (k2 : Nat → va_E), post k2 → Z p l e R s m args below meth c nL D b N2 k2 (cells + mc) (slots + ms) Q (pc + 3) lv st) : Z p l e R s m args below meth c nL D b N k cells slots Q pc lv st0 := by
  intro H locs ls h1 h2 h3 h4
  exact va_callv (va_runI X.1 hM cw ⟨zPc.blind, (fun U hU hW => ⟨rfl, by rw [hU]; exact h1, by rw [hU]; exact h2, va_K.moved hW.alike X.2.1, X.2.2.2.2.2.moved hW⟩)⟩ rfl hn h4.1 hst (lv_room hcat) d hfit) h3 (fun _ _ q => q) (fun _ q => q) (fun u t H1 locs1 ht hvm hp hB hz hk9 hS => kk u hp H1 locs1 ls (by rw [← ht]; exact hB.1) (by rw [← ht]; exact hB.2) hS h4)
theorem z_callVNv (X : zX p s m args meth c cc nL own ret Ts D tys b) {y : MethodName} {bytes : ByteArray} {maxL mc ms n index N2 a : Nat} {rt : Option FieldType} {ws : List Cond} {rm : Room} {As st0 : List Value} {post : (Nat → va_E) → Prop} (hM : Met l y ws rm (zPc D tys b N k (.ref a :: As)) (zQv D b N2 post) mc ms (zA b)) {C : String} {T : u_T} {nf ci : Nat} {fs : List Value} (hrec : zc b N k a (.inr (ci, fs))) (hcl : classes[ci]? = some (C, T, nf)) {host : String} (cw : va_CN R s args own index y host bytes maxL rt ws rm mc ms n ∧ (Cond.instanceMethod y).before args s = true ∧ (Cond.selects C y y).before args s = true) (hst : st0 = As.reverse ++ .ref a :: st) (hn : As.length = n) (hcat : (st.map fun v => v.category).sum ≤ 8) (d : decode cc pc = .ok (.invokevirtual index, 3)) (hfit : cells + mc ≤ R.cells ∧ slots + ms ≤ R.slots) (kk : ∀ (k2 : Nat → va_E), post k2 → Z p l e R s m args below meth c nL D b N2 k2 (cells + mc) (slots + ms) Q (pc + 3) lv st) : Z p l e R s m args below meth c nL D b N k cells slots Q pc lv st0 := by
  intro H locs ls h1 h2 h3 h4
  exact va_callv (va_runVN X.1 hM cw ⟨zPc.blind, va_recv X.2.1 h2 hcl hrec.at, (fun U hU hW => ⟨rfl, by rw [hU]; exact h1, by rw [hU]; exact h2, va_K.moved hW.alike X.2.1, X.2.2.2.2.2.moved hW⟩)⟩ rfl hn h4.1 hst (lv_room hcat) d hfit) h3 (fun _ _ q => q) (fun _ q => q) (fun u t H1 locs1 ht hvm hp hB hz hk9 hS => kk u hp H1 locs1 ls (by rw [← ht]; exact hB.1) (by rw [← ht]; exact hB.2) hS h4)
theorem z_callSNv (X : zX p s m args meth c cc nL own ret Ts D tys b) {y : MethodName} {bytes : ByteArray} {maxL mc ms n index N2 a : Nat} {rt : Option FieldType} {ws : List Cond} {rm : Room} {As st0 : List Value} {post : (Nat → va_E) → Prop} (hM : Met l y ws rm (zPc D tys b N k As) (zQv D b N2 post) mc ms (zA b)) {host : String} (cw : va_CN R s args own index y host bytes maxL rt ws rm mc ms n ∧ (Cond.static y).before args s = true ∧ True) (hst : st0 = As.reverse ++ st) (hn : As.length = n) (hcat : (st.map fun v => v.category).sum ≤ 8) (d : decode cc pc = .ok (.invokestatic index, 3)) (hfit : cells + mc ≤ R.cells ∧ slots + ms ≤ R.slots) (kk : ∀ (k2 : Nat → va_E), post k2 → Z p l e R s m args below meth c nL D b N2 k2 (cells + mc) (slots + ms) Q (pc + 3) lv st) : Z p l e R s m args below meth c nL D b N k cells slots Q pc lv st0 := by
  intro H locs ls h1 h2 h3 h4
  exact va_callv (va_runSN X.1 hM cw ⟨zPc.blind, (fun U hU hW => ⟨rfl, by rw [hU]; exact h1, by rw [hU]; exact h2, va_K.moved hW.alike X.2.1, X.2.2.2.2.2.moved hW⟩)⟩ rfl hn h4.1 hst (lv_room hcat) d hfit) h3 (fun _ _ q => q) (fun _ q => q) (fun u t H1 locs1 ht hvm hp hB hz hk9 hS => kk u hp H1 locs1 ls (by rw [← ht]; exact hB.1) (by rw [← ht]; exact hB.2) hS h4)
theorem z_callINv (X : zX p s m args meth c cc nL own ret Ts D tys b) {y : MethodName} {bytes : ByteArray} {maxL mc ms n index N2 a : Nat} {rt : Option FieldType} {ws : List Cond} {rm : Room} {As st0 : List Value} {post : (Nat → va_E) → Prop} (hM : Met l y ws rm (zPc D tys b N k (.ref a :: As)) (zQv D b N2 post) mc ms (zA b)) {host : String} (cw : va_CN R s args own index y host bytes maxL none ws rm mc ms n ∧ y.name = "<init>" ∧ (Cond.instanceMethod y).before args s = true) (hst : st0 = As.reverse ++ .ref a :: st) (hn : As.length = n) (hcat : (st.map fun v => v.category).sum ≤ 8) (d : decode cc pc = .ok (.invokespecial index, 3)) (hfit : cells + mc ≤ R.cells ∧ slots + ms ≤ R.slots) (kk : ∀ (k2 : Nat → va_E), post k2 → Z p l e R s m args below meth c nL D b N2 k2 (cells + mc) (slots + ms) Q (pc + 3) lv st) : Z p l e R s m args below meth c nL D b N k cells slots Q pc lv st0 := by
  intro H locs ls h1 h2 h3 h4
  exact va_callv (va_runIN X.1 hM cw ⟨zPc.blind, (fun U hU hW => ⟨rfl, by rw [hU]; exact h1, by rw [hU]; exact h2, va_K.moved hW.alike X.2.1, X.2.2.2.2.2.moved hW⟩)⟩ rfl hn h4.1 hst (lv_room hcat) d hfit) h3 (fun _ _ q => q) (fun _ q => q) (fun u t H1 locs1 ht hvm hp hB hz hk9 hS => kk u hp H1 locs1 ls (by rw [← ht]; exact hB.1) (by rw [← ht]; exact hB.2) hS h4)
theorem z_iaddN (X : zX p s m args meth c cc nL own ret Ts D tys b) {x y : Nat} (d : decode cc pc = .ok (.iadd, 1)) (kk : Z p l e R s m args below meth c nL D b N k cells slots Q (pc + 1) lv (.int (nI (x + y)) :: st)) : Z p l e R s m args below meth c nL D b N k cells slots Q pc lv (.int (nI y) :: .int (nI x) :: st) := z_iadd X d (by rw [nI_add]; exact kk)
theorem z_isubN (X : zX p s m args meth c cc nL own ret Ts D tys b) {x y : Nat} (d : decode cc pc = .ok (.isub, 1)) (h : y ≤ x) (kk : Z p l e R s m args below meth c nL D b N k cells slots Q (pc + 1) lv (.int (nI (x - y)) :: st)) : Z p l e R s m args below meth c nL D b N k cells slots Q pc lv (.int (nI y) :: .int (nI x) :: st) := z_isub X d (by rw [pk_sub h]; exact kk)
theorem z_imulN (X : zX p s m args meth c cc nL own ret Ts D tys b) {x y : Nat} (d : decode cc pc = .ok (.imul, 1)) (kk : Z p l e R s m args below meth c nL D b N k cells slots Q (pc + 1) lv (.int (nI (x * y)) :: st)) : Z p l e R s m args below meth c nL D b N k cells slots Q pc lv (.int (nI y) :: .int (nI x) :: st) := z_imul X d (by rw [pk_mul]; exact kk)
theorem z_idivN (X : zX p s m args meth c cc nL own ret Ts D tys b) {x y : Nat} (d : decode cc pc = .ok (.idiv, 1)) (h0 : 0 < y) (hx : x < 2 ^ 31) (hy : y < 2 ^ 31) (kk : Z p l e R s m args below meth c nL D b N k cells slots Q (pc + 1) lv (.int (nI (x / y)) :: st)) : Z p l e R s m args below meth c nL D b N k cells slots Q pc lv (.int (nI y) :: .int (nI x) :: st) := z_idiv X d (nI_ne0 h0 hy) (by rw [pk_div hx h0 hy]; exact kk)
theorem z_iremN (X : zX p s m args meth c cc nL own ret Ts D tys b) {x y : Nat} (d : decode cc pc = .ok (.irem, 1)) (h0 : 0 < y) (hx : x < 2 ^ 31) (hy : y < 2 ^ 31) (kk : Z p l e R s m args below meth c nL D b N k cells slots Q (pc + 1) lv (.int (nI (x % y)) :: st)) : Z p l e R s m args below meth c nL D b N k cells slots Q pc lv (.int (nI y) :: .int (nI x) :: st) := z_irem X d (nI_ne0 h0 hy) (by rw [pk_rem hx h0 hy]; exact kk)
theorem z_iincU (X : zX p s m args meth c cc nL own ret Ts D tys b) {i x : Nat} (d : decode cc pc = .ok (.iinc i 1, 3)) (hl : lv[i]? = some (some (.int (nI x)))) (hn : i < nL) (hf : zfr lv i = true) (kk : Z p l e R s m args below meth c nL D b N k cells slots Q (pc + 3) (lv.set i (some (.int (nI (x + 1))))) st) : Z p l e R s m args below meth c nL D b N k cells slots Q pc lv st := z_iinc X d hl (nI_1 x) hn hf kk
theorem z_iincD (X : zX p s m args meth c cc nL own ret Ts D tys b) {i x : Nat} (d : decode cc pc = .ok (.iinc i (-1), 3)) (hl : lv[i]? = some (some (.int (nI (x + 1))))) (hn : i < nL) (hf : zfr lv i = true) (kk : Z p l e R s m args below meth c nL D b N k cells slots Q (pc + 3) (lv.set i (some (.int (nI x)))) st) : Z p l e R s m args below meth c nL D b N k cells slots Q pc lv st := z_iinc X d hl (pk_m1 x) hn hf kk
theorem z_icmp_eqN (X : zX p s m args meth c cc nL own ret Ts D tys b) {x y : Nat} {off : Int} {tgt : Nat} (d : decode cc pc = .ok (.if_icmp .eq off, 3)) (ht : (pc : Int) + off = (tgt : Int)) (hx : x < 2 ^ 31) (hy : y < 2 ^ 31) (kt : x = y → Z p l e R s m args below meth c nL D b N k cells slots Q tgt lv st) (kf : x ≠ y → Z p l e R s m args below meth c nL D b N k cells slots Q (pc + 3) lv st) : Z p l e R s m args below meth c nL D b N k cells slots Q pc lv (.int (nI y) :: .int (nI x) :: st) :=
  z_icmp_eq X d ht (fun q => kt ((nI_eq hx hy).mp q)) (fun q => kf (fun e => q (by rw [e])))
theorem z_if_eqN (X : zX p s m args meth c cc nL own ret Ts D tys b) {x : Nat} {off : Int} {tgt : Nat} (d : decode cc pc = .ok (.ifCond .eq off, 3)) (ht : (pc : Int) + off = (tgt : Int)) (hx : x < 2 ^ 31) (kt : x = 0 → Z p l e R s m args below meth c nL D b N k cells slots Q tgt lv st) (kf : x ≠ 0 → Z p l e R s m args below meth c nL D b N k cells slots Q (pc + 3) lv st) : Z p l e R s m args below meth c nL D b N k cells slots Q pc lv (.int (nI x) :: st) :=
  z_if_eq X d ht (fun q => kt ((nI_eq hx (show 0 < 2 ^ 31 by omega)).mp (q.trans nI_0.symm))) (fun q => kf (fun e => q (by rw [e]; exact nI_0)))
theorem z_icmp_ltN (X : zX p s m args meth c cc nL own ret Ts D tys b) {x y : Nat} {off : Int} {tgt : Nat} (d : decode cc pc = .ok (.if_icmp .lt off, 3)) (ht : (pc : Int) + off = (tgt : Int)) (hx : x < 2 ^ 31) (hy : y < 2 ^ 31) (kt : x < y → Z p l e R s m args below meth c nL D b N k cells slots Q tgt lv st) (kf : y ≤ x → Z p l e R s m args below meth c nL D b N k cells slots Q (pc + 3) lv st) : Z p l e R s m args below meth c nL D b N k cells slots Q pc lv (.int (nI y) :: .int (nI x) :: st) :=
  z_icmp_lt X d ht (fun q => kt ((nI_ltI hx hy).mp q)) (fun q => kf (Nat.not_lt.mp (fun e => q ((nI_ltI hx hy).mpr e))))
theorem z_if_ltN (X : zX p s m args meth c cc nL own ret Ts D tys b) {x : Nat} {off : Int} {tgt : Nat} (d : decode cc pc = .ok (.ifCond .lt off, 3)) (ht : (pc : Int) + off = (tgt : Int)) (hx : x < 2 ^ 31) (kt : x < 0 → Z p l e R s m args below meth c nL D b N k cells slots Q tgt lv st) (kf : 0 ≤ x → Z p l e R s m args below meth c nL D b N k cells slots Q (pc + 3) lv st) : Z p l e R s m args below meth c nL D b N k cells slots Q pc lv (.int (nI x) :: st) :=
  z_if_lt X d ht (fun q => kt ((nI_ltI hx (show 0 < 2 ^ 31 by omega)).mp (by rw [nI_0]; exact q))) (fun q => kf (Nat.not_lt.mp (fun e => q (by have := (nI_ltI hx (show 0 < 2 ^ 31 by omega)).mpr e; rw [nI_0] at this; exact this))))
theorem z_icmp_leN (X : zX p s m args meth c cc nL own ret Ts D tys b) {x y : Nat} {off : Int} {tgt : Nat} (d : decode cc pc = .ok (.if_icmp .le off, 3)) (ht : (pc : Int) + off = (tgt : Int)) (hx : x < 2 ^ 31) (hy : y < 2 ^ 31) (kt : x ≤ y → Z p l e R s m args below meth c nL D b N k cells slots Q tgt lv st) (kf : y < x → Z p l e R s m args below meth c nL D b N k cells slots Q (pc + 3) lv st) : Z p l e R s m args below meth c nL D b N k cells slots Q pc lv (.int (nI y) :: .int (nI x) :: st) :=
  z_icmp_le X d ht (fun q => kt ((nI_leI hx hy).mp q)) (fun q => kf (Nat.not_le.mp (fun e => q ((nI_leI hx hy).mpr e))))
theorem z_if_leN (X : zX p s m args meth c cc nL own ret Ts D tys b) {x : Nat} {off : Int} {tgt : Nat} (d : decode cc pc = .ok (.ifCond .le off, 3)) (ht : (pc : Int) + off = (tgt : Int)) (hx : x < 2 ^ 31) (kt : x ≤ 0 → Z p l e R s m args below meth c nL D b N k cells slots Q tgt lv st) (kf : 0 < x → Z p l e R s m args below meth c nL D b N k cells slots Q (pc + 3) lv st) : Z p l e R s m args below meth c nL D b N k cells slots Q pc lv (.int (nI x) :: st) :=
  z_if_le X d ht (fun q => kt ((nI_leI hx (show 0 < 2 ^ 31 by omega)).mp (by rw [nI_0]; exact q))) (fun q => kf (Nat.not_le.mp (fun e => q (by have := (nI_leI hx (show 0 < 2 ^ 31 by omega)).mpr e; rw [nI_0] at this; exact this))))
theorem z_icmp_geN (X : zX p s m args meth c cc nL own ret Ts D tys b) {x y : Nat} {off : Int} {tgt : Nat} (d : decode cc pc = .ok (.if_icmp .ge off, 3)) (ht : (pc : Int) + off = (tgt : Int)) (hx : x < 2 ^ 31) (hy : y < 2 ^ 31) (kt : y ≤ x → Z p l e R s m args below meth c nL D b N k cells slots Q tgt lv st) (kf : x < y → Z p l e R s m args below meth c nL D b N k cells slots Q (pc + 3) lv st) : Z p l e R s m args below meth c nL D b N k cells slots Q pc lv (.int (nI y) :: .int (nI x) :: st) :=
  z_icmp_ge X d ht (fun q => kt ((nI_leI hy hx).mp q)) (fun q => kf (Nat.not_le.mp (fun e => q ((nI_leI hy hx).mpr e))))
theorem z_if_geN (X : zX p s m args meth c cc nL own ret Ts D tys b) {x : Nat} {off : Int} {tgt : Nat} (d : decode cc pc = .ok (.ifCond .ge off, 3)) (ht : (pc : Int) + off = (tgt : Int)) (hx : x < 2 ^ 31) (kt : 0 ≤ x → Z p l e R s m args below meth c nL D b N k cells slots Q tgt lv st) (kf : x < 0 → Z p l e R s m args below meth c nL D b N k cells slots Q (pc + 3) lv st) : Z p l e R s m args below meth c nL D b N k cells slots Q pc lv (.int (nI x) :: st) :=
  z_if_ge X d ht (fun q => kt ((nI_leI (show 0 < 2 ^ 31 by omega) hx).mp (by rw [nI_0]; exact q))) (fun q => kf (Nat.not_le.mp (fun e => q (by have := (nI_leI (show 0 < 2 ^ 31 by omega) hx).mpr e; rw [nI_0] at this; exact this))))
theorem z_icmp_gtN (X : zX p s m args meth c cc nL own ret Ts D tys b) {x y : Nat} {off : Int} {tgt : Nat} (d : decode cc pc = .ok (.if_icmp .gt off, 3)) (ht : (pc : Int) + off = (tgt : Int)) (hx : x < 2 ^ 31) (hy : y < 2 ^ 31) (kt : y < x → Z p l e R s m args below meth c nL D b N k cells slots Q tgt lv st) (kf : x ≤ y → Z p l e R s m args below meth c nL D b N k cells slots Q (pc + 3) lv st) : Z p l e R s m args below meth c nL D b N k cells slots Q pc lv (.int (nI y) :: .int (nI x) :: st) :=
  z_icmp_gt X d ht (fun q => kt ((nI_ltI hy hx).mp q)) (fun q => kf (Nat.not_lt.mp (fun e => q ((nI_ltI hy hx).mpr e))))
theorem z_if_gtN (X : zX p s m args meth c cc nL own ret Ts D tys b) {x : Nat} {off : Int} {tgt : Nat} (d : decode cc pc = .ok (.ifCond .gt off, 3)) (ht : (pc : Int) + off = (tgt : Int)) (hx : x < 2 ^ 31) (kt : 0 < x → Z p l e R s m args below meth c nL D b N k cells slots Q tgt lv st) (kf : x ≤ 0 → Z p l e R s m args below meth c nL D b N k cells slots Q (pc + 3) lv st) : Z p l e R s m args below meth c nL D b N k cells slots Q pc lv (.int (nI x) :: st) :=
  z_if_gt X d ht (fun q => kt ((nI_ltI (show 0 < 2 ^ 31 by omega) hx).mp (by rw [nI_0]; exact q))) (fun q => kf (Nat.not_lt.mp (fun e => q (by have := (nI_ltI (show 0 < 2 ^ 31 by omega) hx).mpr e; rw [nI_0] at this; exact this))))
theorem z_icmp_neN (X : zX p s m args meth c cc nL own ret Ts D tys b) {x y : Nat} {off : Int} {tgt : Nat} (d : decode cc pc = .ok (.if_icmp .ne off, 3)) (ht : (pc : Int) + off = (tgt : Int)) (hx : x < 2 ^ 31) (hy : y < 2 ^ 31) (kt : x ≠ y → Z p l e R s m args below meth c nL D b N k cells slots Q tgt lv st) (kf : x = y → Z p l e R s m args below meth c nL D b N k cells slots Q (pc + 3) lv st) : Z p l e R s m args below meth c nL D b N k cells slots Q pc lv (.int (nI y) :: .int (nI x) :: st) :=
  z_icmp_ne X d ht (fun q => kt (fun e => q (by rw [e]))) (fun q => kf ((nI_eq hx hy).mp q))
theorem z_if_neN (X : zX p s m args meth c cc nL own ret Ts D tys b) {x : Nat} {off : Int} {tgt : Nat} (d : decode cc pc = .ok (.ifCond .ne off, 3)) (ht : (pc : Int) + off = (tgt : Int)) (hx : x < 2 ^ 31) (kt : x ≠ 0 → Z p l e R s m args below meth c nL D b N k cells slots Q tgt lv st) (kf : x = 0 → Z p l e R s m args below meth c nL D b N k cells slots Q (pc + 3) lv st) : Z p l e R s m args below meth c nL D b N k cells slots Q pc lv (.int (nI x) :: st) :=
  z_if_ne X d ht (fun q => kt (fun e => q (by rw [e]; exact nI_0))) (fun q => kf ((nI_eq hx (show 0 < 2 ^ 31 by omega)).mp (q.trans nI_0.symm)))
/-- counting up to e: what holds at the head, a step, the end -/
theorem z_loop {σ : Type} (K : Nat → σ → Nat → va_E) (LV : Nat → σ → List (Option Value)) (I : Nat → σ → Prop) (e2 i0 : Nat) (s0 : σ) (h0 : i0 ≤ e2) (hi : I i0 s0) (hk : k = K i0 s0) (hlv : lv = LV i0 s0) (hx : ∀ s1, I e2 s1 → Z p l e R s m args below meth c nL D b N (K e2 s1) cells slots Q pc (LV e2 s1) st) (hs : ∀ i s1, i < e2 → I i s1 → (∀ s2, I (i + 1) s2 → Z p l e R s m args below meth c nL D b N (K (i + 1) s2) cells slots Q pc (LV (i + 1) s2) st) → Z p l e R s m args below meth c nL D b N (K i s1) cells slots Q pc (LV i s1) st) : Z p l e R s m args below meth c nL D b N k cells slots Q pc lv st := by
  subst hk
  subst hlv
  exact z_up (P := fun i => ∀ s1, I i s1 → Z p l e R s m args below meth c nL D b N (K i s1) cells slots Q pc (LV i s1) st) e2 hx (fun i hi ih s1 h1 => hs i s1 hi h1 ih) i0 h0 s0 hi
/-- counting down to 0 -/
theorem z_loopD {σ : Type} (K : Nat → σ → Nat → va_E) (LV : Nat → σ → List (Option Value)) (I : Nat → σ → Prop) (i0 : Nat) (s0 : σ) (hi : I i0 s0) (hk : k = K i0 s0) (hlv : lv = LV i0 s0) (hx : ∀ s1, I 0 s1 → Z p l e R s m args below meth c nL D b N (K 0 s1) cells slots Q pc (LV 0 s1) st) (hs : ∀ i s1, I (i + 1) s1 → (∀ s2, I i s2 → Z p l e R s m args below meth c nL D b N (K i s2) cells slots Q pc (LV i s2) st) → Z p l e R s m args below meth c nL D b N (K (i + 1) s1) cells slots Q pc (LV (i + 1) s1) st) : Z p l e R s m args below meth c nL D b N k cells slots Q pc lv st := by
  subst hk
  subst hlv
  exact z_dn (P := fun i => ∀ s1, I i s1 → Z p l e R s m args below meth c nL D b N (K i s1) cells slots Q pc (LV i s1) st) hx (fun i ih s1 h1 => hs i s1 h1 ih) i0 s0 hi
/-- arrive at a state that is the same up to rewriting -/
theorem z_at {k2 : Nat → va_E} {lv2 : List (Option Value)} (kk : Z p l e R s m args below meth c nL D b N k2 cells slots Q pc lv2 st) (hk : k = k2) (hlv : lv = lv2) : Z p l e R s m args below meth c nL D b N k cells slots Q pc lv st := by
  subst hk
  subst hlv
  exact kk
end ZR
/-- a contract out of a walk from its entry -/
theorem z_met {l : Launch} {y : MethodName} {ws ws2 : List Cond} {rm : Room} {D : va_G} {tys : List (ClassId × FieldType)} {b N : Nat} {k : Nat → va_E} {av : List Value} {Qc : Array Value → State → Outcome → State → Prop} {mc ms : Nat} {cc : ByteArray} {maxL : Nat} {ret : Option FieldType} {own : String} (hy : plainName y.cls = true) (hyc : y.cls = own) (hw : ws = Cond.code y cc maxL ret :: ws2) (hlen : (lg_sl av).length ≤ maxL) (lv : List (Option Value)) (hl : zp 0 lv = lv_args 0 av)
    (body : ∀ (p : Program) (e : Env) (s : State) (m : MethodId) (args : Array Value) (below : List Frame) (meth : Method) (c : Code), zX p s m args meth c cc maxL own ret ws D tys b → meth.name = y.name → Z p l e (headSpec ws rm).room s m args below meth c maxL D b N k 0 0 (MQ below Qc args s mc ms (zA b)) 0 lv []) : Met l y ws rm (zPc D tys b N k av) Qc mc ms (zA b) := by
  refine Met.ofW (cc := cc) (maxL := maxL) (ret := ret) hy hw ?_
  intro p e s m args below meth c s₁ B hml hv
  obtain ⟨rfl, hsz, hP, hK, hN⟩ := hv
  have hts := atoms_spec (ws := ws) B.pre
  have hown : s.vm.findClass own = some m.cls := hyc ▸ findClass_of_methodNamed B.named
  have h4 := lv_entry av (n := maxL) hlen
  rw [lg_entry_eq]
  generalize (lg_sl av ++ List.replicate (maxL - (lg_sl av).length) Slot.unset).toArray = ls at h4 ⊢
  rw [← hl] at h4
  exact body p e s m _ below meth c ⟨⟨B.exec, B.bytes, hml, hown, hts⟩, hK, B.returns, B.notSynchronized, by omega, hN⟩ (name_of_methodNamed B.named B.method).1 s.heap [] ls hsz hP va_S.rf h4

