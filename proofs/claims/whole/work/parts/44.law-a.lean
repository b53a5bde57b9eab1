/-! The law's script, and its method cell -/
section ZSCR
variable {p : Program} {l : Launch} {e : Env} {R : Room} {s : State} {m : MethodId} {args : Array Value} {below : List Frame} {meth : Method} {c : Code} {cells slots : Nat} {Q : State → Prop}
variable {cc : ByteArray} {nL : Nat} {own : String} {ret : Option FieldType} {Ts : List Cond} {D : va_G} {tys : List (ClassId × FieldType)} {b N : Nat} {k : Nat → va_E} {pc : Nat} {lv : List (Option Value)} {st : List Value}
theorem z_slen (X : zX p s m args meth c cc nL own ret Ts D tys b) {sb L : Nat} {xs : Nat → Int32} (hX : va_X sb L xs s s.heap) (hb : sb < b) (d : decode cc pc = .ok (.arraylength, 1)) (kk : Z p l e R s m args below meth c nL D b N k cells slots Q (pc + 1) lv (.int (nI L) :: st)) : Z p l e R s m args below meth c nL D b N k cells slots Q pc lv (.ref sb :: st) :=
  fun H locs ls h1 h2 h3 h4 => va_slen X.1.1 X.1.2.1 hX (Nat.lt_of_lt_of_le hb X.2.2.2.2.1) (fun q => absurd q (Nat.not_le.mpr hb)) h3 d (kk H locs ls h1 h2 h3 h4)
theorem z_sld (X : zX p s m args meth c cc nL own ret Ts D tys b) {sb L : Nat} {xs : Nat → Int32} (hX : va_X sb L xs s s.heap) (hb : sb < b) {j : Nat} (hj : j < L) (hL : L < 2 ^ 31) (d : decode cc pc = .ok (.iaload, 1)) (kk : Z p l e R s m args below meth c nL D b N k cells slots Q (pc + 1) lv (.int (xs j) :: st)) : Z p l e R s m args below meth c nL D b N k cells slots Q pc lv (.int (nI j) :: .ref sb :: st) := by
  intro H locs ls h1 h2 h3 h4
  refine va_sld X.1.1 X.1.2.1 hX (Nat.lt_of_lt_of_le hb X.2.2.2.2.1) (fun q => absurd q (Nat.not_le.mpr hb)) h3 (vp_in_nI hj hL) d ?_
  rw [nI_clamp (by omega)]
  exact kk H locs ls h1 h2 h3 h4
end ZSCR
def zPx (D : va_G) (tys : List (ClassId × FieldType)) (b N : Nat) (k : Nat → va_E) (sb L : Nat) (xs : Nat → Int32) (av : List Value) : Array Value → State → Prop := va_Pc av (fun U => U.heap.size = b + N ∧ va_P D classes (zl b N k) U.heap ∧ va_K D classes tys U ∧ zN U ∧ va_X sb L xs U U.heap)
theorem zPx.blind {D : va_G} {tys : List (ClassId × FieldType)} {b N : Nat} {k : Nat → va_E} {sb L : Nat} {xs : Nat → Int32} {av : List Value} : FrameBlind (zPx D tys b N k sb L xs av) := fun a U g mk q => ⟨q.1, q.2.1, q.2.2.1, va_K.moved (u := U) (U := U.calling g mk a) (Vm.Alike.refl U.vm) q.2.2.2.1, q.2.2.2.2.1.blind, va_X.moved (u := U) (U := U.calling g mk a) (Vm.Alike.refl U.vm) q.2.2.2.2.2⟩
section
variable {l : Launch} {D : va_G} {tI tZ tN tM : ClassId} {b N : Nat} {k : Nat → va_E}
set_option maxHeartbeats 4000000 in
set_option maxRecDepth 100000 in
theorem c_L_cell {sb L x : Nat} {xs : Nat → Int32} (hb : sb < b) (hL : L < 2 ^ 31) (hx : x < 2 ^ 31) : Met l y_L_cell (wy y_L_cell b_L_cell 2 (some .int)) (rm 0 0 0) (zPx D (tyl tI tZ tN tM) b N k sb L xs [.ref sb, .int (nI x)]) (zQi D b N (fun z k2 => z = (if x < L then xs x else 0) ∧ k2 = k)) 0 0 (zA b) := by
  refine Met.ofW (cc := b_L_cell) (maxL := 2) (ret := some .int) (by decide) rfl ?_
  intro p e s m args below meth c s₁ B hml hv
  obtain ⟨rfl, hsz, hP, hK, hN, hX⟩ := hv
  have hts := atoms_spec (ws := wy y_L_cell b_L_cell 2 (some .int)) B.pre
  have hown : s.vm.findClass R_L = some m.cls := findClass_of_methodNamed B.named
  have h4 := lv_entry [.ref sb, .int (nI x)] (n := 2) (Nat.le_of_ble_eq_true rfl)
  rw [lg_entry_eq]
  generalize (lg_sl [Value.ref sb, .int (nI x)] ++ List.replicate (2 - (lg_sl [Value.ref sb, .int (nI x)]).length) Slot.unset).toArray = ls at h4 ⊢
  have X : zX p s m [Value.ref sb, .int (nI x)].toArray meth c b_L_cell 2 R_L (some .int) (wy y_L_cell b_L_cell 2 (some .int)) D (tyl tI tZ tN tM) b := ⟨⟨B.exec, B.bytes, hml, hown, hts⟩, hK, B.returns, B.notSynchronized, by omega, hN⟩
  suffices h : Z p l e (headSpec (wy y_L_cell b_L_cell 2 (some .int)) (rm 0 0 0)).room s m [Value.ref sb, .int (nI x)].toArray below meth c 2 D b N k 0 0 (MQ below (zQi D b N (fun z k2 => z = (if x < L then xs x else 0) ∧ k2 = k)) [Value.ref sb, .int (nI x)].toArray s 0 0 (zA b)) 0 [some (.ref sb), some (.int (nI x))] [] from h s.heap [] ls hsz hP va_S.rf h4
  refine z_iload_n X d_L_cell_0 rfl ?_
  refine z_aload_n X d_L_cell_1 rfl ?_
  refine z_slen X hX hb d_L_cell_2 ?_
  refine z_icmp_geN X d_L_cell_3 (tgt := 12) (by decide) hx hL (fun h => ?_) (fun h => ?_)
  · refine z_iconst X d_L_cell_12 (v := 0) (by decide +kernel) ?_
    exact z_iret X d_L_cell_13 (by omega) (by omega) ⟨by rw [if_neg (by omega)], rfl⟩
  · refine z_aload_n X d_L_cell_6 rfl ?_
    refine z_iload_n X d_L_cell_7 rfl ?_
    refine z_sld X hX hb h hL d_L_cell_8 ?_
    refine z_goto X d_L_cell_9 (tgt := 13) (by decide) ?_
    exact z_iret X d_L_cell_13 (by omega) (by omega) ⟨by rw [if_pos h], rfl⟩
end
section
variable {p : Program} {l : Launch} {e : Env} {R : Room} {s : State} {m : MethodId} {args : Array Value} {below : List Frame} {meth : Method} {c : Code} {cells slots : Nat} {Q : State → Prop}
variable {cc : ByteArray} {nL : Nat} {own : String} {ret : Option FieldType} {Ts : List Cond} {D : va_G} {tys : List (ClassId × FieldType)} {b N : Nat} {k : Nat → va_E} {pc : Nat} {lv : List (Option Value)} {st : List Value}
/-- a call of a method that reads the script -/
theorem z_callX (X : zX p s m args meth c cc nL own ret Ts D tys b) {sb L : Nat} {xs : Nat → Int32} (hX : va_X sb L xs s s.heap) (hb : sb < b) {y : MethodName} {bytes : ByteArray} {maxL mc ms n index N2 : Nat} {rt : Option FieldType} {ws : List Cond} {rm : Room} {As st0 : List Value} {post : Int32 → (Nat → va_E) → Prop} (hM : Met l y ws rm (zPx D tys b N k sb L xs As) (zQi D b N2 post) mc ms (zA b)) (cw : CallB R s args own index y bytes maxL rt ws rm mc ms n ∧ (Cond.static y).before args s = true) (hst : st0 = As.reverse ++ st) (hn : As.length = n) (hcat : (st.map fun v => v.category).sum ≤ 8) (d : decode cc pc = .ok (.invokestatic index, 3)) (hfit : cells + mc ≤ R.cells ∧ slots + ms ≤ R.slots) (kk : ∀ (r : Int32) (k2 : Nat → va_E), post r k2 → Z p l e R s m args below meth c nL D b N2 k2 (cells + mc) (slots + ms) Q (pc + 3) lv (.int r :: st)) : Z p l e R s m args below meth c nL D b N k cells slots Q pc lv st0 := by
  intro H locs ls h1 h2 h3 h4
  have hX2 : va_X sb L xs s H := hX.kept (h3.2.1 sb (Nat.lt_of_lt_of_le hb X.2.2.2.2.1) (fun q => absurd q (Nat.not_le.mpr hb)))
  exact va_calli (va_runS X.1 hM cw ⟨zPx.blind, (fun U hU hW => ⟨rfl, by rw [hU]; exact h1, by rw [hU]; exact h2, va_K.moved hW.alike X.2.1, X.2.2.2.2.2.moved hW, by rw [hU]; exact va_X.moved hW.alike hX2⟩)⟩ rfl hn h4.1 hst (lv_room hcat) d hfit) h3 (fun _ _ q => q) (fun _ q => q) (fun r u t H1 locs1 ht hvm hp hB hz hk9 hS => kk r u hp H1 locs1 ls (by rw [← ht]; exact hB.1) (by rw [← ht]; exact hB.2) hS h4)
theorem z_tsw (X : zX p s m args meth c cc nL own ret Ts D tys b) {dflt lo hi : Int} {offs : Array Int} {len : Nat} {x : Int32} {off : Int} {tgt : Nat} (d : decode cc pc = .ok (.tableswitch dflt lo hi offs, len)) (h1 : ¬ x.toInt < lo) (h2 : ¬ hi < x.toInt) (ho : offs[(x.toInt - lo).toNat]? = some off) (ht : (pc : Int) + off = (tgt : Int)) (kk : Z p l e R s m args below meth c nL D b N k cells slots Q tgt lv st) : Z p l e R s m args below meth c nL D b N k cells slots Q pc lv (.int x :: st) :=
  fun H locs ls g1 g2 g3 g4 => lv_tableIn X.1.1 X.1.2.1 d h1 h2 ho ht (kk H locs ls g1 g2 g3 g4)
theorem z_tswO (X : zX p s m args meth c cc nL own ret Ts D tys b) {dflt lo hi : Int} {offs : Array Int} {len : Nat} {x : Int32} {tgt : Nat} (d : decode cc pc = .ok (.tableswitch dflt lo hi offs, len)) (h : x.toInt < lo ∨ hi < x.toInt) (ht : (pc : Int) + dflt = (tgt : Int)) (kk : Z p l e R s m args below meth c nL D b N k cells slots Q tgt lv st) : Z p l e R s m args below meth c nL D b N k cells slots Q pc lv (.int x :: st) :=
  fun H locs ls g1 g2 g3 g4 => lv_tableOut X.1.1 X.1.2.1 d h ht (kk H locs ls g1 g2 g3 g4)
end
