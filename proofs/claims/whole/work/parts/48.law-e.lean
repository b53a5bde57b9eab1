/-! The law: its walk -/
theorem and31 (x : Int32) : ∃ v, v < 32 ∧ x &&& nI 31 = nI v := by
  refine ⟨(x.toBitVec &&& 31#32).toNat, ?_, ?_⟩
  · rw [BitVec.toNat_and]
    exact Nat.and_lt_two_pow _ (n := 5) (by decide)
  · apply Int32.toBitVec_inj.mp
    rw [Int32.toBitVec_and]
    show x.toBitVec &&& (nI 31).toBitVec = (Int32.ofNat _).toBitVec
    rw [Int32.toBitVec_ofNat', BitVec.ofNat_toNat, BitVec.setWidth_eq]
    rfl
theorem cmp_self (r : Int64) : lg_cmp r r = 0 := by
  unfold lg_cmp
  simp
theorem l_gt {L i : Nat} (h1 : L < 2 ^ 30) (h2 : i < 2 ^ 30) : nI L - nI 4 < nI i ↔ L < i + 4 := by
  rw [Int32.lt_iff_toInt_lt, pk_sub_toInt h1 (by omega), nI_toInt (by omega)]
  omega
section
variable {p : Program} {l : Launch} {e : Env} {s : State} {m : MethodId} {args : Array Value} {below : List Frame} {meth : Method} {c : Code} {cells slots : Nat} {Q : State → Prop} {rt : Option FieldType} {w0 : Cond} {D : va_G} {tI tZ tN tM : ClassId} {b : Nat} {k : Nat → va_E} {kk dd t sb L : Nat} {xs : Nat → Int32}
set_option maxHeartbeats 4000000 in
set_option maxRecDepth 100000 in
theorem k_attach (X : zX p s m args meth c code 4 R_L rt (w0 :: WG) D (tyl tI tZ tN tM) b) (hX : va_X sb L xs s s.heap) (hb : sb < b) (hL : L ≤ 2050) (hi : 2 + 4 * t + 4 ≤ L) (hfc : cells ≤ room_1.cells) (hfs : slots ≤ room_1.slots) (hI : LI tI tZ tN tM b k kk dd t) (go : ∀ k2, LI tI tZ tN tM b k2 kk dd (t + 1) → Z p l e room_1 s m args below meth c 4 D b 274 k2 cells slots Q 683 [some (.ref sb), some (.ref b), some (.ref (b + 255)), some (.int (nI (2 + 4 * t)))] []) : Z p l e room_1 s m args below meth c 4 D b 274 k cells slots Q 140 [some (.ref sb), some (.ref b), some (.ref (b + 255)), some (.int (nI (2 + 4 * t)))] [] := by
  by_cases hy : xs (2 + 4 * t + 2) = 0
  · skip
    obtain ⟨pT, hM, ⟨fs, hr⟩, hp⟩ := q_attach (l := l) (D := D) (x := (xs (2 + 4 * t + 1))) (y := (nI 0)) hI (Or.inl (by decide +kernel))
    refine z_aload_n X d_L_law_140 rfl ?_
    refine z_aload_n X d_L_law_141 rfl ?_
    refine z_iload_n X d_L_law_142 rfl ?_
    refine z_iconst X d_L_law_143 (v := nI 1) (by decide +kernel) ?_
    refine z_iaddN X d_L_law_144 ?_
    refine z_sld X hX hb (j := 2 + 4 * t + 1) (by omega) (by omega) d_L_law_145 ?_
    refine z_aload_n X d_L_law_146 rfl ?_
    refine z_iload_n X d_L_law_147 rfl ?_
    refine z_iconst X d_L_law_148 (v := nI 2) (by decide +kernel) ?_
    refine z_iaddN X d_L_law_149 ?_
    refine z_sld X hX hb (j := 2 + 4 * t + 2) (by omega) (by omega) d_L_law_150 ?_
    refine z_if_eq X d_L_law_151 (tgt := 158) (by decide) (fun _ => ?_) (fun h => absurd h (fun q => q hy))
    refine z_iconst X d_L_law_158 (v := nI 0) (by decide +kernel) ?_
    refine z_callVi X (hM) hr rfl (cwV 2 X.1.2.2.2.2 (gi_V lm_L_21 vi_T_attach ve_T_attach vn_T vc_T_attach) rfl rfl rfl (by decide +kernel) ⟨Nat.le_of_ble_eq_true rfl, Nat.le_of_ble_eq_true rfl⟩) (As := [.int (xs (2 + 4 * t + 1)), .int (nI 0)]) (st := []) rfl rfl (Nat.le_of_ble_eq_true rfl) d_L_law_159 ⟨hfc, hfs⟩ (fun r k2 hq => ?_)
    obtain ⟨⟨fs2, hr2⟩, pR, hM2, hp2⟩ := hp r k2 hq
    refine z_aload_n X d_L_law_162 rfl ?_
    refine z_aload_n X d_L_law_163 rfl ?_
    refine z_iload_n X d_L_law_164 rfl ?_
    refine z_iconst X d_L_law_165 (v := nI 1) (by decide +kernel) ?_
    refine z_iaddN X d_L_law_166 ?_
    refine z_sld X hX hb (j := 2 + 4 * t + 1) (by omega) (by omega) d_L_law_167 ?_
    refine z_aload_n X d_L_law_168 rfl ?_
    refine z_iload_n X d_L_law_169 rfl ?_
    refine z_iconst X d_L_law_170 (v := nI 2) (by decide +kernel) ?_
    refine z_iaddN X d_L_law_171 ?_
    refine z_sld X hX hb (j := 2 + 4 * t + 2) (by omega) (by omega) d_L_law_172 ?_
    refine z_if_eq X d_L_law_173 (tgt := 180) (by decide) (fun _ => ?_) (fun h => absurd h (fun q => q hy))
    refine z_iconst X d_L_law_180 (v := nI 0) (by decide +kernel) ?_
    refine z_callVi X (hM2) hr2 rfl (cwV 2 X.1.2.2.2.2 (gi_V lm_L_25 vi_R_attach ve_R_attach vn_R vc_R_attach) rfl rfl rfl (by decide +kernel) ⟨Nat.le_of_ble_eq_true rfl, Nat.le_of_ble_eq_true rfl⟩) (As := [.int (xs (2 + 4 * t + 1)), .int (nI 0)]) (st := [.int r]) rfl rfl (Nat.le_of_ble_eq_true rfl) d_L_law_181 ⟨hfc, hfs⟩ (fun r2 k3 hq2 => ?_)
    obtain ⟨e2, hI2⟩ := hp2 r2 k3 hq2
    exact z_icmp_eq X d_L_law_184 (tgt := 683) (by decide) (fun _ => go k3 hI2) (fun h => absurd e2.symm h)
  · skip
    obtain ⟨pT, hM, ⟨fs, hr⟩, hp⟩ := q_attach (l := l) (D := D) (x := (xs (2 + 4 * t + 1))) (y := (nI 1)) hI (Or.inr (by decide +kernel))
    refine z_aload_n X d_L_law_140 rfl ?_
    refine z_aload_n X d_L_law_141 rfl ?_
    refine z_iload_n X d_L_law_142 rfl ?_
    refine z_iconst X d_L_law_143 (v := nI 1) (by decide +kernel) ?_
    refine z_iaddN X d_L_law_144 ?_
    refine z_sld X hX hb (j := 2 + 4 * t + 1) (by omega) (by omega) d_L_law_145 ?_
    refine z_aload_n X d_L_law_146 rfl ?_
    refine z_iload_n X d_L_law_147 rfl ?_
    refine z_iconst X d_L_law_148 (v := nI 2) (by decide +kernel) ?_
    refine z_iaddN X d_L_law_149 ?_
    refine z_sld X hX hb (j := 2 + 4 * t + 2) (by omega) (by omega) d_L_law_150 ?_
    refine z_if_eq X d_L_law_151 (tgt := 158) (by decide) (fun h => absurd h (hy)) (fun _ => ?_)
    refine z_iconst X d_L_law_154 (v := nI 1) (by decide +kernel) ?_
    refine z_goto X d_L_law_155 (tgt := 159) (by decide) ?_
    refine z_callVi X (hM) hr rfl (cwV 2 X.1.2.2.2.2 (gi_V lm_L_21 vi_T_attach ve_T_attach vn_T vc_T_attach) rfl rfl rfl (by decide +kernel) ⟨Nat.le_of_ble_eq_true rfl, Nat.le_of_ble_eq_true rfl⟩) (As := [.int (xs (2 + 4 * t + 1)), .int (nI 1)]) (st := []) rfl rfl (Nat.le_of_ble_eq_true rfl) d_L_law_159 ⟨hfc, hfs⟩ (fun r k2 hq => ?_)
    obtain ⟨⟨fs2, hr2⟩, pR, hM2, hp2⟩ := hp r k2 hq
    refine z_aload_n X d_L_law_162 rfl ?_
    refine z_aload_n X d_L_law_163 rfl ?_
    refine z_iload_n X d_L_law_164 rfl ?_
    refine z_iconst X d_L_law_165 (v := nI 1) (by decide +kernel) ?_
    refine z_iaddN X d_L_law_166 ?_
    refine z_sld X hX hb (j := 2 + 4 * t + 1) (by omega) (by omega) d_L_law_167 ?_
    refine z_aload_n X d_L_law_168 rfl ?_
    refine z_iload_n X d_L_law_169 rfl ?_
    refine z_iconst X d_L_law_170 (v := nI 2) (by decide +kernel) ?_
    refine z_iaddN X d_L_law_171 ?_
    refine z_sld X hX hb (j := 2 + 4 * t + 2) (by omega) (by omega) d_L_law_172 ?_
    refine z_if_eq X d_L_law_173 (tgt := 180) (by decide) (fun h => absurd h (hy)) (fun _ => ?_)
    refine z_iconst X d_L_law_176 (v := nI 1) (by decide +kernel) ?_
    refine z_goto X d_L_law_177 (tgt := 181) (by decide) ?_
    refine z_callVi X (hM2) hr2 rfl (cwV 2 X.1.2.2.2.2 (gi_V lm_L_25 vi_R_attach ve_R_attach vn_R vc_R_attach) rfl rfl rfl (by decide +kernel) ⟨Nat.le_of_ble_eq_true rfl, Nat.le_of_ble_eq_true rfl⟩) (As := [.int (xs (2 + 4 * t + 1)), .int (nI 1)]) (st := [.int r]) rfl rfl (Nat.le_of_ble_eq_true rfl) d_L_law_181 ⟨hfc, hfs⟩ (fun r2 k3 hq2 => ?_)
    obtain ⟨e2, hI2⟩ := hp2 r2 k3 hq2
    exact z_icmp_eq X d_L_law_184 (tgt := 683) (by decide) (fun _ => go k3 hI2) (fun h => absurd e2.symm h)
set_option maxHeartbeats 4000000 in
set_option maxRecDepth 100000 in
theorem k_add (X : zX p s m args meth c code 4 R_L rt (w0 :: WG) D (tyl tI tZ tN tM) b) (hX : va_X sb L xs s s.heap) (hb : sb < b) (hL : L ≤ 2050) (hi : 2 + 4 * t + 4 ≤ L) (hfc : cells ≤ room_1.cells) (hfs : slots ≤ room_1.slots) (hI : LI tI tZ tN tM b k kk dd t) (go : ∀ k2, LI tI tZ tN tM b k2 kk dd (t + 1) → Z p l e room_1 s m args below meth c 4 D b 274 k2 cells slots Q 683 [some (.ref sb), some (.ref b), some (.ref (b + 255)), some (.int (nI (2 + 4 * t)))] []) : Z p l e room_1 s m args below meth c 4 D b 274 k cells slots Q 189 [some (.ref sb), some (.ref b), some (.ref (b + 255)), some (.int (nI (2 + 4 * t)))] [] := by
  obtain ⟨pT, hM, ⟨fs, hr⟩, hp⟩ := q_add (l := l) (D := D) (x := (xs (2 + 4 * t + 1))) (y := (xs (2 + 4 * t + 2))) hI
  refine z_aload_n X d_L_law_189 rfl ?_
  refine z_aload_n X d_L_law_190 rfl ?_
  refine z_iload_n X d_L_law_191 rfl ?_
  refine z_iconst X d_L_law_192 (v := nI 1) (by decide +kernel) ?_
  refine z_iaddN X d_L_law_193 ?_
  refine z_sld X hX hb (j := 2 + 4 * t + 1) (by omega) (by omega) d_L_law_194 ?_
  refine z_aload_n X d_L_law_195 rfl ?_
  refine z_iload_n X d_L_law_196 rfl ?_
  refine z_iconst X d_L_law_197 (v := nI 2) (by decide +kernel) ?_
  refine z_iaddN X d_L_law_198 ?_
  refine z_sld X hX hb (j := 2 + 4 * t + 2) (by omega) (by omega) d_L_law_199 ?_
  refine z_callVi X (hM) hr rfl (cwV 2 X.1.2.2.2.2 (gi_V lm_L_26 vi_T_add ve_T_add vn_T vc_T_add) rfl rfl rfl (by decide +kernel) ⟨Nat.le_of_ble_eq_true rfl, Nat.le_of_ble_eq_true rfl⟩) (As := [.int (xs (2 + 4 * t + 1)), .int (xs (2 + 4 * t + 2))]) (st := []) rfl rfl (Nat.le_of_ble_eq_true rfl) d_L_law_200 ⟨hfc, hfs⟩ (fun r k2 hq => ?_)
  obtain ⟨⟨fs2, hr2⟩, pR, hM2, hp2⟩ := hp r k2 hq
  refine z_aload_n X d_L_law_203 rfl ?_
  refine z_aload_n X d_L_law_204 rfl ?_
  refine z_iload_n X d_L_law_205 rfl ?_
  refine z_iconst X d_L_law_206 (v := nI 1) (by decide +kernel) ?_
  refine z_iaddN X d_L_law_207 ?_
  refine z_sld X hX hb (j := 2 + 4 * t + 1) (by omega) (by omega) d_L_law_208 ?_
  refine z_aload_n X d_L_law_209 rfl ?_
  refine z_iload_n X d_L_law_210 rfl ?_
  refine z_iconst X d_L_law_211 (v := nI 2) (by decide +kernel) ?_
  refine z_iaddN X d_L_law_212 ?_
  refine z_sld X hX hb (j := 2 + 4 * t + 2) (by omega) (by omega) d_L_law_213 ?_
  refine z_callVi X (hM2) hr2 rfl (cwV 2 X.1.2.2.2.2 (gi_V lm_L_30 vi_R_add ve_R_add vn_R vc_R_add) rfl rfl rfl (by decide +kernel) ⟨Nat.le_of_ble_eq_true rfl, Nat.le_of_ble_eq_true rfl⟩) (As := [.int (xs (2 + 4 * t + 1)), .int (xs (2 + 4 * t + 2))]) (st := [.int r]) rfl rfl (Nat.le_of_ble_eq_true rfl) d_L_law_214 ⟨hfc, hfs⟩ (fun r2 k3 hq2 => ?_)
  obtain ⟨e2, hI2⟩ := hp2 r2 k3 hq2
  exact z_icmp_eq X d_L_law_217 (tgt := 683) (by decide) (fun _ => go k3 hI2) (fun h => absurd e2.symm h)
set_option maxHeartbeats 4000000 in
set_option maxRecDepth 100000 in
theorem k_flush (X : zX p s m args meth c code 4 R_L rt (w0 :: WG) D (tyl tI tZ tN tM) b) (hX : va_X sb L xs s s.heap) (hb : sb < b) (hL : L ≤ 2050) (hi : 2 + 4 * t + 4 ≤ L) (hfc : cells ≤ room_1.cells) (hfs : slots ≤ room_1.slots) (hI : LI tI tZ tN tM b k kk dd t) (go : ∀ k2, LI tI tZ tN tM b k2 kk dd (t + 1) → Z p l e room_1 s m args below meth c 4 D b 274 k2 cells slots Q 683 [some (.ref sb), some (.ref b), some (.ref (b + 255)), some (.int (nI (2 + 4 * t)))] []) : Z p l e room_1 s m args below meth c 4 D b 274 k cells slots Q 222 [some (.ref sb), some (.ref b), some (.ref (b + 255)), some (.int (nI (2 + 4 * t)))] [] := by
  obtain ⟨pT, hM, ⟨fs, hr⟩, hp⟩ := q_flush (l := l) (D := D) (x := (xs (2 + 4 * t + 1))) hI
  refine z_aload_n X d_L_law_222 rfl ?_
  refine z_aload_n X d_L_law_223 rfl ?_
  refine z_iload_n X d_L_law_224 rfl ?_
  refine z_iconst X d_L_law_225 (v := nI 1) (by decide +kernel) ?_
  refine z_iaddN X d_L_law_226 ?_
  refine z_sld X hX hb (j := 2 + 4 * t + 1) (by omega) (by omega) d_L_law_227 ?_
  refine z_callVi X (hM) hr rfl (cwV 1 X.1.2.2.2.2 (gi_V lm_L_31 vi_T_flush ve_T_flush vn_T vc_T_flush) rfl rfl rfl (by decide +kernel) ⟨Nat.le_of_ble_eq_true rfl, Nat.le_of_ble_eq_true rfl⟩) (As := [.int (xs (2 + 4 * t + 1))]) (st := []) rfl rfl (Nat.le_of_ble_eq_true rfl) d_L_law_228 ⟨hfc, hfs⟩ (fun r k2 hq => ?_)
  obtain ⟨⟨fs2, hr2⟩, pR, hM2, hp2⟩ := hp r k2 hq
  refine z_aload_n X d_L_law_231 rfl ?_
  refine z_aload_n X d_L_law_232 rfl ?_
  refine z_iload_n X d_L_law_233 rfl ?_
  refine z_iconst X d_L_law_234 (v := nI 1) (by decide +kernel) ?_
  refine z_iaddN X d_L_law_235 ?_
  refine z_sld X hX hb (j := 2 + 4 * t + 1) (by omega) (by omega) d_L_law_236 ?_
  refine z_callVi X (hM2) hr2 rfl (cwV 1 X.1.2.2.2.2 (gi_V lm_L_35 vi_R_flush ve_R_flush vn_R vc_R_flush) rfl rfl rfl (by decide +kernel) ⟨Nat.le_of_ble_eq_true rfl, Nat.le_of_ble_eq_true rfl⟩) (As := [.int (xs (2 + 4 * t + 1))]) (st := [.int r]) rfl rfl (Nat.le_of_ble_eq_true rfl) d_L_law_237 ⟨hfc, hfs⟩ (fun r2 k3 hq2 => ?_)
  obtain ⟨e2, hI2⟩ := hp2 r2 k3 hq2
  exact z_icmp_eq X d_L_law_240 (tgt := 683) (by decide) (fun _ => go k3 hI2) (fun h => absurd e2.symm h)
set_option maxHeartbeats 4000000 in
set_option maxRecDepth 100000 in
theorem k_crash (X : zX p s m args meth c code 4 R_L rt (w0 :: WG) D (tyl tI tZ tN tM) b) (hX : va_X sb L xs s s.heap) (hb : sb < b) (hL : L ≤ 2050) (hi : 2 + 4 * t + 4 ≤ L) (hfc : cells ≤ room_1.cells) (hfs : slots ≤ room_1.slots) (hI : LI tI tZ tN tM b k kk dd t) (go : ∀ k2, LI tI tZ tN tM b k2 kk dd (t + 1) → Z p l e room_1 s m args below meth c 4 D b 274 k2 cells slots Q 683 [some (.ref sb), some (.ref b), some (.ref (b + 255)), some (.int (nI (2 + 4 * t)))] []) : Z p l e room_1 s m args below meth c 4 D b 274 k cells slots Q 245 [some (.ref sb), some (.ref b), some (.ref (b + 255)), some (.int (nI (2 + 4 * t)))] [] := by
  obtain ⟨pT, hM, ⟨fs, hr⟩, hp⟩ := q_crash (l := l) (D := D) (x := (xs (2 + 4 * t + 1))) hI
  refine z_aload_n X d_L_law_245 rfl ?_
  refine z_aload_n X d_L_law_246 rfl ?_
  refine z_iload_n X d_L_law_247 rfl ?_
  refine z_iconst X d_L_law_248 (v := nI 1) (by decide +kernel) ?_
  refine z_iaddN X d_L_law_249 ?_
  refine z_sld X hX hb (j := 2 + 4 * t + 1) (by omega) (by omega) d_L_law_250 ?_
  refine z_callVi X (hM) hr rfl (cwV 1 X.1.2.2.2.2 (gi_V lm_L_36 vi_T_crash ve_T_crash vn_T vc_T_crash) rfl rfl rfl (by decide +kernel) ⟨Nat.le_of_ble_eq_true rfl, Nat.le_of_ble_eq_true rfl⟩) (As := [.int (xs (2 + 4 * t + 1))]) (st := []) rfl rfl (Nat.le_of_ble_eq_true rfl) d_L_law_251 ⟨hfc, hfs⟩ (fun r k2 hq => ?_)
  obtain ⟨⟨fs2, hr2⟩, pR, hM2, hp2⟩ := hp r k2 hq
  refine z_aload_n X d_L_law_254 rfl ?_
  refine z_aload_n X d_L_law_255 rfl ?_
  refine z_iload_n X d_L_law_256 rfl ?_
  refine z_iconst X d_L_law_257 (v := nI 1) (by decide +kernel) ?_
  refine z_iaddN X d_L_law_258 ?_
  refine z_sld X hX hb (j := 2 + 4 * t + 1) (by omega) (by omega) d_L_law_259 ?_
  refine z_callVi X (hM2) hr2 rfl (cwV 1 X.1.2.2.2.2 (gi_V lm_L_40 vi_R_crash ve_R_crash vn_R vc_R_crash) rfl rfl rfl (by decide +kernel) ⟨Nat.le_of_ble_eq_true rfl, Nat.le_of_ble_eq_true rfl⟩) (As := [.int (xs (2 + 4 * t + 1))]) (st := [.int r]) rfl rfl (Nat.le_of_ble_eq_true rfl) d_L_law_260 ⟨hfc, hfs⟩ (fun r2 k3 hq2 => ?_)
  obtain ⟨e2, hI2⟩ := hp2 r2 k3 hq2
  exact z_icmp_eq X d_L_law_263 (tgt := 683) (by decide) (fun _ => go k3 hI2) (fun h => absurd e2.symm h)
set_option maxHeartbeats 4000000 in
set_option maxRecDepth 100000 in
theorem k_report (X : zX p s m args meth c code 4 R_L rt (w0 :: WG) D (tyl tI tZ tN tM) b) (hX : va_X sb L xs s s.heap) (hb : sb < b) (hL : L ≤ 2050) (hi : 2 + 4 * t + 4 ≤ L) (hfc : cells ≤ room_1.cells) (hfs : slots ≤ room_1.slots) (hI : LI tI tZ tN tM b k kk dd t) (go : ∀ k2, LI tI tZ tN tM b k2 kk dd (t + 1) → Z p l e room_1 s m args below meth c 4 D b 274 k2 cells slots Q 683 [some (.ref sb), some (.ref b), some (.ref (b + 255)), some (.int (nI (2 + 4 * t)))] []) : Z p l e room_1 s m args below meth c 4 D b 274 k cells slots Q 268 [some (.ref sb), some (.ref b), some (.ref (b + 255)), some (.int (nI (2 + 4 * t)))] [] := by
  obtain ⟨pT, hM, ⟨fs, hr⟩, hp⟩ := q_report (l := l) (D := D) (x := (xs (2 + 4 * t + 1))) hI
  refine z_aload_n X d_L_law_268 rfl ?_
  refine z_aload_n X d_L_law_269 rfl ?_
  refine z_iload_n X d_L_law_270 rfl ?_
  refine z_iconst X d_L_law_271 (v := nI 1) (by decide +kernel) ?_
  refine z_iaddN X d_L_law_272 ?_
  refine z_sld X hX hb (j := 2 + 4 * t + 1) (by omega) (by omega) d_L_law_273 ?_
  refine z_callVi X (hM) hr rfl (cwV 1 X.1.2.2.2.2 (gi_V lm_L_41 vi_T_report ve_T_report vn_T vc_T_report) rfl rfl rfl (by decide +kernel) ⟨Nat.le_of_ble_eq_true rfl, Nat.le_of_ble_eq_true rfl⟩) (As := [.int (xs (2 + 4 * t + 1))]) (st := []) rfl rfl (Nat.le_of_ble_eq_true rfl) d_L_law_274 ⟨hfc, hfs⟩ (fun r k2 hq => ?_)
  obtain ⟨⟨fs2, hr2⟩, pR, hM2, hp2⟩ := hp r k2 hq
  refine z_aload_n X d_L_law_277 rfl ?_
  refine z_aload_n X d_L_law_278 rfl ?_
  refine z_iload_n X d_L_law_279 rfl ?_
  refine z_iconst X d_L_law_280 (v := nI 1) (by decide +kernel) ?_
  refine z_iaddN X d_L_law_281 ?_
  refine z_sld X hX hb (j := 2 + 4 * t + 1) (by omega) (by omega) d_L_law_282 ?_
  refine z_callVi X (hM2) hr2 rfl (cwV 1 X.1.2.2.2.2 (gi_V lm_L_44 vi_R_report ve_R_report vn_R vc_R_report) rfl rfl rfl (by decide +kernel) ⟨Nat.le_of_ble_eq_true rfl, Nat.le_of_ble_eq_true rfl⟩) (As := [.int (xs (2 + 4 * t + 1))]) (st := [.int r]) rfl rfl (Nat.le_of_ble_eq_true rfl) d_L_law_283 ⟨hfc, hfs⟩ (fun r2 k3 hq2 => ?_)
  obtain ⟨e2, hI2⟩ := hp2 r2 k3 hq2
  exact z_icmp_eq X d_L_law_286 (tgt := 683) (by decide) (fun _ => go k3 hI2) (fun h => absurd e2.symm h)
set_option maxHeartbeats 4000000 in
set_option maxRecDepth 100000 in
theorem k_copy (X : zX p s m args meth c code 4 R_L rt (w0 :: WG) D (tyl tI tZ tN tM) b) (hX : va_X sb L xs s s.heap) (hb : sb < b) (hL : L ≤ 2050) (hi : 2 + 4 * t + 4 ≤ L) (hfc : cells ≤ room_1.cells) (hfs : slots ≤ room_1.slots) (hI : LI tI tZ tN tM b k kk dd t) (go : ∀ k2, LI tI tZ tN tM b k2 kk dd (t + 1) → Z p l e room_1 s m args below meth c 4 D b 274 k2 cells slots Q 683 [some (.ref sb), some (.ref b), some (.ref (b + 255)), some (.int (nI (2 + 4 * t)))] []) : Z p l e room_1 s m args below meth c 4 D b 274 k cells slots Q 291 [some (.ref sb), some (.ref b), some (.ref (b + 255)), some (.int (nI (2 + 4 * t)))] [] := by
  obtain ⟨pT, hM, ⟨fs, hr⟩, hp⟩ := q_copy (l := l) (D := D) (x := (xs (2 + 4 * t + 1))) hI
  refine z_aload_n X d_L_law_291 rfl ?_
  refine z_aload_n X d_L_law_292 rfl ?_
  refine z_iload_n X d_L_law_293 rfl ?_
  refine z_iconst X d_L_law_294 (v := nI 1) (by decide +kernel) ?_
  refine z_iaddN X d_L_law_295 ?_
  refine z_sld X hX hb (j := 2 + 4 * t + 1) (by omega) (by omega) d_L_law_296 ?_
  refine z_callVi X (hM) hr rfl (cwV 1 X.1.2.2.2.2 (gi_V lm_L_45 vi_T_copy ve_T_copy vn_T vc_T_copy) rfl rfl rfl (by decide +kernel) ⟨Nat.le_of_ble_eq_true rfl, Nat.le_of_ble_eq_true rfl⟩) (As := [.int (xs (2 + 4 * t + 1))]) (st := []) rfl rfl (Nat.le_of_ble_eq_true rfl) d_L_law_297 ⟨hfc, hfs⟩ (fun r k2 hq => ?_)
  obtain ⟨⟨fs2, hr2⟩, pR, hM2, hp2⟩ := hp r k2 hq
  refine z_aload_n X d_L_law_300 rfl ?_
  refine z_aload_n X d_L_law_301 rfl ?_
  refine z_iload_n X d_L_law_302 rfl ?_
  refine z_iconst X d_L_law_303 (v := nI 1) (by decide +kernel) ?_
  refine z_iaddN X d_L_law_304 ?_
  refine z_sld X hX hb (j := 2 + 4 * t + 1) (by omega) (by omega) d_L_law_305 ?_
  refine z_callVi X (hM2) hr2 rfl (cwV 1 X.1.2.2.2.2 (gi_V lm_L_48 vi_R_copy ve_R_copy vn_R vc_R_copy) rfl rfl rfl (by decide +kernel) ⟨Nat.le_of_ble_eq_true rfl, Nat.le_of_ble_eq_true rfl⟩) (As := [.int (xs (2 + 4 * t + 1))]) (st := [.int r]) rfl rfl (Nat.le_of_ble_eq_true rfl) d_L_law_306 ⟨hfc, hfs⟩ (fun r2 k3 hq2 => ?_)
  obtain ⟨e2, hI2⟩ := hp2 r2 k3 hq2
  exact z_icmp_eq X d_L_law_309 (tgt := 683) (by decide) (fun _ => go k3 hI2) (fun h => absurd e2.symm h)
set_option maxHeartbeats 4000000 in
set_option maxRecDepth 100000 in
theorem k_drop (X : zX p s m args meth c code 4 R_L rt (w0 :: WG) D (tyl tI tZ tN tM) b) (hX : va_X sb L xs s s.heap) (hb : sb < b) (hL : L ≤ 2050) (hi : 2 + 4 * t + 4 ≤ L) (hfc : cells ≤ room_1.cells) (hfs : slots ≤ room_1.slots) (hI : LI tI tZ tN tM b k kk dd t) (go : ∀ k2, LI tI tZ tN tM b k2 kk dd (t + 1) → Z p l e room_1 s m args below meth c 4 D b 274 k2 cells slots Q 683 [some (.ref sb), some (.ref b), some (.ref (b + 255)), some (.int (nI (2 + 4 * t)))] []) : Z p l e room_1 s m args below meth c 4 D b 274 k cells slots Q 314 [some (.ref sb), some (.ref b), some (.ref (b + 255)), some (.int (nI (2 + 4 * t)))] [] := by
  obtain ⟨pT, hM, ⟨fs, hr⟩, hp⟩ := q_drop (l := l) (D := D) (x := (xs (2 + 4 * t + 1))) hI
  refine z_aload_n X d_L_law_314 rfl ?_
  refine z_aload_n X d_L_law_315 rfl ?_
  refine z_iload_n X d_L_law_316 rfl ?_
  refine z_iconst X d_L_law_317 (v := nI 1) (by decide +kernel) ?_
  refine z_iaddN X d_L_law_318 ?_
  refine z_sld X hX hb (j := 2 + 4 * t + 1) (by omega) (by omega) d_L_law_319 ?_
  refine z_callVi X (hM) hr rfl (cwV 1 X.1.2.2.2.2 (gi_V lm_L_49 vi_T_drop ve_T_drop vn_T vc_T_drop) rfl rfl rfl (by decide +kernel) ⟨Nat.le_of_ble_eq_true rfl, Nat.le_of_ble_eq_true rfl⟩) (As := [.int (xs (2 + 4 * t + 1))]) (st := []) rfl rfl (Nat.le_of_ble_eq_true rfl) d_L_law_320 ⟨hfc, hfs⟩ (fun r k2 hq => ?_)
  obtain ⟨⟨fs2, hr2⟩, pR, hM2, hp2⟩ := hp r k2 hq
  refine z_aload_n X d_L_law_323 rfl ?_
  refine z_aload_n X d_L_law_324 rfl ?_
  refine z_iload_n X d_L_law_325 rfl ?_
  refine z_iconst X d_L_law_326 (v := nI 1) (by decide +kernel) ?_
  refine z_iaddN X d_L_law_327 ?_
  refine z_sld X hX hb (j := 2 + 4 * t + 1) (by omega) (by omega) d_L_law_328 ?_
  refine z_callVi X (hM2) hr2 rfl (cwV 1 X.1.2.2.2.2 (gi_V lm_L_52 vi_R_drop ve_R_drop vn_R vc_R_drop) rfl rfl rfl (by decide +kernel) ⟨Nat.le_of_ble_eq_true rfl, Nat.le_of_ble_eq_true rfl⟩) (As := [.int (xs (2 + 4 * t + 1))]) (st := [.int r]) rfl rfl (Nat.le_of_ble_eq_true rfl) d_L_law_329 ⟨hfc, hfs⟩ (fun r2 k3 hq2 => ?_)
  obtain ⟨e2, hI2⟩ := hp2 r2 k3 hq2
  exact z_icmp_eq X d_L_law_332 (tgt := 683) (by decide) (fun _ => go k3 hI2) (fun h => absurd e2.symm h)
set_option maxHeartbeats 4000000 in
set_option maxRecDepth 100000 in
theorem k_deliver (X : zX p s m args meth c code 4 R_L rt (w0 :: WG) D (tyl tI tZ tN tM) b) (hX : va_X sb L xs s s.heap) (hb : sb < b) (hL : L ≤ 2050) (hi : 2 + 4 * t + 4 ≤ L) (hfc : cells ≤ room_1.cells) (hfs : slots ≤ room_1.slots) (hI : LI tI tZ tN tM b k kk dd t) (go : ∀ k2, LI tI tZ tN tM b k2 kk dd (t + 1) → Z p l e room_1 s m args below meth c 4 D b 274 k2 cells slots Q 683 [some (.ref sb), some (.ref b), some (.ref (b + 255)), some (.int (nI (2 + 4 * t)))] []) : Z p l e room_1 s m args below meth c 4 D b 274 k cells slots Q 337 [some (.ref sb), some (.ref b), some (.ref (b + 255)), some (.int (nI (2 + 4 * t)))] [] := by
  obtain ⟨pT, hM, ⟨fs, hr⟩, hp⟩ := q_deliver (l := l) (D := D) (x := (xs (2 + 4 * t + 1))) hI
  refine z_aload_n X d_L_law_337 rfl ?_
  refine z_aload_n X d_L_law_338 rfl ?_
  refine z_iload_n X d_L_law_339 rfl ?_
  refine z_iconst X d_L_law_340 (v := nI 1) (by decide +kernel) ?_
  refine z_iaddN X d_L_law_341 ?_
  refine z_sld X hX hb (j := 2 + 4 * t + 1) (by omega) (by omega) d_L_law_342 ?_
  refine z_callVi X (hM) hr rfl (cwV 1 X.1.2.2.2.2 (gi_V lm_L_53 vi_T_deliver ve_T_deliver vn_T vc_T_deliver) rfl rfl rfl (by decide +kernel) ⟨Nat.le_of_ble_eq_true rfl, Nat.le_of_ble_eq_true rfl⟩) (As := [.int (xs (2 + 4 * t + 1))]) (st := []) rfl rfl (Nat.le_of_ble_eq_true rfl) d_L_law_343 ⟨hfc, hfs⟩ (fun r k2 hq => ?_)
  obtain ⟨⟨fs2, hr2⟩, pR, hM2, hp2⟩ := hp r k2 hq
  refine z_aload_n X d_L_law_346 rfl ?_
  refine z_aload_n X d_L_law_347 rfl ?_
  refine z_iload_n X d_L_law_348 rfl ?_
  refine z_iconst X d_L_law_349 (v := nI 1) (by decide +kernel) ?_
  refine z_iaddN X d_L_law_350 ?_
  refine z_sld X hX hb (j := 2 + 4 * t + 1) (by omega) (by omega) d_L_law_351 ?_
  refine z_callVi X (hM2) hr2 rfl (cwV 1 X.1.2.2.2.2 (gi_V lm_L_56 vi_R_deliver ve_R_deliver vn_R vc_R_deliver) rfl rfl rfl (by decide +kernel) ⟨Nat.le_of_ble_eq_true rfl, Nat.le_of_ble_eq_true rfl⟩) (As := [.int (xs (2 + 4 * t + 1))]) (st := [.int r]) rfl rfl (Nat.le_of_ble_eq_true rfl) d_L_law_352 ⟨hfc, hfs⟩ (fun r2 k3 hq2 => ?_)
  obtain ⟨e2, hI2⟩ := hp2 r2 k3 hq2
  exact z_icmp_eq X d_L_law_355 (tgt := 683) (by decide) (fun _ => go k3 hI2) (fun h => absurd e2.symm h)
set_option maxHeartbeats 4000000 in
set_option maxRecDepth 100000 in
theorem k_onTheWay (X : zX p s m args meth c code 4 R_L rt (w0 :: WG) D (tyl tI tZ tN tM) b) (hX : va_X sb L xs s s.heap) (hb : sb < b) (hL : L ≤ 2050) (hi : 2 + 4 * t + 4 ≤ L) (hfc : cells ≤ room_1.cells) (hfs : slots ≤ room_1.slots) (hI : LI tI tZ tN tM b k kk dd t) (go : ∀ k2, LI tI tZ tN tM b k2 kk dd (t + 1) → Z p l e room_1 s m args below meth c 4 D b 274 k2 cells slots Q 683 [some (.ref sb), some (.ref b), some (.ref (b + 255)), some (.int (nI (2 + 4 * t)))] []) : Z p l e room_1 s m args below meth c 4 D b 274 k cells slots Q 360 [some (.ref sb), some (.ref b), some (.ref (b + 255)), some (.int (nI (2 + 4 * t)))] [] := by
  obtain ⟨pT, hM, ⟨fs, hr⟩, hp⟩ := q_onTheWay (l := l) (D := D)  hI (by omega)
  refine z_aload_n X d_L_law_360 rfl ?_
  refine z_callVi X (hM) hr rfl (cwV 0 X.1.2.2.2.2 (gi_V lm_L_57 vi_T_onTheWay ve_T_onTheWay vn_T vc_T_onTheWay) rfl rfl rfl (by decide +kernel) ⟨Nat.le_of_ble_eq_true rfl, Nat.le_of_ble_eq_true rfl⟩) (As := []) (st := []) rfl rfl (Nat.le_of_ble_eq_true rfl) d_L_law_361 ⟨hfc, hfs⟩ (fun r k2 hq => ?_)
  obtain ⟨⟨fs2, hr2⟩, pR, hM2, hp2⟩ := hp r k2 hq
  refine z_aload_n X d_L_law_364 rfl ?_
  refine z_callVi X (hM2) hr2 rfl (cwV 0 X.1.2.2.2.2 (gi_V lm_L_61 vi_R_onTheWay ve_R_onTheWay vn_R vc_R_onTheWay) rfl rfl rfl (by decide +kernel) ⟨Nat.le_of_ble_eq_true rfl, Nat.le_of_ble_eq_true rfl⟩) (As := []) (st := [.int r]) rfl rfl (Nat.le_of_ble_eq_true rfl) d_L_law_365 ⟨hfc, hfs⟩ (fun r2 k3 hq2 => ?_)
  obtain ⟨e2, hI2⟩ := hp2 r2 k3 hq2
  exact z_icmp_eq X d_L_law_368 (tgt := 683) (by decide) (fun _ => go k3 hI2) (fun h => absurd e2.symm h)
set_option maxHeartbeats 4000000 in
set_option maxRecDepth 100000 in
theorem k_total (X : zX p s m args meth c code 4 R_L rt (w0 :: WG) D (tyl tI tZ tN tM) b) (hX : va_X sb L xs s s.heap) (hb : sb < b) (hL : L ≤ 2050) (hi : 2 + 4 * t + 4 ≤ L) (hfc : cells ≤ room_1.cells) (hfs : slots ≤ room_1.slots) (hI : LI tI tZ tN tM b k kk dd t) (go : ∀ k2, LI tI tZ tN tM b k2 kk dd (t + 1) → Z p l e room_1 s m args below meth c 4 D b 274 k2 cells slots Q 683 [some (.ref sb), some (.ref b), some (.ref (b + 255)), some (.int (nI (2 + 4 * t)))] []) : Z p l e room_1 s m args below meth c 4 D b 274 k cells slots Q 373 [some (.ref sb), some (.ref b), some (.ref (b + 255)), some (.int (nI (2 + 4 * t)))] [] := by
  obtain ⟨pT, hM, ⟨fs, hr⟩, hp⟩ := q_total (l := l) (D := D) (x := (xs (2 + 4 * t + 1))) hI
  refine z_aload_n X d_L_law_373 rfl ?_
  refine z_aload_n X d_L_law_374 rfl ?_
  refine z_iload_n X d_L_law_375 rfl ?_
  refine z_iconst X d_L_law_376 (v := nI 1) (by decide +kernel) ?_
  refine z_iaddN X d_L_law_377 ?_
  refine z_sld X hX hb (j := 2 + 4 * t + 1) (by omega) (by omega) d_L_law_378 ?_
  refine z_callVi X (hM) hr rfl (cwV 1 X.1.2.2.2.2 (gi_V lm_L_62 vi_T_total ve_T_total vn_T vc_T_total) rfl rfl rfl (by decide +kernel) ⟨Nat.le_of_ble_eq_true rfl, Nat.le_of_ble_eq_true rfl⟩) (As := [.int (xs (2 + 4 * t + 1))]) (st := []) rfl rfl (Nat.le_of_ble_eq_true rfl) d_L_law_379 ⟨hfc, hfs⟩ (fun r k2 hq => ?_)
  obtain ⟨⟨fs2, hr2⟩, pR, hM2, hp2⟩ := hp r k2 hq
  refine z_aload_n X d_L_law_382 rfl ?_
  refine z_aload_n X d_L_law_383 rfl ?_
  refine z_iload_n X d_L_law_384 rfl ?_
  refine z_iconst X d_L_law_385 (v := nI 1) (by decide +kernel) ?_
  refine z_iaddN X d_L_law_386 ?_
  refine z_sld X hX hb (j := 2 + 4 * t + 1) (by omega) (by omega) d_L_law_387 ?_
  refine z_callVi X (hM2) hr2 rfl (cwV 1 X.1.2.2.2.2 (gi_V lm_L_65 vi_R_total ve_R_total vn_R vc_R_total) rfl rfl rfl (by decide +kernel) ⟨Nat.le_of_ble_eq_true rfl, Nat.le_of_ble_eq_true rfl⟩) (As := [.int (xs (2 + 4 * t + 1))]) (st := [.int r]) rfl rfl (Nat.le_of_ble_eq_true rfl) d_L_law_388 ⟨hfc, hfs⟩ (fun r2 k3 hq2 => ?_)
  obtain ⟨e2, hI2⟩ := hp2 r2 k3 hq2
  exact z_icmp_eq X d_L_law_391 (tgt := 683) (by decide) (fun _ => go k3 hI2) (fun h => absurd e2.symm h)
set_option maxHeartbeats 4000000 in
set_option maxRecDepth 100000 in
theorem k_sum (X : zX p s m args meth c code 4 R_L rt (w0 :: WG) D (tyl tI tZ tN tM) b) (hX : va_X sb L xs s s.heap) (hb : sb < b) (hL : L ≤ 2050) (hi : 2 + 4 * t + 4 ≤ L) (hfc : cells ≤ room_1.cells) (hfs : slots ≤ room_1.slots) (hI : LI tI tZ tN tM b k kk dd t) (go : ∀ k2, LI tI tZ tN tM b k2 kk dd (t + 1) → Z p l e room_1 s m args below meth c 4 D b 274 k2 cells slots Q 683 [some (.ref sb), some (.ref b), some (.ref (b + 255)), some (.int (nI (2 + 4 * t)))] []) : Z p l e room_1 s m args below meth c 4 D b 274 k cells slots Q 396 [some (.ref sb), some (.ref b), some (.ref (b + 255)), some (.int (nI (2 + 4 * t)))] [] := by
  obtain ⟨pT, hM, ⟨fs, hr⟩, hp⟩ := q_sum (l := l) (D := D) (x := (xs (2 + 4 * t + 1))) hI
  refine z_aload_n X d_L_law_396 rfl ?_
  refine z_aload_n X d_L_law_397 rfl ?_
  refine z_iload_n X d_L_law_398 rfl ?_
  refine z_iconst X d_L_law_399 (v := nI 1) (by decide +kernel) ?_
  refine z_iaddN X d_L_law_400 ?_
  refine z_sld X hX hb (j := 2 + 4 * t + 1) (by omega) (by omega) d_L_law_401 ?_
  refine z_callVl X (hM) hr rfl (cwV 1 X.1.2.2.2.2 (gi_V lm_L_66 vi_T_sum ve_T_sum vn_T vc_T_sum) rfl rfl rfl (by decide +kernel) ⟨Nat.le_of_ble_eq_true rfl, Nat.le_of_ble_eq_true rfl⟩) (As := [.int (xs (2 + 4 * t + 1))]) (st := []) rfl rfl (Nat.le_of_ble_eq_true rfl) d_L_law_402 ⟨hfc, hfs⟩ (fun r k2 hq => ?_)
  obtain ⟨⟨fs2, hr2⟩, pR, hM2, hp2⟩ := hp r k2 hq
  refine z_aload_n X d_L_law_405 rfl ?_
  refine z_aload_n X d_L_law_406 rfl ?_
  refine z_iload_n X d_L_law_407 rfl ?_
  refine z_iconst X d_L_law_408 (v := nI 1) (by decide +kernel) ?_
  refine z_iaddN X d_L_law_409 ?_
  refine z_sld X hX hb (j := 2 + 4 * t + 1) (by omega) (by omega) d_L_law_410 ?_
  refine z_callVl X (hM2) hr2 rfl (cwV 1 X.1.2.2.2.2 (gi_V lm_L_70 vi_R_sum ve_R_sum vn_R vc_R_sum) rfl rfl rfl (by decide +kernel) ⟨Nat.le_of_ble_eq_true rfl, Nat.le_of_ble_eq_true rfl⟩) (As := [.int (xs (2 + 4 * t + 1))]) (st := [.long r]) rfl rfl (Nat.le_of_ble_eq_true rfl) d_L_law_411 ⟨hfc, hfs⟩ (fun r2 k3 hq2 => ?_)
  obtain ⟨e2, hI2⟩ := hp2 r2 k3 hq2
  refine z_lcmp X d_L_law_414 ?_
  exact z_if_eq X d_L_law_415 (tgt := 683) (by decide) (fun _ => go k3 hI2) (fun h => absurd (by rw [e2]; exact cmp_self r) h)
set_option maxHeartbeats 4000000 in
set_option maxRecDepth 100000 in
theorem k_extreme (X : zX p s m args meth c code 4 R_L rt (w0 :: WG) D (tyl tI tZ tN tM) b) (hX : va_X sb L xs s s.heap) (hb : sb < b) (hL : L ≤ 2050) (hi : 2 + 4 * t + 4 ≤ L) (hfc : cells ≤ room_1.cells) (hfs : slots ≤ room_1.slots) (hI : LI tI tZ tN tM b k kk dd t) (go : ∀ k2, LI tI tZ tN tM b k2 kk dd (t + 1) → Z p l e room_1 s m args below meth c 4 D b 274 k2 cells slots Q 683 [some (.ref sb), some (.ref b), some (.ref (b + 255)), some (.int (nI (2 + 4 * t)))] []) : Z p l e room_1 s m args below meth c 4 D b 274 k cells slots Q 420 [some (.ref sb), some (.ref b), some (.ref (b + 255)), some (.int (nI (2 + 4 * t)))] [] := by
  by_cases hy : xs (2 + 4 * t + 2) = 0
  · skip
    obtain ⟨pT, hM, ⟨fs, hr⟩, hp⟩ := q_extreme (l := l) (D := D) (x := (xs (2 + 4 * t + 1))) (y := (nI 0)) hI
    refine z_aload_n X d_L_law_420 rfl ?_
    refine z_aload_n X d_L_law_421 rfl ?_
    refine z_iload_n X d_L_law_422 rfl ?_
    refine z_iconst X d_L_law_423 (v := nI 1) (by decide +kernel) ?_
    refine z_iaddN X d_L_law_424 ?_
    refine z_sld X hX hb (j := 2 + 4 * t + 1) (by omega) (by omega) d_L_law_425 ?_
    refine z_aload_n X d_L_law_426 rfl ?_
    refine z_iload_n X d_L_law_427 rfl ?_
    refine z_iconst X d_L_law_428 (v := nI 2) (by decide +kernel) ?_
    refine z_iaddN X d_L_law_429 ?_
    refine z_sld X hX hb (j := 2 + 4 * t + 2) (by omega) (by omega) d_L_law_430 ?_
    refine z_if_eq X d_L_law_431 (tgt := 438) (by decide) (fun _ => ?_) (fun h => absurd h (fun q => q hy))
    refine z_iconst X d_L_law_438 (v := nI 0) (by decide +kernel) ?_
    refine z_callVi X (hM) hr rfl (cwV 2 X.1.2.2.2.2 (gi_V lm_L_71 vi_T_extreme ve_T_extreme vn_T vc_T_extreme) rfl rfl rfl (by decide +kernel) ⟨Nat.le_of_ble_eq_true rfl, Nat.le_of_ble_eq_true rfl⟩) (As := [.int (xs (2 + 4 * t + 1)), .int (nI 0)]) (st := []) rfl rfl (Nat.le_of_ble_eq_true rfl) d_L_law_439 ⟨hfc, hfs⟩ (fun r k2 hq => ?_)
    obtain ⟨⟨fs2, hr2⟩, pR, hM2, hp2⟩ := hp r k2 hq
    refine z_aload_n X d_L_law_442 rfl ?_
    refine z_aload_n X d_L_law_443 rfl ?_
    refine z_iload_n X d_L_law_444 rfl ?_
    refine z_iconst X d_L_law_445 (v := nI 1) (by decide +kernel) ?_
    refine z_iaddN X d_L_law_446 ?_
    refine z_sld X hX hb (j := 2 + 4 * t + 1) (by omega) (by omega) d_L_law_447 ?_
    refine z_aload_n X d_L_law_448 rfl ?_
    refine z_iload_n X d_L_law_449 rfl ?_
    refine z_iconst X d_L_law_450 (v := nI 2) (by decide +kernel) ?_
    refine z_iaddN X d_L_law_451 ?_
    refine z_sld X hX hb (j := 2 + 4 * t + 2) (by omega) (by omega) d_L_law_452 ?_
    refine z_if_eq X d_L_law_453 (tgt := 460) (by decide) (fun _ => ?_) (fun h => absurd h (fun q => q hy))
    refine z_iconst X d_L_law_460 (v := nI 0) (by decide +kernel) ?_
    refine z_callVi X (hM2) hr2 rfl (cwV 2 X.1.2.2.2.2 (gi_V lm_L_74 vi_R_extreme ve_R_extreme vn_R vc_R_extreme) rfl rfl rfl (by decide +kernel) ⟨Nat.le_of_ble_eq_true rfl, Nat.le_of_ble_eq_true rfl⟩) (As := [.int (xs (2 + 4 * t + 1)), .int (nI 0)]) (st := [.int r]) rfl rfl (Nat.le_of_ble_eq_true rfl) d_L_law_461 ⟨hfc, hfs⟩ (fun r2 k3 hq2 => ?_)
    obtain ⟨e2, hI2⟩ := hp2 r2 k3 hq2
    exact z_icmp_eq X d_L_law_464 (tgt := 683) (by decide) (fun _ => go k3 hI2) (fun h => absurd e2.symm h)
  · skip
    obtain ⟨pT, hM, ⟨fs, hr⟩, hp⟩ := q_extreme (l := l) (D := D) (x := (xs (2 + 4 * t + 1))) (y := (nI 1)) hI
    refine z_aload_n X d_L_law_420 rfl ?_
    refine z_aload_n X d_L_law_421 rfl ?_
    refine z_iload_n X d_L_law_422 rfl ?_
    refine z_iconst X d_L_law_423 (v := nI 1) (by decide +kernel) ?_
    refine z_iaddN X d_L_law_424 ?_
    refine z_sld X hX hb (j := 2 + 4 * t + 1) (by omega) (by omega) d_L_law_425 ?_
    refine z_aload_n X d_L_law_426 rfl ?_
    refine z_iload_n X d_L_law_427 rfl ?_
    refine z_iconst X d_L_law_428 (v := nI 2) (by decide +kernel) ?_
    refine z_iaddN X d_L_law_429 ?_
    refine z_sld X hX hb (j := 2 + 4 * t + 2) (by omega) (by omega) d_L_law_430 ?_
    refine z_if_eq X d_L_law_431 (tgt := 438) (by decide) (fun h => absurd h (hy)) (fun _ => ?_)
    refine z_iconst X d_L_law_434 (v := nI 1) (by decide +kernel) ?_
    refine z_goto X d_L_law_435 (tgt := 439) (by decide) ?_
    refine z_callVi X (hM) hr rfl (cwV 2 X.1.2.2.2.2 (gi_V lm_L_71 vi_T_extreme ve_T_extreme vn_T vc_T_extreme) rfl rfl rfl (by decide +kernel) ⟨Nat.le_of_ble_eq_true rfl, Nat.le_of_ble_eq_true rfl⟩) (As := [.int (xs (2 + 4 * t + 1)), .int (nI 1)]) (st := []) rfl rfl (Nat.le_of_ble_eq_true rfl) d_L_law_439 ⟨hfc, hfs⟩ (fun r k2 hq => ?_)
    obtain ⟨⟨fs2, hr2⟩, pR, hM2, hp2⟩ := hp r k2 hq
    refine z_aload_n X d_L_law_442 rfl ?_
    refine z_aload_n X d_L_law_443 rfl ?_
    refine z_iload_n X d_L_law_444 rfl ?_
    refine z_iconst X d_L_law_445 (v := nI 1) (by decide +kernel) ?_
    refine z_iaddN X d_L_law_446 ?_
    refine z_sld X hX hb (j := 2 + 4 * t + 1) (by omega) (by omega) d_L_law_447 ?_
    refine z_aload_n X d_L_law_448 rfl ?_
    refine z_iload_n X d_L_law_449 rfl ?_
    refine z_iconst X d_L_law_450 (v := nI 2) (by decide +kernel) ?_
    refine z_iaddN X d_L_law_451 ?_
    refine z_sld X hX hb (j := 2 + 4 * t + 2) (by omega) (by omega) d_L_law_452 ?_
    refine z_if_eq X d_L_law_453 (tgt := 460) (by decide) (fun h => absurd h (hy)) (fun _ => ?_)
    refine z_iconst X d_L_law_456 (v := nI 1) (by decide +kernel) ?_
    refine z_goto X d_L_law_457 (tgt := 461) (by decide) ?_
    refine z_callVi X (hM2) hr2 rfl (cwV 2 X.1.2.2.2.2 (gi_V lm_L_74 vi_R_extreme ve_R_extreme vn_R vc_R_extreme) rfl rfl rfl (by decide +kernel) ⟨Nat.le_of_ble_eq_true rfl, Nat.le_of_ble_eq_true rfl⟩) (As := [.int (xs (2 + 4 * t + 1)), .int (nI 1)]) (st := [.int r]) rfl rfl (Nat.le_of_ble_eq_true rfl) d_L_law_461 ⟨hfc, hfs⟩ (fun r2 k3 hq2 => ?_)
    obtain ⟨e2, hI2⟩ := hp2 r2 k3 hq2
    exact z_icmp_eq X d_L_law_464 (tgt := 683) (by decide) (fun _ => go k3 hI2) (fun h => absurd e2.symm h)
set_option maxHeartbeats 4000000 in
set_option maxRecDepth 100000 in
theorem k_covered (X : zX p s m args meth c code 4 R_L rt (w0 :: WG) D (tyl tI tZ tN tM) b) (hX : va_X sb L xs s s.heap) (hb : sb < b) (hL : L ≤ 2050) (hi : 2 + 4 * t + 4 ≤ L) (hfc : cells ≤ room_1.cells) (hfs : slots ≤ room_1.slots) (hI : LI tI tZ tN tM b k kk dd t) (go : ∀ k2, LI tI tZ tN tM b k2 kk dd (t + 1) → Z p l e room_1 s m args below meth c 4 D b 274 k2 cells slots Q 683 [some (.ref sb), some (.ref b), some (.ref (b + 255)), some (.int (nI (2 + 4 * t)))] []) : Z p l e room_1 s m args below meth c 4 D b 274 k cells slots Q 469 [some (.ref sb), some (.ref b), some (.ref (b + 255)), some (.int (nI (2 + 4 * t)))] [] := by
  obtain ⟨pT, hM, ⟨fs, hr⟩, hp⟩ := q_covered (l := l) (D := D) (x := (xs (2 + 4 * t + 1))) (y := (xs (2 + 4 * t + 2))) hI
  refine z_aload_n X d_L_law_469 rfl ?_
  refine z_aload_n X d_L_law_470 rfl ?_
  refine z_iload_n X d_L_law_471 rfl ?_
  refine z_iconst X d_L_law_472 (v := nI 1) (by decide +kernel) ?_
  refine z_iaddN X d_L_law_473 ?_
  refine z_sld X hX hb (j := 2 + 4 * t + 1) (by omega) (by omega) d_L_law_474 ?_
  refine z_aload_n X d_L_law_475 rfl ?_
  refine z_iload_n X d_L_law_476 rfl ?_
  refine z_iconst X d_L_law_477 (v := nI 2) (by decide +kernel) ?_
  refine z_iaddN X d_L_law_478 ?_
  refine z_sld X hX hb (j := 2 + 4 * t + 2) (by omega) (by omega) d_L_law_479 ?_
  refine z_callVi X (hM) hr rfl (cwV 2 X.1.2.2.2.2 (gi_V lm_L_75 vi_T_covered ve_T_covered vn_T vc_T_covered) rfl rfl rfl (by decide +kernel) ⟨Nat.le_of_ble_eq_true rfl, Nat.le_of_ble_eq_true rfl⟩) (As := [.int (xs (2 + 4 * t + 1)), .int (xs (2 + 4 * t + 2))]) (st := []) rfl rfl (Nat.le_of_ble_eq_true rfl) d_L_law_480 ⟨hfc, hfs⟩ (fun r k2 hq => ?_)
  obtain ⟨⟨fs2, hr2⟩, pR, hM2, hp2⟩ := hp r k2 hq
  refine z_aload_n X d_L_law_483 rfl ?_
  refine z_aload_n X d_L_law_484 rfl ?_
  refine z_iload_n X d_L_law_485 rfl ?_
  refine z_iconst X d_L_law_486 (v := nI 1) (by decide +kernel) ?_
  refine z_iaddN X d_L_law_487 ?_
  refine z_sld X hX hb (j := 2 + 4 * t + 1) (by omega) (by omega) d_L_law_488 ?_
  refine z_aload_n X d_L_law_489 rfl ?_
  refine z_iload_n X d_L_law_490 rfl ?_
  refine z_iconst X d_L_law_491 (v := nI 2) (by decide +kernel) ?_
  refine z_iaddN X d_L_law_492 ?_
  refine z_sld X hX hb (j := 2 + 4 * t + 2) (by omega) (by omega) d_L_law_493 ?_
  refine z_callVi X (hM2) hr2 rfl (cwV 2 X.1.2.2.2.2 (gi_V lm_L_79 vi_R_covered ve_R_covered vn_R vc_R_covered) rfl rfl rfl (by decide +kernel) ⟨Nat.le_of_ble_eq_true rfl, Nat.le_of_ble_eq_true rfl⟩) (As := [.int (xs (2 + 4 * t + 1)), .int (xs (2 + 4 * t + 2))]) (st := [.int r]) rfl rfl (Nat.le_of_ble_eq_true rfl) d_L_law_494 ⟨hfc, hfs⟩ (fun r2 k3 hq2 => ?_)
  obtain ⟨e2, hI2⟩ := hp2 r2 k3 hq2
  exact z_icmp_eq X d_L_law_497 (tgt := 683) (by decide) (fun _ => go k3 hI2) (fun h => absurd e2.symm h)
set_option maxHeartbeats 4000000 in
set_option maxRecDepth 100000 in
theorem k_estimate (X : zX p s m args meth c code 4 R_L rt (w0 :: WG) D (tyl tI tZ tN tM) b) (hX : va_X sb L xs s s.heap) (hb : sb < b) (hL : L ≤ 2050) (hi : 2 + 4 * t + 4 ≤ L) (hfc : cells ≤ room_1.cells) (hfs : slots ≤ room_1.slots) (hI : LI tI tZ tN tM b k kk dd t) (go : ∀ k2, LI tI tZ tN tM b k2 kk dd (t + 1) → Z p l e room_1 s m args below meth c 4 D b 274 k2 cells slots Q 683 [some (.ref sb), some (.ref b), some (.ref (b + 255)), some (.int (nI (2 + 4 * t)))] []) : Z p l e room_1 s m args below meth c 4 D b 274 k cells slots Q 502 [some (.ref sb), some (.ref b), some (.ref (b + 255)), some (.int (nI (2 + 4 * t)))] [] := by
  obtain ⟨pT, hM, ⟨fs, hr⟩, hp⟩ := q_estimate (l := l) (D := D) (x := (xs (2 + 4 * t + 1))) (y := (xs (2 + 4 * t + 2))) hI
  refine z_aload_n X d_L_law_502 rfl ?_
  refine z_aload_n X d_L_law_503 rfl ?_
  refine z_iload_n X d_L_law_504 rfl ?_
  refine z_iconst X d_L_law_505 (v := nI 1) (by decide +kernel) ?_
  refine z_iaddN X d_L_law_506 ?_
  refine z_sld X hX hb (j := 2 + 4 * t + 1) (by omega) (by omega) d_L_law_507 ?_
  refine z_aload_n X d_L_law_508 rfl ?_
  refine z_iload_n X d_L_law_509 rfl ?_
  refine z_iconst X d_L_law_510 (v := nI 2) (by decide +kernel) ?_
  refine z_iaddN X d_L_law_511 ?_
  refine z_sld X hX hb (j := 2 + 4 * t + 2) (by omega) (by omega) d_L_law_512 ?_
  refine z_callVi X (hM) hr rfl (cwV 2 X.1.2.2.2.2 (gi_V lm_L_80 vi_T_estimate ve_T_estimate vn_T vc_T_estimate) rfl rfl rfl (by decide +kernel) ⟨Nat.le_of_ble_eq_true rfl, Nat.le_of_ble_eq_true rfl⟩) (As := [.int (xs (2 + 4 * t + 1)), .int (xs (2 + 4 * t + 2))]) (st := []) rfl rfl (Nat.le_of_ble_eq_true rfl) d_L_law_513 ⟨hfc, hfs⟩ (fun r k2 hq => ?_)
  obtain ⟨⟨fs2, hr2⟩, pR, hM2, hp2⟩ := hp r k2 hq
  refine z_aload_n X d_L_law_516 rfl ?_
  refine z_aload_n X d_L_law_517 rfl ?_
  refine z_iload_n X d_L_law_518 rfl ?_
  refine z_iconst X d_L_law_519 (v := nI 1) (by decide +kernel) ?_
  refine z_iaddN X d_L_law_520 ?_
  refine z_sld X hX hb (j := 2 + 4 * t + 1) (by omega) (by omega) d_L_law_521 ?_
  refine z_aload_n X d_L_law_522 rfl ?_
  refine z_iload_n X d_L_law_523 rfl ?_
  refine z_iconst X d_L_law_524 (v := nI 2) (by decide +kernel) ?_
  refine z_iaddN X d_L_law_525 ?_
  refine z_sld X hX hb (j := 2 + 4 * t + 2) (by omega) (by omega) d_L_law_526 ?_
  refine z_callVi X (hM2) hr2 rfl (cwV 2 X.1.2.2.2.2 (gi_V lm_L_83 vi_R_estimate ve_R_estimate vn_R vc_R_estimate) rfl rfl rfl (by decide +kernel) ⟨Nat.le_of_ble_eq_true rfl, Nat.le_of_ble_eq_true rfl⟩) (As := [.int (xs (2 + 4 * t + 1)), .int (xs (2 + 4 * t + 2))]) (st := [.int r]) rfl rfl (Nat.le_of_ble_eq_true rfl) d_L_law_527 ⟨hfc, hfs⟩ (fun r2 k3 hq2 => ?_)
  obtain ⟨e2, hI2⟩ := hp2 r2 k3 hq2
  exact z_icmp_eq X d_L_law_530 (tgt := 683) (by decide) (fun _ => go k3 hI2) (fun h => absurd e2.symm h)
set_option maxHeartbeats 4000000 in
set_option maxRecDepth 100000 in
theorem k_top (X : zX p s m args meth c code 4 R_L rt (w0 :: WG) D (tyl tI tZ tN tM) b) (hX : va_X sb L xs s s.heap) (hb : sb < b) (hL : L ≤ 2050) (hi : 2 + 4 * t + 4 ≤ L) (hfc : cells ≤ room_1.cells) (hfs : slots ≤ room_1.slots) (hI : LI tI tZ tN tM b k kk dd t) (go : ∀ k2, LI tI tZ tN tM b k2 kk dd (t + 1) → Z p l e room_1 s m args below meth c 4 D b 274 k2 cells slots Q 683 [some (.ref sb), some (.ref b), some (.ref (b + 255)), some (.int (nI (2 + 4 * t)))] []) : Z p l e room_1 s m args below meth c 4 D b 274 k cells slots Q 535 [some (.ref sb), some (.ref b), some (.ref (b + 255)), some (.int (nI (2 + 4 * t)))] [] := by
  obtain ⟨pT, hM, ⟨fs, hr⟩, hp⟩ := q_top (l := l) (D := D) (x := (xs (2 + 4 * t + 1))) (y := (xs (2 + 4 * t + 2))) hI
  refine z_aload_n X d_L_law_535 rfl ?_
  refine z_aload_n X d_L_law_536 rfl ?_
  refine z_iload_n X d_L_law_537 rfl ?_
  refine z_iconst X d_L_law_538 (v := nI 1) (by decide +kernel) ?_
  refine z_iaddN X d_L_law_539 ?_
  refine z_sld X hX hb (j := 2 + 4 * t + 1) (by omega) (by omega) d_L_law_540 ?_
  refine z_aload_n X d_L_law_541 rfl ?_
  refine z_iload_n X d_L_law_542 rfl ?_
  refine z_iconst X d_L_law_543 (v := nI 2) (by decide +kernel) ?_
  refine z_iaddN X d_L_law_544 ?_
  refine z_sld X hX hb (j := 2 + 4 * t + 2) (by omega) (by omega) d_L_law_545 ?_
  refine z_callVi X (hM) hr rfl (cwV 2 X.1.2.2.2.2 (gi_V lm_L_84 vi_T_top ve_T_top vn_T vc_T_top) rfl rfl rfl (by decide +kernel) ⟨Nat.le_of_ble_eq_true rfl, Nat.le_of_ble_eq_true rfl⟩) (As := [.int (xs (2 + 4 * t + 1)), .int (xs (2 + 4 * t + 2))]) (st := []) rfl rfl (Nat.le_of_ble_eq_true rfl) d_L_law_546 ⟨hfc, hfs⟩ (fun r k2 hq => ?_)
  obtain ⟨⟨fs2, hr2⟩, pR, hM2, hp2⟩ := hp r k2 hq
  refine z_aload_n X d_L_law_549 rfl ?_
  refine z_aload_n X d_L_law_550 rfl ?_
  refine z_iload_n X d_L_law_551 rfl ?_
  refine z_iconst X d_L_law_552 (v := nI 1) (by decide +kernel) ?_
  refine z_iaddN X d_L_law_553 ?_
  refine z_sld X hX hb (j := 2 + 4 * t + 1) (by omega) (by omega) d_L_law_554 ?_
  refine z_aload_n X d_L_law_555 rfl ?_
  refine z_iload_n X d_L_law_556 rfl ?_
  refine z_iconst X d_L_law_557 (v := nI 2) (by decide +kernel) ?_
  refine z_iaddN X d_L_law_558 ?_
  refine z_sld X hX hb (j := 2 + 4 * t + 2) (by omega) (by omega) d_L_law_559 ?_
  refine z_callVi X (hM2) hr2 rfl (cwV 2 X.1.2.2.2.2 (gi_V lm_L_87 vi_R_top ve_R_top vn_R vc_R_top) rfl rfl rfl (by decide +kernel) ⟨Nat.le_of_ble_eq_true rfl, Nat.le_of_ble_eq_true rfl⟩) (As := [.int (xs (2 + 4 * t + 1)), .int (xs (2 + 4 * t + 2))]) (st := [.int r]) rfl rfl (Nat.le_of_ble_eq_true rfl) d_L_law_560 ⟨hfc, hfs⟩ (fun r2 k3 hq2 => ?_)
  obtain ⟨e2, hI2⟩ := hp2 r2 k3 hq2
  exact z_icmp_eq X d_L_law_563 (tgt := 683) (by decide) (fun _ => go k3 hI2) (fun h => absurd e2.symm h)
set_option maxHeartbeats 4000000 in
set_option maxRecDepth 100000 in
theorem k_digestSize (X : zX p s m args meth c code 4 R_L rt (w0 :: WG) D (tyl tI tZ tN tM) b) (hX : va_X sb L xs s s.heap) (hb : sb < b) (hL : L ≤ 2050) (hi : 2 + 4 * t + 4 ≤ L) (hfc : cells ≤ room_1.cells) (hfs : slots ≤ room_1.slots) (hI : LI tI tZ tN tM b k kk dd t) (go : ∀ k2, LI tI tZ tN tM b k2 kk dd (t + 1) → Z p l e room_1 s m args below meth c 4 D b 274 k2 cells slots Q 683 [some (.ref sb), some (.ref b), some (.ref (b + 255)), some (.int (nI (2 + 4 * t)))] []) : Z p l e room_1 s m args below meth c 4 D b 274 k cells slots Q 568 [some (.ref sb), some (.ref b), some (.ref (b + 255)), some (.int (nI (2 + 4 * t)))] [] := by
  obtain ⟨pT, hM, ⟨fs, hr⟩, hp⟩ := q_digestSize (l := l) (D := D) (x := (xs (2 + 4 * t + 1))) hI
  refine z_aload_n X d_L_law_568 rfl ?_
  refine z_aload_n X d_L_law_569 rfl ?_
  refine z_iload_n X d_L_law_570 rfl ?_
  refine z_iconst X d_L_law_571 (v := nI 1) (by decide +kernel) ?_
  refine z_iaddN X d_L_law_572 ?_
  refine z_sld X hX hb (j := 2 + 4 * t + 1) (by omega) (by omega) d_L_law_573 ?_
  refine z_callVi X (hM) hr rfl (cwV 1 X.1.2.2.2.2 (gi_V lm_L_88 vi_T_digestSize ve_T_digestSize vn_T vc_T_digestSize) rfl rfl rfl (by decide +kernel) ⟨Nat.le_of_ble_eq_true rfl, Nat.le_of_ble_eq_true rfl⟩) (As := [.int (xs (2 + 4 * t + 1))]) (st := []) rfl rfl (Nat.le_of_ble_eq_true rfl) d_L_law_574 ⟨hfc, hfs⟩ (fun r k2 hq => ?_)
  obtain ⟨⟨fs2, hr2⟩, pR, hM2, hp2⟩ := hp r k2 hq
  refine z_aload_n X d_L_law_577 rfl ?_
  refine z_aload_n X d_L_law_578 rfl ?_
  refine z_iload_n X d_L_law_579 rfl ?_
  refine z_iconst X d_L_law_580 (v := nI 1) (by decide +kernel) ?_
  refine z_iaddN X d_L_law_581 ?_
  refine z_sld X hX hb (j := 2 + 4 * t + 1) (by omega) (by omega) d_L_law_582 ?_
  refine z_callVi X (hM2) hr2 rfl (cwV 1 X.1.2.2.2.2 (gi_V lm_L_91 vi_R_digestSize ve_R_digestSize vn_R vc_R_digestSize) rfl rfl rfl (by decide +kernel) ⟨Nat.le_of_ble_eq_true rfl, Nat.le_of_ble_eq_true rfl⟩) (As := [.int (xs (2 + 4 * t + 1))]) (st := [.int r]) rfl rfl (Nat.le_of_ble_eq_true rfl) d_L_law_583 ⟨hfc, hfs⟩ (fun r2 k3 hq2 => ?_)
  obtain ⟨e2, hI2⟩ := hp2 r2 k3 hq2
  exact z_icmp_eq X d_L_law_586 (tgt := 683) (by decide) (fun _ => go k3 hI2) (fun h => absurd e2.symm h)
set_option maxHeartbeats 4000000 in
set_option maxRecDepth 100000 in
theorem k_below (X : zX p s m args meth c code 4 R_L rt (w0 :: WG) D (tyl tI tZ tN tM) b) (hX : va_X sb L xs s s.heap) (hb : sb < b) (hL : L ≤ 2050) (hi : 2 + 4 * t + 4 ≤ L) (hfc : cells ≤ room_1.cells) (hfs : slots ≤ room_1.slots) (hI : LI tI tZ tN tM b k kk dd t) (go : ∀ k2, LI tI tZ tN tM b k2 kk dd (t + 1) → Z p l e room_1 s m args below meth c 4 D b 274 k2 cells slots Q 683 [some (.ref sb), some (.ref b), some (.ref (b + 255)), some (.int (nI (2 + 4 * t)))] []) : Z p l e room_1 s m args below meth c 4 D b 274 k cells slots Q 591 [some (.ref sb), some (.ref b), some (.ref (b + 255)), some (.int (nI (2 + 4 * t)))] [] := by
  by_cases hy : xs (2 + 4 * t + 3) = 0
  · skip
    obtain ⟨pT, hM, ⟨fs, hr⟩, hp⟩ := q_below (l := l) (D := D) (x := (xs (2 + 4 * t + 1))) (y := (xs (2 + 4 * t + 2))) (w := (nI 0)) hI
    refine z_aload_n X d_L_law_591 rfl ?_
    refine z_aload_n X d_L_law_592 rfl ?_
    refine z_iload_n X d_L_law_593 rfl ?_
    refine z_iconst X d_L_law_594 (v := nI 1) (by decide +kernel) ?_
    refine z_iaddN X d_L_law_595 ?_
    refine z_sld X hX hb (j := 2 + 4 * t + 1) (by omega) (by omega) d_L_law_596 ?_
    refine z_aload_n X d_L_law_597 rfl ?_
    refine z_iload_n X d_L_law_598 rfl ?_
    refine z_iconst X d_L_law_599 (v := nI 2) (by decide +kernel) ?_
    refine z_iaddN X d_L_law_600 ?_
    refine z_sld X hX hb (j := 2 + 4 * t + 2) (by omega) (by omega) d_L_law_601 ?_
    refine z_aload_n X d_L_law_602 rfl ?_
    refine z_iload_n X d_L_law_603 rfl ?_
    refine z_iconst X d_L_law_604 (v := nI 3) (by decide +kernel) ?_
    refine z_iaddN X d_L_law_605 ?_
    refine z_sld X hX hb (j := 2 + 4 * t + 3) (by omega) (by omega) d_L_law_606 ?_
    refine z_if_eq X d_L_law_607 (tgt := 614) (by decide) (fun _ => ?_) (fun h => absurd h (fun q => q hy))
    refine z_iconst X d_L_law_614 (v := nI 0) (by decide +kernel) ?_
    refine z_callVi X (hM) hr rfl (cwV 3 X.1.2.2.2.2 (gi_V lm_L_92 vi_T_below ve_T_below vn_T vc_T_below) rfl rfl rfl (by decide +kernel) ⟨Nat.le_of_ble_eq_true rfl, Nat.le_of_ble_eq_true rfl⟩) (As := [.int (xs (2 + 4 * t + 1)), .int (xs (2 + 4 * t + 2)), .int (nI 0)]) (st := []) rfl rfl (Nat.le_of_ble_eq_true rfl) d_L_law_615 ⟨hfc, hfs⟩ (fun r k2 hq => ?_)
    obtain ⟨⟨fs2, hr2⟩, pR, hM2, hp2⟩ := hp r k2 hq
    refine z_aload_n X d_L_law_618 rfl ?_
    refine z_aload_n X d_L_law_619 rfl ?_
    refine z_iload_n X d_L_law_620 rfl ?_
    refine z_iconst X d_L_law_621 (v := nI 1) (by decide +kernel) ?_
    refine z_iaddN X d_L_law_622 ?_
    refine z_sld X hX hb (j := 2 + 4 * t + 1) (by omega) (by omega) d_L_law_623 ?_
    refine z_aload_n X d_L_law_624 rfl ?_
    refine z_iload_n X d_L_law_625 rfl ?_
    refine z_iconst X d_L_law_626 (v := nI 2) (by decide +kernel) ?_
    refine z_iaddN X d_L_law_627 ?_
    refine z_sld X hX hb (j := 2 + 4 * t + 2) (by omega) (by omega) d_L_law_628 ?_
    refine z_aload_n X d_L_law_629 rfl ?_
    refine z_iload_n X d_L_law_630 rfl ?_
    refine z_iconst X d_L_law_631 (v := nI 3) (by decide +kernel) ?_
    refine z_iaddN X d_L_law_632 ?_
    refine z_sld X hX hb (j := 2 + 4 * t + 3) (by omega) (by omega) d_L_law_633 ?_
    refine z_if_eq X d_L_law_634 (tgt := 641) (by decide) (fun _ => ?_) (fun h => absurd h (fun q => q hy))
    refine z_iconst X d_L_law_641 (v := nI 0) (by decide +kernel) ?_
    refine z_callVi X (hM2) hr2 rfl (cwV 3 X.1.2.2.2.2 (gi_V lm_L_96 vi_R_below ve_R_below vn_R vc_R_below) rfl rfl rfl (by decide +kernel) ⟨Nat.le_of_ble_eq_true rfl, Nat.le_of_ble_eq_true rfl⟩) (As := [.int (xs (2 + 4 * t + 1)), .int (xs (2 + 4 * t + 2)), .int (nI 0)]) (st := [.int r]) rfl rfl (Nat.le_of_ble_eq_true rfl) d_L_law_642 ⟨hfc, hfs⟩ (fun r2 k3 hq2 => ?_)
    obtain ⟨e2, hI2⟩ := hp2 r2 k3 hq2
    exact z_icmp_eq X d_L_law_645 (tgt := 683) (by decide) (fun _ => go k3 hI2) (fun h => absurd e2.symm h)
  · skip
    obtain ⟨pT, hM, ⟨fs, hr⟩, hp⟩ := q_below (l := l) (D := D) (x := (xs (2 + 4 * t + 1))) (y := (xs (2 + 4 * t + 2))) (w := (nI 1)) hI
    refine z_aload_n X d_L_law_591 rfl ?_
    refine z_aload_n X d_L_law_592 rfl ?_
    refine z_iload_n X d_L_law_593 rfl ?_
    refine z_iconst X d_L_law_594 (v := nI 1) (by decide +kernel) ?_
    refine z_iaddN X d_L_law_595 ?_
    refine z_sld X hX hb (j := 2 + 4 * t + 1) (by omega) (by omega) d_L_law_596 ?_
    refine z_aload_n X d_L_law_597 rfl ?_
    refine z_iload_n X d_L_law_598 rfl ?_
    refine z_iconst X d_L_law_599 (v := nI 2) (by decide +kernel) ?_
    refine z_iaddN X d_L_law_600 ?_
    refine z_sld X hX hb (j := 2 + 4 * t + 2) (by omega) (by omega) d_L_law_601 ?_
    refine z_aload_n X d_L_law_602 rfl ?_
    refine z_iload_n X d_L_law_603 rfl ?_
    refine z_iconst X d_L_law_604 (v := nI 3) (by decide +kernel) ?_
    refine z_iaddN X d_L_law_605 ?_
    refine z_sld X hX hb (j := 2 + 4 * t + 3) (by omega) (by omega) d_L_law_606 ?_
    refine z_if_eq X d_L_law_607 (tgt := 614) (by decide) (fun h => absurd h (hy)) (fun _ => ?_)
    refine z_iconst X d_L_law_610 (v := nI 1) (by decide +kernel) ?_
    refine z_goto X d_L_law_611 (tgt := 615) (by decide) ?_
    refine z_callVi X (hM) hr rfl (cwV 3 X.1.2.2.2.2 (gi_V lm_L_92 vi_T_below ve_T_below vn_T vc_T_below) rfl rfl rfl (by decide +kernel) ⟨Nat.le_of_ble_eq_true rfl, Nat.le_of_ble_eq_true rfl⟩) (As := [.int (xs (2 + 4 * t + 1)), .int (xs (2 + 4 * t + 2)), .int (nI 1)]) (st := []) rfl rfl (Nat.le_of_ble_eq_true rfl) d_L_law_615 ⟨hfc, hfs⟩ (fun r k2 hq => ?_)
    obtain ⟨⟨fs2, hr2⟩, pR, hM2, hp2⟩ := hp r k2 hq
    refine z_aload_n X d_L_law_618 rfl ?_
    refine z_aload_n X d_L_law_619 rfl ?_
    refine z_iload_n X d_L_law_620 rfl ?_
    refine z_iconst X d_L_law_621 (v := nI 1) (by decide +kernel) ?_
    refine z_iaddN X d_L_law_622 ?_
    refine z_sld X hX hb (j := 2 + 4 * t + 1) (by omega) (by omega) d_L_law_623 ?_
    refine z_aload_n X d_L_law_624 rfl ?_
    refine z_iload_n X d_L_law_625 rfl ?_
    refine z_iconst X d_L_law_626 (v := nI 2) (by decide +kernel) ?_
    refine z_iaddN X d_L_law_627 ?_
    refine z_sld X hX hb (j := 2 + 4 * t + 2) (by omega) (by omega) d_L_law_628 ?_
    refine z_aload_n X d_L_law_629 rfl ?_
    refine z_iload_n X d_L_law_630 rfl ?_
    refine z_iconst X d_L_law_631 (v := nI 3) (by decide +kernel) ?_
    refine z_iaddN X d_L_law_632 ?_
    refine z_sld X hX hb (j := 2 + 4 * t + 3) (by omega) (by omega) d_L_law_633 ?_
    refine z_if_eq X d_L_law_634 (tgt := 641) (by decide) (fun h => absurd h (hy)) (fun _ => ?_)
    refine z_iconst X d_L_law_637 (v := nI 1) (by decide +kernel) ?_
    refine z_goto X d_L_law_638 (tgt := 642) (by decide) ?_
    refine z_callVi X (hM2) hr2 rfl (cwV 3 X.1.2.2.2.2 (gi_V lm_L_96 vi_R_below ve_R_below vn_R vc_R_below) rfl rfl rfl (by decide +kernel) ⟨Nat.le_of_ble_eq_true rfl, Nat.le_of_ble_eq_true rfl⟩) (As := [.int (xs (2 + 4 * t + 1)), .int (xs (2 + 4 * t + 2)), .int (nI 1)]) (st := [.int r]) rfl rfl (Nat.le_of_ble_eq_true rfl) d_L_law_642 ⟨hfc, hfs⟩ (fun r2 k3 hq2 => ?_)
    obtain ⟨e2, hI2⟩ := hp2 r2 k3 hq2
    exact z_icmp_eq X d_L_law_645 (tgt := 683) (by decide) (fun _ => go k3 hI2) (fun h => absurd e2.symm h)
set_option maxHeartbeats 4000000 in
set_option maxRecDepth 100000 in
theorem k_quantile (X : zX p s m args meth c code 4 R_L rt (w0 :: WG) D (tyl tI tZ tN tM) b) (hX : va_X sb L xs s s.heap) (hb : sb < b) (hL : L ≤ 2050) (hi : 2 + 4 * t + 4 ≤ L) (hfc : cells ≤ room_1.cells) (hfs : slots ≤ room_1.slots) (hI : LI tI tZ tN tM b k kk dd t) (go : ∀ k2, LI tI tZ tN tM b k2 kk dd (t + 1) → Z p l e room_1 s m args below meth c 4 D b 274 k2 cells slots Q 683 [some (.ref sb), some (.ref b), some (.ref (b + 255)), some (.int (nI (2 + 4 * t)))] []) : Z p l e room_1 s m args below meth c 4 D b 274 k cells slots Q 650 [some (.ref sb), some (.ref b), some (.ref (b + 255)), some (.int (nI (2 + 4 * t)))] [] := by
  obtain ⟨pT, hM, ⟨fs, hr⟩, hp⟩ := q_quantile (l := l) (D := D) (x := (xs (2 + 4 * t + 1))) (y := (xs (2 + 4 * t + 2))) hI
  refine z_aload_n X d_L_law_650 rfl ?_
  refine z_aload_n X d_L_law_651 rfl ?_
  refine z_iload_n X d_L_law_652 rfl ?_
  refine z_iconst X d_L_law_653 (v := nI 1) (by decide +kernel) ?_
  refine z_iaddN X d_L_law_654 ?_
  refine z_sld X hX hb (j := 2 + 4 * t + 1) (by omega) (by omega) d_L_law_655 ?_
  refine z_aload_n X d_L_law_656 rfl ?_
  refine z_iload_n X d_L_law_657 rfl ?_
  refine z_iconst X d_L_law_658 (v := nI 2) (by decide +kernel) ?_
  refine z_iaddN X d_L_law_659 ?_
  refine z_sld X hX hb (j := 2 + 4 * t + 2) (by omega) (by omega) d_L_law_660 ?_
  refine z_callVi X (hM) hr rfl (cwV 2 X.1.2.2.2.2 (gi_V lm_L_97 vi_T_quantile ve_T_quantile vn_T vc_T_quantile) rfl rfl rfl (by decide +kernel) ⟨Nat.le_of_ble_eq_true rfl, Nat.le_of_ble_eq_true rfl⟩) (As := [.int (xs (2 + 4 * t + 1)), .int (xs (2 + 4 * t + 2))]) (st := []) rfl rfl (Nat.le_of_ble_eq_true rfl) d_L_law_661 ⟨hfc, hfs⟩ (fun r k2 hq => ?_)
  obtain ⟨⟨fs2, hr2⟩, pR, hM2, hp2⟩ := hp r k2 hq
  refine z_aload_n X d_L_law_664 rfl ?_
  refine z_aload_n X d_L_law_665 rfl ?_
  refine z_iload_n X d_L_law_666 rfl ?_
  refine z_iconst X d_L_law_667 (v := nI 1) (by decide +kernel) ?_
  refine z_iaddN X d_L_law_668 ?_
  refine z_sld X hX hb (j := 2 + 4 * t + 1) (by omega) (by omega) d_L_law_669 ?_
  refine z_aload_n X d_L_law_670 rfl ?_
  refine z_iload_n X d_L_law_671 rfl ?_
  refine z_iconst X d_L_law_672 (v := nI 2) (by decide +kernel) ?_
  refine z_iaddN X d_L_law_673 ?_
  refine z_sld X hX hb (j := 2 + 4 * t + 2) (by omega) (by omega) d_L_law_674 ?_
  refine z_callVi X (hM2) hr2 rfl (cwV 2 X.1.2.2.2.2 (gi_V lm_L_100 vi_R_quantile ve_R_quantile vn_R vc_R_quantile) rfl rfl rfl (by decide +kernel) ⟨Nat.le_of_ble_eq_true rfl, Nat.le_of_ble_eq_true rfl⟩) (As := [.int (xs (2 + 4 * t + 1)), .int (xs (2 + 4 * t + 2))]) (st := [.int r]) rfl rfl (Nat.le_of_ble_eq_true rfl) d_L_law_675 ⟨hfc, hfs⟩ (fun r2 k3 hq2 => ?_)
  obtain ⟨e2, hI2⟩ := hp2 r2 k3 hq2
  exact z_icmp_eq X d_L_law_678 (tgt := 683) (by decide) (fun _ => go k3 hI2) (fun h => absurd e2.symm h)
end
