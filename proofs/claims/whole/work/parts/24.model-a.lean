/-! The reference's world: the object at b + 255, its 18 arrays behind it -/
abbrev oR (kk : Nat) (dv : Int32) (nc : Nat) (ms : Int32) (b : Nat) : va_E := .inr (6, [.int (nI kk), .int dv, .int (nI nc), .ref (b + 256), .ref (b + 257), .ref (b + 258), .ref (b + 259), .ref (b + 260), .ref (b + 261), .ref (b + 262), .ref (b + 263), .ref (b + 264), .int ms, .ref (b + 265), .ref (b + 266), .ref (b + 267), .ref (b + 268), .ref (b + 269), .ref (b + 270), .ref (b + 271), .ref (b + 272), .ref (b + 273)])
def RW (tI tZ : ClassId) (b N : Nat) (k : Nat → va_E) (kk : Nat) (dv : Int32) (nc : Nat) (ms : Int32) (f0 f1 f2 f3 f4 f5 f6 f7 f8 f9 f10 f11 f12 f13 f14 f15 f16 f17 : Nat → Int32) : Prop :=
  zc b N k (b + 255) (oR kk dv nc ms b) ∧ zc b N k (b + 256) (aI tI 12 f0) ∧ zc b N k (b + 257) (aI tZ 12 f1) ∧ zc b N k (b + 258) (aI tI 12 f2) ∧ zc b N k (b + 259) (aI tI 576 f3) ∧ zc b N k (b + 260) (aI tI 12 f4) ∧ zc b N k (b + 261) (aI tI 48 f5) ∧ zc b N k (b + 262) (aI tI 12 f6) ∧ zc b N k (b + 263) (aI tI 12 f7) ∧ zc b N k (b + 264) (aI tI 144 f8) ∧ zc b N k (b + 265) (aI tI 12 f9) ∧ zc b N k (b + 266) (aI tI 12 f10) ∧ zc b N k (b + 267) (aI tI 12 f11) ∧ zc b N k (b + 268) (aI tI 144 f12) ∧ zc b N k (b + 269) (aI tI 12 f13) ∧ zc b N k (b + 270) (aI tI 12 f14) ∧ zc b N k (b + 271) (aI tI 384 f15) ∧ zc b N k (b + 272) (aI tI 768 f16) ∧ zc b N k (b + 273) (aI tZ 32 f17)
section
variable {tI tZ : ClassId} {b N : Nat} {k k2 : Nat → va_E} {kk nc : Nat} {dv ms : Int32} {f0 f1 f2 f3 f4 f5 f6 f7 f8 f9 f10 f11 f12 f13 f14 f15 f16 f17 : Nat → Int32} 
theorem RW.st0 (hR : RW tI tZ b N k kk dv nc ms f0 f1 f2 f3 f4 f5 f6 f7 f8 f9 f10 f11 f12 f13 f14 f15 f16 f17) {g : Nat → Int32} (hk : k2 = va_up k (b + 256) (aI tI 12 g)) : RW tI tZ b N k2 kk dv nc ms g f1 f2 f3 f4 f5 f6 f7 f8 f9 f10 f11 f12 f13 f14 f15 f16 f17 := by
  obtain ⟨ho, r0, r1, r2, r3, r4, r5, r6, r7, r8, r9, r10, r11, r12, r13, r14, r15, r16, r17⟩ := hR
  have hq : ∀ q, q ≠ b + 256 → k2 q = k q := fun q hq => by rw [hk]; exact up_ne hq
  exact ⟨ho.to (hq _ (by omega)), by rw [hk]; exact r0.up, r1.to (hq _ (by omega)), r2.to (hq _ (by omega)), r3.to (hq _ (by omega)), r4.to (hq _ (by omega)), r5.to (hq _ (by omega)), r6.to (hq _ (by omega)), r7.to (hq _ (by omega)), r8.to (hq _ (by omega)), r9.to (hq _ (by omega)), r10.to (hq _ (by omega)), r11.to (hq _ (by omega)), r12.to (hq _ (by omega)), r13.to (hq _ (by omega)), r14.to (hq _ (by omega)), r15.to (hq _ (by omega)), r16.to (hq _ (by omega)), r17.to (hq _ (by omega))⟩
theorem RW.st1 (hR : RW tI tZ b N k kk dv nc ms f0 f1 f2 f3 f4 f5 f6 f7 f8 f9 f10 f11 f12 f13 f14 f15 f16 f17) {g : Nat → Int32} (hk : k2 = va_up k (b + 257) (aI tZ 12 g)) : RW tI tZ b N k2 kk dv nc ms f0 g f2 f3 f4 f5 f6 f7 f8 f9 f10 f11 f12 f13 f14 f15 f16 f17 := by
  obtain ⟨ho, r0, r1, r2, r3, r4, r5, r6, r7, r8, r9, r10, r11, r12, r13, r14, r15, r16, r17⟩ := hR
  have hq : ∀ q, q ≠ b + 257 → k2 q = k q := fun q hq => by rw [hk]; exact up_ne hq
  exact ⟨ho.to (hq _ (by omega)), r0.to (hq _ (by omega)), by rw [hk]; exact r1.up, r2.to (hq _ (by omega)), r3.to (hq _ (by omega)), r4.to (hq _ (by omega)), r5.to (hq _ (by omega)), r6.to (hq _ (by omega)), r7.to (hq _ (by omega)), r8.to (hq _ (by omega)), r9.to (hq _ (by omega)), r10.to (hq _ (by omega)), r11.to (hq _ (by omega)), r12.to (hq _ (by omega)), r13.to (hq _ (by omega)), r14.to (hq _ (by omega)), r15.to (hq _ (by omega)), r16.to (hq _ (by omega)), r17.to (hq _ (by omega))⟩
theorem RW.st2 (hR : RW tI tZ b N k kk dv nc ms f0 f1 f2 f3 f4 f5 f6 f7 f8 f9 f10 f11 f12 f13 f14 f15 f16 f17) {g : Nat → Int32} (hk : k2 = va_up k (b + 258) (aI tI 12 g)) : RW tI tZ b N k2 kk dv nc ms f0 f1 g f3 f4 f5 f6 f7 f8 f9 f10 f11 f12 f13 f14 f15 f16 f17 := by
  obtain ⟨ho, r0, r1, r2, r3, r4, r5, r6, r7, r8, r9, r10, r11, r12, r13, r14, r15, r16, r17⟩ := hR
  have hq : ∀ q, q ≠ b + 258 → k2 q = k q := fun q hq => by rw [hk]; exact up_ne hq
  exact ⟨ho.to (hq _ (by omega)), r0.to (hq _ (by omega)), r1.to (hq _ (by omega)), by rw [hk]; exact r2.up, r3.to (hq _ (by omega)), r4.to (hq _ (by omega)), r5.to (hq _ (by omega)), r6.to (hq _ (by omega)), r7.to (hq _ (by omega)), r8.to (hq _ (by omega)), r9.to (hq _ (by omega)), r10.to (hq _ (by omega)), r11.to (hq _ (by omega)), r12.to (hq _ (by omega)), r13.to (hq _ (by omega)), r14.to (hq _ (by omega)), r15.to (hq _ (by omega)), r16.to (hq _ (by omega)), r17.to (hq _ (by omega))⟩
theorem RW.st3 (hR : RW tI tZ b N k kk dv nc ms f0 f1 f2 f3 f4 f5 f6 f7 f8 f9 f10 f11 f12 f13 f14 f15 f16 f17) {g : Nat → Int32} (hk : k2 = va_up k (b + 259) (aI tI 576 g)) : RW tI tZ b N k2 kk dv nc ms f0 f1 f2 g f4 f5 f6 f7 f8 f9 f10 f11 f12 f13 f14 f15 f16 f17 := by
  obtain ⟨ho, r0, r1, r2, r3, r4, r5, r6, r7, r8, r9, r10, r11, r12, r13, r14, r15, r16, r17⟩ := hR
  have hq : ∀ q, q ≠ b + 259 → k2 q = k q := fun q hq => by rw [hk]; exact up_ne hq
  exact ⟨ho.to (hq _ (by omega)), r0.to (hq _ (by omega)), r1.to (hq _ (by omega)), r2.to (hq _ (by omega)), by rw [hk]; exact r3.up, r4.to (hq _ (by omega)), r5.to (hq _ (by omega)), r6.to (hq _ (by omega)), r7.to (hq _ (by omega)), r8.to (hq _ (by omega)), r9.to (hq _ (by omega)), r10.to (hq _ (by omega)), r11.to (hq _ (by omega)), r12.to (hq _ (by omega)), r13.to (hq _ (by omega)), r14.to (hq _ (by omega)), r15.to (hq _ (by omega)), r16.to (hq _ (by omega)), r17.to (hq _ (by omega))⟩
theorem RW.st4 (hR : RW tI tZ b N k kk dv nc ms f0 f1 f2 f3 f4 f5 f6 f7 f8 f9 f10 f11 f12 f13 f14 f15 f16 f17) {g : Nat → Int32} (hk : k2 = va_up k (b + 260) (aI tI 12 g)) : RW tI tZ b N k2 kk dv nc ms f0 f1 f2 f3 g f5 f6 f7 f8 f9 f10 f11 f12 f13 f14 f15 f16 f17 := by
  obtain ⟨ho, r0, r1, r2, r3, r4, r5, r6, r7, r8, r9, r10, r11, r12, r13, r14, r15, r16, r17⟩ := hR
  have hq : ∀ q, q ≠ b + 260 → k2 q = k q := fun q hq => by rw [hk]; exact up_ne hq
  exact ⟨ho.to (hq _ (by omega)), r0.to (hq _ (by omega)), r1.to (hq _ (by omega)), r2.to (hq _ (by omega)), r3.to (hq _ (by omega)), by rw [hk]; exact r4.up, r5.to (hq _ (by omega)), r6.to (hq _ (by omega)), r7.to (hq _ (by omega)), r8.to (hq _ (by omega)), r9.to (hq _ (by omega)), r10.to (hq _ (by omega)), r11.to (hq _ (by omega)), r12.to (hq _ (by omega)), r13.to (hq _ (by omega)), r14.to (hq _ (by omega)), r15.to (hq _ (by omega)), r16.to (hq _ (by omega)), r17.to (hq _ (by omega))⟩
theorem RW.st5 (hR : RW tI tZ b N k kk dv nc ms f0 f1 f2 f3 f4 f5 f6 f7 f8 f9 f10 f11 f12 f13 f14 f15 f16 f17) {g : Nat → Int32} (hk : k2 = va_up k (b + 261) (aI tI 48 g)) : RW tI tZ b N k2 kk dv nc ms f0 f1 f2 f3 f4 g f6 f7 f8 f9 f10 f11 f12 f13 f14 f15 f16 f17 := by
  obtain ⟨ho, r0, r1, r2, r3, r4, r5, r6, r7, r8, r9, r10, r11, r12, r13, r14, r15, r16, r17⟩ := hR
  have hq : ∀ q, q ≠ b + 261 → k2 q = k q := fun q hq => by rw [hk]; exact up_ne hq
  exact ⟨ho.to (hq _ (by omega)), r0.to (hq _ (by omega)), r1.to (hq _ (by omega)), r2.to (hq _ (by omega)), r3.to (hq _ (by omega)), r4.to (hq _ (by omega)), by rw [hk]; exact r5.up, r6.to (hq _ (by omega)), r7.to (hq _ (by omega)), r8.to (hq _ (by omega)), r9.to (hq _ (by omega)), r10.to (hq _ (by omega)), r11.to (hq _ (by omega)), r12.to (hq _ (by omega)), r13.to (hq _ (by omega)), r14.to (hq _ (by omega)), r15.to (hq _ (by omega)), r16.to (hq _ (by omega)), r17.to (hq _ (by omega))⟩
theorem RW.st6 (hR : RW tI tZ b N k kk dv nc ms f0 f1 f2 f3 f4 f5 f6 f7 f8 f9 f10 f11 f12 f13 f14 f15 f16 f17) {g : Nat → Int32} (hk : k2 = va_up k (b + 262) (aI tI 12 g)) : RW tI tZ b N k2 kk dv nc ms f0 f1 f2 f3 f4 f5 g f7 f8 f9 f10 f11 f12 f13 f14 f15 f16 f17 := by
  obtain ⟨ho, r0, r1, r2, r3, r4, r5, r6, r7, r8, r9, r10, r11, r12, r13, r14, r15, r16, r17⟩ := hR
  have hq : ∀ q, q ≠ b + 262 → k2 q = k q := fun q hq => by rw [hk]; exact up_ne hq
  exact ⟨ho.to (hq _ (by omega)), r0.to (hq _ (by omega)), r1.to (hq _ (by omega)), r2.to (hq _ (by omega)), r3.to (hq _ (by omega)), r4.to (hq _ (by omega)), r5.to (hq _ (by omega)), by rw [hk]; exact r6.up, r7.to (hq _ (by omega)), r8.to (hq _ (by omega)), r9.to (hq _ (by omega)), r10.to (hq _ (by omega)), r11.to (hq _ (by omega)), r12.to (hq _ (by omega)), r13.to (hq _ (by omega)), r14.to (hq _ (by omega)), r15.to (hq _ (by omega)), r16.to (hq _ (by omega)), r17.to (hq _ (by omega))⟩
theorem RW.st7 (hR : RW tI tZ b N k kk dv nc ms f0 f1 f2 f3 f4 f5 f6 f7 f8 f9 f10 f11 f12 f13 f14 f15 f16 f17) {g : Nat → Int32} (hk : k2 = va_up k (b + 263) (aI tI 12 g)) : RW tI tZ b N k2 kk dv nc ms f0 f1 f2 f3 f4 f5 f6 g f8 f9 f10 f11 f12 f13 f14 f15 f16 f17 := by
  obtain ⟨ho, r0, r1, r2, r3, r4, r5, r6, r7, r8, r9, r10, r11, r12, r13, r14, r15, r16, r17⟩ := hR
  have hq : ∀ q, q ≠ b + 263 → k2 q = k q := fun q hq => by rw [hk]; exact up_ne hq
  exact ⟨ho.to (hq _ (by omega)), r0.to (hq _ (by omega)), r1.to (hq _ (by omega)), r2.to (hq _ (by omega)), r3.to (hq _ (by omega)), r4.to (hq _ (by omega)), r5.to (hq _ (by omega)), r6.to (hq _ (by omega)), by rw [hk]; exact r7.up, r8.to (hq _ (by omega)), r9.to (hq _ (by omega)), r10.to (hq _ (by omega)), r11.to (hq _ (by omega)), r12.to (hq _ (by omega)), r13.to (hq _ (by omega)), r14.to (hq _ (by omega)), r15.to (hq _ (by omega)), r16.to (hq _ (by omega)), r17.to (hq _ (by omega))⟩
theorem RW.st8 (hR : RW tI tZ b N k kk dv nc ms f0 f1 f2 f3 f4 f5 f6 f7 f8 f9 f10 f11 f12 f13 f14 f15 f16 f17) {g : Nat → Int32} (hk : k2 = va_up k (b + 264) (aI tI 144 g)) : RW tI tZ b N k2 kk dv nc ms f0 f1 f2 f3 f4 f5 f6 f7 g f9 f10 f11 f12 f13 f14 f15 f16 f17 := by
  obtain ⟨ho, r0, r1, r2, r3, r4, r5, r6, r7, r8, r9, r10, r11, r12, r13, r14, r15, r16, r17⟩ := hR
  have hq : ∀ q, q ≠ b + 264 → k2 q = k q := fun q hq => by rw [hk]; exact up_ne hq
  exact ⟨ho.to (hq _ (by omega)), r0.to (hq _ (by omega)), r1.to (hq _ (by omega)), r2.to (hq _ (by omega)), r3.to (hq _ (by omega)), r4.to (hq _ (by omega)), r5.to (hq _ (by omega)), r6.to (hq _ (by omega)), r7.to (hq _ (by omega)), by rw [hk]; exact r8.up, r9.to (hq _ (by omega)), r10.to (hq _ (by omega)), r11.to (hq _ (by omega)), r12.to (hq _ (by omega)), r13.to (hq _ (by omega)), r14.to (hq _ (by omega)), r15.to (hq _ (by omega)), r16.to (hq _ (by omega)), r17.to (hq _ (by omega))⟩
theorem RW.st9 (hR : RW tI tZ b N k kk dv nc ms f0 f1 f2 f3 f4 f5 f6 f7 f8 f9 f10 f11 f12 f13 f14 f15 f16 f17) {g : Nat → Int32} (hk : k2 = va_up k (b + 265) (aI tI 12 g)) : RW tI tZ b N k2 kk dv nc ms f0 f1 f2 f3 f4 f5 f6 f7 f8 g f10 f11 f12 f13 f14 f15 f16 f17 := by
  obtain ⟨ho, r0, r1, r2, r3, r4, r5, r6, r7, r8, r9, r10, r11, r12, r13, r14, r15, r16, r17⟩ := hR
  have hq : ∀ q, q ≠ b + 265 → k2 q = k q := fun q hq => by rw [hk]; exact up_ne hq
  exact ⟨ho.to (hq _ (by omega)), r0.to (hq _ (by omega)), r1.to (hq _ (by omega)), r2.to (hq _ (by omega)), r3.to (hq _ (by omega)), r4.to (hq _ (by omega)), r5.to (hq _ (by omega)), r6.to (hq _ (by omega)), r7.to (hq _ (by omega)), r8.to (hq _ (by omega)), by rw [hk]; exact r9.up, r10.to (hq _ (by omega)), r11.to (hq _ (by omega)), r12.to (hq _ (by omega)), r13.to (hq _ (by omega)), r14.to (hq _ (by omega)), r15.to (hq _ (by omega)), r16.to (hq _ (by omega)), r17.to (hq _ (by omega))⟩
theorem RW.st10 (hR : RW tI tZ b N k kk dv nc ms f0 f1 f2 f3 f4 f5 f6 f7 f8 f9 f10 f11 f12 f13 f14 f15 f16 f17) {g : Nat → Int32} (hk : k2 = va_up k (b + 266) (aI tI 12 g)) : RW tI tZ b N k2 kk dv nc ms f0 f1 f2 f3 f4 f5 f6 f7 f8 f9 g f11 f12 f13 f14 f15 f16 f17 := by
  obtain ⟨ho, r0, r1, r2, r3, r4, r5, r6, r7, r8, r9, r10, r11, r12, r13, r14, r15, r16, r17⟩ := hR
  have hq : ∀ q, q ≠ b + 266 → k2 q = k q := fun q hq => by rw [hk]; exact up_ne hq
  exact ⟨ho.to (hq _ (by omega)), r0.to (hq _ (by omega)), r1.to (hq _ (by omega)), r2.to (hq _ (by omega)), r3.to (hq _ (by omega)), r4.to (hq _ (by omega)), r5.to (hq _ (by omega)), r6.to (hq _ (by omega)), r7.to (hq _ (by omega)), r8.to (hq _ (by omega)), r9.to (hq _ (by omega)), by rw [hk]; exact r10.up, r11.to (hq _ (by omega)), r12.to (hq _ (by omega)), r13.to (hq _ (by omega)), r14.to (hq _ (by omega)), r15.to (hq _ (by omega)), r16.to (hq _ (by omega)), r17.to (hq _ (by omega))⟩
theorem RW.st11 (hR : RW tI tZ b N k kk dv nc ms f0 f1 f2 f3 f4 f5 f6 f7 f8 f9 f10 f11 f12 f13 f14 f15 f16 f17) {g : Nat → Int32} (hk : k2 = va_up k (b + 267) (aI tI 12 g)) : RW tI tZ b N k2 kk dv nc ms f0 f1 f2 f3 f4 f5 f6 f7 f8 f9 f10 g f12 f13 f14 f15 f16 f17 := by
  obtain ⟨ho, r0, r1, r2, r3, r4, r5, r6, r7, r8, r9, r10, r11, r12, r13, r14, r15, r16, r17⟩ := hR
  have hq : ∀ q, q ≠ b + 267 → k2 q = k q := fun q hq => by rw [hk]; exact up_ne hq
  exact ⟨ho.to (hq _ (by omega)), r0.to (hq _ (by omega)), r1.to (hq _ (by omega)), r2.to (hq _ (by omega)), r3.to (hq _ (by omega)), r4.to (hq _ (by omega)), r5.to (hq _ (by omega)), r6.to (hq _ (by omega)), r7.to (hq _ (by omega)), r8.to (hq _ (by omega)), r9.to (hq _ (by omega)), r10.to (hq _ (by omega)), by rw [hk]; exact r11.up, r12.to (hq _ (by omega)), r13.to (hq _ (by omega)), r14.to (hq _ (by omega)), r15.to (hq _ (by omega)), r16.to (hq _ (by omega)), r17.to (hq _ (by omega))⟩
theorem RW.st12 (hR : RW tI tZ b N k kk dv nc ms f0 f1 f2 f3 f4 f5 f6 f7 f8 f9 f10 f11 f12 f13 f14 f15 f16 f17) {g : Nat → Int32} (hk : k2 = va_up k (b + 268) (aI tI 144 g)) : RW tI tZ b N k2 kk dv nc ms f0 f1 f2 f3 f4 f5 f6 f7 f8 f9 f10 f11 g f13 f14 f15 f16 f17 := by
  obtain ⟨ho, r0, r1, r2, r3, r4, r5, r6, r7, r8, r9, r10, r11, r12, r13, r14, r15, r16, r17⟩ := hR
  have hq : ∀ q, q ≠ b + 268 → k2 q = k q := fun q hq => by rw [hk]; exact up_ne hq
  exact ⟨ho.to (hq _ (by omega)), r0.to (hq _ (by omega)), r1.to (hq _ (by omega)), r2.to (hq _ (by omega)), r3.to (hq _ (by omega)), r4.to (hq _ (by omega)), r5.to (hq _ (by omega)), r6.to (hq _ (by omega)), r7.to (hq _ (by omega)), r8.to (hq _ (by omega)), r9.to (hq _ (by omega)), r10.to (hq _ (by omega)), r11.to (hq _ (by omega)), by rw [hk]; exact r12.up, r13.to (hq _ (by omega)), r14.to (hq _ (by omega)), r15.to (hq _ (by omega)), r16.to (hq _ (by omega)), r17.to (hq _ (by omega))⟩
theorem RW.st13 (hR : RW tI tZ b N k kk dv nc ms f0 f1 f2 f3 f4 f5 f6 f7 f8 f9 f10 f11 f12 f13 f14 f15 f16 f17) {g : Nat → Int32} (hk : k2 = va_up k (b + 269) (aI tI 12 g)) : RW tI tZ b N k2 kk dv nc ms f0 f1 f2 f3 f4 f5 f6 f7 f8 f9 f10 f11 f12 g f14 f15 f16 f17 := by
  obtain ⟨ho, r0, r1, r2, r3, r4, r5, r6, r7, r8, r9, r10, r11, r12, r13, r14, r15, r16, r17⟩ := hR
  have hq : ∀ q, q ≠ b + 269 → k2 q = k q := fun q hq => by rw [hk]; exact up_ne hq
  exact ⟨ho.to (hq _ (by omega)), r0.to (hq _ (by omega)), r1.to (hq _ (by omega)), r2.to (hq _ (by omega)), r3.to (hq _ (by omega)), r4.to (hq _ (by omega)), r5.to (hq _ (by omega)), r6.to (hq _ (by omega)), r7.to (hq _ (by omega)), r8.to (hq _ (by omega)), r9.to (hq _ (by omega)), r10.to (hq _ (by omega)), r11.to (hq _ (by omega)), r12.to (hq _ (by omega)), by rw [hk]; exact r13.up, r14.to (hq _ (by omega)), r15.to (hq _ (by omega)), r16.to (hq _ (by omega)), r17.to (hq _ (by omega))⟩
theorem RW.st14 (hR : RW tI tZ b N k kk dv nc ms f0 f1 f2 f3 f4 f5 f6 f7 f8 f9 f10 f11 f12 f13 f14 f15 f16 f17) {g : Nat → Int32} (hk : k2 = va_up k (b + 270) (aI tI 12 g)) : RW tI tZ b N k2 kk dv nc ms f0 f1 f2 f3 f4 f5 f6 f7 f8 f9 f10 f11 f12 f13 g f15 f16 f17 := by
  obtain ⟨ho, r0, r1, r2, r3, r4, r5, r6, r7, r8, r9, r10, r11, r12, r13, r14, r15, r16, r17⟩ := hR
  have hq : ∀ q, q ≠ b + 270 → k2 q = k q := fun q hq => by rw [hk]; exact up_ne hq
  exact ⟨ho.to (hq _ (by omega)), r0.to (hq _ (by omega)), r1.to (hq _ (by omega)), r2.to (hq _ (by omega)), r3.to (hq _ (by omega)), r4.to (hq _ (by omega)), r5.to (hq _ (by omega)), r6.to (hq _ (by omega)), r7.to (hq _ (by omega)), r8.to (hq _ (by omega)), r9.to (hq _ (by omega)), r10.to (hq _ (by omega)), r11.to (hq _ (by omega)), r12.to (hq _ (by omega)), r13.to (hq _ (by omega)), by rw [hk]; exact r14.up, r15.to (hq _ (by omega)), r16.to (hq _ (by omega)), r17.to (hq _ (by omega))⟩
theorem RW.st15 (hR : RW tI tZ b N k kk dv nc ms f0 f1 f2 f3 f4 f5 f6 f7 f8 f9 f10 f11 f12 f13 f14 f15 f16 f17) {g : Nat → Int32} (hk : k2 = va_up k (b + 271) (aI tI 384 g)) : RW tI tZ b N k2 kk dv nc ms f0 f1 f2 f3 f4 f5 f6 f7 f8 f9 f10 f11 f12 f13 f14 g f16 f17 := by
  obtain ⟨ho, r0, r1, r2, r3, r4, r5, r6, r7, r8, r9, r10, r11, r12, r13, r14, r15, r16, r17⟩ := hR
  have hq : ∀ q, q ≠ b + 271 → k2 q = k q := fun q hq => by rw [hk]; exact up_ne hq
  exact ⟨ho.to (hq _ (by omega)), r0.to (hq _ (by omega)), r1.to (hq _ (by omega)), r2.to (hq _ (by omega)), r3.to (hq _ (by omega)), r4.to (hq _ (by omega)), r5.to (hq _ (by omega)), r6.to (hq _ (by omega)), r7.to (hq _ (by omega)), r8.to (hq _ (by omega)), r9.to (hq _ (by omega)), r10.to (hq _ (by omega)), r11.to (hq _ (by omega)), r12.to (hq _ (by omega)), r13.to (hq _ (by omega)), r14.to (hq _ (by omega)), by rw [hk]; exact r15.up, r16.to (hq _ (by omega)), r17.to (hq _ (by omega))⟩
theorem RW.st16 (hR : RW tI tZ b N k kk dv nc ms f0 f1 f2 f3 f4 f5 f6 f7 f8 f9 f10 f11 f12 f13 f14 f15 f16 f17) {g : Nat → Int32} (hk : k2 = va_up k (b + 272) (aI tI 768 g)) : RW tI tZ b N k2 kk dv nc ms f0 f1 f2 f3 f4 f5 f6 f7 f8 f9 f10 f11 f12 f13 f14 f15 g f17 := by
  obtain ⟨ho, r0, r1, r2, r3, r4, r5, r6, r7, r8, r9, r10, r11, r12, r13, r14, r15, r16, r17⟩ := hR
  have hq : ∀ q, q ≠ b + 272 → k2 q = k q := fun q hq => by rw [hk]; exact up_ne hq
  exact ⟨ho.to (hq _ (by omega)), r0.to (hq _ (by omega)), r1.to (hq _ (by omega)), r2.to (hq _ (by omega)), r3.to (hq _ (by omega)), r4.to (hq _ (by omega)), r5.to (hq _ (by omega)), r6.to (hq _ (by omega)), r7.to (hq _ (by omega)), r8.to (hq _ (by omega)), r9.to (hq _ (by omega)), r10.to (hq _ (by omega)), r11.to (hq _ (by omega)), r12.to (hq _ (by omega)), r13.to (hq _ (by omega)), r14.to (hq _ (by omega)), r15.to (hq _ (by omega)), by rw [hk]; exact r16.up, r17.to (hq _ (by omega))⟩
theorem RW.st17 (hR : RW tI tZ b N k kk dv nc ms f0 f1 f2 f3 f4 f5 f6 f7 f8 f9 f10 f11 f12 f13 f14 f15 f16 f17) {g : Nat → Int32} (hk : k2 = va_up k (b + 273) (aI tZ 32 g)) : RW tI tZ b N k2 kk dv nc ms f0 f1 f2 f3 f4 f5 f6 f7 f8 f9 f10 f11 f12 f13 f14 f15 f16 g := by
  obtain ⟨ho, r0, r1, r2, r3, r4, r5, r6, r7, r8, r9, r10, r11, r12, r13, r14, r15, r16, r17⟩ := hR
  have hq : ∀ q, q ≠ b + 273 → k2 q = k q := fun q hq => by rw [hk]; exact up_ne hq
  exact ⟨ho.to (hq _ (by omega)), r0.to (hq _ (by omega)), r1.to (hq _ (by omega)), r2.to (hq _ (by omega)), r3.to (hq _ (by omega)), r4.to (hq _ (by omega)), r5.to (hq _ (by omega)), r6.to (hq _ (by omega)), r7.to (hq _ (by omega)), r8.to (hq _ (by omega)), r9.to (hq _ (by omega)), r10.to (hq _ (by omega)), r11.to (hq _ (by omega)), r12.to (hq _ (by omega)), r13.to (hq _ (by omega)), r14.to (hq _ (by omega)), r15.to (hq _ (by omega)), r16.to (hq _ (by omega)), by rw [hk]; exact r17.up⟩
theorem RW.obj (hR : RW tI tZ b N k kk dv nc ms f0 f1 f2 f3 f4 f5 f6 f7 f8 f9 f10 f11 f12 f13 f14 f15 f16 f17) {nc2 : Nat} {ms2 : Int32} (hk : k2 = va_up k (b + 255) (oR kk dv nc2 ms2 b)) : RW tI tZ b N k2 kk dv nc2 ms2 f0 f1 f2 f3 f4 f5 f6 f7 f8 f9 f10 f11 f12 f13 f14 f15 f16 f17 := by
  obtain ⟨ho, r0, r1, r2, r3, r4, r5, r6, r7, r8, r9, r10, r11, r12, r13, r14, r15, r16, r17⟩ := hR
  have hq : ∀ q, q ≠ b + 255 → k2 q = k q := fun q hq => by rw [hk]; exact up_ne hq
  exact ⟨by rw [hk]; exact ho.up, r0.to (hq _ (by omega)), r1.to (hq _ (by omega)), r2.to (hq _ (by omega)), r3.to (hq _ (by omega)), r4.to (hq _ (by omega)), r5.to (hq _ (by omega)), r6.to (hq _ (by omega)), r7.to (hq _ (by omega)), r8.to (hq _ (by omega)), r9.to (hq _ (by omega)), r10.to (hq _ (by omega)), r11.to (hq _ (by omega)), r12.to (hq _ (by omega)), r13.to (hq _ (by omega)), r14.to (hq _ (by omega)), r15.to (hq _ (by omega)), r16.to (hq _ (by omega)), r17.to (hq _ (by omega))⟩
theorem RW.keep (hR : RW tI tZ b N k kk dv nc ms f0 f1 f2 f3 f4 f5 f6 f7 f8 f9 f10 f11 f12 f13 f14 f15 f16 f17) (hk : ∀ q, b + 255 ≤ q → k2 q = k q) : RW tI tZ b N k2 kk dv nc ms f0 f1 f2 f3 f4 f5 f6 f7 f8 f9 f10 f11 f12 f13 f14 f15 f16 f17 := by
  obtain ⟨ho, r0, r1, r2, r3, r4, r5, r6, r7, r8, r9, r10, r11, r12, r13, r14, r15, r16, r17⟩ := hR
  exact ⟨ho.to (hk _ (by omega)), r0.to (hk _ (by omega)), r1.to (hk _ (by omega)), r2.to (hk _ (by omega)), r3.to (hk _ (by omega)), r4.to (hk _ (by omega)), r5.to (hk _ (by omega)), r6.to (hk _ (by omega)), r7.to (hk _ (by omega)), r8.to (hk _ (by omega)), r9.to (hk _ (by omega)), r10.to (hk _ (by omega)), r11.to (hk _ (by omega)), r12.to (hk _ (by omega)), r13.to (hk _ (by omega)), r14.to (hk _ (by omega)), r15.to (hk _ (by omega)), r16.to (hk _ (by omega)), r17.to (hk _ (by omega))⟩
end
section
variable {l : Launch} {D : va_G} {tI tZ tN tM : ClassId} {b N : Nat} {k : Nat → va_E}
set_option maxHeartbeats 4000000 in
set_option maxRecDepth 100000 in
/-- R_isNode -/
theorem c_R_isNode {kk nc : Nat} {dv ms : Int32} {f0 f1 f2 f3 f4 f5 f6 f7 f8 f9 f10 f11 f12 f13 f14 f15 f16 f17 : Nat → Int32} {x : Int32} (hR : RW tI tZ b N k kk dv nc ms f0 f1 f2 f3 f4 f5 f6 f7 f8 f9 f10 f11 f12 f13 f14 f15 f16 f17)  : Met l y_R_isNode (wy y_R_isNode b_R_isNode 2 (some .boolean)) (rm 0 0 0) (zPc D (tyl tI tZ tN tM) b N k [.ref (b + 255), .int x]) (zQi D b N (fun z k2 => z = nI (cb (isn nc x)) ∧ k2 = k)) 0 0 (zA b) := by
  refine z_met (own := R_R) (by decide) rfl rfl (Nat.le_of_ble_eq_true rfl) [some (.ref (b + 255)), some (.int x)] rfl ?_
  intro p e s m args below meth c X hin
  have ⟨ho, r0, r1, r2, r3, r4, r5, r6, r7, r8, r9, r10, r11, r12, r13, r14, r15, r16, r17⟩ := hR
  have hfr : ∀ q, q < b + 255 → k q = k q := fun _ _ => rfl
  refine z_iload_n X d_R_isNode_0 rfl ?_
  refine z_if_lt X d_R_isNode_1 (tgt := 16) (by decide) (fun hA => ?_) (fun hA => ?_)
  · skip
    refine z_iconst X d_R_isNode_16 (v := nI 0) (by decide +kernel) ?_
    exact z_zret X d_R_isNode_17 (by decide) (by omega) (by omega) (⟨by simp [isn, hA, cb], rfl⟩)
  · skip
    refine z_iload_n X d_R_isNode_4 rfl ?_
    refine z_aload_n X d_R_isNode_5 rfl ?_
    refine z_get X ho rfl in_R 2 (by decide) (wq lf_R_7) rfl d_R_isNode_6 ?_
    refine z_icmp_ge X d_R_isNode_9 (tgt := 16) (by decide) (fun hB => ?_) (fun hB => ?_)
    · skip
      refine z_iconst X d_R_isNode_16 (v := nI 0) (by decide +kernel) ?_
      exact z_zret X d_R_isNode_17 (by decide) (by omega) (by omega) (⟨by simp [isn, hB, cb], rfl⟩)
    · skip
      refine z_iconst X d_R_isNode_12 (v := nI 1) (by decide +kernel) ?_
      refine z_goto X d_R_isNode_13 (tgt := 17) (by decide) ?_
      exact z_zret X d_R_isNode_17 (by decide) (by omega) (by omega) (⟨by simp [isn, hA, hB, cb], rfl⟩)
set_option maxHeartbeats 4000000 in
set_option maxRecDepth 100000 in
/-- R_leafNode -/
theorem c_R_leafNode {kk nc : Nat} {dv ms : Int32} {f0 f1 f2 f3 f4 f5 f6 f7 f8 f9 f10 f11 f12 f13 f14 f15 f16 f17 : Nat → Int32} {x : Int32} (hR : RW tI tZ b N k kk dv nc ms f0 f1 f2 f3 f4 f5 f6 f7 f8 f9 f10 f11 f12 f13 f14 f15 f16 f17) (hnc : nc ≤ 12)  : Met l y_R_leafNode (wy y_R_leafNode b_R_leafNode 2 (some .boolean)) (rm 1 0 0) (zPc D (tyl tI tZ tN tM) b N k [.ref (b + 255), .int x]) (zQi D b N (fun z k2 => z = nI (cb (isl nc f1 x)) ∧ k2 = k)) 0 0 (zA b) := by
  refine z_met (own := R_R) (by decide) rfl rfl (Nat.le_of_ble_eq_true rfl) [some (.ref (b + 255)), some (.int x)] rfl ?_
  intro p e s m args below meth c X hin
  have ⟨ho, r0, r1, r2, r3, r4, r5, r6, r7, r8, r9, r10, r11, r12, r13, r14, r15, r16, r17⟩ := hR
  have hfr : ∀ q, q < b + 255 → k q = k q := fun _ _ => rfl
  refine z_aload_n X d_R_leafNode_0 rfl ?_
  refine z_iload_n X d_R_leafNode_1 rfl ?_
  refine z_callVi X (c_R_isNode hR) ho rfl (cwV 1 X.1.2.2.2.2 (gi_V lm_R_75 vi_R_isNode ve_R_isNode vn_R vc_R_isNode) rfl rfl rfl (by decide +kernel) ⟨Nat.le_of_ble_eq_true rfl, Nat.le_of_ble_eq_true rfl⟩) (As := [.int x]) (st := []) rfl rfl (Nat.le_of_ble_eq_true rfl) d_R_leafNode_2 ⟨Nat.le_of_ble_eq_true rfl, Nat.le_of_ble_eq_true rfl⟩ (fun z k2 hq => ?_)
  obtain ⟨rfl, hk9⟩ := hq
  have hk9 := hk9.symm
  subst hk9
  cases hx : isn nc x
  · skip
    refine z_if_eqN X d_R_leafNode_5 (tgt := 21) (by decide) (by decide) (fun _ => ?_) (fun h => absurd h (by decide))
    refine z_iconst X d_R_leafNode_21 (v := nI 0) (by decide +kernel) ?_
    exact z_zret X d_R_leafNode_22 (by decide) (by omega) (by omega) (⟨by simp [isl, hx, cb], rfl⟩)
  · skip
    refine z_if_eqN X d_R_leafNode_5 (tgt := 21) (by decide) (by decide) (fun h => absurd h (by decide)) (fun _ => ?_)
    obtain ⟨j, hj, rfl⟩ := isn_t (by omega) hx
    refine z_lv (lv2 := [some (.ref (b + 255)), some (.int (nI j))]) (fun _ _ q => q) ?_
    refine z_aload_n X d_R_leafNode_8 rfl ?_
    refine z_get X ho rfl in_R 4 (by decide) (wq lf_R_17) rfl d_R_leafNode_9 ?_
    refine z_iload_n X d_R_leafNode_12 rfl ?_
    refine z_zald X r1 1 rfl (j := j) rfl (by omega) (by omega) d_R_leafNode_13 ?_
    refine z_if_eq X d_R_leafNode_14 (tgt := 21) (by decide) (fun hB => ?_) (fun hB => ?_)
    · skip
      refine z_iconst X d_R_leafNode_21 (v := nI 0) (by decide +kernel) ?_
      exact z_zret X d_R_leafNode_22 (by decide) (by omega) (by omega) (⟨by rw [isl, hx, nI_clamp (by omega), hB]; rfl, rfl⟩)
    · skip
      refine z_iconst X d_R_leafNode_17 (v := nI 1) (by decide +kernel) ?_
      refine z_goto X d_R_leafNode_18 (tgt := 22) (by decide) ?_
      exact z_zret X d_R_leafNode_22 (by decide) (by omega) (by omega) (⟨by rw [isl, hx, nI_clamp (by omega)]; simp [hB, cb], rfl⟩)
end
theorem so_at (f : Nat → Int32) (x : Int32) : so f x = if 0 < x then sw f x 12 else -1 := by
  unfold so
  have h : nI 1 ≤ x ↔ 0 < x := by
    rw [Int32.le_iff_toInt_le, Int32.lt_iff_toInt_lt, nI_toInt (by omega), Int32.toInt_zero]
    omega
  simp only [h]
section
variable {l : Launch} {D : va_G} {tI tZ tN tM : ClassId} {b N : Nat} {k : Nat → va_E}
set_option maxHeartbeats 4000000 in
set_option maxRecDepth 100000 in
/-- R_placeOf -/
theorem c_R_placeOf {kk nc : Nat} {dv ms : Int32} {f0 f1 f2 f3 f4 f5 f6 f7 f8 f9 f10 f11 f12 f13 f14 f15 f16 f17 : Nat → Int32} {x : Int32} (hR : RW tI tZ b N k kk dv nc ms f0 f1 f2 f3 f4 f5 f6 f7 f8 f9 f10 f11 f12 f13 f14 f15 f16 f17)  : Met l y_R_placeOf (wy y_R_placeOf b_R_placeOf 3 (some .int)) (rm 0 0 0) (zPc D (tyl tI tZ tN tM) b N k [.ref (b + 255), .int x]) (zQi D b N (fun z k2 => z = so f9 x ∧ k2 = k)) 0 0 (zA b) := by
  refine z_met (own := R_R) (by decide) rfl rfl (Nat.le_of_ble_eq_true rfl) [some (.ref (b + 255)), some (.int x), none] rfl ?_
  intro p e s m args below meth c X hin
  have ⟨ho, r0, r1, r2, r3, r4, r5, r6, r7, r8, r9, r10, r11, r12, r13, r14, r15, r16, r17⟩ := hR
  have hfr : ∀ q, q < b + 255 → k q = k q := fun _ _ => rfl
  rw [so_at]
  refine z_iconst X d_R_placeOf_0 (v := nI 0) (by decide +kernel) ?_
  refine z_istore_n X d_R_placeOf_1 (by decide) rfl ?_
  refine z_lv (lv2 := [some (.ref (b + 255)), some (.int x), some (.int (nI 0))]) (fun _ _ q => q) ?_
  refine z_loop (σ := Unit) (K := fun _ _ => k) (LV := fun v _ => [some (.ref (b + 255)), some (.int x), some (.int (nI v))]) (I := fun v _ => 0 < x → sw f9 x 12 = sw f9 x (12 - v)) 12 0 () (by omega) (fun _ => rfl) (rfl) (rfl) ?_ ?_
  · intro s1 hI
    refine z_lv (lv2 := [some (.ref (b + 255)), some (.int x), some (.int (nI 12))]) (fun _ _ q => q) ?_
    refine z_iload_n X d_R_placeOf_2 rfl ?_
    refine z_bipush X d_R_placeOf_3 (v := nI 12) (by decide +kernel) ?_
    refine z_icmp_geN X d_R_placeOf_5 (tgt := 30) (by decide) (by omega) (by omega) (fun _ => ?_) (fun h => absurd h (by omega))
    refine z_iconst X d_R_placeOf_30 (v := -1) (by decide +kernel) ?_
    exact z_iret X d_R_placeOf_31 (by omega) (by omega) (⟨by by_cases h : 0 < x; (rw [if_pos h, hI h]; rfl); rw [if_neg h], rfl⟩)
  · intro v s1 hv hI ih
    refine z_lv (lv2 := [some (.ref (b + 255)), some (.int x), some (.int (nI v))]) (fun _ _ q => q) ?_
    refine z_iload_n X d_R_placeOf_2 rfl ?_
    refine z_bipush X d_R_placeOf_3 (v := nI 12) (by decide +kernel) ?_
    refine z_icmp_geN X d_R_placeOf_5 (tgt := 30) (by decide) (by omega) (by omega) (fun h => absurd h (by omega)) (fun _ => ?_)
    refine z_iload_n X d_R_placeOf_8 rfl ?_
    refine z_if_le X d_R_placeOf_9 (tgt := 24) (by decide) (fun hA => ?_) (fun hA => ?_)
    · skip
      refine z_iincU X d_R_placeOf_24 rfl (by decide) rfl ?_
      refine z_lv (lv2 := [some (.ref (b + 255)), some (.int x), some (.int (nI (v + 1)))]) (fun _ _ q => q) ?_
      refine z_goto X d_R_placeOf_27 (tgt := 2) (by decide) ?_
      exact z_at (ih () (fun q => absurd q (i32_le_n hA))) rfl rfl
    · skip
      have hA2 := i32_nle hA
      have hI := hI hA2
      rw [sw_at f9 x hv] at hI
      refine z_aload_n X d_R_placeOf_12 rfl ?_
      refine z_get X ho rfl in_R 13 (by decide) (wq lf_R_42) rfl d_R_placeOf_13 ?_
      refine z_iload_n X d_R_placeOf_16 rfl ?_
      refine z_iald X r9 0 rfl (j := v) rfl (by omega) (by omega) d_R_placeOf_17 ?_
      refine z_iload_n X d_R_placeOf_18 rfl ?_
      refine z_icmp_ne X d_R_placeOf_19 (tgt := 24) (by decide) (fun hB => ?_) (fun hB => ?_)
      · skip
        refine z_iincU X d_R_placeOf_24 rfl (by decide) rfl ?_
        refine z_lv (lv2 := [some (.ref (b + 255)), some (.int x), some (.int (nI (v + 1)))]) (fun _ _ q => q) ?_
        refine z_goto X d_R_placeOf_27 (tgt := 2) (by decide) ?_
        exact z_at (ih () (fun _ => by rw [hI, if_neg hB])) rfl rfl
      · skip
        refine z_iload_n X d_R_placeOf_22 rfl ?_
        exact z_iret X d_R_placeOf_23 (by omega) (by omega) (⟨by rw [if_pos hA2, hI, if_pos hB], rfl⟩)
set_option maxHeartbeats 4000000 in
set_option maxRecDepth 100000 in
/-- R_freePlace -/
theorem c_R_freePlace {kk nc : Nat} {dv ms : Int32} {f0 f1 f2 f3 f4 f5 f6 f7 f8 f9 f10 f11 f12 f13 f14 f15 f16 f17 : Nat → Int32} (hR : RW tI tZ b N k kk dv nc ms f0 f1 f2 f3 f4 f5 f6 f7 f8 f9 f10 f11 f12 f13 f14 f15 f16 f17)  : Met l y_R_freePlace (wy y_R_freePlace b_R_freePlace 2 (some .int)) (rm 0 0 0) (zPc D (tyl tI tZ tN tM) b N k [.ref (b + 255)]) (zQi D b N (fun z k2 => z = sw f9 0 12 ∧ k2 = k)) 0 0 (zA b) := by
  refine z_met (own := R_R) (by decide) rfl rfl (Nat.le_of_ble_eq_true rfl) [some (.ref (b + 255)), none] rfl ?_
  intro p e s m args below meth c X hin
  have ⟨ho, r0, r1, r2, r3, r4, r5, r6, r7, r8, r9, r10, r11, r12, r13, r14, r15, r16, r17⟩ := hR
  have hfr : ∀ q, q < b + 255 → k q = k q := fun _ _ => rfl
  refine z_iconst X d_R_freePlace_0 (v := nI 0) (by decide +kernel) ?_
  refine z_istore_n X d_R_freePlace_1 (by decide) rfl ?_
  refine z_lv (lv2 := [some (.ref (b + 255)), some (.int (nI 0))]) (fun _ _ q => q) ?_
  refine z_loop (σ := Unit) (K := fun _ _ => k) (LV := fun v _ => [some (.ref (b + 255)), some (.int (nI v))]) (I := fun v _ => sw f9 0 12 = sw f9 0 (12 - v)) 12 0 () (by omega) (rfl) (rfl) (rfl) ?_ ?_
  · intro s1 hI
    refine z_lv (lv2 := [some (.ref (b + 255)), some (.int (nI 12))]) (fun _ _ q => q) ?_
    refine z_iload_n X d_R_freePlace_2 rfl ?_
    refine z_bipush X d_R_freePlace_3 (v := nI 12) (by decide +kernel) ?_
    refine z_icmp_geN X d_R_freePlace_5 (tgt := 25) (by decide) (by omega) (by omega) (fun _ => ?_) (fun h => absurd h (by omega))
    refine z_iconst X d_R_freePlace_25 (v := -1) (by decide +kernel) ?_
    exact z_iret X d_R_freePlace_26 (by omega) (by omega) (⟨hI.symm, rfl⟩)
  · intro v s1 hv hI ih
    rw [sw_at f9 0 hv] at hI
    refine z_lv (lv2 := [some (.ref (b + 255)), some (.int (nI v))]) (fun _ _ q => q) ?_
    refine z_iload_n X d_R_freePlace_2 rfl ?_
    refine z_bipush X d_R_freePlace_3 (v := nI 12) (by decide +kernel) ?_
    refine z_icmp_geN X d_R_freePlace_5 (tgt := 25) (by decide) (by omega) (by omega) (fun h => absurd h (by omega)) (fun _ => ?_)
    refine z_aload_n X d_R_freePlace_8 rfl ?_
    refine z_get X ho rfl in_R 13 (by decide) (wq lf_R_42) rfl d_R_freePlace_9 ?_
    refine z_iload_n X d_R_freePlace_12 rfl ?_
    refine z_iald X r9 0 rfl (j := v) rfl (by omega) (by omega) d_R_freePlace_13 ?_
    refine z_if_ne X d_R_freePlace_14 (tgt := 19) (by decide) (fun hA => ?_) (fun hA => ?_)
    · skip
      refine z_iincU X d_R_freePlace_19 rfl (by decide) rfl ?_
      refine z_lv (lv2 := [some (.ref (b + 255)), some (.int (nI (v + 1)))]) (fun _ _ q => q) ?_
      refine z_goto X d_R_freePlace_22 (tgt := 2) (by decide) ?_
      exact z_at (ih () (by rw [hI, if_neg hA])) rfl rfl
    · skip
      refine z_iload_n X d_R_freePlace_17 rfl ?_
      exact z_iret X d_R_freePlace_18 (by omega) (by omega) (⟨by rw [hI, if_pos hA], rfl⟩)
set_option maxHeartbeats 4000000 in
set_option maxRecDepth 100000 in
/-- R_onTheWay -/
theorem c_R_onTheWay {kk nc : Nat} {dv ms : Int32} {f0 f1 f2 f3 f4 f5 f6 f7 f8 f9 f10 f11 f12 f13 f14 f15 f16 f17 : Nat → Int32} (hR : RW tI tZ b N k kk dv nc ms f0 f1 f2 f3 f4 f5 f6 f7 f8 f9 f10 f11 f12 f13 f14 f15 f16 f17)  : Met l y_R_onTheWay (wy y_R_onTheWay b_R_onTheWay 3 (some .int)) (rm 0 0 0) (zPc D (tyl tI tZ tN tM) b N k [.ref (b + 255)]) (zQi D b N (fun z k2 => z = nI (ct (fun p => decide (0 < f9 p)) 12) ∧ k2 = k)) 0 0 (zA b) := by
  refine z_met (own := R_R) (by decide) rfl rfl (Nat.le_of_ble_eq_true rfl) [some (.ref (b + 255)), none, none] rfl ?_
  intro p e s m args below meth c X hin
  have ⟨ho, r0, r1, r2, r3, r4, r5, r6, r7, r8, r9, r10, r11, r12, r13, r14, r15, r16, r17⟩ := hR
  have hfr : ∀ q, q < b + 255 → k q = k q := fun _ _ => rfl
  refine z_iconst X d_R_onTheWay_0 (v := nI 0) (by decide +kernel) ?_
  refine z_istore_n X d_R_onTheWay_1 (by decide) rfl ?_
  refine z_lv (lv2 := [some (.ref (b + 255)), some (.int (nI 0)), none]) (fun _ _ q => q) ?_
  refine z_iconst X d_R_onTheWay_2 (v := nI 0) (by decide +kernel) ?_
  refine z_istore_n X d_R_onTheWay_3 (by decide) rfl ?_
  refine z_lv (lv2 := [some (.ref (b + 255)), some (.int (nI 0)), some (.int (nI 0))]) (fun _ _ q => q) ?_
  refine z_loop (σ := Unit) (K := fun _ _ => k) (LV := fun v _ => [some (.ref (b + 255)), some (.int (nI (ct (fun p => decide (0 < f9 p)) v))), some (.int (nI v))]) (I := fun _ _ => True) 12 0 () (by omega) (trivial) (rfl) (rfl) ?_ ?_
  · intro s1 _
    refine z_lv (lv2 := [some (.ref (b + 255)), some (.int (nI (ct (fun p => decide (0 < f9 p)) 12))), some (.int (nI 12))]) (fun _ _ q => q) ?_
    refine z_iload_n X d_R_onTheWay_4 rfl ?_
    refine z_bipush X d_R_onTheWay_5 (v := nI 12) (by decide +kernel) ?_
    refine z_icmp_geN X d_R_onTheWay_7 (tgt := 33) (by decide) (by omega) (by omega) (fun _ => ?_) (fun h => absurd h (by omega))
    refine z_iload_n X d_R_onTheWay_33 rfl ?_
    exact z_iret X d_R_onTheWay_34 (by omega) (by omega) (⟨rfl, rfl⟩)
  · intro v s1 hv _ ih
    refine z_lv (lv2 := [some (.ref (b + 255)), some (.int (nI (ct (fun p => decide (0 < f9 p)) v))), some (.int (nI v))]) (fun _ _ q => q) ?_
    refine z_iload_n X d_R_onTheWay_4 rfl ?_
    refine z_bipush X d_R_onTheWay_5 (v := nI 12) (by decide +kernel) ?_
    refine z_icmp_geN X d_R_onTheWay_7 (tgt := 33) (by decide) (by omega) (by omega) (fun h => absurd h (by omega)) (fun _ => ?_)
    refine z_aload_n X d_R_onTheWay_10 rfl ?_
    refine z_get X ho rfl in_R 13 (by decide) (wq lf_R_42) rfl d_R_onTheWay_11 ?_
    refine z_iload_n X d_R_onTheWay_14 rfl ?_
    refine z_iald X r9 0 rfl (j := v) rfl (by omega) (by omega) d_R_onTheWay_15 ?_
    refine z_if_le X d_R_onTheWay_16 (tgt := 25) (by decide) (fun hA => ?_) (fun hA => ?_)
    · skip
      refine z_iload_n X d_R_onTheWay_25 rfl ?_
      refine z_istore_n X d_R_onTheWay_26 (by decide) rfl ?_
      refine z_lv (lv2 := [some (.ref (b + 255)), some (.int (nI (ct (fun p => decide (0 < f9 p)) v))), some (.int (nI v))]) (fun _ _ q => q) ?_
      refine z_iincU X d_R_onTheWay_27 rfl (by decide) rfl ?_
      refine z_lv (lv2 := [some (.ref (b + 255)), some (.int (nI (ct (fun p => decide (0 < f9 p)) v))), some (.int (nI (v + 1)))]) (fun _ _ q => q) ?_
      refine z_goto X d_R_onTheWay_30 (tgt := 4) (by decide) ?_
      exact z_at (ih () trivial) rfl (by simp only [ct]; rw [if_neg (by simp [i32_le_n hA])]; rfl)
    · skip
      refine z_iload_n X d_R_onTheWay_19 rfl ?_
      refine z_iconst X d_R_onTheWay_20 (v := nI 1) (by decide +kernel) ?_
      refine z_iaddN X d_R_onTheWay_21 ?_
      refine z_goto X d_R_onTheWay_22 (tgt := 26) (by decide) ?_
      refine z_istore_n X d_R_onTheWay_26 (by decide) rfl ?_
      refine z_lv (lv2 := [some (.ref (b + 255)), some (.int (nI ((ct (fun p => decide (0 < f9 p)) v) + 1))), some (.int (nI v))]) (fun _ _ q => q) ?_
      refine z_iincU X d_R_onTheWay_27 rfl (by decide) rfl ?_
      refine z_lv (lv2 := [some (.ref (b + 255)), some (.int (nI ((ct (fun p => decide (0 < f9 p)) v) + 1))), some (.int (nI (v + 1)))]) (fun _ _ q => q) ?_
      refine z_goto X d_R_onTheWay_30 (tgt := 4) (by decide) ?_
      exact z_at (ih () trivial) rfl (by simp only [ct]; rw [if_pos (by simp [i32_nle hA])])
end
