/-! Long.bitCount counts the bits -/
def bm (f : Nat → Nat) : Nat → Nat → Nat
  | 0, _ => 0
  | m + 1, x => f (x % 256) + 256 * bm f m (x / 256)
set_option maxHeartbeats 400000 in
theorem bm_s (f : Nat → Nat) (m x : Nat) : bm f (m + 1) x = f (x % 256) + 256 * bm f m (x / 256) := rfl
def rp (c : Nat) : Nat → Nat
  | 0 => 0
  | m + 1 => c + 256 * rp c m
set_option maxHeartbeats 400000 in
theorem bm_id : ∀ m x, x < 256 ^ m → bm (fun a => a) m x = x
  | 0, x, h => by
    have : x < 1 := h
    show 0 = x
    omega
  | m + 1, x, h => by
    rw [Nat.pow_succ] at h
    have := bm_id m (x / 256) (Nat.div_lt_of_lt_mul (by rw [Nat.mul_comm]; exact h))
    unfold bm
    rw [this]
    omega
set_option maxHeartbeats 400000 in
theorem land_256 (x y : Nat) : x &&& y = ((x % 256) &&& (y % 256)) + 256 * ((x / 256) &&& (y / 256)) := by
  have h1 : (x &&& y) % 2 ^ 8 = (x % 2 ^ 8) &&& (y % 2 ^ 8) := Nat.and_mod_two_pow
  have h2 : (x &&& y) / 2 ^ 8 = (x / 2 ^ 8) &&& (y / 2 ^ 8) := Nat.and_div_two_pow
  rw [show (2 : Nat) ^ 8 = 256 from rfl] at h1 h2
  rw [← h1, ← h2]
  omega
set_option maxHeartbeats 400000 in
theorem bm_and (c : Nat) (hc : c < 256) : ∀ m x, x &&& rp c m = bm (fun a => a &&& c) m x
  | 0, x => Nat.and_zero x
  | m + 1, x => by
    unfold rp bm
    rw [land_256, show (c + 256 * rp c m) % 256 = c by omega, show (c + 256 * rp c m) / 256 = rp c m by omega, bm_and c hc m]
set_option maxHeartbeats 400000 in
theorem bm_and2 : ∀ m x, (x / 2) &&& rp 85 m = bm (fun a => (a / 2) &&& 85) m x
  | 0, x => Nat.and_zero _
  | m + 1, x => by
    have T : ∀ a, a < 128 → ∀ b, b < 2 → (a + 128 * b) &&& 85 = a &&& 85 := by decide +kernel
    unfold rp bm
    rw [land_256, show (85 + 256 * rp 85 m) % 256 = 85 by omega, show (85 + 256 * rp 85 m) / 256 = rp 85 m by omega, show x / 2 / 256 = x / 256 / 2 by omega, bm_and2 m, show x / 2 % 256 = x % 256 / 2 + 128 * (x / 256 % 2) by omega, T (x % 256 / 2) (by omega) (x / 256 % 2) (by omega)]
set_option maxHeartbeats 400000 in
theorem bm_and4 : ∀ m x, (x / 4) &&& rp 51 m = bm (fun a => (a / 4) &&& 51) m x
  | 0, x => Nat.and_zero _
  | m + 1, x => by
    have T : ∀ a, a < 64 → ∀ b, b < 4 → (a + 64 * b) &&& 51 = a &&& 51 := by decide +kernel
    unfold rp bm
    rw [land_256, show (51 + 256 * rp 51 m) % 256 = 51 by omega, show (51 + 256 * rp 51 m) / 256 = rp 51 m by omega, show x / 4 / 256 = x / 256 / 4 by omega, bm_and4 m, show x / 4 % 256 = x % 256 / 4 + 64 * (x / 256 % 4) by omega, T (x % 256 / 4) (by omega) (x / 256 % 4) (by omega)]
set_option maxHeartbeats 400000 in
theorem bm_c (f g : Nat → Nat) (hf : ∀ a, a < 256 → f a < 256) : ∀ m x, bm g m (bm f m x) = bm (fun a => g (f a)) m x
  | 0, x => rfl
  | m + 1, x => by
    have h := hf (x % 256) (by omega)
    rw [bm_s f m x, bm_s g m, bm_s (fun a => g (f a)) m x, show (f (x % 256) + 256 * bm f m (x / 256)) % 256 = f (x % 256) by omega, show (f (x % 256) + 256 * bm f m (x / 256)) / 256 = bm f m (x / 256) by omega, bm_c f g hf m]
set_option maxHeartbeats 400000 in
theorem bm_sub (f g : Nat → Nat) (h : ∀ a, a < 256 → g a ≤ f a) : ∀ m x, bm g m x ≤ bm f m x ∧ bm f m x - bm g m x = bm (fun a => f a - g a) m x
  | 0, x => ⟨Nat.le_refl _, rfl⟩
  | m + 1, x => by
    have a := h (x % 256) (by omega)
    obtain ⟨b, c⟩ := bm_sub f g h m (x / 256)
    unfold bm
    omega
set_option maxHeartbeats 400000 in
theorem bm_add (f g : Nat → Nat) : ∀ m x, bm f m x + bm g m x = bm (fun a => f a + g a) m x
  | 0, x => rfl
  | m + 1, x => by
    have c := bm_add f g m (x / 256)
    unfold bm
    omega
set_option maxHeartbeats 400000 in
theorem bm_lt (f : Nat → Nat) (hf : ∀ a, a < 256 → f a < 256) : ∀ m x, bm f m x < 256 ^ m
  | 0, x => by
    show 0 < 1
    decide
  | m + 1, x => by
    have a := hf (x % 256) (by omega)
    have b := bm_lt f hf m (x / 256)
    unfold bm
    rw [Nat.pow_succ]
    omega
set_option maxHeartbeats 400000 in
theorem bm_16 (f : Nat → Nat) (hf : ∀ a, a < 256 → f a % 16 ≤ 4) : ∀ m x, bm f m x % 16 ≤ 4
  | 0, x => by
    show 0 % 16 ≤ 4
    decide
  | m + 1, x => by
    have a := hf (x % 256) (by omega)
    unfold bm
    omega
set_option maxHeartbeats 400000 in
theorem bm_nib (f : Nat → Nat) (hf : ∀ a, a < 256 → f a % 16 ≤ 4 ∧ f a / 16 ≤ 4) : ∀ m x, (bm f m x + bm f m x / 16) &&& rp 15 m = bm (fun a => (f a + f a / 16) &&& 15) m x
  | 0, x => Nat.and_zero _
  | m + 1, x => by
    have a := hf (x % 256) (by omega)
    have b := bm_16 f (fun a ha => (hf a ha).1) m (x / 256)
    have ih := bm_nib f hf m (x / 256)
    unfold rp bm
    rw [land_256, show (15 + 256 * rp 15 m) % 256 = 15 by omega, show (15 + 256 * rp 15 m) / 256 = rp 15 m by omega]
    generalize bm f m (x / 256) = Y at b ih ⊢
    generalize f (x % 256) = u at a ⊢
    have M : ∀ z : Nat, z &&& 15 = z % 16 := fun z => Nat.and_two_pow_sub_one_eq_mod z 4
    rw [show (u + 256 * Y + (u + 256 * Y) / 16) / 256 = Y + Y / 16 by omega, ih, M, M, show (u + 256 * Y + (u + 256 * Y) / 16) % 256 % 16 = (u + u / 16) % 16 by omega]
/-! the sum of the bytes -/
def bs (f : Nat → Nat) : Nat → Nat → Nat
  | 0, _ => 0
  | m + 1, x => f (x % 256) + bs f m (x / 256)
set_option maxHeartbeats 400000 in
theorem bm_fin (p0 p1 p2 p3 p4 p5 p6 p7 z z1 z2 z3 : Nat) (h0 : p0 ≤ 8) (h1 : p1 ≤ 8) (h2 : p2 ≤ 8) (h3 : p3 ≤ 8) (h4 : p4 ≤ 8) (h5 : p5 ≤ 8) (h6 : p6 ≤ 8) (h7 : p7 ≤ 8) (hz : z = p0 + 256 * (p1 + 256 * (p2 + 256 * (p3 + 256 * (p4 + 256 * (p5 + 256 * (p6 + 256 * p7))))))) (k1 : z1 = z + z / 256) (k2 : z2 = z1 + z1 / 65536) (k3 : z3 = z2 + z2 / 4294967296) : z1 < 18446744073709551616 ∧ z2 < 18446744073709551616 ∧ z3 < 18446744073709551616 ∧ z3 % 128 = p0 + p1 + p2 + p3 + p4 + p5 + p6 + p7 := by
  have e1 : z1 = (p0 + p1) + 256 * ((p1 + p2) + 256 * ((p2 + p3) + 256 * ((p3 + p4) + 256 * ((p4 + p5) + 256 * ((p5 + p6) + 256 * ((p6 + p7) + 256 * p7)))))) := by omega
  have e2 : z2 = (p0 + p1 + (p2 + p3)) + 256 * ((p1 + p2 + (p3 + p4)) + 256 * ((p2 + p3 + (p4 + p5)) + 256 * ((p3 + p4 + (p5 + p6)) + 256 * ((p4 + p5 + (p6 + p7)) + 256 * ((p5 + p6 + p7) + 256 * ((p6 + p7) + 256 * p7)))))) := by
    clear k1 hz
    omega
  have e3 : ∃ A, z3 = (p0 + p1 + (p2 + p3) + (p4 + p5 + (p6 + p7))) + 256 * A := by
    refine ⟨(p1 + p2 + (p3 + p4)) + 256 * ((p2 + p3 + (p4 + p5)) + 256 * ((p3 + p4 + (p5 + p6)) + 256 * ((p4 + p5 + (p6 + p7)) + 256 * ((p5 + p6 + p7) + 256 * ((p6 + p7) + 256 * p7))))) + ((p5 + p6 + p7) + 256 * ((p6 + p7) + 256 * p7)), ?_⟩
    clear k1 hz k2 e1
    omega
  obtain ⟨A, e3'⟩ := e3
  refine ⟨?_, ?_, ?_, ?_⟩
  · clear k1 hz k2 k3 e2 e3'; omega
  · clear k1 hz k2 k3 e1 e3'; omega
  · clear k1 hz k2 e1 e3'; omega
  · clear k1 hz k2 e1 k3 e2; omega
def q1B (a : Nat) : Nat := a - ((a / 2) &&& 85)
def q2B (a : Nat) : Nat := (q1B a &&& 51) + ((q1B a / 4) &&& 51)
def q3B (a : Nat) : Nat := (q2B a + q2B a / 16) &&& 15
set_option maxHeartbeats 400000 in
theorem qB_t : ∀ a, a < 256 → ((a / 2) &&& 85) ≤ a ∧ q1B a < 256 ∧ q2B a < 256 ∧ (q2B a % 16 ≤ 4 ∧ q2B a / 16 ≤ 4) ∧ q3B a ≤ 8 ∧ q3B a = cntF (fun i => a.testBit i) 8 := by decide +kernel
/-! a long as a number -/
def uN (x : Int64) : Nat := x.toUInt64.toNat
set_option maxHeartbeats 400000 in
theorem uN_lt (x : Int64) : uN x < 18446744073709551616 := x.toUInt64.toNat_lt
set_option maxHeartbeats 400000 in
theorem uN_add (x y : Int64) : uN (x + y) = (uN x + uN y) % 18446744073709551616 := UInt64.toNat_add x.toUInt64 y.toUInt64
set_option maxHeartbeats 400000 in
theorem uN_sub (x y : Int64) (h : uN y ≤ uN x) : uN (x - y) = uN x - uN y := by
  have e : uN (x - y) = (18446744073709551616 - uN y + uN x) % 18446744073709551616 := UInt64.toNat_sub x.toUInt64 y.toUInt64
  have a := uN_lt x
  have b := uN_lt y
  omega
set_option maxHeartbeats 400000 in
theorem uN_and (x y : Int64) : uN (x &&& y) = uN x &&& uN y := UInt64.toNat_and x.toUInt64 y.toUInt64
set_option maxHeartbeats 400000 in
theorem uN_shr (x : Int64) (y : Int32) (k : Nat) (h : (y.toInt64.toUInt64 &&& Int64.toUInt64 63).toNat % 64 = k) : uN (xlushr x y) = uN x / 2 ^ k := by
  have e : uN (xlushr x y) = x.toUInt64.toNat >>> ((y.toInt64.toUInt64 &&& Int64.toUInt64 63).toNat % 64) := UInt64.toNat_shiftRight _ _
  rw [e, h, Nat.shiftRight_eq_div_pow]
  rfl
set_option maxHeartbeats 400000 in
theorem uN_bit (x : Int64) (i : Nat) : btL x i = (uN x).testBit i := (BitVec.testBit_toNat x.toBitVec).symm
set_option maxHeartbeats 400000 in
theorem toI_127 (x : Int64) : (x.toInt32 &&& 127).toInt = ((uN x % 128 : Nat) : Int) := by
  have e : (x.toInt32 &&& 127).toBitVec.toNat = uN x % 128 := by
    rw [Int32.toBitVec_and, BitVec.toNat_and, Int64.toBitVec_toInt32, BitVec.signExtend_eq_setWidth_of_le _ (by decide), BitVec.toNat_setWidth]
    have M : ∀ z : Nat, z &&& 127 = z % 128 := fun z => Nat.and_two_pow_sub_one_eq_mod z 7
    show (x.toBitVec.toNat % 2 ^ 32) &&& 127 = _
    rw [M]
    show x.toBitVec.toNat % 2 ^ 32 % 128 = x.toBitVec.toNat % 128
    omega
  have l : (x.toInt32 &&& 127).toBitVec.toNat < 128 := by rw [e]; exact Nat.mod_lt _ (by decide)
  show (x.toInt32 &&& 127).toBitVec.toInt = _
  rw [BitVec.toInt_eq_toNat_of_lt (by omega), e]
/-! a number's bits, byte by byte -/
set_option maxHeartbeats 400000 in
theorem cntF_add (p : Nat → Bool) (a : Nat) : ∀ k, cntF p (a + k) = cntF p a + cntF (fun i => p (a + i)) k
  | 0 => rfl
  | k + 1 => by
    have := cntF_add p a k
    rw [← Nat.add_assoc, cntF_s, cntF_s, this]
    omega
set_option maxHeartbeats 400000 in
theorem cnt_bs : ∀ m x, cntF (fun i => Nat.testBit x i) (8 * m) = bs (fun a => cntF (fun i => a.testBit i) 8) m x
  | 0, x => rfl
  | m + 1, x => by
    rw [show 8 * (m + 1) = 8 + 8 * m by omega, cntF_add]
    have e1 : cntF (fun i => Nat.testBit x i) 8 = cntF (fun i => (x % 256).testBit i) 8 := cntF_cg 8 (fun i hi => by
      rw [show (256 : Nat) = 2 ^ 8 from rfl, Nat.testBit_mod_two_pow, decide_eq_true hi, Bool.true_and])
    have e2 : cntF (fun i => Nat.testBit x (8 + i)) (8 * m) = cntF (fun i => (x / 256).testBit i) (8 * m) := cntF_cg _ (fun i hi => by
      rw [show (256 : Nat) = 2 ^ 8 from rfl, Nat.testBit_div_two_pow, Nat.add_comm])
    rw [e1, e2, cnt_bs m]
    rfl
set_option maxHeartbeats 400000 in
theorem bs_cg (f g : Nat → Nat) (h : ∀ a, a < 256 → f a = g a) : ∀ m x, bs f m x = bs g m x
  | 0, x => rfl
  | m + 1, x => by
    unfold bs
    rw [h _ (by omega), bs_cg f g h m]
set_option maxHeartbeats 400000 in
theorem x_bitCount (x0 : Int64) : Pc (f_J13_bitCount_95d88 x0) (fun r => r.toInt = cntF (fun i => btL x0 i) 64) := by
  unfold f_J13_bitCount_95d88
  have hx := uN_lt x0
  have i8 : bm (fun a => a) 8 (uN x0) = uN x0 := bm_id 8 _ hx
  have T := qB_t
  -- the pairs
  have s1 := uN_shr x0 1 1 (by decide)
  have a1 : uN ((xlushr x0 1) &&& 6148914691236517205) = bm (fun a => (a / 2) &&& 85) 8 (uN x0) := by
    rw [uN_and, s1, show uN 6148914691236517205 = rp 85 8 from by decide]
    exact bm_and2 8 _
  have b1 := bm_sub (fun a => a) (fun a => (a / 2) &&& 85) (fun a ha => (T a ha).1) 8 (uN x0)
  rw [i8] at b1
  have c1 : uN (x0 - ((xlushr x0 1) &&& 6148914691236517205)) = bm q1B 8 (uN x0) := by
    rw [uN_sub _ _ (by rw [a1]; exact b1.1), a1, b1.2]
    rfl
  refine pc_vlet ?_
  generalize x0 - ((xlushr x0 1) &&& 6148914691236517205) = y1 at c1 ⊢
  -- the nibbles
  have d1 : uN (y1 &&& 3689348814741910323) = bm (fun a => q1B a &&& 51) 8 (uN x0) := by
    rw [uN_and, show uN 3689348814741910323 = rp 51 8 from by decide, bm_and 51 (by decide), c1, bm_c q1B _ (fun a ha => (T a ha).2.1)]
  have d2 : uN ((xlushr y1 2) &&& 3689348814741910323) = bm (fun a => (q1B a / 4) &&& 51) 8 (uN x0) := by
    rw [uN_and, uN_shr y1 2 2 (by decide), show uN 3689348814741910323 = rp 51 8 from by decide, show (2 : Nat) ^ 2 = 4 from rfl, bm_and4, c1, bm_c q1B _ (fun a ha => (T a ha).2.1)]
  have d3 : uN ((y1 &&& 3689348814741910323) + ((xlushr y1 2) &&& 3689348814741910323)) = bm q2B 8 (uN x0) := by
    rw [uN_add, d1, d2, bm_add]
    exact Nat.mod_eq_of_lt (bm_lt q2B (fun a ha => (T a ha).2.2.1) 8 _)
  refine pc_vlet ?_
  generalize (y1 &&& 3689348814741910323) + ((xlushr y1 2) &&& 3689348814741910323) = y2 at d3 ⊢
  -- the bytes
  have f1 : uN ((y2 + xlushr y2 4) &&& 1085102592571150095) = bm q3B 8 (uN x0) := by
    have nb := bm_nib q2B (fun a ha => (T a ha).2.2.2.1) 8 (uN x0)
    have lt : bm q2B 8 (uN x0) % 16 ≤ 4 := bm_16 q2B (fun a ha => (T a ha).2.2.2.1.1) 8 _
    have top : bm q2B 8 (uN x0) < 69 * 256 ^ 7 := by
      have g : ∀ x, bm q2B 8 x = q2B (x % 256) + 256 * (q2B (x / 256 % 256) + 256 * (q2B (x / 256 / 256 % 256) + 256 * (q2B (x / 256 / 256 / 256 % 256) + 256 * (q2B (x / 256 / 256 / 256 / 256 % 256) + 256 * (q2B (x / 256 / 256 / 256 / 256 / 256 % 256) + 256 * (q2B (x / 256 / 256 / 256 / 256 / 256 / 256 % 256) + 256 * (q2B (x / 256 / 256 / 256 / 256 / 256 / 256 / 256 % 256) + 256 * 0))))))) := fun x => rfl
      rw [g]
      have q : ∀ a, q2B (a % 256) ≤ 68 := fun a => by
        have := (T (a % 256) (Nat.mod_lt _ (by decide))).2.2.2.1
        omega
      have := q (uN x0)
      have := q (uN x0 / 256)
      have := q (uN x0 / 256 / 256)
      have := q (uN x0 / 256 / 256 / 256)
      have := q (uN x0 / 256 / 256 / 256 / 256)
      have := q (uN x0 / 256 / 256 / 256 / 256 / 256)
      have := q (uN x0 / 256 / 256 / 256 / 256 / 256 / 256)
      have := q (uN x0 / 256 / 256 / 256 / 256 / 256 / 256 / 256)
      clear nb lt d1 d2 d3 c1 a1 b1 i8 s1
      omega
    rw [uN_and, uN_add, uN_shr y2 4 4 (by decide), d3, show uN 1085102592571150095 = rp 15 8 from by decide, show (2 : Nat) ^ 4 = 16 from rfl, Nat.mod_eq_of_lt (by clear nb lt; omega), nb]
    rfl
  refine pc_vlet ?_
  generalize (y2 + xlushr y2 4) &&& 1085102592571150095 = y3 at f1 ⊢
  have g : ∀ x, bm q3B 8 x = q3B (x % 256) + 256 * (q3B (x / 256 % 256) + 256 * (q3B (x / 256 / 256 % 256) + 256 * (q3B (x / 256 / 256 / 256 % 256) + 256 * (q3B (x / 256 / 256 / 256 / 256 % 256) + 256 * (q3B (x / 256 / 256 / 256 / 256 / 256 % 256) + 256 * (q3B (x / 256 / 256 / 256 / 256 / 256 / 256 % 256) + 256 * (q3B (x / 256 / 256 / 256 / 256 / 256 / 256 / 256 % 256) + 256 * 0))))))) := fun x => rfl
  have q : ∀ a, q3B (a % 256) ≤ 8 := fun a => (T (a % 256) (Nat.mod_lt _ (by decide))).2.2.2.2.1
  rw [g] at f1
  obtain ⟨l1, l2, l3, fin⟩ := bm_fin _ _ _ _ _ _ _ _ (uN y3) _ _ _ (q (uN x0)) (q (uN x0 / 256)) (q (uN x0 / 256 / 256)) (q (uN x0 / 256 / 256 / 256)) (q (uN x0 / 256 / 256 / 256 / 256)) (q (uN x0 / 256 / 256 / 256 / 256 / 256)) (q (uN x0 / 256 / 256 / 256 / 256 / 256 / 256)) (q (uN x0 / 256 / 256 / 256 / 256 / 256 / 256 / 256)) (by rw [f1]; rfl) rfl rfl rfl
  have e1 : uN (y3 + xlushr y3 8) = uN y3 + uN y3 / 256 := by
    rw [uN_add, uN_shr y3 8 8 (by decide)]
    exact Nat.mod_eq_of_lt l1
  refine pc_vlet ?_
  rw [← e1] at l1 l2 l3 fin
  generalize y3 + xlushr y3 8 = y4 at l1 l2 l3 fin ⊢
  have e2 : uN (y4 + xlushr y4 16) = uN y4 + uN y4 / 65536 := by
    rw [uN_add, uN_shr y4 16 16 (by decide)]
    exact Nat.mod_eq_of_lt l2
  refine pc_vlet ?_
  rw [← e2] at l2 l3 fin
  generalize y4 + xlushr y4 16 = y5 at l2 l3 fin ⊢
  have e3 : uN (y5 + xlushr y5 32) = uN y5 + uN y5 / 4294967296 := by
    rw [uN_add, uN_shr y5 32 32 (by decide)]
    exact Nat.mod_eq_of_lt l3
  refine pc_vlet (pc_some ?_)
  rw [toI_127, e3, fin]
  have bits : cntF (fun i => btL x0 i) 64 = cntF (fun i => (uN x0).testBit i) (8 * 8) := cntF_cg 64 (fun i _ => uN_bit x0 i)
  rw [bits, cnt_bs, ← bs_cg q3B _ (fun a ha => (T a ha).2.2.2.2.2)]
  show _ = ((q3B (uN x0 % 256) + (q3B (uN x0 / 256 % 256) + (q3B (uN x0 / 256 / 256 % 256) + (q3B (uN x0 / 256 / 256 / 256 % 256) + (q3B (uN x0 / 256 / 256 / 256 / 256 % 256) + (q3B (uN x0 / 256 / 256 / 256 / 256 / 256 % 256) + (q3B (uN x0 / 256 / 256 / 256 / 256 / 256 / 256 % 256) + (q3B (uN x0 / 256 / 256 / 256 / 256 / 256 / 256 / 256 % 256) + 0))))))) : Nat) : Int)
  omega
