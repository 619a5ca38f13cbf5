/-! bits of a long and of an int -/
def btL (x : Int64) (r : Nat) : Bool := x.toBitVec.getLsbD r
set_option maxHeartbeats 400000 in
theorem btL_ext {x y : Int64} (h : ∀ i, i < 64 → btL x i = btL y i) : x = y := Int64.toBitVec_inj.mp (BitVec.eq_of_getLsbD_eq (fun i hi => h i hi))
set_option maxHeartbeats 400000 in
theorem btL_hi (x : Int64) {i : Nat} (h : 64 ≤ i) : btL x i = false := BitVec.getLsbD_of_ge _ _ h
set_option maxHeartbeats 400000 in
theorem btL_xor (x y : Int64) (i : Nat) : btL (x ^^^ y) i = (btL x i != btL y i) := by
  unfold btL
  rw [Int64.toBitVec_xor, BitVec.getLsbD_xor]
set_option maxHeartbeats 400000 in
theorem btL_and (x y : Int64) (i : Nat) : btL (x &&& y) i = (btL x i && btL y i) := by
  unfold btL
  rw [Int64.toBitVec_and, BitVec.getLsbD_and]
set_option maxHeartbeats 400000 in
theorem btL_m1 (i : Nat) : btL (-1) i = decide (i < 64) := by
  by_cases h : i < 64
  · rw [decide_eq_true h]
    have : ∀ i, i < 64 → btL (-1) i = true := by decide +kernel
    exact this i h
  · rw [decide_eq_false h, btL_hi _ (by omega)]
set_option maxHeartbeats 400000 in
theorem btL_0 (i : Nat) : btL 0 i = false := by
  by_cases h : i < 64
  · have : ∀ i, i < 64 → btL 0 i = false := by decide +kernel
    exact this i h
  · exact btL_hi _ (by omega)
set_option maxHeartbeats 400000 in
theorem btL_shl1 (i : Int32) (r : Nat) (h : i.toInt = r) (hr : r < 40) (j : Nat) : btL (xlshl 1 i) j = decide (j = r) := by
  have e : i = Int32.ofNat r := Int32.toInt_inj.mp (by rw [h, Int32.toInt_ofNat_of_lt (by omega)])
  subst e
  by_cases w : j < 64
  · have : ∀ r, r < 40 → ∀ j, j < 64 → btL (xlshl 1 (Int32.ofNat r)) j = decide (j = r) := by decide +kernel
    exact this r hr j w
  · rw [btL_hi _ (by omega), decide_eq_false (by omega)]
set_option maxHeartbeats 400000 in
theorem sh_amount (r : Nat) (hr : r < 40) : ((Int32.ofNat r).toInt64 &&& 63).toBitVec.smod 64 = BitVec.ofNat 64 r := by
  have : ∀ r, r < 40 → ((Int32.ofNat r).toInt64 &&& 63).toBitVec.smod 64 = BitVec.ofNat 64 r := by decide +kernel
  exact this r hr
set_option maxHeartbeats 400000 in
theorem bv1 (v : BitVec 64) : v &&& 1#64 = 0#64 ↔ v.getLsbD 0 = false := by
  constructor
  · intro h
    have := congrArg (fun w => BitVec.getLsbD w 0) h
    simp at this
    simpa using this
  · intro h
    apply BitVec.eq_of_getLsbD_eq
    intro i hi
    rw [BitVec.getLsbD_and]
    by_cases z : i = 0
    · subst z; rw [h]; rfl
    · have : (1#64).getLsbD i = false := by
        rw [BitVec.getLsbD_one]; simp [z]
      rw [this, Bool.and_false]; simp
set_option maxHeartbeats 400000 in
theorem btL_shr (x : Int64) (i : Int32) (r : Nat) (h : i.toInt = r) (hr : r < 40) : lg_cmp ((xlshr x i) &&& 1) 0 = 0 ↔ btL x r = false := by
  have e : i = Int32.ofNat r := Int32.toInt_inj.mp (by rw [h, Int32.toInt_ofNat_of_lt (by omega)])
  subst e
  rw [lgc, ← Int64.toBitVec_inj, Int64.toBitVec_and]
  show (xlshr x (Int32.ofNat r)).toBitVec &&& 1#64 = 0#64 ↔ _
  rw [bv1]
  unfold xlshr btL
  rw [Int64.toBitVec_shiftRight, sh_amount r hr]
  have : (x.toBitVec.sshiftRight' (BitVec.ofNat 64 r)).getLsbD 0 = x.toBitVec.getLsbD r := by
    show (x.toBitVec.sshiftRight (BitVec.ofNat 64 r).toNat).getLsbD 0 = _
    rw [BitVec.getLsbD_sshiftRight, BitVec.toNat_ofNat, Nat.mod_eq_of_lt (by omega)]
    simp
    omega
  rw [this]
set_option maxHeartbeats 400000 in
theorem x_isPicked (x1 : Int32) (c_picked : Int64) (r : Nat) (h : x1.toInt = r) (hr : r < 40) : (f_X6_isPicked x1 c_picked) = some (if btL c_picked r = true then 1 else 0) := by
  unfold f_X6_isPicked
  by_cases z : btL c_picked r = true
  · rw [if_neg (fun q => by rw [(btL_shr c_picked x1 r h hr).mp q] at z; exact absurd z (by decide)), if_pos z]
  · rw [if_pos ((btL_shr c_picked x1 r h hr).mpr (by rw [← Bool.not_eq_true]; exact z)), if_neg z]
/-! an int's bits: keys -/
def kt (x : Int32) (k : Nat) : Bool := x.toBitVec.getLsbD k
set_option maxHeartbeats 400000 in
theorem kb1 (v : BitVec 32) : v &&& 1#32 = 0#32 ↔ v.getLsbD 0 = false := by
  constructor
  · intro h
    have := congrArg (fun w => BitVec.getLsbD w 0) h
    simp at this
    simpa using this
  · intro h
    apply BitVec.eq_of_getLsbD_eq
    intro i hi
    rw [BitVec.getLsbD_and]
    by_cases z : i = 0
    · subst z; rw [h]; rfl
    · have : (1#32).getLsbD i = false := by
        rw [BitVec.getLsbD_one]; simp [z]
      rw [this, Bool.and_false]; simp
set_option maxHeartbeats 400000 in
theorem kh_amount (r : Nat) (hr : r < 31) : (Int32.ofNat r &&& 31).toBitVec.smod 32 = BitVec.ofNat 32 r := by
  have : ∀ r, r < 31 → (Int32.ofNat r &&& 31).toBitVec.smod 32 = BitVec.ofNat 32 r := by decide +kernel
  exact this r hr
set_option maxHeartbeats 400000 in
theorem keyB_kt (keys : Int32) (k : Nat) (hk : k < 31) : keyB keys k = kt keys k := by
  unfold keyB
  have : ((xshr keys (Int32.ofNat k)) &&& 1 = 0) ↔ kt keys k = false := by
    rw [← Int32.toBitVec_inj, Int32.toBitVec_and]
    show (xshr keys (Int32.ofNat k)).toBitVec &&& 1#32 = 0#32 ↔ _
    rw [kb1]
    unfold xshr kt
    rw [Int32.toBitVec_shiftRight, kh_amount k hk]
    have : (keys.toBitVec.sshiftRight' (BitVec.ofNat 32 k)).getLsbD 0 = keys.toBitVec.getLsbD k := by
      show (keys.toBitVec.sshiftRight (BitVec.ofNat 32 k).toNat).getLsbD 0 = _
      rw [BitVec.getLsbD_sshiftRight, BitVec.toNat_ofNat, Nat.mod_eq_of_lt (by omega)]
      simp
      omega
    rw [this]
  cases z : kt keys k with
  | false => rw [decide_eq_false_iff_not]; exact fun q => q (this.mpr z)
  | true => rw [decide_eq_true_eq]; exact fun q => by rw [this.mp q] at z; cases z
set_option maxHeartbeats 400000 in
theorem kt_or (x : Int32) (i : Int32) (k j : Nat) (h : i.toInt = k) (hk : k < 24) (hj : j < 31) : kt (x ||| xshl 1 i) j = (kt x j || decide (j = k)) := by
  have e : i = Int32.ofNat k := Int32.toInt_inj.mp (by rw [h, Int32.toInt_ofNat_of_lt (by omega)])
  subst e
  have s : ∀ k, k < 24 → ∀ j, j < 31 → kt (xshl 1 (Int32.ofNat k)) j = decide (j = k) := by decide +kernel
  have := s k hk j hj
  unfold kt at this ⊢
  rw [Int32.toBitVec_or, BitVec.getLsbD_or, this]
set_option maxHeartbeats 400000 in
theorem kt_andn (x : Int32) (i : Int32) (k j : Nat) (h : i.toInt = k) (hk : k < 24) (hj : j < 31) : kt (x &&& (xshl 1 i ^^^ -1)) j = (kt x j && !decide (j = k)) := by
  have e : i = Int32.ofNat k := Int32.toInt_inj.mp (by rw [h, Int32.toInt_ofNat_of_lt (by omega)])
  subst e
  have s : ∀ k, k < 24 → ∀ j, j < 31 → kt (xshl 1 (Int32.ofNat k) ^^^ -1) j = !decide (j = k) := by decide +kernel
  have := s k hk j hj
  unfold kt at this ⊢
  rw [Int32.toBitVec_and, BitVec.getLsbD_and, this]
