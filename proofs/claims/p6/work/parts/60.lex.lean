/-! tokens: a spec both keep to. A token: kind (0 end, 1 word, 2 number, 3 sign, 4 bad), value, size -/
def isDg (c : Int) : Bool := decide (48 ≤ c) && decide (c ≤ 57)
def isLt (c : Int) : Bool := (decide (97 ≤ c) && decide (c ≤ 122)) || (decide (65 ≤ c) && decide (c ≤ 90))
def isBl (c : Int) : Bool := decide (c = 32) || decide (c = 10)
def isSg (c : Int) : Bool := decide (c = 46) || decide (c = 59) || decide (c = 43) || decide (c = 45)
abbrev TkT : Type := Nat × Nat × Nat
abbrev LxS : Type := List TkT × Nat × Nat × Nat
def lbegin (rev : List TkT) (c : Int) : LxS := if isBl c = true then (rev, 0, 0, 0) else if isLt c = true then (rev, 1, c.toNat, 1) else if isDg c = true then (rev, 2, (c - 48).toNat, 1) else if isSg c = true then ((3, c.toNat, 1) :: rev, 0, 0, 0) else ((4, 0, 1) :: rev, 4, 0, 0)
def lstep (s : LxS) (c : Int) : LxS :=
  if s.2.1 = 4 then s
  else if s.2.1 = 0 then lbegin s.1 c
  else if (isDg c || (decide (s.2.1 = 1) && isLt c)) = true then
    (if (if s.2.1 = 1 then 8 else 4) ≤ s.2.2.2 then ((4, 0, s.2.2.2 + 1) :: s.1, 4, 0, 0)
     else (s.1, s.2.1, if s.2.1 = 1 then s.2.2.1 * 256 + c.toNat else s.2.2.1 * 10 + (c - 48).toNat, s.2.2.2 + 1))
  else lbegin ((s.2.1, s.2.2.1, s.2.2.2) :: s.1) c
def lfold (t : Nat → Int32) : Nat → LxS
  | 0 => ([], 0, 0, 0)
  | k + 1 => lstep (lfold t k) (t k).toInt
def lend (s : LxS) : List TkT := if s.2.1 = 4 then s.1 else if s.2.1 = 0 then (0, 0, 0) :: s.1 else (0, 0, 0) :: (s.2.1, s.2.2.1, s.2.2.2) :: s.1
set_option maxHeartbeats 400000 in
theorem isDg_t {c : Int} : isDg c = true ↔ 48 ≤ c ∧ c ≤ 57 := by unfold isDg; simp
set_option maxHeartbeats 400000 in
theorem isLt_t {c : Int} : isLt c = true ↔ (97 ≤ c ∧ c ≤ 122) ∨ (65 ≤ c ∧ c ≤ 90) := by unfold isLt; simp
set_option maxHeartbeats 400000 in
theorem isBl_t {c : Int} : isBl c = true ↔ c = 32 ∨ c = 10 := by unfold isBl; simp
set_option maxHeartbeats 400000 in
theorem isSg_t {c : Int} : isSg c = true ↔ c = 46 ∨ c = 59 ∨ c = 43 ∨ c = 45 := by unfold isSg; simp [or_assoc]
/-- what holds of every state of the fold -/
def LOK (s : LxS) (k : Nat) : Prop := s.1.length + (if s.2.1 = 0 ∨ s.2.1 = 4 then 0 else 1) ≤ k ∧ (s.2.1 = 0 ∨ (s.2.1 = 1 ∧ 1 ≤ s.2.2.2 ∧ s.2.2.2 ≤ 8 ∧ s.2.2.2 ≤ k ∧ s.2.2.1 < 128 ^ s.2.2.2 * 2 ^ s.2.2.2 ∧ s.2.2.1 < 2 ^ 63) ∨ (s.2.1 = 2 ∧ 1 ≤ s.2.2.2 ∧ s.2.2.2 ≤ 4 ∧ s.2.2.2 ≤ k ∧ s.2.2.1 < 10 ^ s.2.2.2) ∨ (s.2.1 = 4 ∧ ∃ q r, s.1 = (4, 0, q) :: r))
/-! longs -/
set_option maxHeartbeats 400000 in
theorem lgc (x y : Int64) : lg_cmp x y = 0 ↔ x = y := by
  unfold lg_cmp
  constructor
  · intro h
    split at h
    · exact absurd h (by decide)
    · split at h
      · assumption
      · exact absurd h (by decide)
  · intro h
    subst h
    rw [if_neg (fun q => by exact absurd (Int64.lt_iff_toInt_lt.mp q) (Int.lt_irrefl _)), if_pos rfl]
set_option maxHeartbeats 400000 in
theorem lgc_lt (x y : Int64) : lg_cmp x y < 0 ↔ x.toInt < y.toInt := by
  unfold lg_cmp
  by_cases h : x > y
  · rw [if_pos h]
    have := Int64.lt_iff_toInt_lt.mp h
    exact ⟨fun q => absurd q (by decide), fun q => by omega⟩
  · rw [if_neg h]
    have h2 : ¬ y.toInt < x.toInt := fun q => h (Int64.lt_iff_toInt_lt.mpr q)
    by_cases e : x = y
    · subst e
      rw [if_pos rfl]
      exact ⟨fun q => absurd q (by decide), fun q => by omega⟩
    · rw [if_neg e]
      have h3 : ¬ x.toInt = y.toInt := fun q => e (Int64.toInt_inj.mp q)
      exact ⟨fun _ => by omega, fun _ => by decide⟩
set_option maxHeartbeats 400000 in
theorem lgc_le (x y : Int64) : lg_cmp x y ≤ 0 ↔ x.toInt ≤ y.toInt := by
  unfold lg_cmp
  by_cases h : x > y
  · rw [if_pos h]
    have := Int64.lt_iff_toInt_lt.mp h
    exact ⟨fun q => absurd q (by decide), fun q => by omega⟩
  · rw [if_neg h]
    have h2 : ¬ y.toInt < x.toInt := fun q => h (Int64.lt_iff_toInt_lt.mpr q)
    by_cases e : x = y
    · subst e
      rw [if_pos rfl]
      exact ⟨fun _ => by omega, fun _ => by decide⟩
    · rw [if_neg e]
      exact ⟨fun _ => by omega, fun _ => by decide⟩
set_option maxHeartbeats 400000 in
theorem L_ofNat {a : Nat} (h : a < 2 ^ 63) : (Int64.ofNat a).toInt = a := Int64.toInt_ofNat_of_lt h
set_option maxHeartbeats 400000 in
theorem L_eq {a b : Nat} (ha : a < 2 ^ 63) (hb : b < 2 ^ 63) : Int64.ofNat a = Int64.ofNat b ↔ a = b := by
  constructor
  · intro h
    have := congrArg Int64.toInt h
    rw [L_ofNat ha, L_ofNat hb] at this
    omega
  · intro h; rw [h]
set_option maxHeartbeats 400000 in
theorem I_toL {x : Int32} (h : 0 ≤ x.toInt) : x.toInt64 = Int64.ofNat x.toInt.toNat := by
  apply Int64.toInt_inj.mp
  have := tI_rng x
  rw [Int32.toInt_toInt64, L_ofNat (by omega)]
  omega
set_option maxHeartbeats 400000 in
theorem L_word {a c : Nat} (h : a * 256 + c < 2 ^ 63) (hc : c < 256) : (xlshl (Int64.ofNat a) 8 ||| Int64.ofNat c) = Int64.ofNat (a * 256 + c) := by
  unfold xlshl
  have e : (8 : Int32).toInt64 &&& 63 = (8 : Int64) := by decide
  rw [e]
  apply Int64.toBitVec_inj.mp
  apply BitVec.eq_of_toNat_eq
  have e2 : (8 : Int64).toBitVec.smod 64 = 8#64 := by decide
  rw [Int64.toBitVec_or, Int64.toBitVec_shiftLeft, e2, BitVec.toNat_or, BitVec.shiftLeft_eq', BitVec.toNat_shiftLeft]
  simp only [Int64.toBitVec_ofNat', BitVec.toNat_ofNat]
  have f1 : a % 2 ^ 64 = a := Nat.mod_eq_of_lt (by omega)
  have f2 : c % 2 ^ 64 = c := Nat.mod_eq_of_lt (by omega)
  have f3 : (a * 256 + c) % 2 ^ 64 = a * 256 + c := Nat.mod_eq_of_lt (by omega)
  have f4 : (8 : Nat) % 2 ^ 64 = 8 := by decide
  have f5 : a <<< 8 % 2 ^ 64 = a <<< 8 := by
    have hz : a <<< 8 < 2 ^ 64 := by
      rw [Nat.shiftLeft_eq, show (2 : Nat) ^ 8 = 256 from rfl]
      have h9 : a * 256 < 2 ^ 63 := Nat.lt_of_le_of_lt (Nat.le_add_right _ c) h
      exact Nat.lt_trans h9 (by decide)
    generalize a <<< 8 = z at hz
    exact Nat.mod_eq_of_lt hz
  have := Nat.shiftLeft_add_eq_or_of_lt (b := c) (i := 8) (by omega) a
  rw [Nat.shiftLeft_eq] at this
  rw [f4, f1, f2, f3, f5, Nat.shiftLeft_eq, ← this]
