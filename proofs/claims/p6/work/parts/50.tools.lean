/-! tools: a calculus of Option programs, Int32 as Int -/
def Ok {α : Type} (o : Option α) (Q : α → Prop) : Prop := ∃ r, o = some r ∧ Q r
theorem ok_some {α : Type} {a : α} {Q : α → Prop} (h : Q a) : Ok (some a) Q := ⟨a, rfl, h⟩
theorem ok_mono {α : Type} {o : Option α} {P Q : α → Prop} (h : Ok o P) (k : ∀ r, P r → Q r) : Ok o Q := by
  obtain ⟨r, h1, h2⟩ := h
  exact ⟨r, h1, k r h2⟩
theorem ok_bind {α β : Type} {o : Option α} {P : α → Prop} {f : α → Option β} {Q : β → Prop} (h : Ok o P) (k : ∀ r, P r → Ok (f r) Q) : Ok (o.bind f) Q := by
  obtain ⟨r, h1, h2⟩ := h
  obtain ⟨q, h3, h4⟩ := k r h2
  exact ⟨q, by rw [h1]; exact h3, h4⟩
theorem ok_vlet {α β : Type} {e : α} {k : α → Option β} {Q : β → Prop} (h : Ok (k e) Q) : Ok (vlet e k) Q := h
theorem ok_if {α : Type} {c : Prop} {_ : Decidable c} {a b : Option α} {Q : α → Prop} (h1 : c → Ok a Q) (h2 : ¬ c → Ok b Q) : Ok (if c then a else b) Q := by
  by_cases h : c
  · rw [if_pos h]; exact h1 h
  · rw [if_neg h]; exact h2 h
theorem tI_rng (a : Int32) : -2147483648 ≤ a.toInt ∧ a.toInt < 2147483648 := ⟨Int32.le_toInt a, Int32.toInt_lt a⟩
theorem tI_nat (a : Int32) : a.toNatClampNeg = a.toInt.toNat := rfl
theorem tI_lt (a b : Int32) : a < b ↔ a.toInt < b.toInt := Int32.lt_iff_toInt_lt
theorem tI_le (a b : Int32) : a ≤ b ↔ a.toInt ≤ b.toInt := Int32.le_iff_toInt_le
theorem tI_eq (a b : Int32) : a = b ↔ a.toInt = b.toInt := Int32.toInt_inj.symm
theorem tI_add (a b : Int32) : (a + b).toInt = (a.toInt + b.toInt + 2147483648) % 4294967296 - 2147483648 := by
  rw [Int32.toInt_add, Int.bmod_def]; omega
theorem tI_sub (a b : Int32) : (a - b).toInt = (a.toInt - b.toInt + 2147483648) % 4294967296 - 2147483648 := by
  rw [Int32.toInt_sub, Int.bmod_def]; omega
theorem tI_mul (a b : Int32) : (a * b).toInt = (a.toInt * b.toInt + 2147483648) % 4294967296 - 2147483648 := by
  rw [Int32.toInt_mul, Int.bmod_def]; generalize a.toInt * b.toInt = z; omega
theorem bad_f {i : Int32} {n : Nat} (h1 : 0 ≤ i.toInt) (h2 : i.toInt < n) : bad i n = false := by
  unfold bad
  have e : (0 : Int32).toInt = 0 := by decide
  have a : ¬ i < 0 := by rw [tI_lt, e]; omega
  have b : ¬ n ≤ i.toNatClampNeg := by rw [tI_nat]; omega
  simp only [a, b, decide_false, Bool.or_false]
theorem ok_bad {α : Type} {i : Int32} {n : Nat} {a : Option α} {Q : α → Prop} (h1 : 0 ≤ i.toInt ∧ i.toInt < n) (h : Ok a Q) : Ok (if bad i n = true then none else a) Q := by
  rw [bad_f h1.1 h1.2]; exact h
theorem upd_at (f : Nat → Int32) (k : Nat) (x : Int32) (j : Nat) : upd f k x j = if j = k then x else f j := rfl
theorem updL_at (f : Nat → Int64) (k : Nat) (x : Int64) (j : Nat) : vp_updL f k x j = if j = k then x else f j := rfl
theorem l_m8 : (-8 : Int32).toInt = -8 := by decide
theorem l_m2 : (-2 : Int32).toInt = -2 := by decide
theorem l_m1 : (-1 : Int32).toInt = -1 := by decide
theorem l_0 : (0 : Int32).toInt = 0 := by decide
theorem l_1 : (1 : Int32).toInt = 1 := by decide
theorem l_2 : (2 : Int32).toInt = 2 := by decide
theorem l_3 : (3 : Int32).toInt = 3 := by decide
theorem l_4 : (4 : Int32).toInt = 4 := by decide
theorem l_5 : (5 : Int32).toInt = 5 := by decide
theorem l_6 : (6 : Int32).toInt = 6 := by decide
theorem l_7 : (7 : Int32).toInt = 7 := by decide
theorem l_8 : (8 : Int32).toInt = 8 := by decide
theorem l_10 : (10 : Int32).toInt = 10 := by decide
theorem l_11 : (11 : Int32).toInt = 11 := by decide
theorem l_12 : (12 : Int32).toInt = 12 := by decide
theorem l_13 : (13 : Int32).toInt = 13 := by decide
theorem l_14 : (14 : Int32).toInt = 14 := by decide
theorem l_15 : (15 : Int32).toInt = 15 := by decide
theorem l_16 : (16 : Int32).toInt = 16 := by decide
theorem l_17 : (17 : Int32).toInt = 17 := by decide
theorem l_18 : (18 : Int32).toInt = 18 := by decide
theorem l_19 : (19 : Int32).toInt = 19 := by decide
theorem l_20 : (20 : Int32).toInt = 20 := by decide
theorem l_23 : (23 : Int32).toInt = 23 := by decide
theorem l_24 : (24 : Int32).toInt = 24 := by decide
theorem l_25 : (25 : Int32).toInt = 25 := by decide
theorem l_32 : (32 : Int32).toInt = 32 := by decide
theorem l_35 : (35 : Int32).toInt = 35 := by decide
theorem l_39 : (39 : Int32).toInt = 39 := by decide
theorem l_40 : (40 : Int32).toInt = 40 := by decide
theorem l_41 : (41 : Int32).toInt = 41 := by decide
theorem l_43 : (43 : Int32).toInt = 43 := by decide
theorem l_45 : (45 : Int32).toInt = 45 := by decide
theorem l_46 : (46 : Int32).toInt = 46 := by decide
theorem l_48 : (48 : Int32).toInt = 48 := by decide
theorem l_49 : (49 : Int32).toInt = 49 := by decide
theorem l_57 : (57 : Int32).toInt = 57 := by decide
theorem l_59 : (59 : Int32).toInt = 59 := by decide
theorem l_64 : (64 : Int32).toInt = 64 := by decide
theorem l_65 : (65 : Int32).toInt = 65 := by decide
theorem l_80 : (80 : Int32).toInt = 80 := by decide
theorem l_88 : (88 : Int32).toInt = 88 := by decide
theorem l_90 : (90 : Int32).toInt = 90 := by decide
theorem l_92 : (92 : Int32).toInt = 92 := by decide
theorem l_97 : (97 : Int32).toInt = 97 := by decide
theorem l_99 : (99 : Int32).toInt = 99 := by decide
theorem l_100 : (100 : Int32).toInt = 100 := by decide
theorem l_101 : (101 : Int32).toInt = 101 := by decide
theorem l_116 : (116 : Int32).toInt = 116 := by decide
theorem l_122 : (122 : Int32).toInt = 122 := by decide
theorem l_127 : (127 : Int32).toInt = 127 := by decide
theorem l_150 : (150 : Int32).toInt = 150 := by decide
theorem l_200 : (200 : Int32).toInt = 200 := by decide
theorem l_240 : (240 : Int32).toInt = 240 := by decide
theorem l_250 : (250 : Int32).toInt = 250 := by decide
theorem l_255 : (255 : Int32).toInt = 255 := by decide
theorem l_320 : (320 : Int32).toInt = 320 := by decide
theorem l_344 : (344 : Int32).toInt = 344 := by decide
theorem l_345 : (345 : Int32).toInt = 345 := by decide
theorem l_500 : (500 : Int32).toInt = 500 := by decide
theorem l_800 : (800 : Int32).toInt = 800 := by decide
theorem l_802 : (802 : Int32).toInt = 802 := by decide
theorem l_848 : (848 : Int32).toInt = 848 := by decide
theorem l_850 : (850 : Int32).toInt = 850 := by decide
theorem l_896 : (896 : Int32).toInt = 896 := by decide
theorem l_898 : (898 : Int32).toInt = 898 := by decide
theorem l_904 : (904 : Int32).toInt = 904 := by decide
theorem l_906 : (906 : Int32).toInt = 906 := by decide
theorem l_952 : (952 : Int32).toInt = 952 := by decide
theorem l_953 : (953 : Int32).toInt = 953 := by decide
theorem l_954 : (954 : Int32).toInt = 954 := by decide
theorem l_1198 : (1198 : Int32).toInt = 1198 := by decide
theorem l_1199 : (1199 : Int32).toInt = 1199 := by decide
theorem l_1200 : (1200 : Int32).toInt = 1200 := by decide
theorem l_1334 : (1334 : Int32).toInt = 1334 := by decide
theorem l_2000 : (2000 : Int32).toInt = 2000 := by decide
theorem l_3980 : (3980 : Int32).toInt = 3980 := by decide
theorem l_4000 : (4000 : Int32).toInt = 4000 := by decide
theorem l_4001 : (4001 : Int32).toInt = 4001 := by decide
theorem l_10000000 : (10000000 : Int32).toInt = 10000000 := by decide
theorem fe_0 : (cFE 0).toInt = 0 := by decide
theorem fe_1 : (cFE 1).toInt = 800 := by decide
theorem fe_2 : (cFE 2).toInt = 848 := by decide
theorem fe_3 : (cFE 3).toInt = 896 := by decide
theorem fe_4 : (cFE 4).toInt = 904 := by decide
theorem fe_5 : (cFE 5).toInt = 952 := by decide
theorem FU_eq : FU = 10000000 := rfl
theorem tI_div {x y : Int32} (hx : 0 ≤ x.toInt) (hy : 0 < y.toInt) : (x / y).toInt = x.toInt / y.toInt := by
  rw [Int32.toInt_div, Int.tdiv_eq_ediv_of_nonneg hx]
  have h1 : 0 ≤ x.toInt / y.toInt := Int.ediv_nonneg hx (by omega)
  have h2 : x.toInt / y.toInt ≤ x.toInt := Int.ediv_le_self _ hx
  have h3 := tI_rng x
  generalize x.toInt / y.toInt = z at h1 h2
  rw [Int.bmod_def]; omega
theorem tI_rem {x y : Int32} (hx : 0 ≤ x.toInt) (hy : 0 < y.toInt) : (xrem x y).toInt = x.toInt % y.toInt := by
  unfold xrem
  have e := tI_div hx hy
  have h1 := Int.emod_def x.toInt y.toInt
  have h2 := Int.emod_nonneg x.toInt (show y.toInt ≠ 0 by omega)
  have h3 := Int.emod_lt_of_pos x.toInt hy
  have h4 := tI_rng x
  have h5 : 0 ≤ x.toInt / y.toInt := Int.ediv_nonneg hx (by omega)
  have h6 : 0 ≤ y.toInt * (x.toInt / y.toInt) := Int.mul_nonneg (by omega) h5
  rw [tI_sub, tI_mul, e, Int.mul_comm (x.toInt / y.toInt) y.toInt]
  rw [h1] at h2 h3 ⊢
  generalize y.toInt * (x.toInt / y.toInt) = z at *
  omega
theorem tI_bm {z : Int} (h1 : -2147483648 ≤ z) (h2 : z < 2147483648) : (z + 2147483648) % 4294967296 - 2147483648 = z := by omega
