/-! the class's tokens -/
set_option maxHeartbeats 400000 in
theorem e_isDg (x : Int32) : f_X7_isDigit x = some (if isDg x.toInt = true then 1 else 0) := by
  unfold f_X7_isDigit
  by_cases h : isDg x.toInt = true
  · rw [if_pos h]
    rw [isDg_t] at h
    rw [if_neg (by ((try simp only [tI_lt, tI_le, tI_eq, tI_add, tI_sub, tI_mul, tI_nat, Int32.reduceToInt, Int.reduceToNat, fe_0, fe_1, fe_2, fe_3, fe_4, fe_5] at *) <;> (try simp (disch := omega) only [tI_bm]) <;> (first | omega | ((try simp (disch := omega) only [tI_bm] at *) <;> omega)))), if_neg (by ((try simp only [tI_lt, tI_le, tI_eq, tI_add, tI_sub, tI_mul, tI_nat, Int32.reduceToInt, Int.reduceToNat, fe_0, fe_1, fe_2, fe_3, fe_4, fe_5] at *) <;> (try simp (disch := omega) only [tI_bm]) <;> (first | omega | ((try simp (disch := omega) only [tI_bm] at *) <;> omega))))]
  · rw [if_neg h]
    rw [isDg_t] at h
    by_cases a : x < 48
    · rw [if_pos a]
    · rw [if_neg a, if_pos (by ((try simp only [tI_lt, tI_le, tI_eq, tI_add, tI_sub, tI_mul, tI_nat, Int32.reduceToInt, Int.reduceToNat, fe_0, fe_1, fe_2, fe_3, fe_4, fe_5] at *) <;> (try simp (disch := omega) only [tI_bm]) <;> (first | omega | ((try simp (disch := omega) only [tI_bm] at *) <;> omega))))]
set_option maxHeartbeats 400000 in
theorem e_isLt (x : Int32) : f_X7_isLetter x = some (if isLt x.toInt = true then 1 else 0) := by
  unfold f_X7_isLetter f_X7_isLetter_12 f_X7_isLetter_24
  by_cases h : isLt x.toInt = true
  · rw [if_pos h]
    rw [isLt_t] at h
    by_cases a : x < 97
    · rw [if_pos a, if_neg (by ((try simp only [tI_lt, tI_le, tI_eq, tI_add, tI_sub, tI_mul, tI_nat, Int32.reduceToInt, Int.reduceToNat, fe_0, fe_1, fe_2, fe_3, fe_4, fe_5] at *) <;> (try simp (disch := omega) only [tI_bm]) <;> (first | omega | ((try simp (disch := omega) only [tI_bm] at *) <;> omega)))), if_neg (by ((try simp only [tI_lt, tI_le, tI_eq, tI_add, tI_sub, tI_mul, tI_nat, Int32.reduceToInt, Int.reduceToNat, fe_0, fe_1, fe_2, fe_3, fe_4, fe_5] at *) <;> (try simp (disch := omega) only [tI_bm]) <;> (first | omega | ((try simp (disch := omega) only [tI_bm] at *) <;> omega))))]
    · rw [if_neg a, if_pos (by ((try simp only [tI_lt, tI_le, tI_eq, tI_add, tI_sub, tI_mul, tI_nat, Int32.reduceToInt, Int.reduceToNat, fe_0, fe_1, fe_2, fe_3, fe_4, fe_5] at *) <;> (try simp (disch := omega) only [tI_bm]) <;> (first | omega | ((try simp (disch := omega) only [tI_bm] at *) <;> omega))))]
  · rw [if_neg h]
    rw [isLt_t] at h
    have go : (if x < 65 then some (0 : Int32) else if 90 < x then some 0 else some 1) = some 0 := by
      by_cases a : x < 65
      · rw [if_pos a]
      · by_cases b : 90 < x
        · rw [if_neg a, if_pos b]
        · exfalso; ((try simp only [tI_lt, tI_le, tI_eq, tI_add, tI_sub, tI_mul, tI_nat, Int32.reduceToInt, Int.reduceToNat, fe_0, fe_1, fe_2, fe_3, fe_4, fe_5] at *) <;> (try simp (disch := omega) only [tI_bm]) <;> (first | omega | ((try simp (disch := omega) only [tI_bm] at *) <;> omega)))
    by_cases a : x < 97
    · rw [if_pos a, go]
    · rw [if_neg a, if_neg (by ((try simp only [tI_lt, tI_le, tI_eq, tI_add, tI_sub, tI_mul, tI_nat, Int32.reduceToInt, Int.reduceToNat, fe_0, fe_1, fe_2, fe_3, fe_4, fe_5] at *) <;> (try simp (disch := omega) only [tI_bm]) <;> (first | omega | ((try simp (disch := omega) only [tI_bm] at *) <;> omega)))), go]
set_option maxHeartbeats 400000 in
theorem e_isBl (x : Int32) : f_X7_isBlank x = some (if isBl x.toInt = true then 1 else 0) := by
  unfold f_X7_isBlank f_X7_isBlank_12
  by_cases h : isBl x.toInt = true
  · rw [if_pos h]
    rw [isBl_t] at h
    by_cases a : x = 32
    · rw [if_pos a]
    · rw [if_neg a, if_pos (by ((try simp only [tI_lt, tI_le, tI_eq, tI_add, tI_sub, tI_mul, tI_nat, Int32.reduceToInt, Int.reduceToNat, fe_0, fe_1, fe_2, fe_3, fe_4, fe_5] at *) <;> (try simp (disch := omega) only [tI_bm]) <;> (first | omega | ((try simp (disch := omega) only [tI_bm] at *) <;> omega))))]
  · rw [if_neg h]
    rw [isBl_t] at h
    rw [if_neg (by ((try simp only [tI_lt, tI_le, tI_eq, tI_add, tI_sub, tI_mul, tI_nat, Int32.reduceToInt, Int.reduceToNat, fe_0, fe_1, fe_2, fe_3, fe_4, fe_5] at *) <;> (try simp (disch := omega) only [tI_bm]) <;> (first | omega | ((try simp (disch := omega) only [tI_bm] at *) <;> omega)))), if_neg (by ((try simp only [tI_lt, tI_le, tI_eq, tI_add, tI_sub, tI_mul, tI_nat, Int32.reduceToInt, Int.reduceToNat, fe_0, fe_1, fe_2, fe_3, fe_4, fe_5] at *) <;> (try simp (disch := omega) only [tI_bm]) <;> (first | omega | ((try simp (disch := omega) only [tI_bm] at *) <;> omega))))]
set_option maxHeartbeats 400000 in
theorem e_put (x1 : Int32) (x2 : Int32) (x3 : Int64) (c_size : Int32) (c_kinds : Nat → Int32) (c_places : Nat → Int32) (c_values : Nat → Int64) (h : 0 ≤ c_size.toInt ∧ c_size.toInt < 4001) : (f_X7_put x1 x2 x3 c_size c_kinds c_places c_values) = some (c_size + 1, upd c_kinds c_size.toInt.toNat x1, upd c_places c_size.toInt.toNat x2, vp_updL c_values c_size.toInt.toNat x3) := by
  unfold f_X7_put
  rw [if_neg (by ((try simp only [tI_lt, tI_le, tI_eq, tI_add, tI_sub, tI_mul, tI_nat, Int32.reduceToInt, Int.reduceToNat, fe_0, fe_1, fe_2, fe_3, fe_4, fe_5] at *) <;> (try simp (disch := omega) only [tI_bm]) <;> (first | omega | ((try simp (disch := omega) only [tI_bm] at *) <;> omega)))), bad_f h.1 h.2, if_neg (by decide)]
  rfl
set_option maxHeartbeats 400000 in
theorem e_begin (x1 : Int32) (x2 : Int32) (c_size : Int32) (c_kinds : Nat → Int32) (c_places : Nat → Int32) (c_values : Nat → Int64) (h : 0 ≤ c_size.toInt ∧ c_size.toInt < 4001) : (f_X7_begin x1 x2 c_size c_kinds c_places c_values) = some (c_size + 1, upd c_kinds c_size.toInt.toNat (if isLt x2.toInt = true then 1 else if isDg x2.toInt = true then 2 else if isSg x2.toInt = true then x2 else 4), upd c_places c_size.toInt.toNat x1, vp_updL c_values c_size.toInt.toNat (if isLt x2.toInt = true then x2.toInt64 else if isDg x2.toInt = true then (x2 - 48).toInt64 else 0)) := by
  unfold f_X7_begin f_X7_begin_63 f_X7_begin_68 f_X7_begin_79
  rw [e_isLt, e_isDg]
  dsimp only [Option.bind]
  by_cases a : isLt x2.toInt = true
  · simp only [if_pos a]
    rw [if_neg (by decide), e_put _ _ _ _ _ _ _ h]
  · simp only [if_neg a]
    rw [if_pos trivial]
    by_cases b : isDg x2.toInt = true
    · simp only [if_pos b]
      rw [if_neg (by decide), e_put _ _ _ _ _ _ _ h]
    · simp only [if_neg b]
      rw [if_pos trivial]
      rw [e_put _ _ _ _ _ _ _ h, e_put _ _ _ _ _ _ _ h]
      by_cases c : isSg x2.toInt = true
      · simp only [if_pos c]
        rw [isSg_t] at c
        have c' : x2 = 46 ∨ x2 = 59 ∨ x2 = 43 ∨ x2 = 45 := by simp only [tI_eq, Int32.reduceToInt]; exact c
        rcases c' with e | e | e | e <;> subst e <;> rfl
      · simp only [if_neg c]
        rw [isSg_t] at c
        have c' : ¬ x2 = 46 ∧ ¬ x2 = 59 ∧ ¬ x2 = 43 ∧ ¬ x2 = 45 := by simp only [tI_eq, Int32.reduceToInt]; omega
        rw [if_neg c'.1, if_neg c'.2.1, if_neg c'.2.2.1, if_neg c'.2.2.2, if_pos trivial]
set_option maxHeartbeats 400000 in
theorem e_goesOn (x1 : Int32) (c_size : Int32) (c_kinds : Nat → Int32) (h : 0 ≤ c_size.toInt ∧ c_size.toInt ≤ 4001) : (f_X7_goesOn x1 c_size c_kinds) = some (if isDg x1.toInt = true ∨ (isLt x1.toInt = true ∧ 0 < c_size.toInt ∧ c_kinds (c_size.toInt - 1).toNat = 1) then 1 else 0) := by
  unfold f_X7_goesOn f_X7_goesOn_36
  rw [e_isLt, e_isDg]
  dsimp only [Option.bind]
  by_cases a : isDg x1.toInt = true
  · simp only [if_pos a]
    rw [if_neg (by decide), if_pos (.inl a)]
  · simp only [if_neg a]
    rw [if_pos trivial]
    by_cases b : isLt x1.toInt = true
    · simp only [if_pos b]
      rw [if_neg (by decide)]
      by_cases c : c_size ≤ 0
      · rw [if_pos c, if_neg (fun q => q.elim a (fun q => by have := q.2.1; ((try simp only [tI_lt, tI_le, tI_eq, tI_add, tI_sub, tI_mul, tI_nat, Int32.reduceToInt, Int.reduceToNat, fe_0, fe_1, fe_2, fe_3, fe_4, fe_5] at *) <;> (try simp (disch := omega) only [tI_bm]) <;> (first | omega | ((try simp (disch := omega) only [tI_bm] at *) <;> omega)))))]
      · rw [if_neg c]
        simp only [tI_lt, tI_le, tI_eq, tI_add, tI_sub, tI_mul, tI_nat, Int32.reduceToInt, Int.reduceToNat, fe_0, fe_1, fe_2, fe_3, fe_4, fe_5] at c
        have e : (c_size - 1).toInt = c_size.toInt - 1 := by ((try simp only [tI_lt, tI_le, tI_eq, tI_add, tI_sub, tI_mul, tI_nat, Int32.reduceToInt, Int.reduceToNat, fe_0, fe_1, fe_2, fe_3, fe_4, fe_5]) <;> (try simp (disch := omega) only [tI_bm]) <;> omega)
        rw [bad_f (by omega) (by omega), if_neg (by decide), tI_nat, e]
        by_cases d : c_kinds (c_size.toInt - 1).toNat = 1
        · rw [if_pos d, if_pos (.inr ⟨b, by omega, d⟩)]
        · rw [if_neg d, if_neg (fun q => q.elim a (fun q => d q.2.2))]
    · simp only [if_neg b]
      rw [if_pos trivial, if_neg (fun q => q.elim a (fun q => b q.1))]
set_option maxHeartbeats 400000 in
theorem e_extend (x1 : Int32) (x2 : Int32) (c_size : Int32) (c_kinds : Nat → Int32) (c_places : Nat → Int32) (c_values : Nat → Int64) (h : 1 ≤ c_size.toInt ∧ c_size.toInt ≤ 4001) : (f_X7_extend x1 x2 c_size c_kinds c_places c_values) = some ((if (if c_kinds (c_size.toInt - 1).toNat = 1 then (8 : Int32) else 4) ≤ x1 - c_places (c_size.toInt - 1).toNat then upd c_kinds (c_size.toInt - 1).toNat 4 else c_kinds), vp_updL c_values (c_size.toInt - 1).toNat (if c_kinds (c_size.toInt - 1).toNat = 1 then xlshl (c_values (c_size.toInt - 1).toNat) 8 ||| x2.toInt64 else c_values (c_size.toInt - 1).toNat * 10 + x2.toInt64 - 48)) := by
  unfold f_X7_extend
  have e : (c_size - 1).toInt = c_size.toInt - 1 := by ((try simp only [tI_lt, tI_le, tI_eq, tI_add, tI_sub, tI_mul, tI_nat, Int32.reduceToInt, Int.reduceToNat, fe_0, fe_1, fe_2, fe_3, fe_4, fe_5]) <;> (try simp (disch := omega) only [tI_bm]) <;> omega)
  have hb : bad (c_size - 1) 4001 = false := bad_f (by omega) (by omega)
  dsimp only [vlet]
  rw [if_pos (show (0 : Int32) ≤ c_size - 1 by rw [tI_le, e]; simp only [Int32.reduceToInt]; omega), hb, if_neg (by decide), tI_nat, e]
  unfold f_X7_extend_27 f_X7_extend_48 f_X7_extend_58
  dsimp only [vlet]
  simp only [hb, tI_nat, e]
  by_cases c : c_kinds (c_size.toInt - 1).toNat = 1
  · simp only [if_pos c]
    rw [if_neg (by decide), if_neg (by decide)]
    by_cases d : (8 : Int32) ≤ x1 - c_places (c_size.toInt - 1).toNat
    · rw [if_pos d, if_neg (by ((try simp only [tI_lt, tI_le, tI_eq, tI_add, tI_sub, tI_mul, tI_nat, Int32.reduceToInt, Int.reduceToNat, fe_0, fe_1, fe_2, fe_3, fe_4, fe_5] at *) <;> (try simp (disch := omega) only [tI_bm]) <;> (first | omega | ((try simp (disch := omega) only [tI_bm] at *) <;> omega)))), if_neg (by decide), if_neg (by decide), if_neg (by decide), if_neg (by decide)]
    · rw [if_neg d, if_pos (by ((try simp only [tI_lt, tI_le, tI_eq, tI_add, tI_sub, tI_mul, tI_nat, Int32.reduceToInt, Int.reduceToNat, fe_0, fe_1, fe_2, fe_3, fe_4, fe_5] at *) <;> (try simp (disch := omega) only [tI_bm]) <;> (first | omega | ((try simp (disch := omega) only [tI_bm] at *) <;> omega)))), if_neg (by decide), if_neg (by decide), if_neg (by decide)]
  · simp only [if_neg c, Bool.false_eq_true, if_false, if_true]
    by_cases d : (4 : Int32) ≤ x1 - c_places (c_size.toInt - 1).toNat
    · rw [if_pos d, if_neg (by ((try simp only [tI_lt, tI_le, tI_eq, tI_add, tI_sub, tI_mul, tI_nat, Int32.reduceToInt, Int.reduceToNat, fe_0, fe_1, fe_2, fe_3, fe_4, fe_5] at *) <;> (try simp (disch := omega) only [tI_bm]) <;> (first | omega | ((try simp (disch := omega) only [tI_bm] at *) <;> omega))))]
    · rw [if_neg d, if_pos (by ((try simp only [tI_lt, tI_le, tI_eq, tI_add, tI_sub, tI_mul, tI_nat, Int32.reduceToInt, Int.reduceToNat, fe_0, fe_1, fe_2, fe_3, fe_4, fe_5] at *) <;> (try simp (disch := omega) only [tI_bm]) <;> (first | omega | ((try simp (disch := omega) only [tI_bm] at *) <;> omega))))]
/-! the fold and the arrays -/
def XT (g : Nat → Nat) (kd : Nat → Int32) (vl : Nat → Int64) : List TkT → Prop
  | [] => True
  | t :: r => ((t.1 = 1 ∧ (kd r.length).toInt = g t.2.1 ∧ vl r.length = Int64.ofNat t.2.1) ∨ (t.1 = 2 ∧ kd r.length = 2 ∧ vl r.length = Int64.ofNat t.2.1) ∨ (t.1 = 3 ∧ (kd r.length).toInt = t.2.1 ∧ isSg t.2.1 = true) ∨ (t.1 = 4 ∧ kd r.length = 4) ∨ (t.1 = 0 ∧ kd r.length = 3)) ∧ XT g kd vl r
set_option maxHeartbeats 400000 in
theorem XT_cg (g : Nat → Nat) (kd kd2 : Nat → Int32) (vl vl2 : Nat → Int64) : ∀ (r : List TkT), (∀ i, i < r.length → kd2 i = kd i ∧ vl2 i = vl i) → XT g kd vl r → XT g kd2 vl2 r
  | [], _, _ => trivial
  | t :: r, h, hx => by
    obtain ⟨h1, h2⟩ := hx
    have e := h r.length (by simp)
    refine ⟨?_, XT_cg g kd kd2 vl vl2 r (fun i hi => h i (by simp; omega)) h2⟩
    rw [e.1, e.2]
    exact h1
def PA (places : Nat → Int32) : Prop := ∀ i : Nat, i < 4001 → 0 ≤ (places i).toInt
set_option maxHeartbeats 400000 in
theorem PA_up {p : Nat → Int32} (h : PA p) (i : Nat) (x : Int32) (hx : 0 ≤ x.toInt) : PA (upd p i x) := by
  intro j hj
  rw [upd_at]
  split
  · exact hx
  · exact h j hj
def XL (s : LxS) (k : Nat) (op size : Int32) (kd pl : Nat → Int32) (vl : Nat → Int64) : Prop :=
  0 ≤ size.toInt ∧ size.toInt ≤ k ∧
  (s.2.1 = 4 → ∃ q r, s.1 = (4, 0, q) :: r ∧ kd r.length = 4 ∧ XT (fun _ => 1) kd vl r ∧ (r.length : Int) < size.toInt) ∧
  (s.2.1 = 0 → XT (fun _ => 1) kd vl s.1 ∧ size.toInt = s.1.length ∧ op = 0) ∧
  (s.2.1 = 1 ∨ s.2.1 = 2 → XT (fun _ => 1) kd vl s.1 ∧ size.toInt = s.1.length + 1 ∧ op = 1 ∧ (kd s.1.length).toInt = s.2.1 ∧ vl s.1.length = Int64.ofNat s.2.2.1 ∧ (pl s.1.length).toInt = k - s.2.2.2 ∧ s.2.2.2 ≤ k ∧ 1 ≤ s.2.2.2 ∧ (s.2.1 = 1 ∧ s.2.2.2 ≤ 8 ∧ 2 * s.2.2.1 < 256 ^ s.2.2.2 ∨ s.2.1 = 2 ∧ s.2.2.2 ≤ 4 ∧ s.2.2.1 < 10 ^ s.2.2.2)) ∧
  ((s.2.1 = 0 ∨ s.2.1 = 1 ∨ s.2.1 = 2 ∨ s.2.1 = 4) ∧ PA pl)
set_option maxHeartbeats 400000 in
theorem e_58 (k9 : Int32 → Int32 → Int32 → (Nat → Int32) → (Nat → Int32) → (Nat → Int64) → Option (Int32 × (Nat → Int32) × (Nat → Int32) × (Nat → Int64))) (c_length : Int32) (c_text : Nat → Int32) (x2 : Int32) (x3 : Int32) (c_size : Int32) (c_kinds : Nat → Int32) (c_places : Nat → Int32) (c_values : Nat → Int64) : (f_X7_split_58 k9 c_length c_text x2 x3 c_size c_kinds c_places c_values) = k9 (if isLt x3.toInt = true ∨ isDg x3.toInt = true then 1 else 0) (x2 + 1) c_size c_kinds c_places c_values := by
  unfold f_X7_split_58 f_X7_split_72 f_X7_split_77
  rw [e_isLt, e_isDg]
  dsimp only [Option.bind, vlet]
  by_cases a : isLt x3.toInt = true
  · rw [if_pos a, if_neg (by decide), if_pos (.inl a)]
  · rw [if_neg a, if_pos rfl]
    by_cases b : isDg x3.toInt = true
    · rw [if_pos b, if_neg (by decide), if_pos (.inr b)]
    · rw [if_neg b, if_pos rfl, if_neg (fun q => q.elim a b)]
set_option maxHeartbeats 400000 in
theorem lt_pos {c : Int} (h : isLt c = true) : 0 ≤ c ∧ c < 128 := by rw [isLt_t] at h; omega
set_option maxHeartbeats 400000 in
theorem dg_pos {c : Int} (h : isDg c = true) : 0 ≤ c - 48 ∧ c - 48 < 10 := by rw [isDg_t] at h; omega
set_option maxHeartbeats 400000 in
theorem x_beg (k9 : Int32 → Int32 → Int32 → (Nat → Int32) → (Nat → Int32) → (Nat → Int64) → Option (Int32 × (Nat → Int32) × (Nat → Int32) × (Nat → Int64))) (c_length : Int32) (c_text : Nat → Int32) (x2 : Int32) (x3 : Int32) (c_size : Int32) (c_kinds : Nat → Int32) (c_places : Nat → Int32) (c_values : Nat → Int64) {Q} (rev : List TkT) (k : Nat) (hx : XT (fun _ => 1) c_kinds c_values rev) (hs : c_size.toInt = rev.length) (hk0 : x2.toInt = k) (hl : rev.length ≤ k) (hk4 : k < 4000) (hpa : PA c_places) (hk : ∀ op size kd pl vl, XL (lbegin rev x3.toInt) (k + 1) op size kd pl vl → Ok (k9 op (x2 + 1) size kd pl vl) Q) : Ok (f_X7_split_45 k9 c_length c_text x2 x3 c_size c_kinds c_places c_values) Q := by
  unfold f_X7_split_45
  refine ok_eq (e_isBl x3) ?_
  have hb : 0 ≤ c_size.toInt ∧ c_size.toInt < 4001 := by omega
  have es : (c_size + 1).toInt = c_size.toInt + 1 := by ((try simp only [tI_lt, tI_le, tI_eq, tI_add, tI_sub, tI_mul, tI_nat, Int32.reduceToInt, Int.reduceToNat, fe_0, fe_1, fe_2, fe_3, fe_4, fe_5]) <;> (try simp (disch := omega) only [tI_bm]) <;> omega)
  have en : c_size.toInt.toNat = rev.length := by omega
  have hpu : PA (upd c_places rev.length x2) := PA_up hpa _ _ (by omega)
  by_cases bl : isBl x3.toInt = true
  · rw [if_pos bl, if_neg (by decide), e_58]
    have n1 : ¬ isLt x3.toInt = true := by rw [isLt_t]; rw [isBl_t] at bl; omega
    have n2 : ¬ isDg x3.toInt = true := by rw [isDg_t]; rw [isBl_t] at bl; omega
    rw [if_neg (fun q => q.elim n1 n2)]
    refine hk _ _ _ _ _ ?_
    unfold lbegin
    rw [if_pos bl]
    exact ⟨by omega, by omega, fun q => absurd q (show ¬ (0 : Nat) = 4 by decide), fun _ => ⟨hx, hs, rfl⟩, fun q => q.elim (fun q => absurd q (show ¬ (0 : Nat) = 1 by decide)) (fun q => absurd q (show ¬ (0 : Nat) = 2 by decide)), ⟨.inl rfl, hpa⟩⟩
  · rw [if_neg bl, if_pos rfl]
    refine ok_eq (e_begin _ _ _ _ _ _ hb) ?_
    dsimp only
    rw [e_58, en]
    refine hk _ _ _ _ _ ?_
    unfold lbegin
    rw [if_neg bl]
    by_cases a : isLt x3.toInt = true
    · have ap := lt_pos a
      simp only [if_pos a]
      rw [if_pos (.inl a)]
      refine ⟨by omega, by omega, fun q => absurd q (by show ¬ (1 : Nat) = 4; decide), fun q => absurd q (by show ¬ (1 : Nat) = 0; decide), fun _ => ⟨?_, ?_, rfl, ?_, ?_, ?_, by show (1 : Nat) ≤ k + 1; omega, Nat.le_refl _, .inl ⟨rfl, by show (1 : Nat) ≤ 8; omega, ?_⟩⟩, ⟨.inr (.inl rfl), hpu⟩⟩
      · exact XT_cg _ _ _ _ _ rev (fun i hi => ⟨by rw [upd_at, if_neg (by omega)], by rw [updL_at, if_neg (by omega)]⟩) hx
      · show _ = ((rev.length : Nat) : Int) + 1
        omega
      · show (upd c_kinds rev.length 1 rev.length).toInt = ((1 : Nat) : Int)
        rw [upd_at, if_pos rfl]; decide
      · show vp_updL c_values rev.length x3.toInt64 rev.length = _
        rw [updL_at, if_pos rfl]
        exact I_toL ap.1
      · show (upd c_places rev.length x2 rev.length).toInt = ((k + 1 : Nat) : Int) - (1 : Nat)
        rw [upd_at, if_pos rfl]; omega
      · show 2 * x3.toInt.toNat < 256 ^ 1
        omega
    · simp only [if_neg a]
      by_cases b : isDg x3.toInt = true
      · have ap := dg_pos b
        have e48 : (x3 - 48).toInt = x3.toInt - 48 := by have := tI_rng x3; ((try simp only [tI_lt, tI_le, tI_eq, tI_add, tI_sub, tI_mul, tI_nat, Int32.reduceToInt, Int.reduceToNat, fe_0, fe_1, fe_2, fe_3, fe_4, fe_5]) <;> (try simp (disch := omega) only [tI_bm]) <;> omega)
        simp only [if_pos b]
        rw [if_pos (.inr b)]
        refine ⟨by omega, by omega, fun q => absurd q (by show ¬ (2 : Nat) = 4; decide), fun q => absurd q (by show ¬ (2 : Nat) = 0; decide), fun _ => ⟨?_, ?_, rfl, ?_, ?_, ?_, by show (1 : Nat) ≤ k + 1; omega, Nat.le_refl _, .inr ⟨rfl, by show (1 : Nat) ≤ 4; omega, ?_⟩⟩, ⟨.inr (.inr (.inl rfl)), hpu⟩⟩
        · exact XT_cg _ _ _ _ _ rev (fun i hi => ⟨by rw [upd_at, if_neg (by omega)], by rw [updL_at, if_neg (by omega)]⟩) hx
        · show _ = ((rev.length : Nat) : Int) + 1
          omega
        · show (upd c_kinds rev.length 2 rev.length).toInt = ((2 : Nat) : Int)
          rw [upd_at, if_pos rfl]; decide
        · show vp_updL c_values rev.length (x3 - 48).toInt64 rev.length = _
          rw [updL_at, if_pos rfl, I_toL (by omega), e48]
        · show (upd c_places rev.length x2 rev.length).toInt = ((k + 1 : Nat) : Int) - (1 : Nat)
          rw [upd_at, if_pos rfl]; omega
        · show (x3.toInt - 48).toNat < 10 ^ 1
          omega
      · simp only [if_neg b]
        rw [if_neg (show ¬ (isLt x3.toInt = true ∨ isDg x3.toInt = true) from fun q => q.elim a b)]
        by_cases g : isSg x3.toInt = true
        · simp only [if_pos g]
          refine ⟨by omega, by omega, fun q => absurd q (by show ¬ (0 : Nat) = 4; decide), fun _ => ⟨⟨?_, ?_⟩, ?_, rfl⟩, fun q => q.elim (fun q => absurd q (show ¬ (0 : Nat) = 1 by decide)) (fun q => absurd q (show ¬ (0 : Nat) = 2 by decide)), ⟨.inl rfl, hpu⟩⟩
          · refine .inr (.inr (.inl ⟨rfl, ?_, ?_⟩))
            · show (upd c_kinds rev.length x3 rev.length).toInt = ((x3.toInt.toNat : Nat) : Int)
              rw [upd_at, if_pos rfl]
              rw [isSg_t] at g
              omega
            · show isSg ((x3.toInt.toNat : Nat) : Int) = true
              have : ((x3.toInt.toNat : Nat) : Int) = x3.toInt := by rw [isSg_t] at g; omega
              rw [this]; exact g
          · exact XT_cg _ _ _ _ _ rev (fun i hi => ⟨by rw [upd_at, if_neg (by omega)], by rw [updL_at, if_neg (by omega)]⟩) hx
          · show _ = (((3, x3.toInt.toNat, 1) :: rev : List TkT).length : Int)
            rw [List.length_cons]; omega
        · simp only [if_neg g]
          refine ⟨by omega, by omega, fun _ => ⟨1, rev, rfl, ?_, ?_, by omega⟩, fun q => absurd q (by show ¬ (4 : Nat) = 0; decide), fun q => q.elim (fun q => absurd q (show ¬ (4 : Nat) = 1 by decide)) (fun q => absurd q (show ¬ (4 : Nat) = 2 by decide)), ⟨.inr (.inr (.inr rfl)), hpu⟩⟩
          · rw [upd_at, if_pos rfl]
          · exact XT_cg _ _ _ _ _ rev (fun i hi => ⟨by rw [upd_at, if_neg (by omega)], by rw [updL_at, if_neg (by omega)]⟩) hx
set_option maxHeartbeats 400000 in
theorem Li_ofNat {a : Nat} (h : a < 2 ^ 63) : (Int64.ofNat a).toInt = a := Int64.toInt_ofNat_of_lt h
set_option maxHeartbeats 400000 in
theorem L_num {a : Nat} {x : Int32} (h : a < 10000) (h1 : 48 ≤ x.toInt) (h2 : x.toInt ≤ 57) : Int64.ofNat a * 10 + x.toInt64 - 48 = Int64.ofNat (a * 10 + (x.toInt - 48).toNat) := by
  apply Int64.toInt_inj.mp
  have e1 : (Int64.ofNat a * 10).toInt = a * 10 := by
    rw [Int64.toInt_mul, Li_ofNat (by omega), show (10 : Int64).toInt = 10 from by decide, Int.bmod_def]
    omega
  have e2 : (Int64.ofNat a * 10 + x.toInt64).toInt = a * 10 + x.toInt := by
    rw [Int64.toInt_add, e1, Int32.toInt_toInt64, Int.bmod_def]
    omega
  rw [Int64.toInt_sub, e2, Li_ofNat (by omega), show (48 : Int64).toInt = 48 from by decide, Int.bmod_def]
  omega
set_option maxHeartbeats 400000 in
theorem XT_ne (kd kd2 : Nat → Int32) (vl vl2 : Nat → Int64) (r : List TkT) (j : Nat) (hj : r.length ≤ j) (x : Int32) (y : Int64) (h1 : kd2 = kd ∨ kd2 = upd kd j x) (h2 : vl2 = vl ∨ vl2 = vp_updL vl j y) (h : XT (fun _ => 1) kd vl r) : XT (fun _ => 1) kd2 vl2 r := by
  refine XT_cg _ _ _ _ _ r (fun i hi => ⟨?_, ?_⟩) h
  · rcases h1 with e | e <;> rw [e]
    rw [upd_at, if_neg (by omega)]
  · rcases h2 with e | e <;> rw [e]
    rw [updL_at, if_neg (by omega)]
/-! a bad state stays so whatever comes -/
set_option maxHeartbeats 400000 in
theorem x_bad45 (k9 : Int32 → Int32 → Int32 → (Nat → Int32) → (Nat → Int32) → (Nat → Int64) → Option (Int32 × (Nat → Int32) × (Nat → Int32) × (Nat → Int64))) (c_length : Int32) (c_text : Nat → Int32) (x2 : Int32) (x3 : Int32) (c_size : Int32) (c_kinds : Nat → Int32) (c_places : Nat → Int32) (c_values : Nat → Int64) {Q} (s : LxS) (k : Nat) (h4 : s.2.1 = 4) (op : Int32) (hX : XL s k op c_size c_kinds c_places c_values) (hk4 : k < 4000) (hx2 : 0 ≤ x2.toInt) (hk : ∀ op size kd pl vl, XL s (k + 1) op size kd pl vl → Ok (k9 op (x2 + 1) size kd pl vl) Q) : Ok (f_X7_split_45 k9 c_length c_text x2 x3 c_size c_kinds c_places c_values) Q := by
  unfold f_X7_split_45
  obtain ⟨s1, s2, s3, -, -, -, hpa⟩ := hX
  obtain ⟨q, r, e1, e2, e3, e4⟩ := s3 h4
  have fin : ∀ (op size : Int32) (kd pl : Nat → Int32) (vl : Nat → Int64), 0 ≤ size.toInt → size.toInt ≤ (k : Int) + 1 → kd r.length = 4 → XT (fun _ => 1) kd vl r → (r.length : Int) < size.toInt → PA pl → Ok (k9 op (x2 + 1) size kd pl vl) Q := fun op size kd pl vl a1 a2 a3 a4 a5 a6 => hk op size kd pl vl ⟨a1, by omega, fun _ => ⟨q, r, e1, a3, a4, a5⟩, fun z => by omega, fun z => by omega, ⟨.inr (.inr (.inr h4)), a6⟩⟩
  have hb : 0 ≤ c_size.toInt ∧ c_size.toInt < 4001 := by omega
  have es : (c_size + 1).toInt = c_size.toInt + 1 := by ((try simp only [tI_lt, tI_le, tI_eq, tI_add, tI_sub, tI_mul, tI_nat, Int32.reduceToInt, Int.reduceToNat, fe_0, fe_1, fe_2, fe_3, fe_4, fe_5]) <;> (try simp (disch := omega) only [tI_bm]) <;> omega)
  refine ok_eq (e_isBl x3) (ok_if (fun _ => ?_) (fun _ => ?_))
  · refine ok_eq (e_begin _ _ _ _ _ _ hb) ?_
    dsimp only
    rw [e_58]
    refine fin _ _ _ _ _ (by omega) (by omega) ?_ (XT_ne _ _ _ _ r c_size.toInt.toNat (by omega) _ _ (.inr rfl) (.inr rfl) e3) (by omega) (PA_up hpa _ _ (by omega))
    rw [upd_at, if_neg (by omega)]
    exact e2
  · rw [e_58]
    exact fin _ _ _ _ _ (by omega) (by omega) e2 e3 (by omega) hpa
set_option maxHeartbeats 400000 in
theorem pow_le8 {n : Nat} (h : n ≤ 8) : 256 ^ n ≤ 18446744073709551616 := Nat.pow_le_pow_right (by decide) h
set_option maxHeartbeats 400000 in
theorem pow_le4 {n : Nat} (h : n ≤ 4) : 10 ^ n ≤ 10000 := Nat.pow_le_pow_right (by decide) h
set_option maxHeartbeats 400000 in
theorem x_step {Q} (k9 : Int32 → Int32 → Int32 → (Nat → Int32) → (Nat → Int32) → (Nat → Int64) → Option (Int32 × (Nat → Int32) × (Nat → Int32) × (Nat → Int64))) (c_length : Int32) (c_text : Nat → Int32) (x2 : Int32) (c_size : Int32) (c_kinds : Nat → Int32) (c_places : Nat → Int32) (c_values : Nat → Int64) (op x3 : Int32) (s : LxS) (k : Nat) (hX : XL s k op c_size c_kinds c_places c_values) (hk0 : x2.toInt = k) (hk4 : k < 4000) (hk : ∀ op size kd pl vl, XL (lstep s x3.toInt) (k + 1) op size kd pl vl → Ok (k9 op (x2 + 1) size kd pl vl) Q) : Ok (if op = 0 then (f_X7_split_45 k9 c_length c_text x2 x3 c_size c_kinds c_places c_values) else ((f_X7_goesOn x3 c_size c_kinds)).bind fun r4 => if r4 = 0 then (f_X7_split_45 k9 c_length c_text x2 x3 c_size c_kinds c_places c_values) else ((f_X7_extend x2 x3 c_size c_kinds c_places c_values)).bind fun r5 => (f_X7_split_58 k9 c_length c_text x2 x3 c_size r5.1 c_places r5.2)) Q := by
  have hX' := hX
  obtain ⟨s1, s2, s3, s4, s5, s6, hpa⟩ := hX'
  have hb : 0 ≤ c_size.toInt ∧ c_size.toInt ≤ 4001 := by omega
  rcases s6 with m | m | m | m
  · -- nothing open
    obtain ⟨q1, q2, q3⟩ := s4 m
    rw [if_pos q3]
    refine x_beg _ _ _ _ _ _ _ _ _ s.1 k q1 q2 hk0 (by omega) hk4 hpa ?_
    have e : lstep s x3.toInt = lbegin s.1 x3.toInt := by
      unfold lstep
      rw [if_neg (by omega), if_pos m]
    rw [e] at hk
    exact hk
  · obtain ⟨q1, q2, q3, q4, q5, q6, q7, q8, q9⟩ := s5 (.inl m)
    have q9' : s.2.2.2 ≤ 8 ∧ 2 * s.2.2.1 < 256 ^ s.2.2.2 := q9.elim (fun q => q.2) (fun q => by omega)
    have pw := pow_le8 q9'.1
    have en : (c_size.toInt - 1).toNat = s.1.length := by omega
    have k1 : c_kinds s.1.length = 1 := Int32.toInt_inj.mp (by rw [q4, m]; decide)
    rw [if_neg (by rw [q3]; decide)]
    refine ok_eq (e_goesOn _ _ _ hb) ?_
    rw [en]
    by_cases g : isDg x3.toInt = true ∨ isLt x3.toInt = true
    · have gc : isDg x3.toInt = true ∨ (isLt x3.toInt = true ∧ 0 < c_size.toInt ∧ c_kinds s.1.length = 1) := g.elim .inl (fun g => .inr ⟨g, by omega, k1⟩)
      rw [if_pos gc, if_neg (by decide)]
      refine ok_eq (e_extend _ _ _ _ _ _ (by omega)) ?_
      rw [en, if_pos k1, if_pos k1]
      dsimp only
      rw [e_58]
      have cp : 0 ≤ x3.toInt ∧ x3.toInt < 128 := g.elim (fun g => by rw [isDg_t] at g; omega) lt_pos
      have ep : (x2 - c_places s.1.length).toInt = s.2.2.2 := by ((try simp only [tI_lt, tI_le, tI_eq, tI_add, tI_sub, tI_mul, tI_nat, Int32.reduceToInt, Int.reduceToNat, fe_0, fe_1, fe_2, fe_3, fe_4, fe_5]) <;> (try simp (disch := omega) only [tI_bm]) <;> omega)
      have ec : lstep s x3.toInt = if 8 ≤ s.2.2.2 then ((4, 0, s.2.2.2 + 1) :: s.1, 4, 0, 0) else (s.1, s.2.1, s.2.2.1 * 256 + x3.toInt.toNat, s.2.2.2 + 1) := by
        unfold lstep
        rw [if_neg (by omega), if_neg (by omega), if_pos (by simp only [m, decide_true, Bool.true_and, Bool.or_eq_true]; exact g), if_pos m, if_pos m]
      rw [if_pos (g.symm)]
      rw [ec] at hk
      by_cases b : 8 ≤ s.2.2.2
      · rw [if_pos b] at hk
        rw [if_pos (show (8 : Int32) ≤ x2 - c_places s.1.length by rw [tI_le, ep, show (8 : Int32).toInt = 8 from by decide]; omega)]
        refine hk _ _ _ _ _ ⟨by omega, by omega, fun _ => ⟨_, _, rfl, by rw [upd_at, if_pos rfl], XT_ne _ _ _ _ s.1 s.1.length (Nat.le_refl _) _ _ (.inr rfl) (.inr rfl) q1, by omega⟩, fun q => absurd q (show ¬ (4 : Nat) = 0 by decide), fun q => q.elim (fun q => absurd q (show ¬ (4 : Nat) = 1 by decide)) (fun q => absurd q (show ¬ (4 : Nat) = 2 by decide)), ⟨.inr (.inr (.inr rfl)), hpa⟩⟩
      · rw [if_neg b] at hk
        rw [if_neg (show ¬ (8 : Int32) ≤ x2 - c_places s.1.length by rw [tI_le, ep, show (8 : Int32).toInt = 8 from by decide]; omega)]
        have hv : 2 * (s.2.2.1 * 256 + x3.toInt.toNat) < 256 ^ (s.2.2.2 + 1) := by
          rw [Nat.pow_succ]
          generalize 256 ^ s.2.2.2 = P at q9' pw
          omega
        have hv2 := pow_le8 (show s.2.2.2 + 1 ≤ 8 by omega)
        have hv3 : s.2.2.1 * 256 + x3.toInt.toNat < 2 ^ 63 := by
          generalize 256 ^ (s.2.2.2 + 1) = P at hv hv2
          omega
        refine hk _ _ _ _ _ ⟨by omega, by omega, fun q => absurd (show s.2.1 = 4 from q) (by omega), fun q => absurd (show s.2.1 = 0 from q) (by omega), fun _ => ⟨XT_ne _ _ _ _ s.1 s.1.length (Nat.le_refl _) 0 _ (.inl rfl) (.inr rfl) q1, q2, rfl, q4, ?_, ?_, by show s.2.2.2 + 1 ≤ k + 1; omega, by show 1 ≤ s.2.2.2 + 1; omega, .inl ⟨m, by show s.2.2.2 + 1 ≤ 8; omega, hv⟩⟩, ⟨.inr (.inl m), hpa⟩⟩
        · show vp_updL c_values s.1.length _ s.1.length = _
          rw [updL_at, if_pos rfl, q5, I_toL cp.1]
          exact L_word hv3 (by omega)
        · show (c_places s.1.length).toInt = ((k + 1 : Nat) : Int) - ((s.2.2.2 + 1 : Nat) : Int)
          omega
    · have gc : ¬ (isDg x3.toInt = true ∨ (isLt x3.toInt = true ∧ 0 < c_size.toInt ∧ c_kinds s.1.length = 1)) := fun q => g (q.elim .inl (fun q => .inr q.1))
      rw [if_neg gc, if_pos rfl]
      refine x_beg _ _ _ _ _ _ _ _ _ ((s.2.1, s.2.2.1, s.2.2.2) :: s.1) k ⟨.inl ⟨m, by rw [q4, m], q5⟩, q1⟩ (by rw [List.length_cons]; omega) hk0 (by rw [List.length_cons]; omega) hk4 hpa ?_
      have e : lstep s x3.toInt = lbegin ((s.2.1, s.2.2.1, s.2.2.2) :: s.1) x3.toInt := by
        unfold lstep
        rw [if_neg (by omega), if_neg (by omega), if_neg (by simp only [m, decide_true, Bool.true_and, Bool.or_eq_true]; exact g)]
      rw [e] at hk
      exact hk
  · obtain ⟨q1, q2, q3, q4, q5, q6, q7, q8, q9⟩ := s5 (.inr m)
    have q9' : s.2.2.2 ≤ 4 ∧ s.2.2.1 < 10 ^ s.2.2.2 := q9.elim (fun q => by omega) (fun q => q.2)
    have pw := pow_le4 q9'.1
    have en : (c_size.toInt - 1).toNat = s.1.length := by omega
    have k2 : c_kinds s.1.length = 2 := Int32.toInt_inj.mp (by rw [q4, m]; decide)
    have k1 : ¬ c_kinds s.1.length = 1 := by rw [k2]; decide
    rw [if_neg (by rw [q3]; decide)]
    refine ok_eq (e_goesOn _ _ _ hb) ?_
    rw [en]
    by_cases g : isDg x3.toInt = true
    · have gc : isDg x3.toInt = true ∨ (isLt x3.toInt = true ∧ 0 < c_size.toInt ∧ c_kinds s.1.length = 1) := .inl g
      rw [if_pos gc, if_neg (by decide)]
      refine ok_eq (e_extend _ _ _ _ _ _ (by omega)) ?_
      rw [en, if_neg k1, if_neg k1]
      dsimp only
      rw [e_58]
      have g' := g
      rw [isDg_t] at g'
      have ep : (x2 - c_places s.1.length).toInt = s.2.2.2 := by ((try simp only [tI_lt, tI_le, tI_eq, tI_add, tI_sub, tI_mul, tI_nat, Int32.reduceToInt, Int.reduceToNat, fe_0, fe_1, fe_2, fe_3, fe_4, fe_5]) <;> (try simp (disch := omega) only [tI_bm]) <;> omega)
      have ec : lstep s x3.toInt = if 4 ≤ s.2.2.2 then ((4, 0, s.2.2.2 + 1) :: s.1, 4, 0, 0) else (s.1, s.2.1, s.2.2.1 * 10 + (x3.toInt - 48).toNat, s.2.2.2 + 1) := by
        unfold lstep
        have m1 : ¬ s.2.1 = 1 := by omega
        rw [if_neg (by omega), if_neg (by omega), if_pos (by rw [g]; rfl), if_neg m1, if_neg m1]
      rw [if_pos (.inr g)]
      rw [ec] at hk
      by_cases b : 4 ≤ s.2.2.2
      · rw [if_pos b] at hk
        rw [if_pos (show (4 : Int32) ≤ x2 - c_places s.1.length by rw [tI_le, ep, show (4 : Int32).toInt = 4 from by decide]; omega)]
        refine hk _ _ _ _ _ ⟨by omega, by omega, fun _ => ⟨_, _, rfl, by rw [upd_at, if_pos rfl], XT_ne _ _ _ _ s.1 s.1.length (Nat.le_refl _) _ _ (.inr rfl) (.inr rfl) q1, by omega⟩, fun q => absurd q (show ¬ (4 : Nat) = 0 by decide), fun q => q.elim (fun q => absurd q (show ¬ (4 : Nat) = 1 by decide)) (fun q => absurd q (show ¬ (4 : Nat) = 2 by decide)), ⟨.inr (.inr (.inr rfl)), hpa⟩⟩
      · rw [if_neg b] at hk
        rw [if_neg (show ¬ (4 : Int32) ≤ x2 - c_places s.1.length by rw [tI_le, ep, show (4 : Int32).toInt = 4 from by decide]; omega)]
        have hv : s.2.2.1 * 10 + (x3.toInt - 48).toNat < 10 ^ (s.2.2.2 + 1) := by
          rw [Nat.pow_succ]
          generalize 10 ^ s.2.2.2 = P at q9' pw
          omega
        refine hk _ _ _ _ _ ⟨by omega, by omega, fun q => absurd (show s.2.1 = 4 from q) (by omega), fun q => absurd (show s.2.1 = 0 from q) (by omega), fun _ => ⟨XT_ne _ _ _ _ s.1 s.1.length (Nat.le_refl _) 0 _ (.inl rfl) (.inr rfl) q1, q2, rfl, q4, ?_, ?_, by show s.2.2.2 + 1 ≤ k + 1; omega, by show 1 ≤ s.2.2.2 + 1; omega, .inr ⟨m, by show s.2.2.2 + 1 ≤ 4; omega, hv⟩⟩, ⟨.inr (.inr (.inl m)), hpa⟩⟩
        · show vp_updL c_values s.1.length _ s.1.length = _
          rw [updL_at, if_pos rfl, q5]
          exact L_num (by omega) g'.1 g'.2
        · show (c_places s.1.length).toInt = ((k + 1 : Nat) : Int) - ((s.2.2.2 + 1 : Nat) : Int)
          omega
    · have gc : ¬ (isDg x3.toInt = true ∨ (isLt x3.toInt = true ∧ 0 < c_size.toInt ∧ c_kinds s.1.length = 1)) := fun q => q.elim g (fun q => k1 q.2.2)
      rw [if_neg gc, if_pos rfl]
      refine x_beg _ _ _ _ _ _ _ _ _ ((s.2.1, s.2.2.1, s.2.2.2) :: s.1) k ⟨.inr (.inl ⟨m, k2, q5⟩), q1⟩ (by rw [List.length_cons]; omega) hk0 (by rw [List.length_cons]; omega) hk4 hpa ?_
      have e : lstep s x3.toInt = lbegin ((s.2.1, s.2.2.1, s.2.2.2) :: s.1) x3.toInt := by
        unfold lstep
        rw [if_neg (by omega), if_neg (by omega), if_neg (by simp only [m, Bool.or_eq_true, Bool.and_eq_true, decide_eq_true_eq]; exact fun q => q.elim g (fun q => absurd q.1 (by decide)))]
      rw [e] at hk
      exact hk
  · have e : lstep s x3.toInt = s := by unfold lstep; rw [if_pos m]
    rw [e] at hk
    have b45 : Ok (f_X7_split_45 k9 c_length c_text x2 x3 c_size c_kinds c_places c_values) Q := x_bad45 _ _ _ _ _ _ _ _ _ s k m op hX hk4 (by omega) hk
    obtain ⟨q, r, e1, e2, e3, e4⟩ := s3 m
    refine ok_if (fun _ => b45) (fun _ => ok_eq (e_goesOn _ _ _ hb) (ok_if (fun _ => b45) (fun _ => ?_)))
    refine ok_eq (e_extend _ _ _ _ _ _ (by omega)) ?_
    dsimp only
    rw [e_58]
    refine hk _ _ _ _ _ ⟨s1, by omega, fun _ => ⟨q, r, e1, ?_, ?_, e4⟩, fun z => by omega, fun z => by omega, ⟨.inr (.inr (.inr m)), hpa⟩⟩
    · by_cases hP : (if c_kinds (c_size.toInt - 1).toNat = 1 then (8 : Int32) else 4) ≤ x2 - c_places (c_size.toInt - 1).toNat
      · rw [if_pos hP, upd_at]
        split
        · rfl
        · exact e2
      · rw [if_neg hP]
        exact e2
    · refine XT_ne c_kinds _ c_values _ r (c_size.toInt - 1).toNat (by omega) 4 _ ?_ (.inr rfl) e3
      by_cases hP : (if c_kinds (c_size.toInt - 1).toNat = 1 then (8 : Int32) else 4) ≤ x2 - c_places (c_size.toInt - 1).toNat
      · rw [if_pos hP]; exact .inr rfl
      · rw [if_neg hP]; exact .inl rfl
def wcode (v : Nat) : Nat := if v = 2003399269 then 15 else if v = 1886156147 then 18 else if v = 469920281971 then 19 else if v = 491327873401 then 10 else if v = 422826041707 then 16 else if v = 1835101029 then 17 else if v = 7038329 then 11 else if v = 1818324336 then 12 else if v = 427021001579 then 13 else if v = 431265637477 then 14 else 1
set_option maxHeartbeats 400000 in
theorem pk0 : f_X7_packed 0 = some 2003399269 := by decide +kernel
set_option maxHeartbeats 400000 in
theorem pk1 : f_X7_packed 1 = some 1886156147 := by decide +kernel
set_option maxHeartbeats 400000 in
theorem pk2 : f_X7_packed 2 = some 469920281971 := by decide +kernel
set_option maxHeartbeats 400000 in
theorem pk3 : f_X7_packed 3 = some 491327873401 := by decide +kernel
set_option maxHeartbeats 400000 in
theorem pk4 : f_X7_packed 4 = some 422826041707 := by decide +kernel
set_option maxHeartbeats 400000 in
theorem pk5 : f_X7_packed 5 = some 1835101029 := by decide +kernel
set_option maxHeartbeats 400000 in
theorem pk6 : f_X7_packed 6 = some 7038329 := by decide +kernel
set_option maxHeartbeats 400000 in
theorem pk7 : f_X7_packed 7 = some 1818324336 := by decide +kernel
set_option maxHeartbeats 400000 in
theorem pk8 : f_X7_packed 8 = some 427021001579 := by decide +kernel
set_option maxHeartbeats 400000 in
theorem pk9 : f_X7_packed 9 = some 431265637477 := by decide +kernel
def KW (x : Int64) : Int32 := if x = 2003399269 then 15 else if x = 1886156147 then 18 else if x = 469920281971 then 19 else if x = 491327873401 then 10 else if x = 422826041707 then 16 else if x = 1835101029 then 17 else if x = 7038329 then 11 else if x = 1818324336 then 12 else if x = 427021001579 then 13 else if x = 431265637477 then 14 else 1
set_option maxHeartbeats 400000 in
theorem e_KW (x : Int64) : f_X7_kindOfWord x = some (KW x) := by
  unfold f_X7_kindOfWord KW
  rw [pk0, pk1, pk2, pk3, pk4, pk5, pk6, pk7, pk8, pk9]
  dsimp only [Option.bind]
  simp only [lgc]
  repeat' split
  all_goals rfl
set_option maxHeartbeats 400000 in
theorem KW_w {v : Nat} (h : v < 2 ^ 63) : (KW (Int64.ofNat v)).toInt = wcode v := by
  have e : ∀ n : Nat, n < 2 ^ 63 → (Int64.ofNat v = Int64.ofNat n ↔ v = n) := fun n hn => L_eq h hn
  unfold KW wcode
  simp only [show (2003399269 : Int64) = Int64.ofNat 2003399269 from rfl, show (1886156147 : Int64) = Int64.ofNat 1886156147 from rfl, show (469920281971 : Int64) = Int64.ofNat 469920281971 from rfl, show (491327873401 : Int64) = Int64.ofNat 491327873401 from rfl, show (422826041707 : Int64) = Int64.ofNat 422826041707 from rfl, show (1835101029 : Int64) = Int64.ofNat 1835101029 from rfl, show (7038329 : Int64) = Int64.ofNat 7038329 from rfl, show (1818324336 : Int64) = Int64.ofNat 1818324336 from rfl, show (427021001579 : Int64) = Int64.ofNat 427021001579 from rfl, show (431265637477 : Int64) = Int64.ofNat 431265637477 from rfl]
  simp only [e 2003399269 (by decide), e 1886156147 (by decide), e 469920281971 (by decide), e 491327873401 (by decide), e 422826041707 (by decide), e 1835101029 (by decide), e 7038329 (by decide), e 1818324336 (by decide), e 427021001579 (by decide), e 431265637477 (by decide)]
  repeat' split
  all_goals decide
set_option maxHeartbeats 400000 in
theorem x_96 (c_length : Int32) (c_text : Nat → Int32) {Q} (kd0 : Nat → Int32) : ∀ (n : Nat) (x2 : Int32) (c_size : Int32) (c_kinds : Nat → Int32) (c_places : Nat → Int32) (c_values : Nat → Int64), 0 ≤ x2.toInt → x2.toInt ≤ c_size.toInt → c_size.toInt ≤ 4001 → c_size.toInt < x2.toInt + n → (∀ i : Nat, c_kinds i = if (i : Int) < x2.toInt ∧ kd0 i = 1 then KW (c_values i) else kd0 i) → (∀ kd : Nat → Int32, (∀ i : Nat, kd i = if (i : Int) < c_size.toInt ∧ kd0 i = 1 then KW (c_values i) else kd0 i) → Q (c_size, kd, c_places, c_values)) → Ok (f_X7_split_96 c_length c_text n x2 c_size c_kinds c_places c_values) Q
  | 0, x2, c_size, c_kinds, c_places, c_values, h1, h2, h3, h4, h5, hq => by exfalso; omega
  | n + 1, x2, c_size, c_kinds, c_places, c_values, h1, h2, h3, h4, h5, hq => by
    unfold f_X7_split_96 f_X7_split_129
    by_cases a : c_size ≤ x2
    · rw [if_pos a]
      rw [tI_le] at a
      have e : x2.toInt = c_size.toInt := by omega
      rw [e] at h5
      exact ok_some (hq c_kinds h5)
    · rw [if_neg a]
      rw [tI_le] at a
      have e1 : (x2 + 1).toInt = x2.toInt + 1 := by ((try simp only [tI_lt, tI_le, tI_eq, tI_add, tI_sub, tI_mul, tI_nat, Int32.reduceToInt, Int.reduceToNat, fe_0, fe_1, fe_2, fe_3, fe_4, fe_5]) <;> (try simp (disch := omega) only [tI_bm]) <;> omega)
      have hb : 0 ≤ x2.toInt ∧ x2.toInt < (4001 : Nat) := by omega
      have k0 := h5 x2.toInt.toNat
      rw [if_neg (fun q => by omega)] at k0
      refine ok_bad hb ?_
      rw [tI_nat, k0]
      refine ok_if (fun b => ok_bad hb (ok_eq (e_KW _) (ok_bad hb (ok_vlet (ok_vlet ?_))))) (fun b => ok_vlet ?_)
      · refine x_96 c_length c_text kd0 n _ _ _ _ _ (by omega) (by omega) h3 (by omega) (fun i => ?_) hq
        rw [upd_at, h5 i, e1]
        by_cases c : i = x2.toInt.toNat
        · rw [if_pos c, c, if_pos ⟨by omega, b⟩]
        · rw [if_neg c]
          by_cases d : (i : Int) < x2.toInt ∧ kd0 i = 1
          · rw [if_pos d, if_pos ⟨by omega, d.2⟩]
          · rw [if_neg d, if_neg (fun q => d ⟨by omega, q.2⟩)]
      · refine x_96 c_length c_text kd0 n _ _ _ _ _ (by omega) (by omega) h3 (by omega) (fun i => ?_) hq
        rw [h5 i, e1]
        by_cases c : i = x2.toInt.toNat
        · rw [c, if_neg (fun q => b q.2), if_neg (fun q => b q.2)]
        · by_cases d : (i : Int) < x2.toInt ∧ kd0 i = 1
          · rw [if_pos d, if_pos ⟨by omega, d.2⟩]
          · rw [if_neg d, if_neg (fun q => d ⟨by omega, q.2⟩)]
