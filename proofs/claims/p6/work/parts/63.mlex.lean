/-! the reference's tokens -/
set_option maxHeartbeats 400000 in
theorem m_isDg (x : Int32) : f_X11_isDigit x = some (if isDg x.toInt = true then 1 else 0) := e_isDg x
set_option maxHeartbeats 400000 in
theorem m_isLt (x : Int32) : f_X11_isLetter x = some (if isLt x.toInt = true then 1 else 0) := e_isLt x
set_option maxHeartbeats 400000 in
theorem and255 {x : Int32} (h1 : -128 ≤ x.toInt) (h2 : x.toInt < 128) : (x &&& 255).toInt = if 0 ≤ x.toInt then x.toInt else x.toInt + 256 := by
  have e : (x &&& 255).toBitVec.toNat = x.toBitVec.toNat % 256 := by
    rw [Int32.toBitVec_and, BitVec.toNat_and]
    exact Nat.and_two_pow_sub_one_eq_mod _ 8
  have e1 : (x &&& 255).toInt = (x &&& 255).toBitVec.toInt := rfl
  have e2 : x.toInt = x.toBitVec.toInt := rfl
  rw [e1]
  rw [e2] at h1 h2 ⊢
  have b1 := BitVec.toInt_eq_toNat_cond (x &&& 255).toBitVec
  have b2 := BitVec.toInt_eq_toNat_cond x.toBitVec
  have l := x.toBitVec.isLt
  rw [b1, e]
  rw [b2] at h1 h2 ⊢
  generalize x.toBitVec.toNat = z at *
  split at h1 <;> split at h2 <;> (repeat' split) <;> omega
def pk (f : Nat → Nat) : Nat → Nat
  | 0 => 0
  | n + 1 => pk f n * 256 + f n
def MT (t : Nat → Int32) (L : Nat) (kd pl sz : Nat → Int32) (vl : Nat → Int64) : List TkT → Prop
  | [] => True
  | a :: r => ((kd r.length).toInt = a.1 ∧ (a.1 = 1 ∨ a.1 = 2 ∨ a.1 = 3 → vl r.length = Int64.ofNat a.2.1) ∧ (a.1 = 1 → (sz r.length).toInt = a.2.2 ∧ 0 ≤ (pl r.length).toInt ∧ (pl r.length).toInt + a.2.2 ≤ L ∧ a.2.1 = pk (fun j => (t ((pl r.length).toInt.toNat + j)).toInt.toNat) a.2.2 ∧ (∀ j, j < a.2.2 → 1 ≤ (t ((pl r.length).toInt.toNat + j)).toInt ∧ (t ((pl r.length).toInt.toNat + j)).toInt < 128))) ∧ MT t L kd pl sz vl r
set_option maxHeartbeats 400000 in
theorem MT_cg (t : Nat → Int32) (L : Nat) (kd kd2 pl pl2 sz sz2 : Nat → Int32) (vl vl2 : Nat → Int64) : ∀ (r : List TkT), (∀ i, i < r.length → kd2 i = kd i ∧ pl2 i = pl i ∧ sz2 i = sz i ∧ vl2 i = vl i) → MT t L kd pl sz vl r → MT t L kd2 pl2 sz2 vl2 r
  | [], _, _ => trivial
  | a :: r, h, hx => by
    obtain ⟨h1, h2⟩ := hx
    have e := h r.length (by simp)
    refine ⟨?_, MT_cg t L kd kd2 pl pl2 sz sz2 vl vl2 r (fun i hi => h i (by simp; omega)) h2⟩
    rw [e.1, e.2.1, e.2.2.1, e.2.2.2]
    exact h1
def lclose (s : LxS) : List TkT := if s.2.1 = 0 then s.1 else (s.2.1, s.2.2.1, s.2.2.2) :: s.1
def MAt (t : Nat → Int32) (L k : Nat) (more tokens : Int32) (kd pl sz : Nat → Int32) (vl : Nat → Int64) : Prop :=
  (more = 0 ∧ tokens.toInt = (lend (lfold t L)).length ∧ tokens.toInt ≤ 4001 ∧ MT t L kd pl sz vl (lend (lfold t L))) ∨ (more = 1 ∧ k ≤ L ∧ (lfold t k).2.1 ≠ 4 ∧ tokens.toInt = (lclose (lfold t k)).length ∧ MT t L kd pl sz vl (lclose (lfold t k)) ∧ (k < L → lstep (lfold t k) (t k).toInt = lbegin (lclose (lfold t k)) (t k).toInt))
set_option maxHeartbeats 400000 in
theorem len_wt : ∀ (r : List TkT), (∀ t ∈ r, TV t) → r.length ≤ wt r
  | [], _ => Nat.le_refl _
  | a :: r, h => by
    have h1 := len_wt r (fun t ht => h t (List.mem_cons_of_mem _ ht))
    have h2 := h a (List.mem_cons_self ..)
    rw [List.length_cons]
    show r.length + 1 ≤ a.2.2 + wt r
    rcases h2 with q | q | q <;> omega
set_option maxHeartbeats 400000 in
theorem close_len (t : Nat → Int32) (k : Nat) (h : (lfold t k).2.1 ≠ 4) : (lclose (lfold t k)).length ≤ k := by
  unfold lclose
  rcases LV_fold t k with ⟨m, -⟩ | ⟨m, e2, e3⟩ | ⟨m, e2, e3, e4, e5, e6, e7⟩ | ⟨m, e2, e3, e4, e5, e6⟩
  · exact absurd m h
  · rw [if_pos m]
    exact Nat.le_trans (len_wt _ e2) e3
  · rw [if_neg (by omega), List.length_cons]
    have := len_wt _ e2
    clear e4 e5
    omega
  · rw [if_neg (by omega), List.length_cons]
    have := len_wt _ e2
    clear e4
    omega
set_option maxHeartbeats 400000 in
theorem lfold_bad (t : Nat → Int32) (k : Nat) (h : (lfold t k).2.1 = 4) : ∀ d, lfold t (k + d) = lfold t k
  | 0 => rfl
  | d + 1 => by
    have e := lfold_bad t k h d
    show lstep (lfold t (k + d)) _ = _
    rw [e]
    unfold lstep
    rw [if_pos h]
set_option maxHeartbeats 400000 in
theorem lclose_end (s : LxS) (h : s.2.1 ≠ 4) : lend s = (0, 0, 0) :: lclose s := by
  unfold lend lclose
  rw [if_neg h]
  split <;> rfl
set_option maxHeartbeats 400000 in
theorem e_token (x1 : Int32) (x2 : Int32) (x3 : Int32) (x4 : Int64) (c_tokens : Int32) (c_tKind : Nat → Int32) (c_tPlace : Nat → Int32) (c_tSize : Nat → Int32) (c_tValue : Nat → Int64) (h : 0 ≤ c_tokens.toInt ∧ c_tokens.toInt < 4001) : (f_X11_token x1 x2 x3 x4 c_tokens c_tKind c_tPlace c_tSize c_tValue) = some (c_tokens + 1, upd c_tKind c_tokens.toInt.toNat x1, upd c_tPlace c_tokens.toInt.toNat x2, upd c_tSize c_tokens.toInt.toNat x3, vp_updL c_tValue c_tokens.toInt.toNat x4) := by
  unfold f_X11_token
  rw [bad_f h.1 h.2]
  rfl
set_option maxHeartbeats 400000 in
theorem m_byte (x1 : Int32) (c_size : Int32) (c_text : Nat → Int32) (L : Nat) (hs : c_size.toInt = L) (hL : L ≤ 4000) (hx : 0 ≤ x1.toInt) : (f_X11_byteAt x1 c_size c_text) = some (if x1.toInt.toNat < L then c_text x1.toInt.toNat &&& 255 else 0) := by
  unfold f_X11_byteAt
  by_cases a : c_size ≤ x1
  · rw [if_pos a]
    rw [tI_le] at a
    rw [if_neg (by omega)]
  · rw [if_neg a]
    rw [tI_le] at a
    rw [bad_f (i := x1) (n := 4000) (by omega) (by omega), if_neg (by decide), if_pos (show x1.toInt.toNat < L by omega)]
    rfl
def bt (t : Nat → Int32) (L k : Nat) : Int := if k < L then (t k).toInt else 0
/-! what the fold makes of a run of letters and digits -/
set_option maxHeartbeats 400000 in
theorem wfold (t : Nat → Int32) (k : Nat) (rev : List TkT) (h1 : lstep (lfold t k) (t k).toInt = lbegin rev (t k).toInt) (h2 : isLt (t k).toInt = true) : ∀ n, (∀ j, 1 ≤ j → j ≤ n → (isLt (t (k + j)).toInt || isDg (t (k + j)).toInt) = true) → lfold t (k + (n + 1)) = if n < 8 then (rev, 1, pk (fun j => (t (k + j)).toInt.toNat) (n + 1), n + 1) else ((4, 0, 9) :: rev, 4, 0, 0)
  | 0, _ => by
    show lstep (lfold t k) (t k).toInt = _
    rw [h1, if_pos (by omega)]
    unfold lbegin
    have nb : ¬ isBl (t k).toInt = true := by rw [isBl_t]; rw [isLt_t] at h2; omega
    rw [if_neg nb, if_pos h2]
    show _ = (rev, 1, 0 * 256 + (t (k + 0)).toInt.toNat, 1)
    rw [Nat.zero_mul, Nat.zero_add, Nat.add_zero]
  | n + 1, h => by
    have ih := wfold t k rev h1 h2 n (fun j a b => h j a (by omega))
    have hc := h (n + 1) (by omega) (Nat.le_refl _)
    show lstep (lfold t (k + (n + 1))) (t (k + (n + 1))).toInt = _
    rw [ih]
    by_cases a : n < 8
    · rw [if_pos a]
      have g : (isDg (t (k + (n + 1))).toInt || (decide ((1 : Nat) = 1) && isLt (t (k + (n + 1))).toInt)) = true := by
        rw [Bool.or_comm] at hc
        simpa using hc
      unfold lstep
      rw [if_neg (show ¬ (1 : Nat) = 4 by decide), if_neg (show ¬ (1 : Nat) = 0 by decide), if_pos g, if_pos (show (1 : Nat) = 1 from rfl), if_pos (show (1 : Nat) = 1 from rfl)]
      by_cases b : 8 ≤ n + 1
      · rw [if_pos b, if_neg (by omega)]
        have : n + 1 = 8 := by omega
        rw [this]
      · rw [if_neg b, if_pos (by omega)]
        rfl
    · rw [if_neg a, if_neg (by omega)]
      unfold lstep
      rw [if_pos rfl]
/-! of digits -/
def pd (f : Nat → Nat) : Nat → Nat
  | 0 => 0
  | n + 1 => pd f n * 10 + f n
set_option maxHeartbeats 400000 in
theorem dfold (t : Nat → Int32) (k : Nat) (rev : List TkT) (h1 : lstep (lfold t k) (t k).toInt = lbegin rev (t k).toInt) (h2 : isDg (t k).toInt = true) : ∀ n, (∀ j, 1 ≤ j → j ≤ n → isDg (t (k + j)).toInt = true) → lfold t (k + (n + 1)) = if n < 4 then (rev, 2, pd (fun j => ((t (k + j)).toInt - 48).toNat) (n + 1), n + 1) else ((4, 0, 5) :: rev, 4, 0, 0)
  | 0, _ => by
    show lstep (lfold t k) (t k).toInt = _
    rw [h1, if_pos (by omega)]
    unfold lbegin
    have nb : ¬ isBl (t k).toInt = true := by rw [isBl_t]; rw [isDg_t] at h2; omega
    have nl : ¬ isLt (t k).toInt = true := by rw [isLt_t]; rw [isDg_t] at h2; omega
    rw [if_neg nb, if_neg nl, if_pos h2]
    show _ = (rev, 2, 0 * 10 + ((t (k + 0)).toInt - 48).toNat, 1)
    rw [Nat.zero_mul, Nat.zero_add, Nat.add_zero]
  | n + 1, h => by
    have ih := dfold t k rev h1 h2 n (fun j a b => h j a (by omega))
    have hc := h (n + 1) (by omega) (Nat.le_refl _)
    show lstep (lfold t (k + (n + 1))) (t (k + (n + 1))).toInt = _
    rw [ih]
    by_cases a : n < 4
    · rw [if_pos a]
      have g : (isDg (t (k + (n + 1))).toInt || (decide ((2 : Nat) = 1) && isLt (t (k + (n + 1))).toInt)) = true := by
        rw [hc]; rfl
      unfold lstep
      rw [if_neg (show ¬ (2 : Nat) = 4 by decide), if_neg (show ¬ (2 : Nat) = 0 by decide), if_pos g, if_neg (show ¬ (2 : Nat) = 1 by decide), if_neg (show ¬ (2 : Nat) = 1 by decide)]
      by_cases b : 4 ≤ n + 1
      · rw [if_pos b, if_neg (by omega)]
        have : n + 1 = 4 := by omega
        rw [this]
      · rw [if_neg b, if_pos (by omega)]
        rfl
    · rw [if_neg a, if_neg (by omega)]
      unfold lstep
      rw [if_pos rfl]
/-! a byte as the reference sees it -/
set_option maxHeartbeats 400000 in
theorem b_and {c : Int32} (h1 : -128 ≤ c.toInt) (h2 : c.toInt < 128) : isLt (c &&& 255).toInt = isLt c.toInt ∧ isDg (c &&& 255).toInt = isDg c.toInt ∧ isBl (c &&& 255).toInt = isBl c.toInt ∧ isSg (c &&& 255).toInt = isSg c.toInt ∧ (0 ≤ c.toInt → (c &&& 255).toInt = c.toInt) := by
  have e := and255 h1 h2
  by_cases a : 0 ≤ c.toInt
  · rw [if_pos a] at e
    rw [e]
    exact ⟨rfl, rfl, rfl, rfl, fun _ => rfl⟩
  · rw [if_neg a] at e
    rw [e]
    refine ⟨?_, ?_, ?_, ?_, fun q => absurd q a⟩
    · rw [Bool.eq_iff_iff, isLt_t, isLt_t]; omega
    · rw [Bool.eq_iff_iff, isDg_t, isDg_t]; omega
    · rw [Bool.eq_iff_iff, isBl_t, isBl_t]; omega
    · rw [Bool.eq_iff_iff, isSg_t, isSg_t]; omega
def BY (t : Nat → Int32) (L : Nat) : Prop := ∀ i : Nat, i < L → -128 ≤ (t i).toInt ∧ (t i).toInt < 128
def bA (t : Nat → Int32) (L k : Nat) : Int32 := if k < L then t k &&& 255 else 0
set_option maxHeartbeats 400000 in
theorem bA_lt (t : Nat → Int32) (L k : Nat) (hB : BY t L) : isLt (bA t L k).toInt = (decide (k < L) && isLt (t k).toInt) := by
  unfold bA
  by_cases a : k < L
  · rw [if_pos a, (b_and (hB k a).1 (hB k a).2).1, decide_eq_true a, Bool.true_and]
  · rw [if_neg a, decide_eq_false a, Bool.false_and]; decide
set_option maxHeartbeats 400000 in
theorem bA_dg (t : Nat → Int32) (L k : Nat) (hB : BY t L) : isDg (bA t L k).toInt = (decide (k < L) && isDg (t k).toInt) := by
  unfold bA
  by_cases a : k < L
  · rw [if_pos a, (b_and (hB k a).1 (hB k a).2).2.1, decide_eq_true a, Bool.true_and]
  · rw [if_neg a, decide_eq_false a, Bool.false_and]; decide
set_option maxHeartbeats 400000 in
theorem bA_v (t : Nat → Int32) (L k : Nat) (hB : BY t L) (a : k < L) (h : 0 ≤ (t k).toInt) : (bA t L k).toInt = (t k).toInt := by
  unfold bA
  rw [if_pos a]
  exact (b_and (hB k a).1 (hB k a).2).2.2.2.2 h
set_option maxHeartbeats 400000 in
theorem e_177 (k9 : Int32 → Int32 → Int32 → (Nat → Int32) → (Nat → Int32) → (Nat → Int32) → (Nat → Int64) → Option (Int32 × (Nat → Int32) × (Nat → Int32) × (Nat → Int32) × (Nat → Int64))) (c_size : Int32) (c_text : Nat → Int32) (x1 : Int32) (x2 : Int32) (x4 : Int32) (x5 : Int64) (y1 : Int32) (c_tokens : Int32) (c_tKind : Nat → Int32) (c_tPlace : Nat → Int32) (c_tSize : Nat → Int32) (c_tValue : Nat → Int64) (h : 0 ≤ c_tokens.toInt ∧ c_tokens.toInt < 4001) : (f_X11_lex_177 k9 c_size c_text x1 x2 x4 x5 y1 c_tokens c_tKind c_tPlace c_tSize c_tValue) = k9 (x1 + x4) x2 (c_tokens + 1) (upd c_tKind c_tokens.toInt.toNat y1) (upd c_tPlace c_tokens.toInt.toNat x1) (upd c_tSize c_tokens.toInt.toNat x4) (vp_updL c_tValue c_tokens.toInt.toNat x5) := by
  unfold f_X11_lex_177 f_X11_lex_335
  rw [e_token _ _ _ _ _ _ _ _ _ h]
  rfl
set_option maxHeartbeats 400000 in
theorem e_277 (k9 : Int32 → Int32 → Int32 → (Nat → Int32) → (Nat → Int32) → (Nat → Int32) → (Nat → Int64) → Option (Int32 × (Nat → Int32) × (Nat → Int32) × (Nat → Int32) × (Nat → Int64))) (c_size : Int32) (c_text : Nat → Int32) (x1 : Int32) (x2 : Int32) (x4 : Int32) (x5 : Int64) (y1 : Int32) (c_tokens : Int32) (c_tKind : Nat → Int32) (c_tPlace : Nat → Int32) (c_tSize : Nat → Int32) (c_tValue : Nat → Int64) (h : 0 ≤ c_tokens.toInt ∧ c_tokens.toInt < 4001) : (f_X11_lex_277 k9 c_size c_text x1 x2 x4 x5 y1 c_tokens c_tKind c_tPlace c_tSize c_tValue) = k9 (x1 + x4) x2 (c_tokens + 1) (upd c_tKind c_tokens.toInt.toNat y1) (upd c_tPlace c_tokens.toInt.toNat x1) (upd c_tSize c_tokens.toInt.toNat x4) (vp_updL c_tValue c_tokens.toInt.toNat x5) := by
  unfold f_X11_lex_277 f_X11_lex_335
  rw [e_token _ _ _ _ _ _ _ _ _ h]
  rfl
set_option maxHeartbeats 400000 in
theorem e_328 (k9 : Int32 → Int32 → Int32 → (Nat → Int32) → (Nat → Int32) → (Nat → Int32) → (Nat → Int64) → Option (Int32 × (Nat → Int32) × (Nat → Int32) × (Nat → Int32) × (Nat → Int64))) (c_size : Int32) (c_text : Nat → Int32) (x1 : Int32) (x2 : Int32) (x4 : Int32) (x5 : Int64) (y1 : Int32) (c_tokens : Int32) (c_tKind : Nat → Int32) (c_tPlace : Nat → Int32) (c_tSize : Nat → Int32) (c_tValue : Nat → Int64) (h : 0 ≤ c_tokens.toInt ∧ c_tokens.toInt < 4001) : (f_X11_lex_328 k9 c_size c_text x1 x2 x4 x5 y1 c_tokens c_tKind c_tPlace c_tSize c_tValue) = k9 (x1 + x4) x2 (c_tokens + 1) (upd c_tKind c_tokens.toInt.toNat y1) (upd c_tPlace c_tokens.toInt.toNat x1) (upd c_tSize c_tokens.toInt.toNat 1) (vp_updL c_tValue c_tokens.toInt.toNat x5) := by
  unfold f_X11_lex_328 f_X11_lex_335
  rw [e_token _ _ _ _ _ _ _ _ _ h]
  rfl
set_option maxHeartbeats 400000 in
theorem e_154 (k9 : Int32 → Int32 → Int32 → (Nat → Int32) → (Nat → Int32) → (Nat → Int32) → (Nat → Int64) → Option (Int32 × (Nat → Int32) × (Nat → Int32) × (Nat → Int32) × (Nat → Int64))) (c_size : Int32) (c_text : Nat → Int32) (x1 : Int32) (x4 : Int32) (x5 : Int64) (c_tokens : Int32) (c_tKind : Nat → Int32) (c_tPlace : Nat → Int32) (c_tSize : Nat → Int32) (c_tValue : Nat → Int64) (h : 0 ≤ c_tokens.toInt ∧ c_tokens.toInt < 4001) : (f_X11_lex_154 k9 c_size c_text x1 x4 x5 c_tokens c_tKind c_tPlace c_tSize c_tValue) = k9 (x1 + x4) (if 8 < x4.toInt then 0 else 1) (c_tokens + 1) (upd c_tKind c_tokens.toInt.toNat (if 8 < x4.toInt then 4 else 1)) (upd c_tPlace c_tokens.toInt.toNat x1) (upd c_tSize c_tokens.toInt.toNat x4) (vp_updL c_tValue c_tokens.toInt.toNat x5) := by
  unfold f_X11_lex_154 f_X11_lex_166
  by_cases a : 8 < x4.toInt
  · rw [if_pos (show (8 : Int32) < x4 by rw [tI_lt]; exact a), if_pos rfl, e_177 _ _ _ _ _ _ _ _ _ _ _ _ _ h, if_pos a, if_pos a]
  · rw [if_neg (show ¬ (8 : Int32) < x4 by rw [tI_lt]; exact a), if_neg (by decide), e_177 _ _ _ _ _ _ _ _ _ _ _ _ _ h, if_neg a, if_neg a]
/-! the words' values -/
set_option maxHeartbeats 400000 in
theorem pkw_lt (f : Nat → Nat) : ∀ n, (∀ j, j < n → f j < 128) → 2 * pk f n ≤ 256 ^ n - 1 ∧ 1 ≤ 256 ^ n
  | 0, _ => ⟨by show 2 * 0 ≤ 256 ^ 0 - 1; decide, by decide⟩
  | n + 1, h => by
    obtain ⟨h1, h2⟩ := pkw_lt f n (fun j hj => h j (by omega))
    have h3 := h n (by omega)
    rw [Nat.pow_succ]
    show 2 * (pk f n * 256 + f n) ≤ _ ∧ _
    generalize 256 ^ n = P at *
    omega
set_option maxHeartbeats 400000 in
theorem m_117 (k9 : Int32 → Int32 → Int32 → (Nat → Int32) → (Nat → Int32) → (Nat → Int32) → (Nat → Int64) → Option (Int32 × (Nat → Int32) × (Nat → Int32) × (Nat → Int32) × (Nat → Int64))) (c_size : Int32) (c_text : Nat → Int32) (x1 x4 c_tokens : Int32) (c_tKind c_tPlace c_tSize : Nat → Int32) (c_tValue : Nat → Int64) (L : Nat) (hs : c_size.toInt = L) (hL : L ≤ 4000) (hB : BY c_text L) (ht : 0 ≤ c_tokens.toInt ∧ c_tokens.toInt < 4001) {Q} (k m : Nat) (hkm : k + m ≤ L) (hm : ∀ j, j < m → 0 ≤ (c_text (k + j)).toInt) (hx1 : x1.toInt = k) (hx4 : x4.toInt = m) (hk : Ok (k9 (x1 + x4) (if 8 < x4.toInt then 0 else 1) (c_tokens + 1) (upd c_tKind c_tokens.toInt.toNat (if 8 < x4.toInt then 4 else 1)) (upd c_tPlace c_tokens.toInt.toNat x1) (upd c_tSize c_tokens.toInt.toNat x4) (vp_updL c_tValue c_tokens.toInt.toNat (Int64.ofNat (pk (fun j => (c_text (k + j)).toInt.toNat) (min m 8))))) Q) : ∀ (n : Nat) (x5 : Int64) (x7 : Int32), 0 ≤ x7.toInt → x7.toInt ≤ 8 → x7.toInt ≤ m → 8 < x7.toInt + n → x5 = Int64.ofNat (pk (fun j => (c_text (k + j)).toInt.toNat) x7.toInt.toNat) → Ok (f_X11_lex_117 k9 c_size c_text n x1 x4 x5 x7 c_tokens c_tKind c_tPlace c_tSize c_tValue) Q
  | 0, x5, x7, h1, h2, h2b, h3, h4 => by exfalso; omega
  | n + 1, x5, x7, h1, h2, h2b, h3, h4 => by
    unfold f_X11_lex_117
    by_cases a : x4 ≤ x7
    · rw [if_pos a, e_154 _ _ _ _ _ _ _ _ _ _ _ ht, h4]
      rw [tI_le] at a
      have e : x7.toInt.toNat = min m 8 := by omega
      rw [e]
      exact hk
    · rw [if_neg a]
      rw [tI_le] at a
      by_cases b : (8 : Int32) ≤ x7
      · rw [if_pos b, e_154 _ _ _ _ _ _ _ _ _ _ _ ht, h4]
        rw [tI_le, show (8 : Int32).toInt = 8 from by decide] at b
        have e : x7.toInt.toNat = min m 8 := by omega
        rw [e]
        exact hk
      · rw [if_neg b]
        rw [tI_le, show (8 : Int32).toInt = 8 from by decide] at b
        have e17 : (x1 + x7).toInt = x1.toInt + x7.toInt := by ((try simp only [tI_lt, tI_le, tI_eq, tI_add, tI_sub, tI_mul, tI_nat, Int32.reduceToInt, Int.reduceToNat, fe_0, fe_1, fe_2, fe_3, fe_4, fe_5]) <;> (try simp (disch := omega) only [tI_bm]) <;> omega)
        have e7 : (x7 + 1).toInt = x7.toInt + 1 := by ((try simp only [tI_lt, tI_le, tI_eq, tI_add, tI_sub, tI_mul, tI_nat, Int32.reduceToInt, Int.reduceToNat, fe_0, fe_1, fe_2, fe_3, fe_4, fe_5]) <;> (try simp (disch := omega) only [tI_bm]) <;> omega)
        refine ok_eq (m_byte _ _ _ L hs hL (by omega)) (ok_vlet (ok_vlet ?_))
        have en : (x1 + x7).toInt.toNat = k + x7.toInt.toNat := by omega
        rw [en]
        have hh := hm x7.toInt.toNat (by omega)
        have bv := bA_v c_text L (k + x7.toInt.toNat) hB (by omega) hh
        unfold bA at bv
        have hf : ∀ j, j < m → (c_text (k + j)).toInt.toNat < 128 := fun j hj => by
          have := (hB (k + j) (by omega)).2
          have := hm j hj
          omega
        have p1 := (pkw_lt (fun j => (c_text (k + j)).toInt.toNat) (x7.toInt.toNat + 1) (fun j hj => hf j (by omega))).1
        have p2 := pow_le8 (show x7.toInt.toNat + 1 ≤ 8 by omega)
        have p3 : pk (fun j => (c_text (k + j)).toInt.toNat) (x7.toInt.toNat + 1) < 2 ^ 63 := by
          generalize 256 ^ (x7.toInt.toNat + 1) = P at p1 p2
          omega
        refine m_117 k9 c_size c_text x1 x4 c_tokens c_tKind c_tPlace c_tSize c_tValue L hs hL hB ht k m hkm hm hx1 hx4 hk n _ _ (by omega) (by omega) (by omega) (by omega) ?_
        have e8 : (x7 + 1).toInt.toNat = x7.toInt.toNat + 1 := by omega
        rw [e8, h4, I_toL (by omega), bv]
        exact L_word p3 (by have := hf x7.toInt.toNat (by omega); omega)
set_option maxHeartbeats 400000 in
theorem MT_push (t : Nat → Int32) (L : Nat) (kd pl sz : Nat → Int32) (vl : Nat → Int64) (rev : List TkT) (j : Nat) (hj : j = rev.length) (a : TkT) (kx px sx : Int32) (vx : Int64) (h : MT t L kd pl sz vl rev) (h1 : kx.toInt = a.1) (h2 : a.1 = 1 ∨ a.1 = 2 ∨ a.1 = 3 → vx = Int64.ofNat a.2.1) (h3 : a.1 = 1 → sx.toInt = a.2.2 ∧ 0 ≤ px.toInt ∧ px.toInt + a.2.2 ≤ L ∧ a.2.1 = pk (fun j => (t (px.toInt.toNat + j)).toInt.toNat) a.2.2 ∧ (∀ j, j < a.2.2 → 1 ≤ (t (px.toInt.toNat + j)).toInt ∧ (t (px.toInt.toNat + j)).toInt < 128)) : MT t L (upd kd j kx) (upd pl j px) (upd sz j sx) (vp_updL vl j vx) (a :: rev) := by
  subst hj
  refine ⟨?_, MT_cg _ _ _ _ _ _ _ _ _ _ rev (fun i hi => ⟨by rw [upd_at, if_neg (by omega)], by rw [upd_at, if_neg (by omega)], by rw [upd_at, if_neg (by omega)], by rw [updL_at, if_neg (by omega)]⟩) h⟩
  rw [upd_at, upd_at, upd_at, updL_at, if_pos rfl, if_pos rfl, if_pos rfl, if_pos rfl]
  exact ⟨h1, h2, h3⟩
set_option maxHeartbeats 400000 in
theorem al_pos {c : Int} (h : (isLt c || isDg c) = true) : 1 ≤ c ∧ c < 128 := by
  rw [Bool.or_eq_true, isLt_t, isDg_t] at h
  omega
set_option maxHeartbeats 400000 in
theorem m_80 (k9 : Int32 → Int32 → Int32 → (Nat → Int32) → (Nat → Int32) → (Nat → Int32) → (Nat → Int64) → Option (Int32 × (Nat → Int32) × (Nat → Int32) × (Nat → Int32) × (Nat → Int64))) (c_size : Int32) (c_text : Nat → Int32) (x1 c_tokens : Int32) (c_tKind c_tPlace c_tSize : Nat → Int32) (c_tValue : Nat → Int64) (L : Nat) (hs : c_size.toInt = L) (hL : L ≤ 4000) (hB : BY c_text L) {Q} (k : Nat) (hkL : k < L) (hx1 : x1.toInt = k) (hl : isLt (c_text k).toInt = true) (hm4 : (lfold c_text k).2.1 ≠ 4) (htk : c_tokens.toInt = (lclose (lfold c_text k)).length) (hMT : MT c_text L c_tKind c_tPlace c_tSize c_tValue (lclose (lfold c_text k))) (hst : lstep (lfold c_text k) (c_text k).toInt = lbegin (lclose (lfold c_text k)) (c_text k).toInt) (hk : ∀ (x1 x2 c_tokens : Int32) (c_tKind c_tPlace c_tSize : Nat → Int32) (c_tValue : Nat → Int64), (k : Int) < x1.toInt → x1.toInt ≤ L + 1 → MAt c_text L x1.toInt.toNat x2 c_tokens c_tKind c_tPlace c_tSize c_tValue → Ok (k9 x1 x2 c_tokens c_tKind c_tPlace c_tSize c_tValue) Q) (x5 : Int64) (h5 : x5 = Int64.ofNat (pk (fun j => (c_text (k + j)).toInt.toNat) 1)) : ∀ (n : Nat) (x4 : Int32), 1 ≤ x4.toInt → k + x4.toInt ≤ L → (L : Int) < k + x4.toInt + n → (∀ j : Nat, 1 ≤ j → (j : Int) < x4.toInt → (isLt (c_text (k + j)).toInt || isDg (c_text (k + j)).toInt) = true) → Ok (f_X11_lex_80 k9 c_size c_text n x1 x4 x5 c_tokens c_tKind c_tPlace c_tSize c_tValue) Q
  | 0, x4, g1, g2, g3, g4 => by exfalso; omega
  | n + 1, x4, g1, g2, g3, g4 => by
    unfold f_X11_lex_80 f_X11_lex_108
    have e14 : (x1 + x4).toInt = x1.toInt + x4.toInt := by ((try simp only [tI_lt, tI_le, tI_eq, tI_add, tI_sub, tI_mul, tI_nat, Int32.reduceToInt, Int.reduceToNat, fe_0, fe_1, fe_2, fe_3, fe_4, fe_5]) <;> (try simp (disch := omega) only [tI_bm]) <;> omega)
    have en : (x1 + x4).toInt.toNat = k + x4.toInt.toNat := by omega
    have eb := m_byte (x1 + x4) c_size c_text L hs hL (by omega)
    rw [en] at eb
    have cl := close_len c_text k hm4
    have bl := bA_lt c_text L (k + x4.toInt.toNat) hB
    have bd := bA_dg c_text L (k + x4.toInt.toNat) hB
    unfold bA at bl bd
    have hpos : ∀ j, j < x4.toInt.toNat → 1 ≤ (c_text (k + j)).toInt ∧ (c_text (k + j)).toInt < 128 := fun j hj => by
      by_cases z : j = 0
      · rw [z]
        have := lt_pos hl
        rw [isLt_t] at hl
        show 1 ≤ (c_text k).toInt ∧ (c_text k).toInt < 128
        omega
      · exact al_pos (g4 j (by omega) (by omega))
    have more : (decide (k + x4.toInt.toNat < L) && (isLt (c_text (k + x4.toInt.toNat)).toInt || isDg (c_text (k + x4.toInt.toNat)).toInt)) = true → Ok (vlet (x4 + 1) fun t1 => (f_X11_lex_80 k9 c_size c_text n x1 t1 x5 c_tokens c_tKind c_tPlace c_tSize c_tValue)) Q := by
      intro q
      rw [Bool.and_eq_true, decide_eq_true_eq] at q
      have e4 : (x4 + 1).toInt = x4.toInt + 1 := by ((try simp only [tI_lt, tI_le, tI_eq, tI_add, tI_sub, tI_mul, tI_nat, Int32.reduceToInt, Int.reduceToNat, fe_0, fe_1, fe_2, fe_3, fe_4, fe_5]) <;> (try simp (disch := omega) only [tI_bm]) <;> omega)
      refine ok_vlet (m_80 k9 c_size c_text x1 c_tokens c_tKind c_tPlace c_tSize c_tValue L hs hL hB k hkL hx1 hl hm4 htk hMT hst hk x5 h5 n _ (by omega) (by omega) (by omega) (fun j j1 j2 => ?_))
      by_cases z : (j : Int) < x4.toInt
      · exact g4 j j1 z
      · have : j = x4.toInt.toNat := by omega
        rw [this]
        exact q.2
    have done : ¬ (decide (k + x4.toInt.toNat < L) && (isLt (c_text (k + x4.toInt.toNat)).toInt || isDg (c_text (k + x4.toInt.toNat)).toInt)) = true → Ok (f_X11_lex_117 k9 c_size c_text FU x1 x4 x5 (1 : Int32) c_tokens c_tKind c_tPlace c_tSize c_tValue) Q := by
      intro q
      refine m_117 k9 c_size c_text x1 x4 c_tokens c_tKind c_tPlace c_tSize c_tValue L hs hL hB (by omega) k x4.toInt.toNat (by omega) (fun j hj => by have := hpos j hj; omega) hx1 (by omega) ?_ FU x5 1 (by decide) (by decide) (by rw [show (1 : Int32).toInt = 1 from by decide]; omega) (by rw [FU_eq]; decide) (by rw [show (1 : Int32).toInt.toNat = 1 from by decide]; exact h5)
      have et : (c_tokens + 1).toInt = c_tokens.toInt + 1 := by ((try simp only [tI_lt, tI_le, tI_eq, tI_add, tI_sub, tI_mul, tI_nat, Int32.reduceToInt, Int.reduceToNat, fe_0, fe_1, fe_2, fe_3, fe_4, fe_5]) <;> (try simp (disch := omega) only [tI_bm]) <;> omega)
      refine hk _ _ _ _ _ _ _ (by omega) (by omega) ?_
      rw [en]
      by_cases b : 8 < x4.toInt
      · rw [if_pos b, if_pos b]
        left
        have w := wfold c_text k (lclose (lfold c_text k)) hst hl 8 (fun j j1 j2 => g4 j j1 (by omega))
        rw [if_neg (by omega)] at w
        have hbad := lfold_bad c_text (k + (8 + 1)) (by rw [w]) (L - (k + (8 + 1)))
        rw [show k + (8 + 1) + (L - (k + (8 + 1))) = L by omega, w] at hbad
        have hS : lend (lfold c_text L) = (4, 0, 9) :: lclose (lfold c_text k) := by
          rw [hbad]
          unfold lend
          rw [if_pos rfl]
        rw [hS]
        refine ⟨rfl, by rw [List.length_cons]; omega, by omega, MT_push _ _ _ _ _ _ _ _ (by omega) _ _ _ _ _ hMT rfl (fun z => by rcases z with z | z | z <;> exact absurd z (by decide)) (fun z => absurd z (by decide))⟩
      · rw [if_neg b, if_neg b]
        right
        have w := wfold c_text k (lclose (lfold c_text k)) hst hl (x4.toInt.toNat - 1) (fun j j1 j2 => g4 j j1 (by omega))
        rw [show x4.toInt.toNat - 1 + 1 = x4.toInt.toNat by omega, if_pos (by omega)] at w
        have hmin : min x4.toInt.toNat 8 = x4.toInt.toNat := by omega
        rw [hmin, w]
        refine ⟨rfl, by omega, by show ¬ (1 : Nat) = 4; decide, ?_, ?_, fun hlt => ?_⟩
        · show _ = (((1, _, _) :: lclose (lfold c_text k) : List TkT).length : Int)
          rw [List.length_cons]; omega
        · refine MT_push _ _ _ _ _ _ (lclose (lfold c_text k)) _ (by omega) (1, _, x4.toInt.toNat) _ _ _ _ hMT rfl (fun _ => rfl) (fun _ => ⟨by show x4.toInt = ((x4.toInt.toNat : Nat) : Int); omega, by omega, by show x1.toInt + ((x4.toInt.toNat : Nat) : Int) ≤ L; omega, ?_, ?_⟩)
          · rw [show x1.toInt.toNat = k by omega]
          · rw [show x1.toInt.toNat = k by omega]
            exact hpos
        · rw [decide_eq_true hlt, Bool.true_and, Bool.or_comm] at q
          unfold lstep lclose
          rw [if_neg (show ¬ (1 : Nat) = 4 by decide), if_neg (show ¬ (1 : Nat) = 0 by decide), if_neg (by simpa using q), if_neg (show ¬ (1 : Nat) = 0 by decide)]
    refine ok_eq eb (ok_eq (m_isLt _) ?_)
    rw [bl]
    by_cases q1 : (decide (k + x4.toInt.toNat < L) && isLt (c_text (k + x4.toInt.toNat)).toInt) = true
    · rw [if_pos q1, if_neg (by decide)]
      refine more ?_
      rw [Bool.and_eq_true] at q1 ⊢
      rw [Bool.or_eq_true]
      exact ⟨q1.1, .inl q1.2⟩
    · rw [if_neg q1, if_pos rfl]
      refine ok_eq eb (ok_eq (m_isDg _) ?_)
      rw [bd]
      by_cases q2 : (decide (k + x4.toInt.toNat < L) && isDg (c_text (k + x4.toInt.toNat)).toInt) = true
      · rw [if_pos q2, if_neg (by decide)]
        refine more ?_
        rw [Bool.and_eq_true] at q2 ⊢
        rw [Bool.or_eq_true]
        exact ⟨q2.1, .inr q2.2⟩
      · rw [if_neg q2, if_pos rfl]
        refine done ?_
        rw [Bool.and_eq_true] at q1 q2 ⊢
        rw [Bool.or_eq_true]
        exact fun z => z.2.elim (fun y => q1 ⟨z.1, y⟩) (fun y => q2 ⟨z.1, y⟩)
set_option maxHeartbeats 400000 in
theorem pd_lt (f : Nat → Nat) : ∀ n, (∀ j, j < n → f j < 10) → pd f n < 10 ^ n
  | 0, _ => by show 0 < 10 ^ 0; decide
  | n + 1, h => by
    have h1 := pd_lt f n (fun j hj => h j (by omega))
    have h3 := h n (by omega)
    rw [Nat.pow_succ]
    show pd f n * 10 + f n < _
    generalize 10 ^ n = P at *
    omega
set_option maxHeartbeats 400000 in
theorem L_num2 {a : Nat} {x : Int32} (h : a < 10000) (h1 : 48 ≤ x.toInt) (h2 : x.toInt ≤ 57) : 10 * Int64.ofNat a + x.toInt64 - 48 = Int64.ofNat (a * 10 + (x.toInt - 48).toNat) := by
  rw [Int64.mul_comm]
  exact L_num h h1 h2
set_option maxHeartbeats 400000 in
theorem e_266 (k9 : Int32 → Int32 → Int32 → (Nat → Int32) → (Nat → Int32) → (Nat → Int32) → (Nat → Int64) → Option (Int32 × (Nat → Int32) × (Nat → Int32) × (Nat → Int32) × (Nat → Int64))) (c_size : Int32) (c_text : Nat → Int32) (x1 : Int32) (x4 : Int32) (x5 : Int64) (y0 : Int32) (c_tokens : Int32) (c_tKind : Nat → Int32) (c_tPlace : Nat → Int32) (c_tSize : Nat → Int32) (c_tValue : Nat → Int64) (h : 0 ≤ c_tokens.toInt ∧ c_tokens.toInt < 4001) : (f_X11_lex_266 k9 c_size c_text x1 x4 x5 y0 c_tokens c_tKind c_tPlace c_tSize c_tValue) = k9 (x1 + x4) y0 (c_tokens + 1) (upd c_tKind c_tokens.toInt.toNat (if y0 = 0 then 4 else 2)) (upd c_tPlace c_tokens.toInt.toNat x1) (upd c_tSize c_tokens.toInt.toNat x4) (vp_updL c_tValue c_tokens.toInt.toNat x5) := by
  unfold f_X11_lex_266
  by_cases a : y0 = 0
  · rw [if_pos a, e_277 _ _ _ _ _ _ _ _ _ _ _ _ _ h, if_pos a]
  · rw [if_neg a, e_277 _ _ _ _ _ _ _ _ _ _ _ _ _ h, if_neg a]
set_option maxHeartbeats 400000 in
theorem m_202 (k9 : Int32 → Int32 → Int32 → (Nat → Int32) → (Nat → Int32) → (Nat → Int32) → (Nat → Int64) → Option (Int32 × (Nat → Int32) × (Nat → Int32) × (Nat → Int32) × (Nat → Int64))) (c_size : Int32) (c_text : Nat → Int32) (x1 c_tokens : Int32) (c_tKind c_tPlace c_tSize : Nat → Int32) (c_tValue : Nat → Int64) (L : Nat) (hs : c_size.toInt = L) (hL : L ≤ 4000) (hB : BY c_text L) {Q} (k : Nat) (hkL : k < L) (hx1 : x1.toInt = k) (hl : isDg (c_text k).toInt = true) (hm4 : (lfold c_text k).2.1 ≠ 4) (htk : c_tokens.toInt = (lclose (lfold c_text k)).length) (hMT : MT c_text L c_tKind c_tPlace c_tSize c_tValue (lclose (lfold c_text k))) (hst : lstep (lfold c_text k) (c_text k).toInt = lbegin (lclose (lfold c_text k)) (c_text k).toInt) (hk : ∀ (x1 x2 c_tokens : Int32) (c_tKind c_tPlace c_tSize : Nat → Int32) (c_tValue : Nat → Int64), (k : Int) < x1.toInt → x1.toInt ≤ L + 1 → MAt c_text L x1.toInt.toNat x2 c_tokens c_tKind c_tPlace c_tSize c_tValue → Ok (k9 x1 x2 c_tokens c_tKind c_tPlace c_tSize c_tValue) Q) : ∀ (n : Nat) (x4 : Int32) (x5 : Int64), 1 ≤ x4.toInt → k + x4.toInt ≤ L → (L : Int) < k + x4.toInt + n → (∀ j : Nat, 1 ≤ j → (j : Int) < x4.toInt → isDg (c_text (k + j)).toInt = true) → (x4.toInt ≤ 4 → x5 = Int64.ofNat (pd (fun j => ((c_text (k + j)).toInt - 48).toNat) x4.toInt.toNat)) → Ok (f_X11_lex_202 k9 c_size c_text n x1 x4 x5 c_tokens c_tKind c_tPlace c_tSize c_tValue) Q
  | 0, x4, x5, g1, g2, g3, g4, g5 => by exfalso; omega
  | n + 1, x4, x5, g1, g2, g3, g4, g5 => by
    unfold f_X11_lex_202 f_X11_lex_247
    have e14 : (x1 + x4).toInt = x1.toInt + x4.toInt := by ((try simp only [tI_lt, tI_le, tI_eq, tI_add, tI_sub, tI_mul, tI_nat, Int32.reduceToInt, Int.reduceToNat, fe_0, fe_1, fe_2, fe_3, fe_4, fe_5]) <;> (try simp (disch := omega) only [tI_bm]) <;> omega)
    have en : (x1 + x4).toInt.toNat = k + x4.toInt.toNat := by omega
    have eb := m_byte (x1 + x4) c_size c_text L hs hL (by omega)
    rw [en] at eb
    have cl := close_len c_text k hm4
    have bd := bA_dg c_text L (k + x4.toInt.toNat) hB
    unfold bA at bd
    have e4 : (x4 + 1).toInt = x4.toInt + 1 := by ((try simp only [tI_lt, tI_le, tI_eq, tI_add, tI_sub, tI_mul, tI_nat, Int32.reduceToInt, Int.reduceToNat, fe_0, fe_1, fe_2, fe_3, fe_4, fe_5]) <;> (try simp (disch := omega) only [tI_bm]) <;> omega)
    have e44 : (x4 + 1).toInt.toNat = x4.toInt.toNat + 1 := by omega
    refine ok_eq eb (ok_eq (m_isDg _) ?_)
    rw [bd]
    by_cases q : (decide (k + x4.toInt.toNat < L) && isDg (c_text (k + x4.toInt.toNat)).toInt) = true
    · rw [if_pos q, if_neg (by decide)]
      rw [Bool.and_eq_true, decide_eq_true_eq] at q
      have ih : ∀ y, ((x4 + 1).toInt ≤ 4 → y = Int64.ofNat (pd (fun j => ((c_text (k + j)).toInt - 48).toNat) (x4 + 1).toInt.toNat)) → Ok (vlet (x4 + 1) fun t1 => (f_X11_lex_202 k9 c_size c_text n x1 t1 y c_tokens c_tKind c_tPlace c_tSize c_tValue)) Q := fun y hy => by
        refine ok_vlet (m_202 k9 c_size c_text x1 c_tokens c_tKind c_tPlace c_tSize c_tValue L hs hL hB k hkL hx1 hl hm4 htk hMT hst hk n _ _ (by omega) (by omega) (by omega) (fun j j1 j2 => ?_) hy)
        by_cases z : (j : Int) < x4.toInt
        · exact g4 j j1 z
        · have : j = x4.toInt.toNat := by omega
          rw [this]
          exact q.2
      by_cases b : (4 : Int32) ≤ x4
      · rw [if_pos b]
        rw [tI_le, show (4 : Int32).toInt = 4 from by decide] at b
        exact ih _ (fun z => by omega)
      · rw [if_neg b]
        rw [tI_le, show (4 : Int32).toInt = 4 from by decide] at b
        refine ok_eq eb (ih _ (fun _ => ?_))
        have q2 := q.2
        rw [isDg_t] at q2
        have bv := bA_v c_text L (k + x4.toInt.toNat) hB q.1 (by omega)
        unfold bA at bv
        rw [g5 (by omega), e44]
        have pl := pd_lt (fun j => ((c_text (k + j)).toInt - 48).toNat) x4.toInt.toNat (fun j hj => by
          have : isDg (c_text (k + j)).toInt = true := by
            by_cases z : j = 0
            · rw [z]; exact hl
            · exact g4 j (by omega) (by omega)
          rw [isDg_t] at this
          show ((c_text (k + j)).toInt - 48).toNat < 10
          omega)
        have p4 := pow_le4 (show x4.toInt.toNat ≤ 4 by omega)
        rw [L_num2 (x := if k + x4.toInt.toNat < L then c_text (k + x4.toInt.toNat) &&& 255 else 0) (by generalize 10 ^ x4.toInt.toNat = P at pl p4; omega) (by rw [bv]; omega) (by rw [bv]; omega), bv]
        rfl
    · rw [if_neg q, if_pos rfl]
      have et : (c_tokens + 1).toInt = c_tokens.toInt + 1 := by ((try simp only [tI_lt, tI_le, tI_eq, tI_add, tI_sub, tI_mul, tI_nat, Int32.reduceToInt, Int.reduceToNat, fe_0, fe_1, fe_2, fe_3, fe_4, fe_5]) <;> (try simp (disch := omega) only [tI_bm]) <;> omega)
      have ht : 0 ≤ c_tokens.toInt ∧ c_tokens.toInt < 4001 := by omega
      by_cases b : (4 : Int32) < x4
      · rw [if_pos b, e_266 _ _ _ _ _ _ _ _ _ _ _ _ ht]
        rw [tI_lt, show (4 : Int32).toInt = 4 from by decide] at b
        refine hk _ _ _ _ _ _ _ (by omega) (by omega) ?_
        rw [en]
        left
        have w := dfold c_text k (lclose (lfold c_text k)) hst hl 4 (fun j j1 j2 => g4 j j1 (by omega))
        rw [if_neg (by omega)] at w
        have hbad := lfold_bad c_text (k + (4 + 1)) (by rw [w]) (L - (k + (4 + 1)))
        rw [show k + (4 + 1) + (L - (k + (4 + 1))) = L by omega, w] at hbad
        have hS : lend (lfold c_text L) = (4, 0, 5) :: lclose (lfold c_text k) := by
          rw [hbad]
          unfold lend
          rw [if_pos rfl]
        rw [hS]
        refine ⟨rfl, by rw [List.length_cons]; omega, by omega, MT_push _ _ _ _ _ _ (lclose (lfold c_text k)) _ (by omega) _ _ _ _ _ hMT rfl (fun z => by rcases z with z | z | z <;> exact absurd z (by decide)) (fun z => absurd z (by decide))⟩
      · rw [if_neg b, e_266 _ _ _ _ _ _ _ _ _ _ _ _ ht]
        rw [tI_lt, show (4 : Int32).toInt = 4 from by decide] at b
        refine hk _ _ _ _ _ _ _ (by omega) (by omega) ?_
        rw [en]
        right
        have w := dfold c_text k (lclose (lfold c_text k)) hst hl (x4.toInt.toNat - 1) (fun j j1 j2 => g4 j j1 (by omega))
        rw [show x4.toInt.toNat - 1 + 1 = x4.toInt.toNat by omega, if_pos (by omega)] at w
        rw [w, g5 (by omega)]
        refine ⟨rfl, by omega, by show ¬ (2 : Nat) = 4; decide, ?_, ?_, fun hlt => ?_⟩
        · show _ = (((2, _, _) :: lclose (lfold c_text k) : List TkT).length : Int)
          rw [List.length_cons]; omega
        · exact MT_push _ _ _ _ _ _ (lclose (lfold c_text k)) _ (by omega) (2, _, x4.toInt.toNat) _ _ _ _ hMT rfl (fun _ => rfl) (fun z => absurd z (show ¬ (2 : Nat) = 1 by decide))
        · rw [decide_eq_true hlt, Bool.true_and] at q
          unfold lstep lclose
          rw [if_neg (show ¬ (2 : Nat) = 4 by decide), if_neg (show ¬ (2 : Nat) = 0 by decide), if_neg (by simpa using q), if_neg (show ¬ (2 : Nat) = 0 by decide)]
