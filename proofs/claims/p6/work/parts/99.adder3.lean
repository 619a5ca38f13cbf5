/-! the adder's TEXT is one, and how many relays it tells -/
def lstL (s : LxS) (c : Nat) : LxS := lstep s (c : Int)
def lrun : List Nat → LxS → LxS
  | [], s => s
  | c :: r, s => lrun r (lstL s c)
set_option maxHeartbeats 400000 in
theorem lrun_app : ∀ (a b : List Nat) (s : LxS), lrun (a ++ b) s = lrun b (lrun a s)
  | [], _, _ => rfl
  | c :: a, b, s => lrun_app a b (lstL s c)
set_option maxHeartbeats 400000 in
theorem lfold_CT (l : List Nat) (size : Int32) (text : Nat → Int32) (h : CT l size text) : ∀ k, k ≤ l.length → lfold text k = lrun (l.take k) ([], 0, 0, 0)
  | 0, _ => rfl
  | k + 1, hk => by
    show lstep (lfold text k) (text k).toInt = _
    rw [lfold_CT l size text h k (by omega), h.2 k (by omega)]
    have e : l.take (k + 1) = l.take k ++ [l.getD k 0] := by
      rw [List.take_succ_eq_append_getElem (by omega), List.getD_eq_getElem?_getD, List.getElem?_eq_getElem (by omega)]; rfl
    rw [e, lrun_app]
    rfl
def stmtsL (l : List Nat) : Option (List StT) := txt (pText 4002 (lend (lrun l ([], 0, 0, 0))).reverse) []
set_option maxHeartbeats 400000 in
theorem stmtsT_CT (l : List Nat) (size : Int32) (text : Nat → Int32) (h : CT l size text) : stmtsT text l.length = stmtsL l := by
  unfold stmtsT toksT stmtsL
  rw [lfold_CT l size text h l.length (Nat.le_refl _), List.take_length]
def accB (o : Option (List StT)) : Bool := match o with
  | none => false
  | some S => okS S && (pnsOf S).all (fun q => okPin S q.1 q.2.1)
set_option maxHeartbeats 400000 in
theorem accB_t {o : Option (List StT)} (h : accB o = true) : accT o := by
  cases o with
  | none => cases h
  | some S =>
    have h' : (okS S && (pnsOf S).all (fun q => okPin S q.1 q.2.1)) = true := h
    rw [Bool.and_eq_true] at h'
    exact ⟨h'.1, fun q hq => List.all_eq_true.mp h'.2 q hq⟩
set_option maxHeartbeats 400000 in
theorem ad_ok : ∀ n, n < 8 → 1 ≤ n → accB (stmtsL (adT n)) = true ∧ cnt 0 (getT (stmtsL (adT n))) = 2 * n := by decide +kernel
/-! the reference's adder -/
set_option maxHeartbeats 400000 in
theorem s_adder_20 : ∀ (n : Nat) (x1 : Int32) (x2 : Int32) (c_size : Int32) (c_tokens : Int32) (c_at : Int32) (c_fault : Int32) (c_faultAt : Int32) (c_side : Int32) (c_fresh : Int32) (c_kept : Int32) (c_raceTick : Int32) (c_text : Nat → Int32) (c_tKind : Nat → Int32) (c_tPlace : Nat → Int32) (c_tSize : Nat → Int32) (c_tValue : Nat → Int64) (c_many : Nat → Int32) (c_nameSize : Nat → Int32) (c_one : Nat → Int32) (c_two : Nat → Int32) (c_kinds : Nat → Int32) (c_kindBits : Nat → Int32) (c_names : Nat → Int32) (c_netOf : Nat → Int32) (c_isTold : Nat → Int32) (c_soFar : Nat → Int32) (c_state : Nat → Int32) (c_stuck : Nat → Int32) (c_dusty : Nat → Int32) (σ m i : Nat), c_side.toInt = σ → σ ≤ 1 → x1 = Int32.ofNat m → 1 ≤ m → m ≤ 7 → x2 = Int32.ofNat i → i ≤ m → m - i < n → CT (adB i) c_size c_text → GB c_nameSize c_kinds → Ok (f_X11_adder_20 n x1 x2 c_size c_tokens c_at c_fault c_faultAt c_side c_fresh c_kept c_raceTick c_text c_tKind c_tPlace c_tSize c_tValue c_many c_nameSize c_one c_two c_kinds c_kindBits c_names c_netOf c_isTold c_soFar c_state c_stuck c_dusty) (fun r => r.1 = r.2.2.2.2.2.2.2.2.2.2.2.2.2.2.2.1 (5 * (1 - σ)) ∧ ∃ (L : Nat) (ret : Int32), RdP (1 - σ) L c_side c_kept c_raceTick c_many c_nameSize c_one c_two c_kinds c_kindBits c_names c_netOf c_isTold c_state c_stuck c_dusty (getT (stmtsL (adT m))) True ret r.2.2.2.2.2.2.1 r.2.2.2.2.2.2.2.2.1 r.2.2.2.2.2.2.2.2.2.1 r.2.2.2.2.2.2.2.2.2.2.2.2.2.2.2.1 r.2.2.2.2.2.2.2.2.2.2.2.2.2.2.2.2.1 r.2.2.2.2.2.2.2.2.2.2.2.2.2.2.2.2.2.1 r.2.2.2.2.2.2.2.2.2.2.2.2.2.2.2.2.2.2.1 r.2.2.2.2.2.2.2.2.2.2.2.2.2.2.2.2.2.2.2.1 r.2.2.2.2.2.2.2.2.2.2.2.2.2.2.2.2.2.2.2.2.1 r.2.2.2.2.2.2.2.2.2.2.2.2.2.2.2.2.2.2.2.2.2.1 r.2.2.2.2.2.2.2.2.2.2.2.2.2.2.2.2.2.2.2.2.2.2.1 r.2.2.2.2.2.2.2.2.2.2.2.2.2.2.2.2.2.2.2.2.2.2.2.1 r.2.2.2.2.2.2.2.2.2.2.2.2.2.2.2.2.2.2.2.2.2.2.2.2.2.1 r.2.2.2.2.2.2.2.2.2.2.2.2.2.2.2.2.2.2.2.2.2.2.2.2.2.2.1 r.2.2.2.2.2.2.2.2.2.2.2.2.2.2.2.2.2.2.2.2.2.2.2.2.2.2.2)
  | 0, x1, x2, c_size, c_tokens, c_at, c_fault, c_faultAt, c_side, c_fresh, c_kept, c_raceTick, c_text, c_tKind, c_tPlace, c_tSize, c_tValue, c_many, c_nameSize, c_one, c_two, c_kinds, c_kindBits, c_names, c_netOf, c_isTold, c_soFar, c_state, c_stuck, c_dusty, σ, m, i, hs, hσ, h1, m1, hm, h2, hi, hn, h, hG => absurd hn (Nat.not_lt_zero _)
  | n + 1, x1, x2, c_size, c_tokens, c_at, c_fault, c_faultAt, c_side, c_fresh, c_kept, c_raceTick, c_text, c_tKind, c_tPlace, c_tSize, c_tValue, c_many, c_nameSize, c_one, c_two, c_kinds, c_kindBits, c_names, c_netOf, c_isTold, c_soFar, c_state, c_stuck, c_dusty, σ, m, i, hs, hσ, h1, m1, hm, h2, hi, hn, h, hG => by
    unfold f_X11_adder_20
    have e1 : x1.toInt = m := by rw [h1]; exact Int32.toInt_ofNat_of_lt (by omega)
    have e2 : x2.toInt = i := by rw [h2]; exact Int32.toInt_ofNat_of_lt (by omega)
    have hl := adB_len i (by omega)
    refine ok_if (fun q => ?_) (fun q => ?_)
    · rw [tI_le] at q
      have : i = m := by omega
      subst this
      rw [endO_eq]
      have el := endO_len i (by omega)
      refine ok_bind (s_ops x1 i e1 hm endO c_size c_text (adB i) endO_ok h (by omega)) (fun r1 q1 => ?_)
      rw [end_eq i (by omega)] at q1
      have q1' : CT (adT i) r1.1 r1.2 := q1
      have al : (adT i).length ≤ 4000 := by
        unfold adT
        rw [List.length_append, hl, endL_len i (by omega)]
        omega
      have hB : BY r1.2 (adT i).length := fun k hk => by
        have := q1'.2 k hk
        have hb : (adT i).getD k 0 < 128 := by
          have hall : ∀ n, n < 8 → (adT n).all (fun c => decide (c < 128)) = true := by decide +kernel
          have := List.all_eq_true.mp (hall i (by omega)) ((adT i).getD k 0) (by
            rw [List.getD_eq_getElem?_getD, List.getElem?_eq_getElem hk]
            exact List.getElem_mem hk)
          rw [decide_eq_true_eq] at this
          exact this
        omega
      refine ok_bind (s_reads (c_size := r1.1) (c_text := r1.2) (c_tokens := c_tokens) (c_at := c_at) (c_fault := c_fault) (c_faultAt := c_faultAt) (c_side := c_side) (c_fresh := c_fresh) (c_kept := c_kept) (c_raceTick := c_raceTick) (c_tKind := c_tKind) (c_tPlace := c_tPlace) (c_tSize := c_tSize) (c_tValue := c_tValue) (c_many := c_many) (c_nameSize := c_nameSize) (c_one := c_one) (c_two := c_two) (c_kinds := c_kinds) (c_kindBits := c_kindBits) (c_names := c_names) (c_netOf := c_netOf) (c_isTold := c_isTold) (c_soFar := c_soFar) (c_state := c_state) (c_stuck := c_stuck) (c_dusty := c_dusty) σ (adT i).length hσ hs q1'.1 al hB hG) (fun r hr => ?_)
      rw [stmtsT_CT _ _ _ q1'] at hr
      have acc := accB_t (ad_ok i (by omega) m1).1
      obtain ⟨k1, k2, k3, k4⟩ := hr
      rcases k4 with ⟨a1, a2, a3, a4⟩ | ⟨a1, a2, a4⟩
      · have e5 : (5 * r.2.2.2.2.2.1).toInt = 5 * (1 - σ : Nat) := by
          generalize r.2.2.2.2.2.1 = w at a3
          have : (1 - σ : Nat) ≤ 1 := by omega
          generalize (1 - σ : Nat) = v at a3 this
          ((try simp only [tI_lt, tI_le, tI_eq, tI_add, tI_sub, tI_mul, tI_nat, Int32.reduceToInt, Int.reduceToNat, fe_0, fe_1, fe_2, fe_3, fe_4, fe_5]) <;> (try simp (disch := omega) only [tI_bm]) <;> omega)
        refine ok_bad (by omega) ?_
        have e6 : (5 * r.2.2.2.2.2.1).toNatClampNeg = 5 * (1 - σ) := by rw [tI_nat, e5]; omega
        rw [e6]
        exact ok_some ⟨rfl, (adT i).length, r.1, k1, k2, k3, .inl ⟨trivial, a2, a3, a4⟩⟩
      · exact absurd acc a1
    · rw [tI_le] at q
      have ee : (x2 + 1).toInt = i + 1 := by ((try simp only [tI_lt, tI_le, tI_eq, tI_add, tI_sub, tI_mul, tI_nat, Int32.reduceToInt, Int.reduceToNat, fe_0, fe_1, fe_2, fe_3, fe_4, fe_5]) <;> (try simp (disch := omega) only [tI_bm]) <;> omega)
      have e3 : x2 + 1 = Int32.ofNat (i + 1) := Int32.toInt_inj.mp (by rw [Int32.toInt_ofNat_of_lt (show i + 1 < 2 ^ 31 by omega)]; exact ee)
      have bl := bitO_len i (by omega)
      rw [bitO_eq]
      refine ok_bind (s_ops x2 i e2 (by omega) bitO c_size c_text (adB i) bitO_ok h (by omega)) (fun r4 q4 => ok_vlet ?_)
      rw [bit_eq i (by omega)] at q4
      exact s_adder_20 n _ _ _ _ _ _ _ _ _ _ _ _ _ _ _ _ _ _ _ _ _ _ _ _ _ _ _ _ _ σ m (i + 1) hs hσ h1 m1 hm e3 (by omega) (by omega) q4 hG
