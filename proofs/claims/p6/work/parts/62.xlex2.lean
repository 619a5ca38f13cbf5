/-! what holds of every token -/
def TV (t : TkT) : Prop := (t.1 = 1 ∧ t.2.1 < 9223372036854775808 ∧ 1 ≤ t.2.1 ∧ 1 ≤ t.2.2 ∧ t.2.2 ≤ 8 ∧ 2 * t.2.1 < 256 ^ t.2.2) ∨ (t.1 = 2 ∧ t.2.1 < 10000 ∧ 1 ≤ t.2.2 ∧ t.2.2 ≤ 4) ∨ (t.1 = 3 ∧ isSg t.2.1 = true ∧ t.2.2 = 1)
def wt : List TkT → Nat
  | [] => 0
  | t :: r => t.2.2 + wt r
def LV (s : LxS) (k : Nat) : Prop := (s.2.1 = 4 ∧ ∃ q r, s.1 = (4, 0, q) :: r ∧ (∀ t ∈ r, TV t) ∧ wt r ≤ k) ∨ (s.2.1 = 0 ∧ (∀ t ∈ s.1, TV t) ∧ wt s.1 ≤ k) ∨ (s.2.1 = 1 ∧ (∀ t ∈ s.1, TV t) ∧ wt s.1 + s.2.2.2 ≤ k ∧ 1 ≤ s.2.2.1 ∧ 2 * s.2.2.1 < 256 ^ s.2.2.2 ∧ 1 ≤ s.2.2.2 ∧ s.2.2.2 ≤ 8) ∨ (s.2.1 = 2 ∧ (∀ t ∈ s.1, TV t) ∧ wt s.1 + s.2.2.2 ≤ k ∧ s.2.2.1 < 10 ^ s.2.2.2 ∧ 1 ≤ s.2.2.2 ∧ s.2.2.2 ≤ 4)
set_option maxHeartbeats 400000 in
theorem LV_beg (rev : List TkT) (k : Nat) (c : Int) (h : ∀ t ∈ rev, TV t) (hw : wt rev ≤ k) : LV (lbegin rev c) (k + 1) := by
  unfold lbegin
  by_cases a : isBl c = true
  · rw [if_pos a]
    exact .inr (.inl ⟨rfl, h, by show wt rev ≤ k + 1; omega⟩)
  rw [if_neg a]
  by_cases b : isLt c = true
  · rw [if_pos b]
    have e := lt_pos b
    rw [isLt_t] at b
    refine .inr (.inr (.inl ⟨rfl, h, by show wt rev + 1 ≤ k + 1; omega, by show 1 ≤ c.toNat; omega, ?_, Nat.le_refl _, by show (1 : Nat) ≤ 8; omega⟩))
    show 2 * c.toNat < 256 ^ 1
    omega
  rw [if_neg b]
  by_cases d : isDg c = true
  · rw [if_pos d]
    have e := dg_pos d
    refine .inr (.inr (.inr ⟨rfl, h, by show wt rev + 1 ≤ k + 1; omega, ?_, Nat.le_refl _, by show (1 : Nat) ≤ 4; omega⟩))
    show (c - 48).toNat < 10 ^ 1
    omega
  rw [if_neg d]
  by_cases g : isSg c = true
  · rw [if_pos g]
    refine .inr (.inl ⟨rfl, fun t ht => ?_, by show 1 + wt rev ≤ k + 1; omega⟩)
    rcases List.mem_cons.mp ht with e | e
    · rw [e]
      refine .inr (.inr ⟨rfl, ?_, rfl⟩)
      show isSg ((c.toNat : Nat) : Int) = true
      have : ((c.toNat : Nat) : Int) = c := by rw [isSg_t] at g; omega
      rw [this]; exact g
    · exact h t e
  · rw [if_neg g]
    exact .inl ⟨rfl, 1, rev, rfl, h, by omega⟩
set_option maxHeartbeats 400000 in
theorem LV_step (s : LxS) (k : Nat) (c : Int) (h : LV s k) : LV (lstep s c) (k + 1) := by
  unfold lstep
  rcases h with ⟨m, q, r, e1, e2, e3⟩ | ⟨m, e2, e3⟩ | ⟨m, e2, e3, e4, e5, e6, e7⟩ | ⟨m, e2, e3, e4, e5, e6⟩
  · rw [if_pos m]
    exact .inl ⟨m, q, r, e1, e2, by omega⟩
  · rw [if_neg (by omega), if_pos m]
    exact LV_beg s.1 k c e2 e3
  · rw [if_neg (by omega), if_neg (by omega)]
    have pw := pow_le8 e7
    by_cases g : (isDg c || (decide (s.2.1 = 1) && isLt c)) = true
    · rw [if_pos g, if_pos m, if_pos m]
      simp only [m, decide_true, Bool.true_and, Bool.or_eq_true] at g
      have cp : 0 ≤ c ∧ c < 128 := g.elim (fun g => by rw [isDg_t] at g; omega) lt_pos
      by_cases b : 8 ≤ s.2.2.2
      · rw [if_pos b]
        exact .inl ⟨rfl, _, s.1, rfl, e2, by omega⟩
      · rw [if_neg b]
        refine .inr (.inr (.inl ⟨m, e2, by show wt s.1 + (s.2.2.2 + 1) ≤ k + 1; omega, by show 1 ≤ s.2.2.1 * 256 + c.toNat; omega, ?_, by show 1 ≤ s.2.2.2 + 1; omega, by show s.2.2.2 + 1 ≤ 8; omega⟩))
        show 2 * (s.2.2.1 * 256 + c.toNat) < 256 ^ (s.2.2.2 + 1)
        rw [Nat.pow_succ]
        generalize 256 ^ s.2.2.2 = P at e5 pw
        omega
    · rw [if_neg g]
      refine LV_beg _ k c (fun t ht => ?_) (by show s.2.2.2 + wt s.1 ≤ k; omega)
      rcases List.mem_cons.mp ht with e | e
      · rw [e]
        refine .inl ⟨m, ?_, e4, e6, e7, e5⟩
        show s.2.2.1 < _
        generalize 256 ^ s.2.2.2 = P at e5 pw
        omega
      · exact e2 t e
  · rw [if_neg (by omega), if_neg (by omega)]
    have pw := pow_le4 e6
    have m1 : ¬ s.2.1 = 1 := by omega
    by_cases g : (isDg c || (decide (s.2.1 = 1) && isLt c)) = true
    · rw [if_pos g, if_neg m1, if_neg m1]
      have cp : 0 ≤ c - 48 ∧ c - 48 < 10 := by
        simp only [m, Bool.or_eq_true, Bool.and_eq_true, decide_eq_true_eq] at g
        exact g.elim dg_pos (fun g => absurd g.1 (by decide))
      by_cases b : 4 ≤ s.2.2.2
      · rw [if_pos b]
        exact .inl ⟨rfl, _, s.1, rfl, e2, by omega⟩
      · rw [if_neg b]
        refine .inr (.inr (.inr ⟨m, e2, by show wt s.1 + (s.2.2.2 + 1) ≤ k + 1; omega, ?_, by show 1 ≤ s.2.2.2 + 1; omega, by show s.2.2.2 + 1 ≤ 4; omega⟩))
        show s.2.2.1 * 10 + (c - 48).toNat < 10 ^ (s.2.2.2 + 1)
        rw [Nat.pow_succ]
        generalize 10 ^ s.2.2.2 = P at e4 pw
        omega
    · rw [if_neg g]
      refine LV_beg _ k c (fun t ht => ?_) (by show s.2.2.2 + wt s.1 ≤ k; omega)
      rcases List.mem_cons.mp ht with e | e
      · rw [e]
        refine .inr (.inl ⟨m, ?_, e5, e6⟩)
        show s.2.2.1 < _
        generalize 10 ^ s.2.2.2 = P at e4 pw
        omega
      · exact e2 t e
set_option maxHeartbeats 400000 in
theorem LV_fold (t : Nat → Int32) : ∀ k, LV (lfold t k) k
  | 0 => .inr (.inl ⟨rfl, fun t h => absurd h List.not_mem_nil, Nat.le_refl _⟩)
  | k + 1 => LV_step _ k _ (LV_fold t k)
/-! the tokens, last first: all of them good but the last, which is the end or a bad one -/
def TKS (S : List TkT) (k : Nat) : Prop := ∃ e r, S = e :: r ∧ (e = (0, 0, 0) ∨ ∃ q, e = (4, 0, q)) ∧ (∀ t ∈ r, TV t) ∧ wt r ≤ k
set_option maxHeartbeats 400000 in
theorem TKS_end (t : Nat → Int32) (k : Nat) : TKS (lend (lfold t k)) k := by
  unfold lend
  rcases LV_fold t k with ⟨m, q, r, e1, e2, e3⟩ | ⟨m, e2, e3⟩ | ⟨m, e2, e3, e4, e5, e6, e7⟩ | ⟨m, e2, e3, e4, e5, e6⟩
  · rw [if_pos m, e1]
    exact ⟨_, _, rfl, .inr ⟨_, rfl⟩, e2, e3⟩
  · rw [if_neg (by omega), if_pos m]
    exact ⟨_, _, rfl, .inl rfl, e2, e3⟩
  · rw [if_neg (by omega), if_neg (by omega)]
    have pw := pow_le8 e7
    refine ⟨_, _, rfl, .inl rfl, fun t ht => ?_, by show (lfold _ k).2.2.2 + wt (lfold _ k).1 ≤ k; omega⟩
    rcases List.mem_cons.mp ht with e | e
    · rw [e]
      refine .inl ⟨m, ?_, e4, e6, e7, e5⟩
      show (lfold _ k).2.2.1 < _
      generalize 256 ^ (lfold _ k).2.2.2 = P at e5 pw
      omega
    · exact e2 t e
  · rw [if_neg (by omega), if_neg (by omega)]
    have pw := pow_le4 e6
    refine ⟨_, _, rfl, .inl rfl, fun t ht => ?_, by show (lfold _ k).2.2.2 + wt (lfold _ k).1 ≤ k; omega⟩
    rcases List.mem_cons.mp ht with e | e
    · rw [e]
      refine .inr (.inl ⟨m, ?_, e5, e6⟩)
      show (lfold _ k).2.2.1 < _
      generalize 10 ^ (lfold _ k).2.2.2 = P at e4 pw
      omega
    · exact e2 t e
set_option maxHeartbeats 400000 in
theorem XT_KW (kd0 kd : Nat → Int32) (vl : Nat → Int64) (size : Int) (hkd : ∀ i : Nat, kd i = if (i : Int) < size ∧ kd0 i = 1 then KW (vl i) else kd0 i) : ∀ (r : List TkT), (r.length : Int) ≤ size → (∀ t ∈ r, TV t ∨ t.1 = 0 ∨ t.1 = 4) → XT (fun _ => 1) kd0 vl r → XT wcode kd vl r
  | [], _, _, _ => trivial
  | t :: r, hl, hv, hx => by
    obtain ⟨h1, h2⟩ := hx
    rw [List.length_cons] at hl
    refine ⟨?_, XT_KW kd0 kd vl size hkd r (by omega) (fun t ht => hv t (List.mem_cons_of_mem _ ht)) h2⟩
    have k := hkd r.length
    rcases h1 with ⟨a, b, c⟩ | ⟨a, b, c⟩ | ⟨a, b, c⟩ | ⟨a, b⟩ | ⟨a, b⟩
    · refine .inl ⟨a, ?_, c⟩
      have b' : kd0 r.length = 1 := Int32.toInt_inj.mp (by rw [b]; exact (show ((1 : Nat) : Int) = (1 : Int32).toInt by decide))
      rw [k, if_pos ⟨by omega, b'⟩, c]
      have := hv t (List.mem_cons_self ..)
      refine KW_w ?_
      rcases this with q | q | q
      · rcases q with q | q | q <;> omega
      · omega
      · omega
    · rw [if_neg (fun q => by rw [b] at q; exact absurd q.2 (by decide))] at k
      exact .inr (.inl ⟨a, by rw [k]; exact b, c⟩)
    · have : ¬ kd0 r.length = 1 := fun q => by
        rw [q] at b
        rw [isSg_t] at c
        have e : (1 : Int32).toInt = 1 := by decide
        omega
      rw [if_neg (fun q => this q.2)] at k
      exact .inr (.inr (.inl ⟨a, by rw [k]; exact b, c⟩))
    · rw [if_neg (fun q => by rw [b] at q; exact absurd q.2 (by decide))] at k
      exact .inr (.inr (.inr (.inl ⟨a, by rw [k]; exact b⟩)))
    · rw [if_neg (fun q => by rw [b] at q; exact absurd q.2 (by decide))] at k
      exact .inr (.inr (.inr (.inr ⟨a, by rw [k]; exact b⟩)))
def XF (S : List TkT) (size : Int32) (kd : Nat → Int32) (vl : Nat → Int64) : Prop := (S.length : Int) ≤ size.toInt ∧ size.toInt ≤ 4001 ∧ XT wcode kd vl S
set_option maxHeartbeats 400000 in
theorem x_split_9 (c_length : Int32) (c_text : Nat → Int32) (hL : 0 ≤ c_length.toInt ∧ c_length.toInt ≤ 4000) : ∀ (n : Nat) (x1 : Int32) (x2 : Int32) (c_size : Int32) (c_kinds : Nat → Int32) (c_places : Nat → Int32) (c_values : Nat → Int64), 0 ≤ x2.toInt → x2.toInt ≤ c_length.toInt → c_length.toInt < x2.toInt + n → XL (lfold c_text x2.toInt.toNat) x2.toInt.toNat x1 c_size c_kinds c_places c_values → Ok (f_X7_split_9 c_length c_text n x1 x2 c_size c_kinds c_places c_values) (fun r => XF (lend (lfold c_text c_length.toInt.toNat)) r.1 r.2.1 r.2.2.2 ∧ PA r.2.2.1)
  | 0, x1, x2, c_size, c_kinds, c_places, c_values, h1, h2, h3, hX => by exfalso; omega
  | n + 1, x1, x2, c_size, c_kinds, c_places, c_values, h1, h2, h3, hX => by
    unfold f_X7_split_9
    refine ok_if (fun a => ?_) (fun a => ?_)
    · rw [tI_le] at a
      have e : x2.toInt = c_length.toInt := by omega
      rw [e] at hX
      obtain ⟨s1, s2, s3, s4, s5, s6, hpa⟩ := hX
      have hb : 0 ≤ c_size.toInt ∧ c_size.toInt < 4001 := by clear s3 s4 s5 s6; omega
      have es : (c_size + 1).toInt = c_size.toInt + 1 := by clear s3 s4 s5 s6; ((try simp only [tI_lt, tI_le, tI_eq, tI_add, tI_sub, tI_mul, tI_nat, Int32.reduceToInt, Int.reduceToNat, fe_0, fe_1, fe_2, fe_3, fe_4, fe_5]) <;> (try simp (disch := omega) only [tI_bm]) <;> omega)
      refine ok_eq (e_put _ _ _ _ _ _ _ hb) ?_
      dsimp only
      have tk := TKS_end c_text c_length.toInt.toNat
      refine x_96 c_length c_text (upd c_kinds c_size.toInt.toNat 3) FU _ _ _ _ _ (by decide) (by rw [show (0 : Int32).toInt = 0 from by decide]; omega) (by omega) (by rw [FU_eq, show (0 : Int32).toInt = 0 from by decide]; omega) (fun i => by rw [if_neg]; intro q; have := q.1; rw [show (0 : Int32).toInt = 0 from by decide] at this; omega) (fun kd hkd => ?_)
      obtain ⟨ee, r, t1, t2, t3, t4⟩ := tk
      have hlen : ((lend (lfold c_text c_length.toInt.toNat)).length : Int) ≤ (c_size + 1).toInt ∧ XT (fun _ => 1) (upd c_kinds c_size.toInt.toNat 3) (vp_updL c_values c_size.toInt.toNat 0) (lend (lfold c_text c_length.toInt.toNat)) := by
        unfold lend
        rcases s6 with m | m | m | m
        · obtain ⟨q1, q2, q3⟩ := s4 m
          rw [if_neg (by omega), if_pos m, List.length_cons]
          refine ⟨by omega, .inr (.inr (.inr (.inr ⟨rfl, ?_⟩))), XT_ne _ _ _ _ _ c_size.toInt.toNat (by omega) _ _ (.inr rfl) (.inr rfl) q1⟩
          rw [upd_at, if_pos (by omega)]
        · obtain ⟨q1, q2, q3, q4, q5, -⟩ := s5 (.inl m)
          rw [if_neg (by omega), if_neg (by omega), List.length_cons, List.length_cons]
          refine ⟨by omega, .inr (.inr (.inr (.inr ⟨rfl, ?_⟩))), .inl ⟨m, ?_, ?_⟩, XT_ne _ _ _ _ _ c_size.toInt.toNat (by omega) _ _ (.inr rfl) (.inr rfl) q1⟩
          · rw [upd_at, if_pos (by rw [List.length_cons]; omega)]
          · rw [upd_at, if_neg (by omega), q4, m]
          · rw [updL_at, if_neg (by omega)]; exact q5
        · obtain ⟨q1, q2, q3, q4, q5, -⟩ := s5 (.inr m)
          rw [if_neg (by omega), if_neg (by omega), List.length_cons, List.length_cons]
          refine ⟨by omega, .inr (.inr (.inr (.inr ⟨rfl, ?_⟩))), .inr (.inl ⟨m, ?_, ?_⟩), XT_ne _ _ _ _ _ c_size.toInt.toNat (by omega) _ _ (.inr rfl) (.inr rfl) q1⟩
          · rw [upd_at, if_pos (by rw [List.length_cons]; omega)]
          · rw [upd_at, if_neg (by omega)]
            exact Int32.toInt_inj.mp (by rw [q4, m]; decide)
          · rw [updL_at, if_neg (by omega)]; exact q5
        · obtain ⟨q, r, e1, e2, e3, e4⟩ := s3 m
          rw [if_pos m, e1, List.length_cons]
          refine ⟨by omega, .inr (.inr (.inr (.inl ⟨rfl, ?_⟩))), XT_ne _ _ _ _ _ c_size.toInt.toNat (by omega) _ _ (.inr rfl) (.inr rfl) e3⟩
          rw [upd_at, if_neg (by omega)]
          exact e2
      refine ⟨⟨hlen.1, by show (c_size + 1).toInt ≤ 4001; clear s3 s4 s5 s6; omega, XT_KW _ kd _ (c_size + 1).toInt hkd _ hlen.1 (fun t ht => ?_) hlen.2⟩, PA_up hpa _ _ hL.1⟩
      rw [t1] at ht
      rcases List.mem_cons.mp ht with q | q
      · rw [q]
        rcases t2 with z | ⟨z, z2⟩
        · rw [z]; exact .inr (.inl rfl)
        · rw [z2]; exact .inr (.inr rfl)
      · exact .inl (t3 t q)
    · rw [tI_le] at a
      have e1 : (x2 + 1).toInt = x2.toInt + 1 := by ((try simp only [tI_lt, tI_le, tI_eq, tI_add, tI_sub, tI_mul, tI_nat, Int32.reduceToInt, Int.reduceToNat, fe_0, fe_1, fe_2, fe_3, fe_4, fe_5]) <;> (try simp (disch := omega) only [tI_bm]) <;> omega)
      refine ok_bad (by omega) (ok_vlet ?_)
      rw [tI_nat]
      refine x_step _ c_length c_text x2 c_size c_kinds c_places c_values x1 _ (lfold c_text x2.toInt.toNat) x2.toInt.toNat hX (by omega) (by omega) (fun op size kd pl vl hX2 => ?_)
      refine x_split_9 c_length c_text hL n _ _ _ _ _ _ (by omega) (by omega) (by omega) ?_
      have e2 : (x2 + 1).toInt.toNat = x2.toInt.toNat + 1 := by omega
      rw [e2]
      exact hX2
set_option maxHeartbeats 400000 in
theorem s_X7_split (c_length : Int32) (c_size : Int32) (c_text : Nat → Int32) (c_kinds : Nat → Int32) (c_places : Nat → Int32) (c_values : Nat → Int64) (hL : 0 ≤ c_length.toInt ∧ c_length.toInt ≤ 4000) (hpa : PA c_places) : Ok (f_X7_split c_length c_size c_text c_kinds c_places c_values) (fun r => XF (lend (lfold c_text c_length.toInt.toNat)) r.1 r.2.1 r.2.2.2 ∧ PA r.2.2.1) := by
  unfold f_X7_split
  refine x_split_9 c_length c_text hL FU _ _ _ _ _ _ (by decide) (by rw [show (0 : Int32).toInt = 0 from by decide]; omega) (by rw [FU_eq, show (0 : Int32).toInt = 0 from by decide]; omega) ?_
  rw [show (0 : Int32).toInt.toNat = 0 from by decide]
  exact ⟨by decide, by decide, fun q => absurd q (show ¬ (0 : Nat) = 4 by decide), fun _ => ⟨trivial, by show (0 : Int32).toInt = ((0 : Nat) : Int); decide, rfl⟩, fun q => q.elim (fun q => absurd q (show ¬ (0 : Nat) = 1 by decide)) (fun q => absurd q (show ¬ (0 : Nat) = 2 by decide)), .inl rfl, hpa⟩
