set_option maxHeartbeats 400000 in
theorem lclose0 (rev : List TkT) : lclose (rev, 0, 0, 0) = rev := rfl
set_option maxHeartbeats 400000 in
theorem m_13 (k9 : Int32 → Int32 → Int32 → (Nat → Int32) → (Nat → Int32) → (Nat → Int32) → (Nat → Int64) → Option (Int32 × (Nat → Int32) × (Nat → Int32) × (Nat → Int32) × (Nat → Int64))) (c_size : Int32) (c_text : Nat → Int32) (L : Nat) (hs : c_size.toInt = L) (hL : L ≤ 4000) (hB : BY c_text L) {Q} : ∀ (n : Nat) (x1 c_tokens : Int32) (c_tKind c_tPlace c_tSize : Nat → Int32) (c_tValue : Nat → Int64) (k : Nat), x1.toInt = k → k ≤ L → L < k + n → MAt c_text L k 1 c_tokens c_tKind c_tPlace c_tSize c_tValue → (∀ (x1 x2 c_tokens : Int32) (c_tKind c_tPlace c_tSize : Nat → Int32) (c_tValue : Nat → Int64), (k : Int) < x1.toInt → x1.toInt ≤ L + 1 → MAt c_text L x1.toInt.toNat x2 c_tokens c_tKind c_tPlace c_tSize c_tValue → Ok (k9 x1 x2 c_tokens c_tKind c_tPlace c_tSize c_tValue) Q) → Ok (f_X11_lex_13 k9 c_size c_text n x1 c_tokens c_tKind c_tPlace c_tSize c_tValue) Q
  | 0, x1, c_tokens, c_tKind, c_tPlace, c_tSize, c_tValue, k, h1, h2, h3, h4, hk => by exfalso; omega
  | n + 1, x1, c_tokens, c_tKind, c_tPlace, c_tSize, c_tValue, k, h1, h2, h3, h4, hk => by
    unfold f_X11_lex_13
    rcases h4 with ⟨q, -⟩ | ⟨-, q1, hm4, htk, hMT, hst⟩
    · exact absurd q (by decide)
    have cl := close_len c_text k hm4
    have eb := m_byte x1 c_size c_text L hs hL (by omega)
    rw [show x1.toInt.toNat = k by omega] at eb
    have ht : 0 ≤ c_tokens.toInt ∧ c_tokens.toInt < 4001 := by omega
    have et : (c_tokens + 1).toInt = c_tokens.toInt + 1 := by ((try simp only [tI_lt, tI_le, tI_eq, tI_add, tI_sub, tI_mul, tI_nat, Int32.reduceToInt, Int.reduceToNat, fe_0, fe_1, fe_2, fe_3, fe_4, fe_5]) <;> (try simp (disch := omega) only [tI_bm]) <;> omega)
    have e1 : (x1 + 1).toInt = x1.toInt + 1 := by ((try simp only [tI_lt, tI_le, tI_eq, tI_add, tI_sub, tI_mul, tI_nat, Int32.reduceToInt, Int.reduceToNat, fe_0, fe_1, fe_2, fe_3, fe_4, fe_5]) <;> (try simp (disch := omega) only [tI_bm]) <;> omega)
    have e1n : (x1 + 1).toInt.toNat = k + 1 := by omega
    have blank : k < L → isBl (c_text k).toInt = true → Ok (f_X11_lex_33 k9 (f_X11_lex_13 k9 c_size c_text n) c_size c_text x1 c_tokens c_tKind c_tPlace c_tSize c_tValue) Q := by
      intro hkL hbl
      unfold f_X11_lex_33
      refine ok_vlet (m_13 k9 c_size c_text L hs hL hB n _ _ _ _ _ _ (k + 1) (by omega) (by omega) (by omega) ?_ (fun a b c d e f g i j l => hk a b c d e f g (by omega) j l))
      have hs1 : lfold c_text (k + 1) = (lclose (lfold c_text k), 0, 0, 0) := by
        show lstep (lfold c_text k) _ = _
        rw [hst hkL]
        unfold lbegin
        rw [if_pos hbl]
      right
      rw [hs1, lclose0]
      exact ⟨rfl, by omega, by show ¬ (0 : Nat) = 4; decide, htk, hMT, fun _ => by unfold lstep; rw [if_neg (show ¬ (0 : Nat) = 4 by decide), if_pos (show (0 : Nat) = 0 from rfl)]⟩
    by_cases hkL : k < L
    · rw [if_pos hkL] at eb
      have hb := hB k hkL
      obtain ⟨a1, a2, a3, a4, a5⟩ := b_and hb.1 hb.2
      refine ok_eq eb (ok_if (fun z => blank hkL ?_) (fun z1 => ok_eq eb (ok_if (fun z => blank hkL ?_) (fun z2 => ok_eq eb ?_))))
      · rw [← a3, z]; decide
      · rw [← a3, z]; decide
      have nb : ¬ isBl (c_text k).toInt = true := by
        rw [← a3, isBl_t]
        intro q
        rcases q with q | q
        · exact z1 (Int32.toInt_inj.mp (by rw [q]; decide))
        · exact z2 (Int32.toInt_inj.mp (by rw [q]; decide))
      rw [if_pos (show x1 < c_size by rw [tI_lt]; omega)]
      refine ok_eq (m_isLt _) ?_
      rw [a1]
      by_cases b : isLt (c_text k).toInt = true
      · rw [if_pos b, if_neg (by decide)]
        have bp := lt_pos b
        have b5 := a5 bp.1
        refine m_80 k9 c_size c_text x1 c_tokens c_tKind c_tPlace c_tSize c_tValue L hs hL hB k hkL h1 b hm4 htk hMT (hst hkL) hk _ ?_ FU 1 (by decide) (by rw [show (1 : Int32).toInt = 1 from by decide]; omega) (by rw [FU_eq, show (1 : Int32).toInt = 1 from by decide]; omega) (fun j j1 j2 => by rw [show (1 : Int32).toInt = 1 from by decide] at j2; omega)
        rw [I_toL (by omega), b5]
        show _ = Int64.ofNat (0 * 256 + (c_text (k + 0)).toInt.toNat)
        rw [Nat.zero_mul, Nat.zero_add, Nat.add_zero]
      rw [if_neg b, if_pos rfl]
      refine ok_eq (m_isDg _) ?_
      rw [a2]
      by_cases d : isDg (c_text k).toInt = true
      · rw [if_pos d, if_neg (by decide)]
        have d' := d
        rw [isDg_t] at d'
        have b5 := a5 (by omega)
        refine ok_vlet (m_202 k9 c_size c_text x1 c_tokens c_tKind c_tPlace c_tSize c_tValue L hs hL hB k hkL h1 d hm4 htk hMT (hst hkL) hk FU 1 _ (by decide) (by rw [show (1 : Int32).toInt = 1 from by decide]; omega) (by rw [FU_eq, show (1 : Int32).toInt = 1 from by decide]; omega) (fun j j1 j2 => by rw [show (1 : Int32).toInt = 1 from by decide] at j2; omega) (fun _ => ?_))
        have e48 : ((c_text k &&& 255) - 48).toInt = (c_text k).toInt - 48 := by
          rw [← b5] at d' ⊢
          generalize c_text k &&& 255 = w at d'
          ((try simp only [tI_lt, tI_le, tI_eq, tI_add, tI_sub, tI_mul, tI_nat, Int32.reduceToInt, Int.reduceToNat, fe_0, fe_1, fe_2, fe_3, fe_4, fe_5]) <;> (try simp (disch := omega) only [tI_bm]) <;> omega)
        rw [I_toL (by omega), e48]
        show _ = Int64.ofNat (0 * 10 + ((c_text (k + 0)).toInt - 48).toNat)
        rw [Nat.zero_mul, Nat.zero_add, Nat.add_zero]
      rw [if_neg d, if_pos rfl]
      have fin : ∀ y0 : Int32, (y0 = 1 ∧ isSg (c_text k).toInt = true) ∨ (y0 = 0 ∧ ¬ isSg (c_text k).toInt = true) → Ok (f_X11_lex_317 k9 c_size c_text x1 (1 : Int32) ((c_text k &&& 255).toInt64) y0 c_tokens c_tKind c_tPlace c_tSize c_tValue) Q := by
        intro y0 hy
        unfold f_X11_lex_317
        have hs1 : lfold c_text (k + 1) = lbegin (lclose (lfold c_text k)) (c_text k).toInt := hst hkL
        unfold lbegin at hs1
        rw [if_neg nb, if_neg b, if_neg d] at hs1
        rcases hy with ⟨y, g⟩ | ⟨y, g⟩
        · subst y
          rw [if_neg (by decide), e_328 _ _ _ _ _ _ _ _ _ _ _ _ _ ht]
          rw [if_pos g] at hs1
          refine hk _ _ _ _ _ _ _ (by omega) (by omega) ?_
          rw [e1n]
          right
          rw [hs1, lclose0]
          have b5 := a5 (by rw [isSg_t] at g; omega)
          refine ⟨rfl, by omega, by show ¬ (0 : Nat) = 4; decide, by rw [List.length_cons]; omega, ?_, fun _ => by unfold lstep; rw [if_neg (show ¬ (0 : Nat) = 4 by decide), if_pos (show (0 : Nat) = 0 from rfl)]⟩
          refine MT_push _ _ _ _ _ _ (lclose (lfold c_text k)) _ (by omega) (3, _, 1) _ _ _ _ hMT rfl (fun _ => ?_) (fun z => absurd z (show ¬ (3 : Nat) = 1 by decide))
          rw [I_toL (by rw [b5]; rw [isSg_t] at g; omega), b5]
        · subst y
          rw [if_pos rfl, e_328 _ _ _ _ _ _ _ _ _ _ _ _ _ ht]
          rw [if_neg g] at hs1
          refine hk _ _ _ _ _ _ _ (by omega) (by omega) ?_
          left
          have hbad := lfold_bad c_text (k + 1) (by rw [hs1]) (L - (k + 1))
          rw [show k + 1 + (L - (k + 1)) = L by omega, hs1] at hbad
          have hS : lend (lfold c_text L) = (4, 0, 1) :: lclose (lfold c_text k) := by
            rw [hbad]
            unfold lend
            rw [if_pos rfl]
          rw [hS]
          exact ⟨rfl, by rw [List.length_cons]; omega, by omega, MT_push _ _ _ _ _ _ (lclose (lfold c_text k)) _ (by omega) _ _ _ _ _ hMT rfl (fun z => by rcases z with z | z | z <;> exact absurd z (by decide)) (fun z => absurd z (by decide))⟩
      unfold f_X11_lex_312
      have sg : ∀ v : Int32, c_text k &&& 255 = v → isSg v.toInt = true → isSg (c_text k).toInt = true := fun v e1 e2 => by rw [← a4, e1]; exact e2
      refine ok_if (fun z => fin 1 (.inl ⟨rfl, sg _ z (by decide)⟩)) (fun z3 => ok_if (fun z => fin 1 (.inl ⟨rfl, sg _ z (by decide)⟩)) (fun z4 => ok_if (fun z => fin 1 (.inl ⟨rfl, sg _ z (by decide)⟩)) (fun z5 => ok_if (fun z => fin 1 (.inl ⟨rfl, sg _ z (by decide)⟩)) (fun z6 => fin 0 (.inr ⟨rfl, ?_⟩)))))
      rw [← a4, isSg_t]
      intro q
      rcases q with q | q | q | q
      · exact z3 (Int32.toInt_inj.mp (by rw [q]; decide))
      · exact z4 (Int32.toInt_inj.mp (by rw [q]; decide))
      · exact z5 (Int32.toInt_inj.mp (by rw [q]; decide))
      · exact z6 (Int32.toInt_inj.mp (by rw [q]; decide))
    · rw [if_neg hkL] at eb
      refine ok_eq eb ?_
      rw [if_neg (by decide)]
      refine ok_eq eb ?_
      rw [if_neg (by decide)]
      refine ok_eq eb ?_
      rw [if_neg (show ¬ x1 < c_size by rw [tI_lt]; omega)]
      unfold f_X11_lex_335
      refine ok_eq (e_token _ _ _ _ _ _ _ _ _ ht) ?_
      dsimp only [vlet]
      have ekL : k = L := by omega
      refine hk _ _ _ _ _ _ _ (by omega) (by omega) ?_
      left
      have hS : lend (lfold c_text L) = (0, 0, 0) :: lclose (lfold c_text k) := by
        rw [← ekL]
        exact lclose_end _ hm4
      rw [hS]
      exact ⟨rfl, by rw [List.length_cons]; omega, by omega, MT_push _ _ _ _ _ _ (lclose (lfold c_text k)) _ (by omega) _ _ _ _ _ hMT rfl (fun z => by rcases z with z | z | z <;> exact absurd z (by decide)) (fun z => absurd z (by decide))⟩
def MF (t : Nat → Int32) (L : Nat) (tokens : Int32) (kd pl sz : Nat → Int32) (vl : Nat → Int64) : Prop := tokens.toInt = (lend (lfold t L)).length ∧ tokens.toInt ≤ 4001 ∧ MT t L kd pl sz vl (lend (lfold t L))
set_option maxHeartbeats 400000 in
theorem m_9 (c_size : Int32) (c_text : Nat → Int32) (L : Nat) (hs : c_size.toInt = L) (hL : L ≤ 4000) (hB : BY c_text L) : ∀ (n : Nat) (x1 : Int32) (x2 : Int32) (c_tokens : Int32) (c_tKind : Nat → Int32) (c_tPlace : Nat → Int32) (c_tSize : Nat → Int32) (c_tValue : Nat → Int64), 0 ≤ x1.toInt → x1.toInt ≤ L + 1 → L + 3 < x1.toInt.toNat + n → MAt c_text L x1.toInt.toNat x2 c_tokens c_tKind c_tPlace c_tSize c_tValue → Ok (f_X11_lex_9 c_size c_text n x1 x2 c_tokens c_tKind c_tPlace c_tSize c_tValue) (fun r => MF c_text L r.1 r.2.1 r.2.2.1 r.2.2.2.1 r.2.2.2.2)
  | 0, x1, x2, c_tokens, c_tKind, c_tPlace, c_tSize, c_tValue, h1, h2, h3, h4 => by exfalso; omega
  | n + 1, x1, x2, c_tokens, c_tKind, c_tPlace, c_tSize, c_tValue, h1, h2, h3, h4 => by
    unfold f_X11_lex_9
    have h4' := h4
    rcases h4' with ⟨q, q1, q2, q3⟩ | ⟨q, q1, -⟩
    · rw [if_pos q]
      exact ok_some ⟨q1, q2, q3⟩
    · subst q
      rw [if_neg (by decide)]
      refine m_13 (f_X11_lex_9 c_size c_text n) c_size c_text L hs hL hB FU _ _ _ _ _ _ x1.toInt.toNat (by omega) q1 (by rw [FU_eq]; omega) h4 (fun a b c d e f g i j l => ?_)
      exact m_9 c_size c_text L hs hL hB n _ _ _ _ _ _ _ (by omega) j (by omega) l
set_option maxHeartbeats 400000 in
theorem s_X11_lex (c_size : Int32) (c_tokens : Int32) (c_text : Nat → Int32) (c_tKind : Nat → Int32) (c_tPlace : Nat → Int32) (c_tSize : Nat → Int32) (c_tValue : Nat → Int64) (L : Nat) (hs : c_size.toInt = L) (hL : L ≤ 4000) (hB : BY c_text L) : Ok (f_X11_lex c_size c_tokens c_text c_tKind c_tPlace c_tSize c_tValue) (fun r => MF c_text L r.1 r.2.1 r.2.2.1 r.2.2.2.1 r.2.2.2.2) := by
  unfold f_X11_lex
  refine m_9 c_size c_text L hs hL hB FU _ _ _ _ _ _ _ (by decide) (by rw [show (0 : Int32).toInt = 0 from by decide]; omega) (by rw [FU_eq]; omega) ?_
  rw [show (0 : Int32).toInt.toNat = 0 from by decide]
  exact .inr ⟨rfl, by omega, by show ¬ (0 : Nat) = 4; decide, by show (0 : Int32).toInt = ((0 : Nat) : Int); decide, trivial, fun _ => by show lstep ([], 0, 0, 0) _ = lbegin [] _; unfold lstep; rw [if_neg (show ¬ (0 : Nat) = 4 by decide), if_pos (show (0 : Nat) = 0 from rfl)]⟩
