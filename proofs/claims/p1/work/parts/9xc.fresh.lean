/-! the fresh netlists -/
set_option maxHeartbeats 400000 in
theorem ne_i {x k : Int32} {q : Int} (h : ¬ x = k) (hk : k.toInt = q) : x.toInt ≠ q := fun e => h (Int32.toInt_inj.mp (by rw [e, hk]))
set_option maxHeartbeats 400000 in
theorem fx_endAt (x1 : Int32) (x2 : Int32) (x3 : Int32) (c_parts : Nat → Int32) (c_contacts : Nat → Int32) (hp : ∀ s : Nat, s < 5 → c_parts s = 0) : (f_X3_endAt x1 x2 x3 c_parts c_contacts) = some (if x1 = 5 ∧ x2 = 0 ∧ 0 ≤ x3.toInt ∧ x3.toInt < 2 then 952 + x3 else -1) := by
  unfold f_X3_endAt f_X3_endAt_18 f_X3_endAt_22 f_X3_endAt_23
  rw [s_X3_has, if_neg (fun q => by rw [hp x1.toInt.toNat (by omega), l_0] at q; omega)]
  dsimp only [Option.bind]
  rw [if_pos rfl]
  by_cases a : x1 = 5
  · rw [if_pos a]
    by_cases b : x2 = 0
    · rw [if_pos b, if_neg (by decide)]
      by_cases c : x3 < 0
      · rw [if_pos c, if_neg (fun q => by rw [tI_lt, l_0] at c; omega)]
      · rw [if_neg c]
        rw [tI_lt, l_0] at c
        unfold f_X3_endsOf
        rw [if_neg (by rw [a]; decide)]
        dsimp only [Option.bind]
        by_cases d : x3 < 2
        · rw [if_pos d]
          rw [tI_lt, l_2] at d
          unfold f_X3_endAt_62
          subst a b
          rw [show bad (5 : Int32) 6 = false from by decide]
          have hc : (5 : Int32) = 5 ∧ (0 : Int32) = 0 ∧ 0 ≤ x3.toInt ∧ x3.toInt < 2 := ⟨rfl, rfl, by omega, d⟩
          rw [if_pos hc]
          simp only [Bool.false_eq_true, if_false, show ¬ (5 : Int32) = 0 by decide]
          congr 1
        · rw [if_neg d, if_neg (fun q => d (by rw [tI_lt, l_2]; exact q.2.2.2))]
    · rw [if_neg b, if_pos rfl, if_neg (fun q => b q.2.1)]
  · rw [if_neg a, if_pos rfl, if_neg (fun q => a q.1)]
set_option maxHeartbeats 400000 in
theorem fx_untold (c_parts : Nat → Int32) (c_contacts : Nat → Int32) (hp : ∀ s : Nat, s < 5 → c_parts s = 0) : ∀ (n : Nat) (x1 : Int32) (x2 : Int32) (x3 : Int32) (c_nets : Int32) (c_netOf : Nat → Int32), x1 = 5 → x2 = 0 → 0 ≤ x3.toInt → x3.toInt ≤ 20 → 20 < x3.toInt + n → ((x3.toInt = 0 ∧ c_nets = 0 ∧ c_netOf 952 = -1 ∧ c_netOf 953 = -1) ∨ (x3.toInt = 1 ∧ c_nets = 1 ∧ c_netOf 952 = 0 ∧ c_netOf 953 = -1) ∨ (2 ≤ x3.toInt ∧ c_nets = 2 ∧ c_netOf 952 = 0 ∧ c_netOf 953 = 1)) → Ok (f_X3_numberUntold_2 c_parts c_contacts n x1 x2 x3 c_nets c_netOf) (fun r => r.1 = 2 ∧ r.2 952 = 0 ∧ r.2 953 = 1)
  | 0, x1, x2, x3, c_nets, c_netOf, e1, e2, h1, h2, h3, h4 => by exfalso; omega
  | n + 1, x1, x2, x3, c_nets, c_netOf, e1, e2, h1, h2, h3, h4 => by
    unfold f_X3_numberUntold_2 f_X3_numberUntold_52
    refine ok_if (fun a => ?_) (fun a => ?_)
    · rw [tI_le, l_20] at a
      rcases h4 with ⟨q, -⟩ | ⟨q, -⟩ | ⟨q, q1, q2, q3⟩
      · omega
      · omega
      · exact ok_some ⟨q1, q2, q3⟩
    · rw [tI_le, l_20] at a
      have ev : (x3 + 1).toInt = x3.toInt + 1 := by ((try simp only [tI_lt, tI_le, tI_eq, tI_add, tI_sub, tI_mul, tI_nat, Int32.reduceToInt, Int.reduceToNat, fe_0, fe_1, fe_2, fe_3, fe_4, fe_5]) <;> (try simp (disch := omega) only [tI_bm]) <;> omega)
      refine ok_eq (fx_endAt x1 x2 x3 c_parts c_contacts hp) ?_
      rcases h4 with ⟨q, q1, q2, q3⟩ | ⟨q, q1, q2, q3⟩ | ⟨q, q1, q2, q3⟩
      · have x0 : x3 = 0 := Int32.toInt_inj.mp (by rw [q, l_0])
        subst e1 e2 x0
        rw [if_pos (show (5 : Int32) = 5 ∧ (0 : Int32) = 0 ∧ 0 ≤ (0 : Int32).toInt ∧ (0 : Int32).toInt < 2 by decide), if_neg (by decide)]
        refine ok_bad (by decide) ?_
        rw [show ((952 : Int32) + 0).toNatClampNeg = 952 from by decide, if_pos q2]
        refine ok_vlet (ok_bad (by decide) (ok_vlet (ok_vlet (fx_untold c_parts c_contacts hp n _ _ _ _ _ rfl rfl (by decide) (by decide) (by omega) (.inr (.inl ⟨by decide, ?_, ?_, ?_⟩))))))
        · rw [q1]; decide
        · rw [upd_at, if_pos rfl]; exact q1
        · rw [upd_at, if_neg (by decide)]; exact q3
      · have x0 : x3 = 1 := Int32.toInt_inj.mp (by rw [q, l_1])
        subst e1 e2 x0
        rw [if_pos (show (5 : Int32) = 5 ∧ (0 : Int32) = 0 ∧ 0 ≤ (1 : Int32).toInt ∧ (1 : Int32).toInt < 2 by decide), if_neg (by decide)]
        refine ok_bad (by decide) ?_
        rw [show ((952 : Int32) + 1).toNatClampNeg = 953 from by decide, if_pos q3]
        refine ok_vlet (ok_bad (by decide) (ok_vlet (ok_vlet (fx_untold c_parts c_contacts hp n _ _ _ _ _ rfl rfl (by decide) (by decide) (by omega) (.inr (.inr ⟨by decide, ?_, ?_, ?_⟩))))))
        · rw [q1]; decide
        · rw [upd_at, if_neg (by decide)]; exact q2
        · rw [upd_at, if_pos rfl]; exact q1
      · rw [if_neg (show ¬ (x1 = 5 ∧ x2 = 0 ∧ 0 ≤ x3.toInt ∧ x3.toInt < 2) from fun z => by have := z.2.2.2; omega), if_pos rfl]
        exact ok_vlet (fx_untold c_parts c_contacts hp n _ _ _ _ _ e1 e2 (by omega) (by omega) (by omega) (.inr (.inr ⟨by omega, q1, q2, q3⟩)))
set_option maxHeartbeats 400000 in
theorem fx_nets_84 (c_parts : Nat → Int32) (c_contacts : Nat → Int32) (c_told : Nat → Int32) (hp : ∀ s : Nat, s < 5 → c_parts s = 0) : ∀ (n : Nat) (x1 : Int32) (c_toldNets : Int32) (c_nets : Int32) (c_joined : Nat → Int32) (c_netOf : Nat → Int32), 0 ≤ x1.toInt → x1.toInt ≤ 5 → 5 < x1.toInt + n → c_toldNets = 0 → c_nets = 0 → c_netOf 952 = -1 → c_netOf 953 = -1 → Ok (f_X3_numberNets_84 c_parts c_contacts c_told n x1 c_toldNets c_nets c_joined c_netOf) (fun r => r.1 = 0 ∧ r.2.1 = 2 ∧ r.2.2.2 952 = 0 ∧ r.2.2.2 953 = 1)
  | 0, x1, c_toldNets, c_nets, c_joined, c_netOf, h1, h2, h3, g1, g2, g3, g4 => by exfalso; omega
  | n + 1, x1, c_toldNets, c_nets, c_joined, c_netOf, h1, h2, h3, g1, g2, g3, g4 => by
    unfold f_X3_numberNets_84
    refine ok_if (fun a => ?_) (fun a => ?_)
    · unfold f_X3_numberUntold
      refine ok_bind (fx_untold c_parts c_contacts hp FU 5 0 0 c_nets c_netOf rfl rfl (by decide) (by decide) (by rw [FU_eq]; decide) (.inl ⟨by decide, g2, g3, g4⟩)) (fun r1 h => ok_some ⟨g1, h.1, h.2.1, h.2.2⟩)
    · rw [tI_le, show (5 : Int32).toInt = 5 from by decide] at a
      have go : ∀ m : Nat, 0 < m → Ok (f_X3_numberNets_91 (f_X3_numberNets_84 c_parts c_contacts c_told n) c_parts c_contacts c_told m x1 (0 : Int32) c_toldNets c_nets c_joined c_netOf) (fun r => r.1 = 0 ∧ r.2.1 = 2 ∧ r.2.2.2 952 = 0 ∧ r.2.2.2 953 = 1) := by
        intro m hm
        cases m with
        | zero => exact absurd hm (Nat.lt_irrefl _)
        | succ m =>
          unfold f_X3_numberNets_91
          refine ok_bad (by omega) ?_
          rw [tI_nat, hp _ (by omega), if_pos (by decide)]
          exact ok_vlet (fx_nets_84 c_parts c_contacts c_told hp n _ _ _ _ _ (by ((try simp only [tI_lt, tI_le, tI_eq, tI_add, tI_sub, tI_mul, tI_nat, Int32.reduceToInt, Int.reduceToNat, fe_0, fe_1, fe_2, fe_3, fe_4, fe_5]) <;> (try simp (disch := omega) only [tI_bm]) <;> omega)) (by ((try simp only [tI_lt, tI_le, tI_eq, tI_add, tI_sub, tI_mul, tI_nat, Int32.reduceToInt, Int.reduceToNat, fe_0, fe_1, fe_2, fe_3, fe_4, fe_5]) <;> (try simp (disch := omega) only [tI_bm]) <;> omega)) (by ((try simp only [tI_lt, tI_le, tI_eq, tI_add, tI_sub, tI_mul, tI_nat, Int32.reduceToInt, Int.reduceToNat, fe_0, fe_1, fe_2, fe_3, fe_4, fe_5]) <;> (try simp (disch := omega) only [tI_bm]) <;> omega)) g1 g2 g3 g4)
      exact go FU (by rw [FU_eq]; decide)
set_option maxHeartbeats 400000 in
theorem fx_nets_7 (c_parts : Nat → Int32) (c_contacts : Nat → Int32) (c_told : Nat → Int32) (hp : ∀ s : Nat, s < 5 → c_parts s = 0) (ht : ∀ e : Nat, e < 954 → c_told e = 0) : ∀ (n : Nat) (x1 : Int32) (c_toldNets : Int32) (c_nets : Int32) (c_joined : Nat → Int32) (c_netOf : Nat → Int32), 0 ≤ x1.toInt → x1.toInt ≤ 954 → 954 < x1.toInt + n → c_nets = 0 → c_netOf 952 = -1 → c_netOf 953 = -1 → Ok (f_X3_numberNets_7 c_parts c_contacts c_told n x1 c_toldNets c_nets c_joined c_netOf) (fun r => r.1 = 0 ∧ r.2.1 = 2 ∧ r.2.2.2 952 = 0 ∧ r.2.2.2 953 = 1)
  | 0, x1, c_toldNets, c_nets, c_joined, c_netOf, h1, h2, h3, g2, g3, g4 => by exfalso; omega
  | n + 1, x1, c_toldNets, c_nets, c_joined, c_netOf, h1, h2, h3, g2, g3, g4 => by
    unfold f_X3_numberNets_7
    refine ok_if (fun a => ?_) (fun a => ?_)
    · exact fx_nets_84 c_parts c_contacts c_told hp FU 0 _ _ _ _ (by decide) (by decide) (by rw [FU_eq]; decide) g2 g2 g3 g4
    · rw [tI_le, l_954] at a
      refine ok_bad (by omega) ?_
      rw [tI_nat, ht _ (by omega), if_pos rfl]
      unfold f_X3_numberNets_68
      exact ok_vlet (fx_nets_7 c_parts c_contacts c_told hp ht n _ _ _ _ _ (by ((try simp only [tI_lt, tI_le, tI_eq, tI_add, tI_sub, tI_mul, tI_nat, Int32.reduceToInt, Int.reduceToNat, fe_0, fe_1, fe_2, fe_3, fe_4, fe_5]) <;> (try simp (disch := omega) only [tI_bm]) <;> omega)) (by ((try simp only [tI_lt, tI_le, tI_eq, tI_add, tI_sub, tI_mul, tI_nat, Int32.reduceToInt, Int.reduceToNat, fe_0, fe_1, fe_2, fe_3, fe_4, fe_5]) <;> (try simp (disch := omega) only [tI_bm]) <;> omega)) (by ((try simp only [tI_lt, tI_le, tI_eq, tI_add, tI_sub, tI_mul, tI_nat, Int32.reduceToInt, Int.reduceToNat, fe_0, fe_1, fe_2, fe_3, fe_4, fe_5]) <;> (try simp (disch := omega) only [tI_bm]) <;> omega)) g2 g3 g4)
set_option maxHeartbeats 400000 in
theorem fx_nets (c_toldNets : Int32) (c_nets : Int32) (c_parts : Nat → Int32) (c_contacts : Nat → Int32) (c_told : Nat → Int32) (c_joined : Nat → Int32) (c_netOf : Nat → Int32) (hp : ∀ s : Nat, s < 5 → c_parts s = 0) (ht : ∀ e : Nat, e < 954 → c_told e = 0) (g3 : c_netOf 952 = -1) (g4 : c_netOf 953 = -1) : Ok (f_X3_numberNets c_toldNets c_nets c_parts c_contacts c_told c_joined c_netOf) (fun r => r.1 = 0 ∧ r.2.1 = 2 ∧ r.2.2.2 952 = 0 ∧ r.2.2.2 953 = 1) := by
  unfold f_X3_numberNets
  exact fx_nets_7 c_parts c_contacts c_told hp ht FU 0 _ _ _ _ (by decide) (by decide) (by rw [FU_eq]; decide) rfl g3 g4
set_option maxHeartbeats 400000 in
theorem fx_X3_init : Ok f_X3_init (fun r => r.1 = 0 ∧ r.2.1 = 2 ∧ (∀ s : Nat, s < 5 → r.2.2.1 s = 0) ∧ r.2.2.2.2.2.2.2.2.2.2.2.2 952 = 0 ∧ r.2.2.2.2.2.2.2.2.2.2.2.2 953 = 1) := by
  unfold f_X3_init
  refine ok_bind (s_X3_clear _ _ _ _) (fun r13 h13 => ok_bind (fx_nets _ _ _ _ _ _ _ h13.1 (fun e he => (h13.2 e he).1) (h13.2 952 (by decide)).2.2 (h13.2 953 (by decide)).2.2) (fun r14 h14 => ok_some ⟨h14.1, h14.2.1, h13.1, h14.2.2.1, h14.2.2.2⟩))
def FX0 (s : XS) : Prop := s.2.1 = 0 ∧ s.2.2.1 = -1 ∧ s.2.2.2.2.2.2.2.2.2.2.2.2.2.2.2.2.2.2.2.2.2.2.2.2.2.2.2.2.2.2.2.2.2.2.2.1 = 0 ∧ s.2.2.2.2.2.2.2.2.2.2.2.2.2.2.2.2.2.2.2.2.2.2.2.2.2.2.2.2.2.2.2.2.2.2.2.2.1 = 2 ∧ (∀ u : Nat, u < 5 → s.2.2.2.2.2.2.2.2.2.2.2.2.2.2.2.2.2.2.2.2.2.2.2.2.2.2.2.2.2.2.2.2.2.2.2.2.2.1 u = 0) ∧ s.2.2.2.2.2.2.2.2.2.2.2.2.2.2.2.2.2.2.2.2.2.2.2.2.2.2.2.2.2.2.2.2.2.2.2.2.2.2.2.2.2.2.2.2.2.2.2.1 952 = 0 ∧ s.2.2.2.2.2.2.2.2.2.2.2.2.2.2.2.2.2.2.2.2.2.2.2.2.2.2.2.2.2.2.2.2.2.2.2.2.2.2.2.2.2.2.2.2.2.2.2.1 953 = 1 ∧ s.2.2.2.2.2.2.2.2.2.2.2.2.2.2.2.2.2.2.2.2.2.2.2.2.2.2.2.2.2.2.2.2.2.2.2.2.2.2.2.2.2.2.2.2.2.2.2.2.2.2.2.2.2.2.2.2.2.2.2.2.1 = 0 ∧ s.2.2.2.2.2.2.2.2.2.2.2.2.2.2.2.2.2.2.2.2.2.2.2.2.2.2.2.2.2.2.2.2.2.2.2.2.2.2.2.2.2.2.2.2.2.2.2.2.2.2.2.2.2.2.2.2.2.2.2.2.2.2.2.1 = 0 ∧ s.2.2.2.2.2.2.2.2.2.2.2.2.2.2.2.2.2.2.2.2.2.2.2.2.2.2.2.2.2.2.2.2.2.2.2.2.2.2.2.2.2.2.2.2.2.2.2.2.2.2.2.2.2.2.2.2.2.2.2.2.2.2.2.2.1 = 0 ∧ s.2.2.2.2.2.2.2.2.2.2.2.2.2.2.2.2.2.2.2.2.2.2.2.2.2.2.2.2.2.2.2.2.2.2.2.2.2.2.2.2.2.2.2.2.2.2.2.2.2.2.2.2.2.2.2.2.2.2.2.2.2.2.2.2.2.2.2.2.2.2.2.1 = -1
def FM0 (t : MS) : Prop := t.2.2.2.2.1 = 0 ∧ t.2.2.2.2.2.1 = -1 ∧ FMs 0 t.2.2.2.2.2.2.2.2.1 t.2.2.2.2.2.2.2.2.2.2.2.2.2.2.2.2.2.2.2.2.1 t.2.2.2.2.2.2.2.2.2.2.2.2.2.2.2.2.2.2.2.2.2.2.2.2.2.2.2.1 t.2.2.2.2.2.2.2.2.2.2.2.2.2.2.2.2.2.2.2.2.2.2.2.2.2.2.2.2.1 ∧ t.2.2.2.2.2.2.2.2.2.2.2.2.2.2.2.2.2.2.2.2.2.2.2.2.2.2.2.2.2.2.1 344 = 0 ∧ t.2.2.2.2.2.2.2.2.2.2.1 = 0 ∧ t.2.2.2.2.2.2.2.2.2.2.2.2.1 = -1
set_option maxHeartbeats 400000 in
theorem fx_X10_init : Ok f_X10_init FX0 := by
  unfold f_X10_init
  refine ok_bind s_X5_init (fun r4 _ => ok_bind (P := fun r => r.1 = 0 ∧ r.2.1 = 2 ∧ (∀ s : Nat, s < 5 → r.2.2.1 s = 0) ∧ r.2.2.2.2.2.2.2.2.2.2.2.2.1 952 = 0 ∧ r.2.2.2.2.2.2.2.2.2.2.2.2.1 953 = 1) ?_ (fun r7 h7 => ok_bind (P := fun r => r.2.2.1 = 0) (ok_some rfl) (fun r10 h10 => ok_bind (P := fun r => r.1 = 0 ∧ r.2.1 = 0) (ok_some ⟨rfl, rfl⟩) (fun r13 h13 => ok_bind (P := fun r => r.2.1 = -1) ?_ (fun r16 h16 => ok_some ?_)))))
  · unfold f_X2_init
    refine ok_bind fx_X3_init (fun r3 h3 => ok_bind (P := fun _ => True) ?_ (fun r6 _ => ok_bind (P := fun _ => True) (ok_some trivial) (fun r9 _ => ok_some h3)))
    unfold f_X9_init
    exact ok_bind (s_X9_clear _ _) (fun r _ => ok_some trivial)
  · unfold f_X4_init
    exact ok_bind (P := fun _ => True) (ok_some trivial) (fun _ _ => ok_bind (P := fun _ => True) (ok_some trivial) (fun _ _ => ok_bind (P := fun _ => True) (ok_some trivial) (fun _ _ => ok_some rfl)))
  · exact ⟨rfl, rfl, h7.1, h7.2.1, h7.2.2.1, h7.2.2.2.1, h7.2.2.2.2, h10, h13.1, h13.2, h16⟩
set_option maxHeartbeats 400000 in
theorem fm_X11_init : Ok f_X11_init FM0 := by
  unfold f_X11_init
  have go1 : ∀ (n : Nat) (x1 : Int32) (c : Nat → Int32), 0 ≤ x1.toInt → x1.toInt ≤ 954 → 954 < x1.toInt + n → (∀ e : Nat, (e : Int) < x1.toInt → (c e).toInt = e) → Ok (f_X11_init_291 n x1 c) (fun r => ∀ e : Nat, e < 954 → (r e).toInt = e) := by
    intro n
    induction n with
    | zero => intro x1 c h1 h2 h3; exfalso; omega
    | succ n ih =>
      intro x1 c h1 h2 h3 h4
      unfold f_X11_init_291
      refine ok_if (fun a => ok_some (fun e he => h4 e (by rw [tI_le, l_954] at a; omega))) (fun a => ?_)
      rw [tI_le, l_954] at a
      have b3 : (x1 + 1).toInt = x1.toInt + 1 := by ((try simp only [tI_lt, tI_le, tI_eq, tI_add, tI_sub, tI_mul, tI_nat, Int32.reduceToInt, Int.reduceToNat, fe_0, fe_1, fe_2, fe_3, fe_4, fe_5]) <;> (try simp (disch := omega) only [tI_bm]) <;> omega)
      refine ok_bad (by omega) (ok_vlet (ok_vlet (ih _ _ (by omega) (by omega) (by omega) (fun e he => ?_))))
      rw [upd_at, tI_nat]
      by_cases z : e = x1.toInt.toNat
      · rw [if_pos z]; omega
      · rw [if_neg z]; exact h4 e (by omega)
  have go2 : ∀ (n : Nat) (x1 : Int32) (c : Nat → Int32), 0 ≤ x1.toInt → x1.toInt ≤ 240 → 240 < x1.toInt + n → Ok (f_X11_init_313 n x1 c) (fun _ => True) := by
    intro n
    induction n with
    | zero => intro x1 c h1 h2 h3; exfalso; omega
    | succ n ih =>
      intro x1 c h1 h2 h3
      unfold f_X11_init_313
      refine ok_if (fun a => ok_some trivial) (fun a => ?_)
      rw [tI_le, show (240 : Int32).toInt = 240 from by decide] at a
      exact ok_bad (by omega) (ok_vlet (ok_vlet (ih _ _ (by ((try simp only [tI_lt, tI_le, tI_eq, tI_add, tI_sub, tI_mul, tI_nat, Int32.reduceToInt, Int.reduceToNat, fe_0, fe_1, fe_2, fe_3, fe_4, fe_5]) <;> (try simp (disch := omega) only [tI_bm]) <;> omega)) (by ((try simp only [tI_lt, tI_le, tI_eq, tI_add, tI_sub, tI_mul, tI_nat, Int32.reduceToInt, Int.reduceToNat, fe_0, fe_1, fe_2, fe_3, fe_4, fe_5]) <;> (try simp (disch := omega) only [tI_bm]) <;> omega)) (by ((try simp only [tI_lt, tI_le, tI_eq, tI_add, tI_sub, tI_mul, tI_nat, Int32.reduceToInt, Int.reduceToNat, fe_0, fe_1, fe_2, fe_3, fe_4, fe_5]) <;> (try simp (disch := omega) only [tI_bm]) <;> omega)))))
  refine ok_bind (go1 FU 0 _ (by decide) (by decide) (by rw [FU_eq]; decide) (fun s hs => by rw [l_0] at hs; omega)) (fun r1 h1 => ok_bind (go2 FU 0 _ (by decide) (by decide) (by rw [FU_eq]; decide)) (fun r2 _ => ok_some ?_))
  refine ⟨rfl, rfl, ⟨rfl, by decide, fun s hs => rfl, fun e he => ⟨?_, rfl⟩⟩, rfl, rfl, rfl⟩
  show (r1 (954 * 0 + e)).toInt = e
  rw [show 954 * 0 + e = e by omega]
  exact h1 e he
def FR (s : XS) (t : MS) : Prop := INV0 s t ∧ FX0 s ∧ FM0 t
set_option maxHeartbeats 400000 in
theorem fr_init : ∃ s t, f_X10_init = some s ∧ f_X11_init = some t ∧ FR s t := by
  obtain ⟨s, t, e1, e2, h⟩ := hop_init
  obtain ⟨s', e1', hs⟩ := fx_X10_init
  obtain ⟨t', e2', ht⟩ := fm_X11_init
  have a : some s = some s' := e1.symm.trans e1'
  have b : some t = some t' := e2.symm.trans e2'
  injection a with a
  injection b with b
  exact ⟨s, t, e1, e2, h, by rw [a]; exact hs, by rw [b]; exact ht⟩
