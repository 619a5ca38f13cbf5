/-! the reference's load -/
set_option maxHeartbeats 400000 in
theorem s_load_17 (c_tape : Nat → Int32) (σ L : Nat) (hσ : σ ≤ 1) (hL : L ≤ 4000) (hB : BYA c_tape) : ∀ (n : Nat) (x1 : Int32) (x2 : Int32) (c_taped : Int32) (c_size : Int32) (c_tokens : Int32) (c_at : Int32) (c_wrong : Int32) (c_wrongAt : Int32) (c_fault : Int32) (c_faultAt : Int32) (c_side : Int32) (c_fresh : Int32) (c_kept : Int32) (c_raceTick : Int32) (c_text : Nat → Int32) (c_tKind : Nat → Int32) (c_tPlace : Nat → Int32) (c_tSize : Nat → Int32) (c_tValue : Nat → Int64) (c_many : Nat → Int32) (c_nameSize : Nat → Int32) (c_one : Nat → Int32) (c_two : Nat → Int32) (c_kinds : Nat → Int32) (c_kindBits : Nat → Int32) (c_names : Nat → Int32) (c_netOf : Nat → Int32) (c_isTold : Nat → Int32) (c_soFar : Nat → Int32) (c_state : Nat → Int32) (c_stuck : Nat → Int32) (c_dusty : Nat → Int32), c_side.toInt = σ → GB c_nameSize c_kinds → x1.toInt = L → 0 ≤ x2.toInt → x2.toInt ≤ L → 4000 < x2.toInt + n → (∀ k : Nat, (k : Int) < x2.toInt → c_text k = c_tape k) → Ok (f_X11_load_17 c_tape n x1 x2 c_taped c_size c_tokens c_at c_wrong c_wrongAt c_fault c_faultAt c_side c_fresh c_kept c_raceTick c_text c_tKind c_tPlace c_tSize c_tValue c_many c_nameSize c_one c_two c_kinds c_kindBits c_names c_netOf c_isTold c_soFar c_state c_stuck c_dusty) (fun r => r.2.1 = 0 ∧ RdP (1 - σ) L c_side c_kept c_raceTick c_many c_nameSize c_one c_two c_kinds c_kindBits c_names c_netOf c_isTold c_state c_stuck c_dusty (getT (stmtsT c_tape L)) (accT (stmtsT c_tape L)) r.2.2.2.2.2.1 r.2.2.2.2.2.2.2.2.2.1 r.2.2.2.2.2.2.2.2.2.2.2.1 r.2.2.2.2.2.2.2.2.2.2.2.2.1 r.2.2.2.2.2.2.2.2.2.2.2.2.2.2.2.2.2.2.1 r.2.2.2.2.2.2.2.2.2.2.2.2.2.2.2.2.2.2.2.1 r.2.2.2.2.2.2.2.2.2.2.2.2.2.2.2.2.2.2.2.2.1 r.2.2.2.2.2.2.2.2.2.2.2.2.2.2.2.2.2.2.2.2.2.1 r.2.2.2.2.2.2.2.2.2.2.2.2.2.2.2.2.2.2.2.2.2.2.1 r.2.2.2.2.2.2.2.2.2.2.2.2.2.2.2.2.2.2.2.2.2.2.2.1 r.2.2.2.2.2.2.2.2.2.2.2.2.2.2.2.2.2.2.2.2.2.2.2.2.1 r.2.2.2.2.2.2.2.2.2.2.2.2.2.2.2.2.2.2.2.2.2.2.2.2.2.1 r.2.2.2.2.2.2.2.2.2.2.2.2.2.2.2.2.2.2.2.2.2.2.2.2.2.2.1 r.2.2.2.2.2.2.2.2.2.2.2.2.2.2.2.2.2.2.2.2.2.2.2.2.2.2.2.2.1 r.2.2.2.2.2.2.2.2.2.2.2.2.2.2.2.2.2.2.2.2.2.2.2.2.2.2.2.2.2.1 r.2.2.2.2.2.2.2.2.2.2.2.2.2.2.2.2.2.2.2.2.2.2.2.2.2.2.2.2.2.2 ∧ ((r.2.2.2.2.2.1 = 0 ∧ r.1 = r.2.2.2.2.2.2.2.2.2.2.2.2.2.2.2.2.2.2.1 (5 * (1 - σ))) ∨ (¬ r.2.2.2.2.2.1 = 0 ∧ r.1 = -1)))
  | 0, x1, x2, c_taped, c_size, c_tokens, c_at, c_wrong, c_wrongAt, c_fault, c_faultAt, c_side, c_fresh, c_kept, c_raceTick, c_text, c_tKind, c_tPlace, c_tSize, c_tValue, c_many, c_nameSize, c_one, c_two, c_kinds, c_kindBits, c_names, c_netOf, c_isTold, c_soFar, c_state, c_stuck, c_dusty, hs, hG, h1, h2, h3, h4, h5 => by exfalso; omega
  | n + 1, x1, x2, c_taped, c_size, c_tokens, c_at, c_wrong, c_wrongAt, c_fault, c_faultAt, c_side, c_fresh, c_kept, c_raceTick, c_text, c_tKind, c_tPlace, c_tSize, c_tValue, c_many, c_nameSize, c_one, c_two, c_kinds, c_kindBits, c_names, c_netOf, c_isTold, c_soFar, c_state, c_stuck, c_dusty, hs, hG, h1, h2, h3, h4, h5 => by
    unfold f_X11_load_17
    refine ok_if (fun q => ?_) (fun q => ?_)
    · rw [tI_le] at q
      have hall : ∀ k : Nat, k < L → c_text k = c_tape k := fun k hk => h5 k (by omega)
      have ec : stmtsT c_text L = stmtsT c_tape L := stmts_cg _ _ _ hall
      refine ok_bind (s_reads _ _ _ _ _ _ _ _ _ _ _ _ _ _ _ _ _ _ _ _ _ _ _ _ _ _ _ σ L hσ hs h1 hL (fun i hi => by rw [hall i hi]; exact hB i) hG) (fun r hr => ?_)
      rw [ec] at hr
      obtain ⟨k1, k2, k3, k4⟩ := hr
      have fin : ∀ y : Int32, Ok (f_X11_load_74 c_tape y (0 : Int32) x1 r.2.1 r.2.2.1 r.1 c_wrongAt r.2.2.2.1 r.2.2.2.2.1 r.2.2.2.2.2.1 r.2.2.2.2.2.2.1 r.2.2.2.2.2.2.2.1 r.2.2.2.2.2.2.2.2.1 c_text r.2.2.2.2.2.2.2.2.2.1 r.2.2.2.2.2.2.2.2.2.2.1 r.2.2.2.2.2.2.2.2.2.2.2.1 r.2.2.2.2.2.2.2.2.2.2.2.2.1 r.2.2.2.2.2.2.2.2.2.2.2.2.2.1 r.2.2.2.2.2.2.2.2.2.2.2.2.2.2.1 r.2.2.2.2.2.2.2.2.2.2.2.2.2.2.2.1 r.2.2.2.2.2.2.2.2.2.2.2.2.2.2.2.2.1 r.2.2.2.2.2.2.2.2.2.2.2.2.2.2.2.2.2.1 r.2.2.2.2.2.2.2.2.2.2.2.2.2.2.2.2.2.2.1 r.2.2.2.2.2.2.2.2.2.2.2.2.2.2.2.2.2.2.2.1 r.2.2.2.2.2.2.2.2.2.2.2.2.2.2.2.2.2.2.2.2.1 r.2.2.2.2.2.2.2.2.2.2.2.2.2.2.2.2.2.2.2.2.2.1 r.2.2.2.2.2.2.2.2.2.2.2.2.2.2.2.2.2.2.2.2.2.2.1 r.2.2.2.2.2.2.2.2.2.2.2.2.2.2.2.2.2.2.2.2.2.2.2.1 r.2.2.2.2.2.2.2.2.2.2.2.2.2.2.2.2.2.2.2.2.2.2.2.2.1 r.2.2.2.2.2.2.2.2.2.2.2.2.2.2.2.2.2.2.2.2.2.2.2.2.2) (fun r => r.2.1 = 0 ∧ RdP (1 - σ) L c_side c_kept c_raceTick c_many c_nameSize c_one c_two c_kinds c_kindBits c_names c_netOf c_isTold c_state c_stuck c_dusty (getT (stmtsT c_tape L)) (accT (stmtsT c_tape L)) r.2.2.2.2.2.1 r.2.2.2.2.2.2.2.2.2.1 r.2.2.2.2.2.2.2.2.2.2.2.1 r.2.2.2.2.2.2.2.2.2.2.2.2.1 r.2.2.2.2.2.2.2.2.2.2.2.2.2.2.2.2.2.2.1 r.2.2.2.2.2.2.2.2.2.2.2.2.2.2.2.2.2.2.2.1 r.2.2.2.2.2.2.2.2.2.2.2.2.2.2.2.2.2.2.2.2.1 r.2.2.2.2.2.2.2.2.2.2.2.2.2.2.2.2.2.2.2.2.2.1 r.2.2.2.2.2.2.2.2.2.2.2.2.2.2.2.2.2.2.2.2.2.2.1 r.2.2.2.2.2.2.2.2.2.2.2.2.2.2.2.2.2.2.2.2.2.2.2.1 r.2.2.2.2.2.2.2.2.2.2.2.2.2.2.2.2.2.2.2.2.2.2.2.2.1 r.2.2.2.2.2.2.2.2.2.2.2.2.2.2.2.2.2.2.2.2.2.2.2.2.2.1 r.2.2.2.2.2.2.2.2.2.2.2.2.2.2.2.2.2.2.2.2.2.2.2.2.2.2.1 r.2.2.2.2.2.2.2.2.2.2.2.2.2.2.2.2.2.2.2.2.2.2.2.2.2.2.2.2.1 r.2.2.2.2.2.2.2.2.2.2.2.2.2.2.2.2.2.2.2.2.2.2.2.2.2.2.2.2.2.1 r.2.2.2.2.2.2.2.2.2.2.2.2.2.2.2.2.2.2.2.2.2.2.2.2.2.2.2.2.2.2 ∧ ((r.2.2.2.2.2.1 = 0 ∧ r.1 = r.2.2.2.2.2.2.2.2.2.2.2.2.2.2.2.2.2.2.1 (5 * (1 - σ))) ∨ (¬ r.2.2.2.2.2.1 = 0 ∧ r.1 = -1))) := by
        intro y
        unfold f_X11_load_74
        rcases k4 with ⟨a1, a2, a3, a4⟩ | ⟨a1, a2, a4⟩
        · have e5 : (5 * r.2.2.2.2.2.1).toInt = 5 * (1 - σ : Nat) := by
            generalize r.2.2.2.2.2.1 = w at a3
            have : (1 - σ : Nat) ≤ 1 := by omega
            generalize (1 - σ : Nat) = v at a3 this
            ((try simp only [tI_lt, tI_le, tI_eq, tI_add, tI_sub, tI_mul, tI_nat, Int32.reduceToInt, Int.reduceToNat, fe_0, fe_1, fe_2, fe_3, fe_4, fe_5]) <;> (try simp (disch := omega) only [tI_bm]) <;> omega)
          rw [if_pos a2]
          refine ok_bad (by omega) ?_
          have e6 : (5 * r.2.2.2.2.2.1).toNatClampNeg = 5 * (1 - σ) := by rw [tI_nat, e5]; omega
          rw [e6]
          exact ok_some ⟨rfl, ⟨k1, k2, k3, .inl ⟨a1, a2, a3, a4⟩⟩, .inl ⟨a2, rfl⟩⟩
        · have n0 : ¬ r.1 = 0 := fun z => by rw [z] at a2; exact absurd a2 (by decide)
          rw [if_neg n0]
          exact ok_some ⟨rfl, ⟨k1, k2, k3, .inr ⟨a1, a2, a4⟩⟩, .inr ⟨n0, rfl⟩⟩
      exact ok_if (fun _ => fin _) (fun _ => fin _)
    · rw [tI_le] at q
      have b3 : (x2 + 1).toInt = x2.toInt + 1 := by ((try simp only [tI_lt, tI_le, tI_eq, tI_add, tI_sub, tI_mul, tI_nat, Int32.reduceToInt, Int.reduceToNat, fe_0, fe_1, fe_2, fe_3, fe_4, fe_5]) <;> (try simp (disch := omega) only [tI_bm]) <;> omega)
      have nb : vp_nar .byte (c_tape x2.toInt.toNat) = c_tape x2.toInt.toNat := by
        rw [nar_byte]
        exact i2b_id (hB _).1 (hB _).2
      refine ok_bad (by omega) (ok_vlet (ok_bad (by omega) (ok_vlet (ok_vlet ?_))))
      rw [tI_nat, nb]
      refine s_load_17 c_tape σ L hσ hL hB n _ _ _ _ _ _ _ _ _ _ _ _ _ _ _ _ _ _ _ _ _ _ _ _ _ _ _ _ _ _ _ _ hs hG h1 (by omega) (by omega) (by omega) (fun k hk => ?_)
      rw [upd_at]
      by_cases z : k = x2.toInt.toNat
      · rw [if_pos z, z]
      · rw [if_neg z]; exact h5 k (by omega)
set_option maxHeartbeats 400000 in
theorem s_X11_load (x1 : Int32) (c_taped : Int32) (c_size : Int32) (c_tokens : Int32) (c_at : Int32) (c_wrong : Int32) (c_wrongAt : Int32) (c_fault : Int32) (c_faultAt : Int32) (c_side : Int32) (c_fresh : Int32) (c_kept : Int32) (c_raceTick : Int32) (c_tape : Nat → Int32) (c_text : Nat → Int32) (c_tKind : Nat → Int32) (c_tPlace : Nat → Int32) (c_tSize : Nat → Int32) (c_tValue : Nat → Int64) (c_many : Nat → Int32) (c_nameSize : Nat → Int32) (c_one : Nat → Int32) (c_two : Nat → Int32) (c_kinds : Nat → Int32) (c_kindBits : Nat → Int32) (c_names : Nat → Int32) (c_netOf : Nat → Int32) (c_isTold : Nat → Int32) (c_soFar : Nat → Int32) (c_state : Nat → Int32) (c_stuck : Nat → Int32) (c_dusty : Nat → Int32) (σ : Nat) (hσ : σ ≤ 1) (hs : c_side.toInt = σ) (h1 : 0 ≤ c_taped.toInt) (h2 : c_taped.toInt ≤ 4000) (hB : BYA c_tape) (hG : GB c_nameSize c_kinds) : Ok (f_X11_load x1 c_taped c_size c_tokens c_at c_wrong c_wrongAt c_fault c_faultAt c_side c_fresh c_kept c_raceTick c_tape c_text c_tKind c_tPlace c_tSize c_tValue c_many c_nameSize c_one c_two c_kinds c_kindBits c_names c_netOf c_isTold c_soFar c_state c_stuck c_dusty) (fun r => (¬ (0 ≤ x1.toInt ∧ x1.toInt ≤ c_taped.toInt) ∧ r = ((-2 : Int32), c_taped, c_size, c_tokens, c_at, c_wrong, c_wrongAt, c_fault, c_faultAt, c_side, c_fresh, c_kept, c_raceTick, c_text, c_tKind, c_tPlace, c_tSize, c_tValue, c_many, c_nameSize, c_one, c_two, c_kinds, c_kindBits, c_names, c_netOf, c_isTold, c_soFar, c_state, c_stuck, c_dusty)) ∨ ((0 ≤ x1.toInt ∧ x1.toInt ≤ c_taped.toInt) ∧ ∃ L : Nat, x1.toInt = L ∧ (fun r => r.2.1 = 0 ∧ RdP (1 - σ) L c_side c_kept c_raceTick c_many c_nameSize c_one c_two c_kinds c_kindBits c_names c_netOf c_isTold c_state c_stuck c_dusty (getT (stmtsT c_tape L)) (accT (stmtsT c_tape L)) r.2.2.2.2.2.1 r.2.2.2.2.2.2.2.2.2.1 r.2.2.2.2.2.2.2.2.2.2.2.1 r.2.2.2.2.2.2.2.2.2.2.2.2.1 r.2.2.2.2.2.2.2.2.2.2.2.2.2.2.2.2.2.2.1 r.2.2.2.2.2.2.2.2.2.2.2.2.2.2.2.2.2.2.2.1 r.2.2.2.2.2.2.2.2.2.2.2.2.2.2.2.2.2.2.2.2.1 r.2.2.2.2.2.2.2.2.2.2.2.2.2.2.2.2.2.2.2.2.2.1 r.2.2.2.2.2.2.2.2.2.2.2.2.2.2.2.2.2.2.2.2.2.2.1 r.2.2.2.2.2.2.2.2.2.2.2.2.2.2.2.2.2.2.2.2.2.2.2.1 r.2.2.2.2.2.2.2.2.2.2.2.2.2.2.2.2.2.2.2.2.2.2.2.2.1 r.2.2.2.2.2.2.2.2.2.2.2.2.2.2.2.2.2.2.2.2.2.2.2.2.2.1 r.2.2.2.2.2.2.2.2.2.2.2.2.2.2.2.2.2.2.2.2.2.2.2.2.2.2.1 r.2.2.2.2.2.2.2.2.2.2.2.2.2.2.2.2.2.2.2.2.2.2.2.2.2.2.2.2.1 r.2.2.2.2.2.2.2.2.2.2.2.2.2.2.2.2.2.2.2.2.2.2.2.2.2.2.2.2.2.1 r.2.2.2.2.2.2.2.2.2.2.2.2.2.2.2.2.2.2.2.2.2.2.2.2.2.2.2.2.2.2 ∧ ((r.2.2.2.2.2.1 = 0 ∧ r.1 = r.2.2.2.2.2.2.2.2.2.2.2.2.2.2.2.2.2.2.1 (5 * (1 - σ))) ∨ (¬ r.2.2.2.2.2.1 = 0 ∧ r.1 = -1))) r)) := by
  unfold f_X11_load
  refine ok_if (fun a => ok_some (.inl ⟨?_, rfl⟩)) (fun a => ok_if (fun b => ?_) (fun b => ok_some (.inl ⟨?_, rfl⟩)))
  · rw [tI_lt, show (0 : Int32).toInt = 0 from by decide] at a
    exact fun q => by omega
  · rw [tI_lt, show (0 : Int32).toInt = 0 from by decide] at a
    rw [tI_le] at b
    refine ok_mono (s_load_17 c_tape σ x1.toInt.toNat hσ (by omega) hB FU x1 0 _ _ _ _ _ _ _ _ _ _ _ _ _ _ _ _ _ _ _ _ _ _ _ _ _ _ _ _ _ _ hs hG (by omega) (by decide) (by rw [show (0 : Int32).toInt = 0 from by decide]; omega) (by rw [FU_eq]; decide) (fun s hs => by rw [show (0 : Int32).toInt = 0 from by decide] at hs; omega)) (fun r hr => .inr ⟨⟨by omega, b⟩, x1.toInt.toNat, by omega, hr⟩)
  · rw [tI_le] at b
    exact fun q => b q.2
