/-! the reference: races -/
def DI (d : Nat → Int32) : Prop := ∀ i : Nat, i < 40 → 0 ≤ (d i).toInt ∧ (d i).toInt < 40
def OI (d : Nat → Int32) : Prop := ∀ i : Nat, i < 4 → 0 ≤ (d i).toInt ∧ (d i).toInt < 40
set_option maxHeartbeats 400000 in
theorem s_X11_copy_2 (c_p1 : Nat → Int32) : ∀ (n : Nat) (x3 : Int32) (c_p2 : Nat → Int32), 0 ≤ x3.toInt → x3.toInt ≤ 345 → 345 < x3.toInt + n → Ok (f_X11_copy_2 c_p1 n x3 c_p2) (fun _ => True)
  | 0, x3, c_p2, h1, h2, h3 => by exfalso; omega
  | n + 1, x3, c_p2, h1, h2, h3 => by
    unfold f_X11_copy_2
    refine ok_if (fun _ => ok_some trivial) (fun a1 => ?_)
    simp only [tI_lt, tI_le, tI_eq, tI_add, tI_sub, tI_mul, tI_nat, Int32.reduceToInt, Int.reduceToNat, fe_0, fe_1, fe_2, fe_3, fe_4, fe_5] at a1
    exact ok_bad (by omega) (ok_vlet (ok_bad (by omega) (ok_vlet (ok_vlet (s_X11_copy_2 c_p1 n _ _ (by ((try simp only [tI_lt, tI_le, tI_eq, tI_add, tI_sub, tI_mul, tI_nat, Int32.reduceToInt, Int.reduceToNat, fe_0, fe_1, fe_2, fe_3, fe_4, fe_5]) <;> (try simp (disch := omega) only [tI_bm]) <;> omega)) (by ((try simp only [tI_lt, tI_le, tI_eq, tI_add, tI_sub, tI_mul, tI_nat, Int32.reduceToInt, Int.reduceToNat, fe_0, fe_1, fe_2, fe_3, fe_4, fe_5]) <;> (try simp (disch := omega) only [tI_bm]) <;> omega)) (by ((try simp only [tI_lt, tI_le, tI_eq, tI_add, tI_sub, tI_mul, tI_nat, Int32.reduceToInt, Int.reduceToNat, fe_0, fe_1, fe_2, fe_3, fe_4, fe_5]) <;> (try simp (disch := omega) only [tI_bm]) <;> omega)))))))
set_option maxHeartbeats 400000 in
theorem s_X11_copy (c_p1 : Nat → Int32) (c_p2 : Nat → Int32) : Ok (f_X11_copy c_p1 c_p2) (fun _ => True) := by
  unfold f_X11_copy
  exact s_X11_copy_2 c_p1 FU _ _ (by decide) (by decide) (by rw [FU_eq]; decide)
set_option maxHeartbeats 400000 in
theorem cz_s (f : Nat → Int32) (n : Nat) : cz f (n + 1) = cz f n + (if f n = 0 then 1 else 0) := rfl
set_option maxHeartbeats 400000 in
theorem cz_mono (f : Nat → Int32) (a : Nat) : ∀ b, a ≤ b → cz f a ≤ cz f b
  | 0, h => by
    have : a = 0 := by omega
    rw [this]
    exact Nat.le_refl _
  | b + 1, h => by
    by_cases e : a = b + 1
    · rw [e]; exact Nat.le_refl _
    · have := cz_mono f a b (by omega)
      rw [cz_s]
      omega
set_option maxHeartbeats 400000 in
theorem s_X11_arrange_76 (k28 : Int32 → Int32 → Int32 → (Nat → Int32) → (Nat → Int32) → Option ((Nat → Int32) × (Nat → Int32))) (c_due : Nat → Int32) (C : (Nat → Int32) → Nat → Nat) (hC : ∀ f n, C f n = cz f n) (hD : DI c_due) {Q} : ∀ (n : Nat) (x2 : Int32) (x3 : Int32) (x4 : Int32) (x6 : Int32) (x7 : Int32) (c_order : Nat → Int32) (c_used : Nat → Int32), x2.toInt ≤ 4 → 0 ≤ x4.toInt → x4.toInt < x2.toInt → 0 ≤ x7.toInt → 0 ≤ x6.toInt → x6.toInt + C c_used x7.toInt.toNat < C c_used x2.toInt.toNat → 5 < x7.toInt + n → OI c_order → (∀ o u, OI o → C u x2.toInt.toNat + 1 = C c_used x2.toInt.toNat → Ok (k28 x2 x3 (x4 + 1) o u) Q) → Ok (f_X11_arrange_76 k28 c_due n x2 x3 x4 x6 x7 c_order c_used) Q
  | 0, x2, x3, x4, x6, x7, c_order, c_used, h1, h2, h3, h4, h5, h6, h7, hO, hk => by
    have : x7.toInt.toNat < x2.toInt.toNat := by
      rcases Nat.lt_or_ge x7.toInt.toNat x2.toInt.toNat with q | q
      · exact q
      · have := cz_mono c_used _ _ q
        rw [← hC, ← hC] at this
        omega
    exfalso; omega
  | n + 1, x2, x3, x4, x6, x7, c_order, c_used, h1, h2, h3, h4, h5, h6, h7, hO, hk => by
    unfold f_X11_arrange_76 f_X11_arrange_91 f_X11_arrange_104
    have hlt : x7.toInt.toNat < x2.toInt.toNat := by
      rcases Nat.lt_or_ge x7.toInt.toNat x2.toInt.toNat with q | q
      · exact q
      · have := cz_mono c_used _ _ q
        rw [← hC, ← hC] at this
        omega
    have hb : 0 ≤ x7.toInt ∧ x7.toInt < (4 : Nat) := by omega
    have e7 : (x7 + 1).toInt = x7.toInt + 1 := by ((try simp only [tI_lt, tI_le, tI_eq, tI_add, tI_sub, tI_mul, tI_nat, Int32.reduceToInt, Int.reduceToNat, fe_0, fe_1, fe_2, fe_3, fe_4, fe_5]) <;> (try simp (disch := omega) only [tI_bm]) <;> omega)
    have es := cz_s c_used x7.toInt.toNat
    rw [← hC, ← hC] at es
    have e8 : (x7 + 1).toInt.toNat = x7.toInt.toNat + 1 := by omega
    have go91 : (c_used x7.toInt.toNat = 0 → 0 < x6.toInt) → Ok (if bad x7 4 = true then none else if c_used x7.toNatClampNeg = 0 then vlet (x6 + -1) fun t2 => vlet (x7 + 1) fun t1 => (f_X11_arrange_76 k28 c_due n x2 x3 x4 t2 t1 c_order c_used) else vlet (x7 + 1) fun t1 => (f_X11_arrange_76 k28 c_due n x2 x3 x4 x6 t1 c_order c_used)) Q := by
      intro hp
      refine ok_bad hb (ok_if (fun a => ok_vlet (ok_vlet ?_)) (fun a => ok_vlet ?_))
      · have hp' := hp a
        rw [tI_nat] at a
        rw [if_pos a] at es
        have f6 : (0 : Int) ≤ x6.toInt - 1 := by omega
        have f8 : x6.toInt - 1 + C c_used (x7.toInt.toNat + 1) < C c_used x2.toInt.toNat := by omega
        have e6 : (x6 + -1).toInt = x6.toInt - 1 := by
          have := tI_rng x6
          ((try simp only [tI_lt, tI_le, tI_eq, tI_add, tI_sub, tI_mul, tI_nat, Int32.reduceToInt, Int.reduceToNat, fe_0, fe_1, fe_2, fe_3, fe_4, fe_5]) <;> (try simp (disch := omega) only [tI_bm]) <;> omega)
        rw [← e6] at f6 f8
        rw [← e8] at f8
        exact s_X11_arrange_76 k28 c_due C hC hD n _ _ _ _ _ _ _ h1 h2 h3 (by rw [e7]; clear e6 f6 f8; omega) f6 f8 (by rw [e7]; clear e6 f6 f8; omega) hO hk
      · rw [tI_nat] at a
        rw [if_neg a] at es
        exact s_X11_arrange_76 k28 c_due C hC hD n _ _ _ _ _ _ _ h1 h2 h3 (by omega) h5 (by rw [e8]; omega) (by omega) hO hk
    refine ok_bad hb (ok_if (fun a => ok_if (fun b => ?_) (fun b => go91 (fun _ => by rw [tI_le] at b; simp only [Int32.reduceToInt] at b; omega))) (fun a => go91 (fun q => absurd q a)))
    have hd := hD x7.toInt.toNat (by omega)
    refine ok_bad hb (ok_vlet (ok_bad (by omega) (ok_vlet (ok_bad (by omega) (ok_vlet (ok_vlet (hk _ _ ?_ ?_)))))))
    · intro i hi
      have := hO i hi
      simp only [upd_at, tI_nat]
      split <;> omega
    · have h := (cz_up c_used x7.toInt.toNat 1 x2.toInt.toNat).2 hlt
      rw [← hC, ← hC] at h
      rw [tI_nat] at a ⊢
      rw [nar1]
      rw [if_pos a, if_neg (by decide)] at h
      omega
set_option maxHeartbeats 400000 in
theorem s_X11_arrange_60 (k28 : Int32 → Int32 → Int32 → (Nat → Int32) → (Nat → Int32) → Option ((Nat → Int32) × (Nat → Int32))) (c_due : Nat → Int32) (x2 : Int32) (x3 : Int32) (x4 : Int32) (y0 : Int32) (c_order : Nat → Int32) (c_used : Nat → Int32) (C : (Nat → Int32) → Nat → Nat) (hC : ∀ f n, C f n = cz f n) (hD : DI c_due) {Q} (h1 : x2.toInt ≤ 4) (h2 : 0 ≤ x4.toInt) (h3 : x4.toInt < x2.toInt) (hc : (C c_used x2.toInt.toNat : Int) = x2.toInt - x4.toInt) (hy : 0 < y0.toInt) (hx : 0 ≤ x3.toInt) (hx2 : x3.toInt / y0.toInt < x2.toInt - x4.toInt) (hO : OI c_order) (hk : ∀ (z : Int32) o u, 0 ≤ z.toInt → z.toInt < y0.toInt → OI o → C u x2.toInt.toNat + 1 = C c_used x2.toInt.toNat → Ok (k28 x2 z (x4 + 1) o u) Q) : Ok (f_X11_arrange_60 k28 c_due x2 x3 x4 y0 c_order c_used) Q := by
  unfold f_X11_arrange_60
  have hne : ¬ y0 = 0 := fun q => by subst q; exact absurd hy (by decide)
  have ed := tI_div hx hy
  have er := tI_rem hx hy
  have hp := Int.ediv_nonneg hx (Int.le_of_lt hy)
  refine ok_if (fun q => absurd q hne) (fun _ => ok_vlet (ok_if (fun q => absurd q hne) (fun _ => ok_vlet ?_)))
  refine s_X11_arrange_76 k28 c_due C hC hD FU _ _ _ _ _ _ _ h1 h2 h3 (by decide) (by omega) ?_ (by rw [FU_eq]; decide) hO (fun o u ho hu => hk _ o u ?_ ?_ ho hu)
  · rw [show (0 : Int32).toInt.toNat = 0 from by decide, hC c_used 0]
    show _ + ((0 : Nat) : Int) < _
    omega
  · have := Int.emod_nonneg x3.toInt (show y0.toInt ≠ 0 by omega)
    omega
  · have := Int.emod_lt_of_pos x3.toInt hy
    omega
set_option maxHeartbeats 400000 in
theorem s_X11_arrange_28 (c_due : Nat → Int32) (C : (Nat → Int32) → Nat → Nat) (hC : ∀ f n, C f n = cz f n) (hD : DI c_due) : ∀ (n : Nat) (x2 : Int32) (x3 : Int32) (x4 : Int32) (c_order : Nat → Int32) (c_used : Nat → Int32), x2.toInt ≤ 4 → 0 ≤ x4.toInt → x4.toInt ≤ x2.toInt → (C c_used x2.toInt.toNat : Int) = x2.toInt - x4.toInt → 4 < x4.toInt + n → 0 ≤ x3.toInt → (x2.toInt - x4.toInt = 4 ∧ x3.toInt < 24 ∨ x2.toInt - x4.toInt = 3 ∧ x3.toInt < 6 ∨ x2.toInt - x4.toInt = 2 ∧ x3.toInt < 2 ∨ x2.toInt - x4.toInt ≤ 1 ∧ x3.toInt < 1) → OI c_order → Ok (f_X11_arrange_28 c_due n x2 x3 x4 c_order c_used) (fun r => OI r.1)
  | 0, x2, x3, x4, c_order, c_used, h1, h2, h3, h4, h5, h6, h7, hO => by exfalso; omega
  | n + 1, x2, x3, x4, c_order, c_used, h1, h2, h3, h4, h5, h6, h7, hO => by
    unfold f_X11_arrange_28
    refine ok_if (fun _ => ok_some hO) (fun a1 => ?_)
    rw [tI_le] at a1
    have e4 : (x4 + 1).toInt = x4.toInt + 1 := by ((try simp only [tI_lt, tI_le, tI_eq, tI_add, tI_sub, tI_mul, tI_nat, Int32.reduceToInt, Int.reduceToNat, fe_0, fe_1, fe_2, fe_3, fe_4, fe_5]) <;> (try simp (disch := omega) only [tI_bm]) <;> omega)
    have es : (x2 - x4).toInt = x2.toInt - x4.toInt := by ((try simp only [tI_lt, tI_le, tI_eq, tI_add, tI_sub, tI_mul, tI_nat, Int32.reduceToInt, Int.reduceToNat, fe_0, fe_1, fe_2, fe_3, fe_4, fe_5]) <;> (try simp (disch := omega) only [tI_bm]) <;> omega)
    have go : ∀ y0 : Int32, (x2.toInt - x4.toInt = 4 ∧ y0.toInt = 6 ∨ x2.toInt - x4.toInt = 3 ∧ y0.toInt = 2 ∨ x2.toInt - x4.toInt ≤ 2 ∧ y0.toInt = 1) → Ok (f_X11_arrange_60 (f_X11_arrange_28 c_due n) c_due x2 x3 x4 y0 c_order c_used) (fun r => OI r.1) := by
      intro y0 hy
      refine s_X11_arrange_60 _ _ _ _ _ _ _ _ C hC hD h1 h2 (by omega) h4 (by omega) h6 ?_ hO (fun z o u z1 z2 ho hu => ?_)
      · rcases hy with ⟨q1, q2⟩ | ⟨q1, q2⟩ | ⟨q1, q2⟩ <;> rw [q2] <;> omega
      · exact s_X11_arrange_28 c_due C hC hD n _ _ _ _ _ h1 (by omega) (by omega) (by omega) (by omega) z1 (by omega) ho
    refine ok_if (fun a => go 6 ?_) (fun a => ok_if (fun b => go 2 ?_) (fun b => go 1 ?_))
    · have := congrArg Int32.toInt a
      rw [es, show (4 : Int32).toInt = 4 from by decide] at this
      exact .inl ⟨this, by decide⟩
    · have := congrArg Int32.toInt b
      rw [es, show (3 : Int32).toInt = 3 from by decide] at this
      exact .inr (.inl ⟨this, by decide⟩)
    · have a2 : ¬ x2.toInt - x4.toInt = 4 := fun q => a (Int32.toInt_inj.mp (by rw [es, q]; decide))
      have b2 : ¬ x2.toInt - x4.toInt = 3 := fun q => b (Int32.toInt_inj.mp (by rw [es, q]; decide))
      exact .inr (.inr ⟨by omega, by decide⟩)
set_option maxHeartbeats 400000 in
theorem s_X11_arrange_5 (c_due : Nat → Int32) (C : (Nat → Int32) → Nat → Nat) (hC : ∀ f n, C f n = cz f n) (hD : DI c_due) : ∀ (n : Nat) (x2 : Int32) (x3 : Int32) (x4 : Int32) (c_order : Nat → Int32) (c_used : Nat → Int32), x2.toInt ≤ 4 → 0 ≤ x4.toInt → x4.toInt ≤ x2.toInt → C c_used x4.toInt.toNat = x4.toInt.toNat → 4 < x4.toInt + n → 0 ≤ x3.toInt → (x2.toInt = 4 ∧ x3.toInt < 24 ∨ x2.toInt = 3 ∧ x3.toInt < 6 ∨ x2.toInt = 2 ∧ x3.toInt < 2) → OI c_order → Ok (f_X11_arrange_5 c_due n x2 x3 x4 c_order c_used) (fun r => OI r.1)
  | 0, x2, x3, x4, c_order, c_used, h1, h2, h3, h4, h5, h6, h7, hO => by exfalso; omega
  | n + 1, x2, x3, x4, c_order, c_used, h1, h2, h3, h4, h5, h6, h7, hO => by
    unfold f_X11_arrange_5
    refine ok_if (fun a1 => ?_) (fun a1 => ?_)
    · rw [tI_le] at a1
      have e : x4.toInt = x2.toInt := by omega
      rw [e] at h4
      refine s_X11_arrange_28 c_due C hC hD FU _ _ _ _ _ h1 (by decide) ?_ ?_ (by rw [FU_eq]; decide) h6 ?_ hO
      all_goals rw [show (0 : Int32).toInt = 0 from by decide]
      all_goals omega
    · rw [tI_le] at a1
      have e4 : (x4 + 1).toInt = x4.toInt + 1 := by ((try simp only [tI_lt, tI_le, tI_eq, tI_add, tI_sub, tI_mul, tI_nat, Int32.reduceToInt, Int.reduceToNat, fe_0, fe_1, fe_2, fe_3, fe_4, fe_5]) <;> (try simp (disch := omega) only [tI_bm]) <;> omega)
      have e8 : (x4 + 1).toInt.toNat = x4.toInt.toNat + 1 := by omega
      refine ok_bad (by omega) (ok_vlet (ok_vlet ?_))
      refine s_X11_arrange_5 c_due C hC hD n _ _ _ _ _ h1 (by omega) (by omega) ?_ (by omega) h6 h7 hO
      rw [e8, hC, cz_s, tI_nat, nar0, upd_at, if_pos rfl, if_pos rfl]
      have := (cz_up c_used x4.toInt.toNat 0 x4.toInt.toNat).1 (Nat.le_refl _)
      rw [this, ← hC]
      omega
set_option maxHeartbeats 400000 in
theorem s_X11_arrange (x1 : Int32) (x2 : Int32) (c_due : Nat → Int32) (c_order : Nat → Int32) (c_used : Nat → Int32) (hD : DI c_due) (h1 : 0 ≤ x1.toInt) (h2 : x2.toInt = 4 ∧ x1.toInt < 24 ∨ x2.toInt = 3 ∧ x1.toInt < 6 ∨ x2.toInt = 2 ∧ x1.toInt < 2) (hO : OI c_order) : Ok (f_X11_arrange x1 x2 c_due c_order c_used) (fun r => OI r.1) := by
  unfold f_X11_arrange
  refine s_X11_arrange_5 c_due cz (fun _ _ => rfl) hD FU _ _ _ _ _ (by omega) (by decide) ?_ ?_ (by rw [FU_eq]; decide) h1 h2 hO
  · rw [show (0 : Int32).toInt = 0 from by decide]; omega
  · rw [show (0 : Int32).toInt.toNat = 0 from by decide]; rfl
set_option maxHeartbeats 400000 in
theorem s_X11_parts__82 (σ : Nat) (k40 : Int32 → Int32 → Int32 → Int32 → Int32 → (Nat → Int32) → (Nat → Int32) → (Nat → Int32) → (Nat → Int32) → (Nat → Int32) → (Nat → Int32) → (Nat → Int32) → (Nat → Int32) → (Nat → Int32) → Option (Int32 × (Nat → Int32) × (Nat → Int32) × (Nat → Int32) × (Nat → Int32) × (Nat → Int32) × (Nat → Int32) × (Nat → Int32) × (Nat → Int32) × (Nat → Int32))) (k73 : Int32 → Int32 → Int32 → Int32 → Int32 → Int32 → (Nat → Int32) → (Nat → Int32) → (Nat → Int32) → (Nat → Int32) → (Nat → Int32) → (Nat → Int32) → (Nat → Int32) → (Nat → Int32) → (Nat → Int32) → Option (Int32 × (Nat → Int32) × (Nat → Int32) × (Nat → Int32) × (Nat → Int32) × (Nat → Int32) × (Nat → Int32) × (Nat → Int32) × (Nat → Int32) × (Nat → Int32))) (c_side : Int32) (c_many : Nat → Int32) (c_one : Nat → Int32) (c_two : Nat → Int32) (c_kinds : Nat → Int32) (c_kindBits : Nat → Int32) (c_netOf : Nat → Int32) (c_stuck : Nat → Int32) (c_dusty : Nat → Int32) (c_ahead : Nat → Int32) (c_due : Nat → Int32) (hM : MI σ c_side c_many c_one c_kinds c_netOf) {Q} : ∀ (n : Nat) (x1 : Int32) (x2 : Int32) (x3 : Int32) (x4 : Int32) (x5 : Int32) (x6 : Int32) (x7 : Int32) (c_state : Nat → Int32) (c_joined : Nat → Int32) (c_live : Nat → Int32) (c_ground : Nat → Int32) (c_part : Nat → Int32) (c_order : Nat → Int32) (c_picked : Nat → Int32) (c_after : Nat → Int32) (c_used : Nat → Int32), 2 ≤ x1.toInt → x1.toInt ≤ 4 → 0 ≤ x7.toInt → x7.toInt ≤ x1.toInt → 4 < x7.toInt + n → OI c_order → (∀ st jo li gr pa, Ok (k73 x1 x2 x3 x4 x5 (x6 + 1) st jo li gr pa c_order c_picked c_after c_used) Q) → Ok (f_X11_parts__82 k40 k73 c_side c_many c_one c_two c_kinds c_kindBits c_netOf c_stuck c_dusty c_ahead c_due n x1 x2 x3 x4 x5 x6 x7 c_state c_joined c_live c_ground c_part c_order c_picked c_after c_used) Q
  | 0, x1, x2, x3, x4, x5, x6, x7, c_state, c_joined, c_live, c_ground, c_part, c_order, c_picked, c_after, c_used, h0, h1, h2, h3, h4, hO, hk => by exfalso; omega
  | n + 1, x1, x2, x3, x4, x5, x6, x7, c_state, c_joined, c_live, c_ground, c_part, c_order, c_picked, c_after, c_used, h0, h1, h2, h3, h4, hO, hk => by
    unfold f_X11_parts__82 f_X11_parts__122
    refine ok_if (fun a1 => ok_bind (s_X11_ticks σ _ _ _ _ _ _ _ _ _ _ _ _ _ _ hM) (fun r1 _ => ok_vlet (hk _ _ _ _ _))) (fun a1 => ?_)
    rw [tI_le] at a1
    have o := hO x7.toInt.toNat (by omega)
    have e7 : (x7 + 1).toInt = x7.toInt + 1 := by ((try simp only [tI_lt, tI_le, tI_eq, tI_add, tI_sub, tI_mul, tI_nat, Int32.reduceToInt, Int.reduceToNat, fe_0, fe_1, fe_2, fe_3, fe_4, fe_5]) <;> (try simp (disch := omega) only [tI_bm]) <;> omega)
    have ih : ∀ (pa : Nat → Int32), Ok (f_X11_parts__82 k40 k73 c_side c_many c_one c_two c_kinds c_kindBits c_netOf c_stuck c_dusty c_ahead c_due n x1 x2 x3 x4 x5 x6 (x7 + 1) c_state c_joined c_live c_ground pa c_order c_picked c_after c_used) Q := fun pa => s_X11_parts__82 σ k40 k73 c_side c_many c_one c_two c_kinds c_kindBits c_netOf c_stuck c_dusty c_ahead c_due hM n _ _ _ _ _ _ _ _ _ _ _ _ _ _ _ _ h0 h1 (by omega) (by omega) (by omega) hO hk
    have ho : 0 ≤ (c_order x7.toNatClampNeg).toInt ∧ (c_order x7.toNatClampNeg).toInt < (40 : Nat) := o
    have hb : 0 ≤ x7.toInt ∧ x7.toInt < (4 : Nat) := by omega
    exact ok_bad hb (ok_if (fun _ => ok_if (fun _ => ok_bad ho (ok_vlet (ok_vlet (ih _)))) (fun _ => ok_bad ho (ok_vlet (ok_vlet (ih _))))) (fun _ => ok_bad ho (ok_vlet (ok_vlet (ih _)))))
set_option maxHeartbeats 400000 in
theorem s_X11_parts__142 (σ : Nat) (k40 : Int32 → Int32 → Int32 → Int32 → Int32 → (Nat → Int32) → (Nat → Int32) → (Nat → Int32) → (Nat → Int32) → (Nat → Int32) → (Nat → Int32) → (Nat → Int32) → (Nat → Int32) → (Nat → Int32) → Option (Int32 × (Nat → Int32) × (Nat → Int32) × (Nat → Int32) × (Nat → Int32) × (Nat → Int32) × (Nat → Int32) × (Nat → Int32) × (Nat → Int32) × (Nat → Int32))) (c_side : Int32) (c_many : Nat → Int32) (c_one : Nat → Int32) (c_two : Nat → Int32) (c_kinds : Nat → Int32) (c_kindBits : Nat → Int32) (c_netOf : Nat → Int32) (c_stuck : Nat → Int32) (c_dusty : Nat → Int32) (c_ahead : Nat → Int32) (c_due : Nat → Int32) (hM : MI σ c_side c_many c_one c_kinds c_netOf) {Q} : ∀ (n : Nat) (x1 : Int32) (x2 : Int32) (x3 : Int32) (x4 : Int32) (x5 : Int32) (x6 : Int32) (c_state : Nat → Int32) (c_joined : Nat → Int32) (c_live : Nat → Int32) (c_ground : Nat → Int32) (c_part : Nat → Int32) (c_order : Nat → Int32) (c_picked : Nat → Int32) (c_after : Nat → Int32) (c_used : Nat → Int32), (x4 = 0 ∨ x4 = 1) → 0 ≤ x6.toInt → x6.toInt ≤ 40 → 40 < x6.toInt + n → (∀ v pi, v = 0 ∨ v = 1 → Ok (k40 x1 x2 x3 v (x5 + 1) c_state c_joined c_live c_ground c_part c_order pi c_after c_used) Q) → Ok (f_X11_parts__142 k40 c_side c_many c_one c_two c_kinds c_kindBits c_netOf c_stuck c_dusty c_ahead c_due n x1 x2 x3 x4 x5 x6 c_state c_joined c_live c_ground c_part c_order c_picked c_after c_used) Q
  | 0, x1, x2, x3, x4, x5, x6, c_state, c_joined, c_live, c_ground, c_part, c_order, c_picked, c_after, c_used, h0, h1, h2, h3, hk => by exfalso; omega
  | n + 1, x1, x2, x3, x4, x5, x6, c_state, c_joined, c_live, c_ground, c_part, c_order, c_picked, c_after, c_used, h0, h1, h2, h3, hk => by
    unfold f_X11_parts__142 f_X11_parts__185 f_X11_parts__181
    have hM' := hM
    obtain ⟨hs, hσ, m0, m1, m2, m3, m4, hK, hO1, hO⟩ := hM'
    refine ok_eq (s_X11_here σ 0 c_side c_many hs hσ (by decide) (by decide)) ?_
    rw [show (0 : Int32).toInt.toNat = 0 from by decide]
    refine ok_if (fun a1 => ok_vlet (hk _ _ h0)) (fun a1 => ?_)
    rw [tI_le] at a1
    have e6 : (x6 + 1).toInt = x6.toInt + 1 := by ((try simp only [tI_lt, tI_le, tI_eq, tI_add, tI_sub, tI_mul, tI_nat, Int32.reduceToInt, Int.reduceToNat, fe_0, fe_1, fe_2, fe_3, fe_4, fe_5]) <;> (try simp (disch := omega) only [tI_bm]) <;> omega)
    have e0 : (0 + x6).toInt = x6.toInt := by ((try simp only [tI_lt, tI_le, tI_eq, tI_add, tI_sub, tI_mul, tI_nat, Int32.reduceToInt, Int.reduceToNat, fe_0, fe_1, fe_2, fe_3, fe_4, fe_5]) <;> (try simp (disch := omega) only [tI_bm]) <;> omega)
    have hb : 0 ≤ x6.toInt ∧ x6.toInt < (40 : Nat) := by omega
    have hb2 : 0 ≤ (0 + x6).toInt ∧ (0 + x6).toInt < (345 : Nat) := by omega
    have go : ∀ y0 : Int32, y0 = 0 ∨ y0 = 1 → Ok (f_X11_parts__186 k40 (f_X11_parts__142 k40 c_side c_many c_one c_two c_kinds c_kindBits c_netOf c_stuck c_dusty c_ahead c_due n) c_side c_many c_one c_two c_kinds c_kindBits c_netOf c_stuck c_dusty c_ahead c_due x1 x2 x3 x5 x6 y0 c_state c_joined c_live c_ground c_part c_order c_picked c_after c_used) Q := by
      intro y0 hy
      unfold f_X11_parts__186
      refine ok_bad hb2 (ok_vlet (ok_bad hb (ok_vlet (ok_vlet ?_))))
      exact s_X11_parts__142 σ k40 c_side c_many c_one c_two c_kinds c_kindBits c_netOf c_stuck c_dusty c_ahead c_due hM n _ _ _ _ _ _ _ _ _ _ _ _ _ _ _ hy (by omega) (by omega) (by omega) hk
    exact ok_if (fun _ => ok_if (fun _ => go 0 (.inl rfl)) (fun _ => ok_bad hb (ok_bad hb2 (ok_if (fun _ => go 0 (.inl rfl)) (fun _ => go 1 (.inr rfl)))))) (fun _ => go 1 (.inr rfl))
set_option maxHeartbeats 400000 in
theorem s_X11_parts__73 (σ : Nat) (k40 : Int32 → Int32 → Int32 → Int32 → Int32 → (Nat → Int32) → (Nat → Int32) → (Nat → Int32) → (Nat → Int32) → (Nat → Int32) → (Nat → Int32) → (Nat → Int32) → (Nat → Int32) → (Nat → Int32) → Option (Int32 × (Nat → Int32) × (Nat → Int32) × (Nat → Int32) × (Nat → Int32) × (Nat → Int32) × (Nat → Int32) × (Nat → Int32) × (Nat → Int32) × (Nat → Int32))) (c_side : Int32) (c_many : Nat → Int32) (c_one : Nat → Int32) (c_two : Nat → Int32) (c_kinds : Nat → Int32) (c_kindBits : Nat → Int32) (c_netOf : Nat → Int32) (c_stuck : Nat → Int32) (c_dusty : Nat → Int32) (c_ahead : Nat → Int32) (c_due : Nat → Int32) (hM : MI σ c_side c_many c_one c_kinds c_netOf) {Q} : ∀ (n : Nat) (x1 : Int32) (x2 : Int32) (x3 : Int32) (x4 : Int32) (x5 : Int32) (x6 : Int32) (c_state : Nat → Int32) (c_joined : Nat → Int32) (c_live : Nat → Int32) (c_ground : Nat → Int32) (c_part : Nat → Int32) (c_order : Nat → Int32) (c_picked : Nat → Int32) (c_after : Nat → Int32) (c_used : Nat → Int32), 2 ≤ x1.toInt → x1.toInt ≤ 4 → x2.toInt ≤ 100 → (x4 = 0 ∨ x4 = 1) → 0 ≤ x6.toInt → x6.toInt ≤ 100 → 100 < x6.toInt + n → OI c_order → (∀ v st jo li gr pa pi, v = 0 ∨ v = 1 → Ok (k40 x1 x2 x3 v (x5 + 1) st jo li gr pa c_order pi c_after c_used) Q) → Ok (f_X11_parts__73 k40 c_side c_many c_one c_two c_kinds c_kindBits c_netOf c_stuck c_dusty c_ahead c_due n x1 x2 x3 x4 x5 x6 c_state c_joined c_live c_ground c_part c_order c_picked c_after c_used) Q
  | 0, x1, x2, x3, x4, x5, x6, c_state, c_joined, c_live, c_ground, c_part, c_order, c_picked, c_after, c_used, g1, g2, g3, h0, h1, h2, h3, hO, hk => by exfalso; omega
  | n + 1, x1, x2, x3, x4, x5, x6, c_state, c_joined, c_live, c_ground, c_part, c_order, c_picked, c_after, c_used, g1, g2, g3, h0, h1, h2, h3, hO, hk => by
    unfold f_X11_parts__73
    refine ok_if (fun a1 => ?_) (fun a1 => ?_)
    · exact s_X11_parts__142 σ k40 c_side c_many c_one c_two c_kinds c_kindBits c_netOf c_stuck c_dusty c_ahead c_due hM FU _ _ _ _ _ _ _ _ _ _ _ _ _ _ _ h0 (by decide) (by decide) (by rw [FU_eq]; decide) (fun v pi hv => hk v _ _ _ _ _ pi hv)
    · rw [tI_le] at a1
      refine s_X11_parts__82 σ k40 (f_X11_parts__73 k40 c_side c_many c_one c_two c_kinds c_kindBits c_netOf c_stuck c_dusty c_ahead c_due n) c_side c_many c_one c_two c_kinds c_kindBits c_netOf c_stuck c_dusty c_ahead c_due hM FU _ _ _ _ _ _ _ _ _ _ _ _ _ _ _ _ g1 g2 (by decide) (by rw [show (0 : Int32).toInt = 0 from by decide]; omega) (by rw [FU_eq]; decide) hO (fun st jo li gr pa => ?_)
      exact s_X11_parts__73 σ k40 c_side c_many c_one c_two c_kinds c_kindBits c_netOf c_stuck c_dusty c_ahead c_due hM n _ _ _ _ _ _ _ _ _ _ _ _ _ _ _ g1 g2 g3 h0 (by ((try simp only [tI_lt, tI_le, tI_eq, tI_add, tI_sub, tI_mul, tI_nat, Int32.reduceToInt, Int.reduceToNat, fe_0, fe_1, fe_2, fe_3, fe_4, fe_5]) <;> (try simp (disch := omega) only [tI_bm]) <;> omega)) (by ((try simp only [tI_lt, tI_le, tI_eq, tI_add, tI_sub, tI_mul, tI_nat, Int32.reduceToInt, Int.reduceToNat, fe_0, fe_1, fe_2, fe_3, fe_4, fe_5]) <;> (try simp (disch := omega) only [tI_bm]) <;> omega)) (by ((try simp only [tI_lt, tI_le, tI_eq, tI_add, tI_sub, tI_mul, tI_nat, Int32.reduceToInt, Int.reduceToNat, fe_0, fe_1, fe_2, fe_3, fe_4, fe_5]) <;> (try simp (disch := omega) only [tI_bm]) <;> omega)) hO hk
set_option maxHeartbeats 400000 in
theorem s_X11_parts__219 (c_side : Int32) (c_many : Nat → Int32) (c_one : Nat → Int32) (c_two : Nat → Int32) (c_kinds : Nat → Int32) (c_kindBits : Nat → Int32) (c_netOf : Nat → Int32) (c_stuck : Nat → Int32) (c_dusty : Nat → Int32) (c_ahead : Nat → Int32) (c_due : Nat → Int32) : ∀ (n : Nat) (x4 : Int32) (x5 : Int32) (c_state : Nat → Int32) (c_joined : Nat → Int32) (c_live : Nat → Int32) (c_ground : Nat → Int32) (c_part : Nat → Int32) (c_order : Nat → Int32) (c_picked : Nat → Int32) (c_after : Nat → Int32) (c_used : Nat → Int32), (x4 = 0 ∨ x4 = 1) → 0 ≤ x5.toInt → x5.toInt ≤ 40 → 40 < x5.toInt + n → OI c_order → Ok (f_X11_parts__219 c_side c_many c_one c_two c_kinds c_kindBits c_netOf c_stuck c_dusty c_ahead c_due n x4 x5 c_state c_joined c_live c_ground c_part c_order c_picked c_after c_used) (fun r => OI r.2.2.2.2.2.2.1)
  | 0, x4, x5, c_state, c_joined, c_live, c_ground, c_part, c_order, c_picked, c_after, c_used, h0, h1, h2, h3, hO => by exfalso; omega
  | n + 1, x4, x5, c_state, c_joined, c_live, c_ground, c_part, c_order, c_picked, c_after, c_used, h0, h1, h2, h3, hO => by
    unfold f_X11_parts__219
    refine ok_if (fun _ => ok_bind (s_X11_copy _ _) (fun r1 _ => ?_)) (fun a1 => ?_)
    · have : isB x4 = true := by
        rcases h0 with e | e <;> subst e <;> decide
      rw [if_pos this]
      exact ok_some hO
    · simp only [tI_lt, tI_le, tI_eq, tI_add, tI_sub, tI_mul, tI_nat, Int32.reduceToInt, Int.reduceToNat, fe_0, fe_1, fe_2, fe_3, fe_4, fe_5] at a1
      exact ok_bad (by omega) (ok_vlet (ok_vlet (s_X11_parts__219 c_side c_many c_one c_two c_kinds c_kindBits c_netOf c_stuck c_dusty c_ahead c_due n _ _ _ _ _ _ _ _ _ _ _ h0 (by ((try simp only [tI_lt, tI_le, tI_eq, tI_add, tI_sub, tI_mul, tI_nat, Int32.reduceToInt, Int.reduceToNat, fe_0, fe_1, fe_2, fe_3, fe_4, fe_5]) <;> (try simp (disch := omega) only [tI_bm]) <;> omega)) (by ((try simp only [tI_lt, tI_le, tI_eq, tI_add, tI_sub, tI_mul, tI_nat, Int32.reduceToInt, Int.reduceToNat, fe_0, fe_1, fe_2, fe_3, fe_4, fe_5]) <;> (try simp (disch := omega) only [tI_bm]) <;> omega)) (by ((try simp only [tI_lt, tI_le, tI_eq, tI_add, tI_sub, tI_mul, tI_nat, Int32.reduceToInt, Int.reduceToNat, fe_0, fe_1, fe_2, fe_3, fe_4, fe_5]) <;> (try simp (disch := omega) only [tI_bm]) <;> omega)) hO)))
set_option maxHeartbeats 400000 in
theorem s_X11_parts__40 (σ : Nat) (c_side : Int32) (c_many : Nat → Int32) (c_one : Nat → Int32) (c_two : Nat → Int32) (c_kinds : Nat → Int32) (c_kindBits : Nat → Int32) (c_netOf : Nat → Int32) (c_stuck : Nat → Int32) (c_dusty : Nat → Int32) (c_ahead : Nat → Int32) (c_due : Nat → Int32) (hM : MI σ c_side c_many c_one c_kinds c_netOf) (hD : DI c_due) : ∀ (n : Nat) (x1 : Int32) (x2 : Int32) (x3 : Int32) (x4 : Int32) (x5 : Int32) (c_state : Nat → Int32) (c_joined : Nat → Int32) (c_live : Nat → Int32) (c_ground : Nat → Int32) (c_part : Nat → Int32) (c_order : Nat → Int32) (c_picked : Nat → Int32) (c_after : Nat → Int32) (c_used : Nat → Int32), (x1.toInt = 4 ∧ x3.toInt = 24 ∨ x1.toInt = 3 ∧ x3.toInt = 6 ∨ x1.toInt = 2 ∧ x3.toInt = 2) → x2.toInt ≤ 100 → (x4 = 0 ∨ x4 = 1) → 0 ≤ x5.toInt → x5.toInt ≤ 24 → 24 < x5.toInt + n → OI c_order → Ok (f_X11_parts__40 c_side c_many c_one c_two c_kinds c_kindBits c_netOf c_stuck c_dusty c_ahead c_due n x1 x2 x3 x4 x5 c_state c_joined c_live c_ground c_part c_order c_picked c_after c_used) (fun r => OI r.2.2.2.2.2.2.1)
  | 0, x1, x2, x3, x4, x5, c_state, c_joined, c_live, c_ground, c_part, c_order, c_picked, c_after, c_used, g1, g2, h0, h1, h2, h3, hO => by exfalso; omega
  | n + 1, x1, x2, x3, x4, x5, c_state, c_joined, c_live, c_ground, c_part, c_order, c_picked, c_after, c_used, g1, g2, h0, h1, h2, h3, hO => by
    unfold f_X11_parts__40 f_X11_parts__216
    have go : Ok (f_X11_parts__219 c_side c_many c_one c_two c_kinds c_kindBits c_netOf c_stuck c_dusty c_ahead c_due FU x4 (0 : Int32) c_state c_joined c_live c_ground c_part c_order c_picked c_after c_used) (fun r => OI r.2.2.2.2.2.2.1) := s_X11_parts__219 c_side c_many c_one c_two c_kinds c_kindBits c_netOf c_stuck c_dusty c_ahead c_due FU _ _ _ _ _ _ _ _ _ _ _ h0 (by decide) (by decide) (by rw [FU_eq]; decide) hO
    refine ok_if (fun _ => go) (fun a1 => ok_if (fun a2 => ?_) (fun _ => go))
    rw [tI_le] at a1
    refine ok_bind (s_X11_arrange _ _ _ _ _ hD h1 (by omega) hO) (fun r1 q1 => ok_bind (s_X11_copy _ _) (fun r2 _ => ?_))
    refine s_X11_parts__73 σ (f_X11_parts__40 c_side c_many c_one c_two c_kinds c_kindBits c_netOf c_stuck c_dusty c_ahead c_due n) c_side c_many c_one c_two c_kinds c_kindBits c_netOf c_stuck c_dusty c_ahead c_due hM FU _ _ _ _ _ _ _ _ _ _ _ _ _ _ _ (by omega) (by omega) g2 h0 (by decide) (by decide) (by rw [FU_eq]; decide) q1 (fun v st jo li gr pa pi hv => ?_)
    exact s_X11_parts__40 σ c_side c_many c_one c_two c_kinds c_kindBits c_netOf c_stuck c_dusty c_ahead c_due hM hD n _ _ _ _ _ _ _ _ _ _ _ _ _ _ g1 g2 hv (by ((try simp only [tI_lt, tI_le, tI_eq, tI_add, tI_sub, tI_mul, tI_nat, Int32.reduceToInt, Int.reduceToNat, fe_0, fe_1, fe_2, fe_3, fe_4, fe_5]) <;> (try simp (disch := omega) only [tI_bm]) <;> omega)) (by ((try simp only [tI_lt, tI_le, tI_eq, tI_add, tI_sub, tI_mul, tI_nat, Int32.reduceToInt, Int.reduceToNat, fe_0, fe_1, fe_2, fe_3, fe_4, fe_5]) <;> (try simp (disch := omega) only [tI_bm]) <;> omega)) (by ((try simp only [tI_lt, tI_le, tI_eq, tI_add, tI_sub, tI_mul, tI_nat, Int32.reduceToInt, Int.reduceToNat, fe_0, fe_1, fe_2, fe_3, fe_4, fe_5]) <;> (try simp (disch := omega) only [tI_bm]) <;> omega)) q1
set_option maxHeartbeats 400000 in
theorem s_X11_parts_ (σ : Nat) (x1 : Int32) (x2 : Int32) (c_side : Int32) (c_many : Nat → Int32) (c_one : Nat → Int32) (c_two : Nat → Int32) (c_kinds : Nat → Int32) (c_kindBits : Nat → Int32) (c_netOf : Nat → Int32) (c_state : Nat → Int32) (c_stuck : Nat → Int32) (c_dusty : Nat → Int32) (c_joined : Nat → Int32) (c_live : Nat → Int32) (c_ground : Nat → Int32) (c_part : Nat → Int32) (c_ahead : Nat → Int32) (c_due : Nat → Int32) (c_order : Nat → Int32) (c_picked : Nat → Int32) (c_after : Nat → Int32) (c_used : Nat → Int32) (hM : MI σ c_side c_many c_one c_kinds c_netOf) (hD : DI c_due) (hO : OI c_order) (h1 : 2 ≤ x1.toInt) (h2 : x1.toInt ≤ 4) (h3 : x2.toInt ≤ 100) : Ok (f_X11_parts_ x1 x2 c_side c_many c_one c_two c_kinds c_kindBits c_netOf c_state c_stuck c_dusty c_joined c_live c_ground c_part c_ahead c_due c_order c_picked c_after c_used) (fun r => OI r.2.2.2.2.2.2.1) := by
  unfold f_X11_parts_ f_X11_parts__33
  refine ok_bind (s_X11_copy _ _) (fun r1 _ => ok_if (fun a => ?_) (fun a => ok_if (fun b => ?_) (fun b => ?_)))
  all_goals refine s_X11_parts__40 σ c_side c_many c_one c_two c_kinds c_kindBits c_netOf c_stuck c_dusty c_ahead c_due hM hD FU _ _ _ _ _ _ _ _ _ _ _ _ _ _ ?_ h3 (.inl rfl) (by decide) (by decide) (by rw [FU_eq]; decide) hO
  · rw [a]; exact .inr (.inr ⟨by decide, by decide⟩)
  · rw [b]; exact .inr (.inl ⟨by decide, by decide⟩)
  · have a2 : ¬ x1.toInt = 2 := fun q => a (Int32.toInt_inj.mp (by rw [q]; decide))
    have b2 : ¬ x1.toInt = 3 := fun q => b (Int32.toInt_inj.mp (by rw [q]; decide))
    exact .inl ⟨by omega, by decide⟩
