/-! the reference: ticks and questions end within the domain -/
set_option maxHeartbeats 400000 in
theorem s_X11_coil_144 (c_side : Int32) (c_one : Nat → Int32) (c_two : Nat → Int32) (c_netOf : Nat → Int32) (c_joined : Nat → Int32) (c_live : Nat → Int32) (c_ground : Nat → Int32) (c_part : Nat → Int32) (x1 : Int32) (x2 : Int32) (x5 : Int32) (y1 : Int32) (y2 : Int32) (c_state : Nat → Int32) (hx : 0 ≤ x1.toInt ∧ x1.toInt < 40) (hy : 0 ≤ y1.toInt ∧ y1.toInt < 345) : Ok (f_X11_coil_144 c_side c_one c_two c_netOf c_joined c_live c_ground c_part x1 x2 x5 y1 y2 c_state) (fun _ => True) := by
  unfold f_X11_coil_144
  have e : (0 + x1).toInt = x1.toInt := by ((try simp only [tI_lt, tI_le, tI_eq, tI_add, tI_sub, tI_mul, tI_nat, Int32.reduceToInt, Int.reduceToNat, fe_0, fe_1, fe_2, fe_3, fe_4, fe_5]) <;> (try simp (disch := omega) only [tI_bm]) <;> omega)
  have hb : 0 ≤ (0 + x1).toInt ∧ (0 + x1).toInt < (345 : Nat) := by omega
  exact ok_bad ⟨hy.1, hy.2⟩ (ok_vlet (ok_if (fun _ => ok_some trivial) (fun _ => ok_if (fun _ => ok_bad hb (ok_vlet (ok_some trivial))) (fun _ => ok_bad hb (ok_vlet (ok_some trivial))))))
set_option maxHeartbeats 400000 in
theorem s_X11_coil_123 (c_side : Int32) (c_one : Nat → Int32) (c_two : Nat → Int32) (c_netOf : Nat → Int32) (c_joined : Nat → Int32) (c_live : Nat → Int32) (c_ground : Nat → Int32) (c_part : Nat → Int32) (x1 : Int32) (x2 : Int32) (x4 : Int32) (y0 : Int32) (c_state : Nat → Int32) (hx : 0 ≤ x1.toInt ∧ x1.toInt < 40) : Ok (f_X11_coil_123 c_side c_one c_two c_netOf c_joined c_live c_ground c_part x1 x2 x4 y0 c_state) (fun _ => True) := by
  unfold f_X11_coil_123
  have e : 0 ≤ (40 + x1).toInt ∧ (40 + x1).toInt < 345 := by ((try simp only [tI_lt, tI_le, tI_eq, tI_add, tI_sub, tI_mul, tI_nat, Int32.reduceToInt, Int.reduceToNat, fe_0, fe_1, fe_2, fe_3, fe_4, fe_5]) <;> (try simp (disch := omega) only [tI_bm]) <;> omega)
  exact ok_if (fun _ => s_X11_coil_144 _ _ _ _ _ _ _ _ _ _ _ _ _ _ hx e) (fun _ => s_X11_coil_144 _ _ _ _ _ _ _ _ _ _ _ _ _ _ hx e)
set_option maxHeartbeats 400000 in
theorem s_X11_coil (σ : Nat) (x1 : Int32) (c_side : Int32) (c_one : Nat → Int32) (c_two : Nat → Int32) (c_netOf : Nat → Int32) (c_state : Nat → Int32) (c_joined : Nat → Int32) (c_live : Nat → Int32) (c_ground : Nat → Int32) (c_part : Nat → Int32) (hs : c_side.toInt = (σ : Int)) (h1 : σ ≤ 1) (hO : ∀ e : Nat, e < 954 → 0 ≤ (c_netOf (954 * σ + e)).toInt ∧ (c_netOf (954 * σ + e)).toInt < 954) (hJ : JI c_joined) (hx : 0 ≤ x1.toInt ∧ x1.toInt < 40) : Ok (f_X11_coil x1 c_side c_one c_two c_netOf c_state c_joined c_live c_ground c_part) (fun _ => True) := by
  unfold f_X11_coil
  have e : (0 + x1).toInt = x1.toInt := by ((try simp only [tI_lt, tI_le, tI_eq, tI_add, tI_sub, tI_mul, tI_nat, Int32.reduceToInt, Int.reduceToNat, fe_0, fe_1, fe_2, fe_3, fe_4, fe_5]) <;> (try simp (disch := omega) only [tI_bm]) <;> omega)
  have e4 : (40 + x1).toInt = 40 + x1.toInt := by ((try simp only [tI_lt, tI_le, tI_eq, tI_add, tI_sub, tI_mul, tI_nat, Int32.reduceToInt, Int.reduceToNat, fe_0, fe_1, fe_2, fe_3, fe_4, fe_5]) <;> (try simp (disch := omega) only [tI_bm]) <;> omega)
  have e1 : (116 * c_side + x1).toInt = 116 * σ + x1.toInt := by ((try simp only [tI_lt, tI_le, tI_eq, tI_add, tI_sub, tI_mul, tI_nat, Int32.reduceToInt, Int.reduceToNat, fe_0, fe_1, fe_2, fe_3, fe_4, fe_5]) <;> (try simp (disch := omega) only [tI_bm]) <;> omega)
  have hb : 0 ≤ x1.toInt ∧ x1.toInt < (40 : Nat) := hx
  have go115 : ∀ x2 x4 y0 y1 : Int32, Ok (f_X11_coil_115 c_side c_one c_two c_netOf c_joined c_live c_ground c_part x1 x2 x4 y0 y1 c_state) (fun _ => True) := by
    intro x2 x4 y0 y1
    unfold f_X11_coil_115 f_X11_coil_118
    exact ok_if (fun _ => s_X11_coil_123 _ _ _ _ _ _ _ _ _ _ _ _ _ hx) (fun _ => s_X11_coil_123 _ _ _ _ _ _ _ _ _ _ _ _ _ hx)
  have go66 : ∀ x2 y0 : Int32, Ok (f_X11_coil_66 c_side c_one c_two c_netOf c_joined c_live c_ground c_part x1 x2 y0 c_state) (fun _ => True) := by
    intro x2 y0
    unfold f_X11_coil_66 f_X11_coil_118
    exact ok_bad hb (ok_if (fun _ => s_X11_coil_123 _ _ _ _ _ _ _ _ _ _ _ _ _ hx) (fun _ => ok_if (fun _ => ok_bad (by omega) (go115 _ _ _ _)) (fun _ => ok_bad (by omega) (go115 _ _ _ _))))
  have go28 : ∀ y0 : Int32, Ok (f_X11_coil_28 c_side c_one c_two c_netOf c_joined c_live c_ground c_part x1 y0 c_state) (fun _ => True) := by
    intro y0
    unfold f_X11_coil_28
    refine ok_bind (s_X11_isOn σ _ _ _ _ _ _ _ hs h1 hO hJ (by ((try simp only [tI_lt, tI_le, tI_eq, tI_add, tI_sub, tI_mul, tI_nat, Int32.reduceToInt, Int.reduceToNat, fe_0, fe_1, fe_2, fe_3, fe_4, fe_5]) <;> (try simp (disch := omega) only [tI_bm]) <;> omega)) (by ((try simp only [tI_lt, tI_le, tI_eq, tI_add, tI_sub, tI_mul, tI_nat, Int32.reduceToInt, Int.reduceToNat, fe_0, fe_1, fe_2, fe_3, fe_4, fe_5]) <;> (try simp (disch := omega) only [tI_bm]) <;> omega)) (by ((try simp only [tI_lt, tI_le, tI_eq, tI_add, tI_sub, tI_mul, tI_nat, Int32.reduceToInt, Int.reduceToNat, fe_0, fe_1, fe_2, fe_3, fe_4, fe_5]) <;> (try simp (disch := omega) only [tI_bm]) <;> omega)) (by ((try simp only [tI_lt, tI_le, tI_eq, tI_add, tI_sub, tI_mul, tI_nat, Int32.reduceToInt, Int.reduceToNat, fe_0, fe_1, fe_2, fe_3, fe_4, fe_5]) <;> (try simp (disch := omega) only [tI_bm]) <;> omega))) (fun r1 _ => ok_if (fun _ => go66 _ _) (fun _ => ok_bad (by omega) (go66 _ _)))
  exact ok_bad hb (ok_if (fun _ => ok_some trivial) (fun _ => ok_bad (by omega) (ok_if (fun _ => go28 _) (fun _ => go28 _))))
set_option maxHeartbeats 400000 in
theorem s_X11_ticks_51 (σ : Nat) (k40 : Int32 → (Nat → Int32) → (Nat → Int32) → (Nat → Int32) → (Nat → Int32) → Option ((Nat → Int32) × (Nat → Int32) × (Nat → Int32) × (Nat → Int32))) (c_side : Int32) (c_many : Nat → Int32) (c_one : Nat → Int32) (c_two : Nat → Int32) (c_kinds : Nat → Int32) (c_kindBits : Nat → Int32) (c_netOf : Nat → Int32) (c_stuck : Nat → Int32) (c_dusty : Nat → Int32) (c_part : Nat → Int32) (hM : MI σ c_side c_many c_one c_kinds c_netOf) {Q} : ∀ (n : Nat) (x1 : Int32) (x2 : Int32) (c_state : Nat → Int32) (c_joined : Nat → Int32) (c_live : Nat → Int32) (c_ground : Nat → Int32), 0 ≤ x1.toInt → x1.toInt < 40 → (∀ s, Ok (k40 (x1 + 1) s c_joined c_live c_ground) Q) → 0 ≤ x2.toInt → x2.toInt ≤ 6 → 24 < x2.toInt + n → Ok (f_X11_ticks_51 k40 c_side c_many c_one c_two c_kinds c_kindBits c_netOf c_stuck c_dusty c_part n x1 x2 c_state c_joined c_live c_ground) Q
  | 0, x1, x2, c_state, c_joined, c_live, c_ground, g1, g2, hk, h1, h2, h3 => by exfalso; omega
  | n + 1, x1, x2, c_state, c_joined, c_live, c_ground, g1, g2, hk, h1, h2, h3 => by
    unfold f_X11_ticks_51 f_X11_ticks_123
    have hM' := hM
    obtain ⟨hs, hσ, m0, m1, m2, m3, m4, hK, hO1, hO⟩ := hM'
    have e1 : (116 * c_side + x1).toInt = 116 * σ + x1.toInt := by ((try simp only [tI_lt, tI_le, tI_eq, tI_add, tI_sub, tI_mul, tI_nat, Int32.reduceToInt, Int.reduceToNat, fe_0, fe_1, fe_2, fe_3, fe_4, fe_5]) <;> (try simp (disch := omega) only [tI_bm]) <;> omega)
    have k1 := hK (116 * c_side + x1).toNatClampNeg (by rw [tI_nat]; omega)
    refine ok_bad (by omega) (ok_if (fun a1 => ok_vlet (hk _)) (fun a1 => ok_vlet ?_))
    rw [tI_le] at a1
    have e2 : 0 ≤ (80 + 6 * x1 + x2).toInt ∧ (80 + 6 * x1 + x2).toInt < (345 : Nat) := by clear k1 a1 hM; ((try simp only [tI_lt, tI_le, tI_eq, tI_add, tI_sub, tI_mul, tI_nat, Int32.reduceToInt, Int.reduceToNat, fe_0, fe_1, fe_2, fe_3, fe_4, fe_5]) <;> (try simp (disch := omega) only [tI_bm]) <;> omega)
    have e : (0 + x1).toInt = x1.toInt := by ((try simp only [tI_lt, tI_le, tI_eq, tI_add, tI_sub, tI_mul, tI_nat, Int32.reduceToInt, Int.reduceToNat, fe_0, fe_1, fe_2, fe_3, fe_4, fe_5]) <;> (try simp (disch := omega) only [tI_bm]) <;> omega)
    have ih : ∀ s, Ok (f_X11_ticks_51 k40 c_side c_many c_one c_two c_kinds c_kindBits c_netOf c_stuck c_dusty c_part n x1 (x2 + 1) s c_joined c_live c_ground) Q := fun s => s_X11_ticks_51 σ k40 c_side c_many c_one c_two c_kinds c_kindBits c_netOf c_stuck c_dusty c_part hM n _ _ _ _ _ _ g1 g2 hk (by ((try simp only [tI_lt, tI_le, tI_eq, tI_add, tI_sub, tI_mul, tI_nat, Int32.reduceToInt, Int.reduceToNat, fe_0, fe_1, fe_2, fe_3, fe_4, fe_5]) <;> (try simp (disch := omega) only [tI_bm]) <;> omega)) (by ((try simp only [tI_lt, tI_le, tI_eq, tI_add, tI_sub, tI_mul, tI_nat, Int32.reduceToInt, Int.reduceToNat, fe_0, fe_1, fe_2, fe_3, fe_4, fe_5]) <;> (try simp (disch := omega) only [tI_bm]) <;> omega)) (by ((try simp only [tI_lt, tI_le, tI_eq, tI_add, tI_sub, tI_mul, tI_nat, Int32.reduceToInt, Int.reduceToNat, fe_0, fe_1, fe_2, fe_3, fe_4, fe_5]) <;> (try simp (disch := omega) only [tI_bm]) <;> omega))
    exact ok_bad (by omega) (ok_if (fun _ => ok_bad e2 (ok_bad e2 (ok_vlet (ok_vlet (ih _))))) (fun _ => ok_bad e2 (ok_bad e2 (ok_vlet (ok_vlet (ih _))))))
set_option maxHeartbeats 400000 in
theorem s_X11_ticks_40 (σ : Nat) (c_side : Int32) (c_many : Nat → Int32) (c_one : Nat → Int32) (c_two : Nat → Int32) (c_kinds : Nat → Int32) (c_kindBits : Nat → Int32) (c_netOf : Nat → Int32) (c_stuck : Nat → Int32) (c_dusty : Nat → Int32) (c_part : Nat → Int32) (hM : MI σ c_side c_many c_one c_kinds c_netOf) : ∀ (n : Nat) (x1 : Int32) (c_state : Nat → Int32) (c_joined : Nat → Int32) (c_live : Nat → Int32) (c_ground : Nat → Int32), 0 ≤ x1.toInt → x1.toInt ≤ 40 → 40 < x1.toInt + n → Ok (f_X11_ticks_40 c_side c_many c_one c_two c_kinds c_kindBits c_netOf c_stuck c_dusty c_part n x1 c_state c_joined c_live c_ground) (fun _ => True)
  | 0, x1, c_state, c_joined, c_live, c_ground, h1, h2, h3 => by exfalso; omega
  | n + 1, x1, c_state, c_joined, c_live, c_ground, h1, h2, h3 => by
    unfold f_X11_ticks_40
    have hM' := hM
    obtain ⟨hs, hσ, m0, m1, m2, m3, m4, hK, hO1, hO⟩ := hM'
    refine ok_eq (s_X11_here σ 0 c_side c_many hs hσ (by decide) (by decide)) ?_
    rw [show (0 : Int32).toInt.toNat = 0 from by decide]
    refine ok_if (fun a1 => ok_some trivial) (fun a1 => ?_)
    simp only [tI_lt, tI_le, tI_eq, tI_add, tI_sub, tI_mul, tI_nat, Int32.reduceToInt, Int.reduceToNat, fe_0, fe_1, fe_2, fe_3, fe_4, fe_5] at a1
    refine s_X11_ticks_51 σ (f_X11_ticks_40 c_side c_many c_one c_two c_kinds c_kindBits c_netOf c_stuck c_dusty c_part n) c_side c_many c_one c_two c_kinds c_kindBits c_netOf c_stuck c_dusty c_part hM FU _ _ _ _ _ _ h1 (by omega) ?_ (by decide) (by decide) (by rw [FU_eq]; decide)
    intro s
    exact s_X11_ticks_40 σ c_side c_many c_one c_two c_kinds c_kindBits c_netOf c_stuck c_dusty c_part hM n _ _ _ _ _ (by ((try simp only [tI_lt, tI_le, tI_eq, tI_add, tI_sub, tI_mul, tI_nat, Int32.reduceToInt, Int.reduceToNat, fe_0, fe_1, fe_2, fe_3, fe_4, fe_5]) <;> (try simp (disch := omega) only [tI_bm]) <;> omega)) (by ((try simp only [tI_lt, tI_le, tI_eq, tI_add, tI_sub, tI_mul, tI_nat, Int32.reduceToInt, Int.reduceToNat, fe_0, fe_1, fe_2, fe_3, fe_4, fe_5]) <;> (try simp (disch := omega) only [tI_bm]) <;> omega)) (by ((try simp only [tI_lt, tI_le, tI_eq, tI_add, tI_sub, tI_mul, tI_nat, Int32.reduceToInt, Int.reduceToNat, fe_0, fe_1, fe_2, fe_3, fe_4, fe_5]) <;> (try simp (disch := omega) only [tI_bm]) <;> omega))
set_option maxHeartbeats 400000 in
theorem s_X11_ticks_18 (σ : Nat) (c_side : Int32) (c_many : Nat → Int32) (c_one : Nat → Int32) (c_two : Nat → Int32) (c_kinds : Nat → Int32) (c_kindBits : Nat → Int32) (c_netOf : Nat → Int32) (c_stuck : Nat → Int32) (c_dusty : Nat → Int32) (c_part : Nat → Int32) (hM : MI σ c_side c_many c_one c_kinds c_netOf) : ∀ (n : Nat) (x1 : Int32) (c_state : Nat → Int32) (c_joined : Nat → Int32) (c_live : Nat → Int32) (c_ground : Nat → Int32), 0 ≤ x1.toInt → x1.toInt ≤ 40 → 40 < x1.toInt + n → JI c_joined → Ok (f_X11_ticks_18 c_side c_many c_one c_two c_kinds c_kindBits c_netOf c_stuck c_dusty c_part n x1 c_state c_joined c_live c_ground) (fun _ => True)
  | 0, x1, c_state, c_joined, c_live, c_ground, h1, h2, h3, hJ => by exfalso; omega
  | n + 1, x1, c_state, c_joined, c_live, c_ground, h1, h2, h3, hJ => by
    unfold f_X11_ticks_18
    have hM' := hM
    obtain ⟨hs, hσ, m0, m1, m2, m3, m4, hK, hO1, hO⟩ := hM'
    refine ok_eq (s_X11_here σ 0 c_side c_many hs hσ (by decide) (by decide)) ?_
    rw [show (0 : Int32).toInt.toNat = 0 from by decide]
    refine ok_if (fun a1 => ?_) (fun a1 => ?_)
    · exact s_X11_ticks_40 σ c_side c_many c_one c_two c_kinds c_kindBits c_netOf c_stuck c_dusty c_part hM FU _ _ _ _ _ (by decide) (by decide) (by rw [FU_eq]; decide)
    · simp only [tI_lt, tI_le, tI_eq, tI_add, tI_sub, tI_mul, tI_nat, Int32.reduceToInt, Int.reduceToNat, fe_0, fe_1, fe_2, fe_3, fe_4, fe_5] at a1
      refine ok_bind (s_X11_coil σ _ _ _ _ _ _ _ _ _ _ hs hσ hO hJ ⟨h1, by omega⟩) (fun r2 _ => ok_vlet ?_)
      exact s_X11_ticks_18 σ c_side c_many c_one c_two c_kinds c_kindBits c_netOf c_stuck c_dusty c_part hM n _ _ _ _ _ (by ((try simp only [tI_lt, tI_le, tI_eq, tI_add, tI_sub, tI_mul, tI_nat, Int32.reduceToInt, Int.reduceToNat, fe_0, fe_1, fe_2, fe_3, fe_4, fe_5]) <;> (try simp (disch := omega) only [tI_bm]) <;> omega)) (by ((try simp only [tI_lt, tI_le, tI_eq, tI_add, tI_sub, tI_mul, tI_nat, Int32.reduceToInt, Int.reduceToNat, fe_0, fe_1, fe_2, fe_3, fe_4, fe_5]) <;> (try simp (disch := omega) only [tI_bm]) <;> omega)) (by ((try simp only [tI_lt, tI_le, tI_eq, tI_add, tI_sub, tI_mul, tI_nat, Int32.reduceToInt, Int.reduceToNat, fe_0, fe_1, fe_2, fe_3, fe_4, fe_5]) <;> (try simp (disch := omega) only [tI_bm]) <;> omega)) hJ
set_option maxHeartbeats 400000 in
theorem s_X11_ticks (σ : Nat) (c_side : Int32) (c_many : Nat → Int32) (c_one : Nat → Int32) (c_two : Nat → Int32) (c_kinds : Nat → Int32) (c_kindBits : Nat → Int32) (c_netOf : Nat → Int32) (c_state : Nat → Int32) (c_stuck : Nat → Int32) (c_dusty : Nat → Int32) (c_joined : Nat → Int32) (c_live : Nat → Int32) (c_ground : Nat → Int32) (c_part : Nat → Int32) (hM : MI σ c_side c_many c_one c_kinds c_netOf) : Ok (f_X11_ticks c_side c_many c_one c_two c_kinds c_kindBits c_netOf c_state c_stuck c_dusty c_joined c_live c_ground c_part) (fun _ => True) := by
  unfold f_X11_ticks
  refine ok_bad (by decide) (ok_vlet (ok_bad (by decide) (ok_vlet (ok_bind (s_X11_look σ _ _ _ _ _ _ _ _ _ _ _ _ _ hM) (fun r5 q5 => ?_)))))
  exact s_X11_ticks_18 σ c_side c_many c_one c_two c_kinds c_kindBits c_netOf c_stuck c_dusty c_part hM FU _ _ _ _ _ (by decide) (by decide) (by rw [FU_eq]; decide) q5
def KR (kept latest : Int32) : Prop := 0 ≤ kept.toInt ∧ kept.toInt ≤ 100 ∧ 0 ≤ latest.toInt ∧ latest.toInt < 100
set_option maxHeartbeats 400000 in
theorem s_X11_keep_15 (c_state : Nat → Int32) : ∀ (n : Nat) (x1 : Int32) (c_kept : Int32) (c_latest : Int32) (c_past : Nat → Int32), 0 ≤ x1.toInt → x1.toInt ≤ 345 → 345 < x1.toInt + n → KR c_kept c_latest → Ok (f_X11_keep_15 c_state n x1 c_kept c_latest c_past) (fun r => KR r.1 r.2.1)
  | 0, x1, c_kept, c_latest, c_past, h1, h2, h3, h4 => by exfalso; omega
  | n + 1, x1, c_kept, c_latest, c_past, h1, h2, h3, h4 => by
    unfold f_X11_keep_15
    have h4' := h4
    obtain ⟨q1, q2, q3, q4⟩ := h4'
    refine ok_if (fun a1 => ok_vlet (ok_some ?_)) (fun a1 => ?_)
    · refine ⟨?_, ?_, q3, q4⟩
      all_goals dsimp only
      all_goals unfold xmin
      all_goals split
      all_goals clear h4
      all_goals ((try simp only [tI_lt, tI_le, tI_eq, tI_add, tI_sub, tI_mul, tI_nat, Int32.reduceToInt, Int.reduceToNat, fe_0, fe_1, fe_2, fe_3, fe_4, fe_5] at *) <;> (try simp (disch := omega) only [tI_bm]) <;> (first | omega | ((try simp (disch := omega) only [tI_bm] at *) <;> omega)))
    · simp only [tI_lt, tI_le, tI_eq, tI_add, tI_sub, tI_mul, tI_nat, Int32.reduceToInt, Int.reduceToNat, fe_0, fe_1, fe_2, fe_3, fe_4, fe_5] at a1
      have e : 0 ≤ (345 * c_latest + x1).toInt ∧ (345 * c_latest + x1).toInt < (34500 : Nat) := by clear h4; ((try simp only [tI_lt, tI_le, tI_eq, tI_add, tI_sub, tI_mul, tI_nat, Int32.reduceToInt, Int.reduceToNat, fe_0, fe_1, fe_2, fe_3, fe_4, fe_5]) <;> (try simp (disch := omega) only [tI_bm]) <;> omega)
      refine ok_bad (by omega) (ok_vlet (ok_bad e (ok_vlet (ok_vlet ?_))))
      exact s_X11_keep_15 c_state n _ _ _ _ (by ((try simp only [tI_lt, tI_le, tI_eq, tI_add, tI_sub, tI_mul, tI_nat, Int32.reduceToInt, Int.reduceToNat, fe_0, fe_1, fe_2, fe_3, fe_4, fe_5]) <;> (try simp (disch := omega) only [tI_bm]) <;> omega)) (by ((try simp only [tI_lt, tI_le, tI_eq, tI_add, tI_sub, tI_mul, tI_nat, Int32.reduceToInt, Int.reduceToNat, fe_0, fe_1, fe_2, fe_3, fe_4, fe_5]) <;> (try simp (disch := omega) only [tI_bm]) <;> omega)) (by ((try simp only [tI_lt, tI_le, tI_eq, tI_add, tI_sub, tI_mul, tI_nat, Int32.reduceToInt, Int.reduceToNat, fe_0, fe_1, fe_2, fe_3, fe_4, fe_5]) <;> (try simp (disch := omega) only [tI_bm]) <;> omega)) h4
set_option maxHeartbeats 400000 in
theorem s_X11_keep (c_kept : Int32) (c_latest : Int32) (c_state : Nat → Int32) (c_past : Nat → Int32) (h : KR c_kept c_latest) : Ok (f_X11_keep c_kept c_latest c_state c_past) (fun r => KR r.1 r.2.1) := by
  unfold f_X11_keep
  obtain ⟨q1, q2, q3, q4⟩ := h
  have e := tI_rem (x := c_latest + 1) (y := 100) (by ((try simp only [tI_lt, tI_le, tI_eq, tI_add, tI_sub, tI_mul, tI_nat, Int32.reduceToInt, Int.reduceToNat, fe_0, fe_1, fe_2, fe_3, fe_4, fe_5]) <;> (try simp (disch := omega) only [tI_bm]) <;> omega)) (by decide)
  have e3 : (c_latest + 1).toInt = c_latest.toInt + 1 := by ((try simp only [tI_lt, tI_le, tI_eq, tI_add, tI_sub, tI_mul, tI_nat, Int32.reduceToInt, Int.reduceToNat, fe_0, fe_1, fe_2, fe_3, fe_4, fe_5]) <;> (try simp (disch := omega) only [tI_bm]) <;> omega)
  rw [e3, l_100] at e
  refine ok_vlet ?_
  exact s_X11_keep_15 c_state FU _ _ _ _ (by decide) (by decide) (by rw [FU_eq]; decide) ⟨q1, q2, by omega, by omega⟩
set_option maxHeartbeats 400000 in
theorem s_X11_tick_15 (σ : Nat) (c_side : Int32) (c_many : Nat → Int32) (c_one : Nat → Int32) (c_two : Nat → Int32) (c_kinds : Nat → Int32) (c_kindBits : Nat → Int32) (c_netOf : Nat → Int32) (c_stuck : Nat → Int32) (c_dusty : Nat → Int32) (c_part : Nat → Int32) (hM : MI σ c_side c_many c_one c_kinds c_netOf) : ∀ (n : Nat) (x1 : Int32) (x2 : Int32) (c_kept : Int32) (c_latest : Int32) (c_state : Nat → Int32) (c_joined : Nat → Int32) (c_live : Nat → Int32) (c_ground : Nat → Int32) (c_past : Nat → Int32), 0 ≤ x2.toInt → x2.toInt ≤ x1.toInt → x1.toInt ≤ 1000 → x1.toInt < x2.toInt + n → KR c_kept c_latest → Ok (f_X11_tick_15 c_side c_many c_one c_two c_kinds c_kindBits c_netOf c_stuck c_dusty c_part n x1 x2 c_kept c_latest c_state c_joined c_live c_ground c_past) (fun r => KR r.2.1 r.2.2.1)
  | 0, x1, x2, c_kept, c_latest, c_state, c_joined, c_live, c_ground, c_past, h1, h2, h3, h4, h5 => by exfalso; omega
  | n + 1, x1, x2, c_kept, c_latest, c_state, c_joined, c_live, c_ground, c_past, h1, h2, h3, h4, h5 => by
    unfold f_X11_tick_15
    refine ok_if (fun a1 => ok_bad (by decide) (ok_some h5)) (fun a1 => ?_)
    simp only [tI_lt, tI_le, tI_eq, tI_add, tI_sub, tI_mul, tI_nat, Int32.reduceToInt, Int.reduceToNat, fe_0, fe_1, fe_2, fe_3, fe_4, fe_5] at a1
    refine ok_bind (s_X11_keep _ _ _ _ h5) (fun r2 q2 => ok_bind (s_X11_ticks σ _ _ _ _ _ _ _ _ _ _ _ _ _ _ hM) (fun r3 _ => ok_vlet ?_))
    exact s_X11_tick_15 σ c_side c_many c_one c_two c_kinds c_kindBits c_netOf c_stuck c_dusty c_part hM n _ _ _ _ _ _ _ _ _ (by ((try simp only [tI_lt, tI_le, tI_eq, tI_add, tI_sub, tI_mul, tI_nat, Int32.reduceToInt, Int.reduceToNat, fe_0, fe_1, fe_2, fe_3, fe_4, fe_5]) <;> (try simp (disch := omega) only [tI_bm]) <;> omega)) (by ((try simp only [tI_lt, tI_le, tI_eq, tI_add, tI_sub, tI_mul, tI_nat, Int32.reduceToInt, Int.reduceToNat, fe_0, fe_1, fe_2, fe_3, fe_4, fe_5]) <;> (try simp (disch := omega) only [tI_bm]) <;> omega)) h3 (by ((try simp only [tI_lt, tI_le, tI_eq, tI_add, tI_sub, tI_mul, tI_nat, Int32.reduceToInt, Int.reduceToNat, fe_0, fe_1, fe_2, fe_3, fe_4, fe_5]) <;> (try simp (disch := omega) only [tI_bm]) <;> omega)) q2
set_option maxHeartbeats 400000 in
theorem s_X11_tick (σ : Nat) (x1 : Int32) (c_side : Int32) (c_kept : Int32) (c_latest : Int32) (c_many : Nat → Int32) (c_one : Nat → Int32) (c_two : Nat → Int32) (c_kinds : Nat → Int32) (c_kindBits : Nat → Int32) (c_netOf : Nat → Int32) (c_state : Nat → Int32) (c_stuck : Nat → Int32) (c_dusty : Nat → Int32) (c_joined : Nat → Int32) (c_live : Nat → Int32) (c_ground : Nat → Int32) (c_part : Nat → Int32) (c_past : Nat → Int32) (hM : MI σ c_side c_many c_one c_kinds c_netOf) (h : KR c_kept c_latest) : Ok (f_X11_tick x1 c_side c_kept c_latest c_many c_one c_two c_kinds c_kindBits c_netOf c_state c_stuck c_dusty c_joined c_live c_ground c_part c_past) (fun r => KR r.2.1 r.2.2.1) := by
  unfold f_X11_tick
  refine ok_if (fun _ => ok_some h) (fun a1 => ok_if (fun a2 => ?_) (fun _ => ok_some h))
  simp only [tI_lt, tI_le, tI_eq, tI_add, tI_sub, tI_mul, tI_nat, Int32.reduceToInt, Int.reduceToNat, fe_0, fe_1, fe_2, fe_3, fe_4, fe_5] at a1 a2
  exact s_X11_tick_15 σ c_side c_many c_one c_two c_kinds c_kindBits c_netOf c_stuck c_dusty c_part hM FU _ _ _ _ _ _ _ _ _ (by decide) (by ((try simp only [tI_lt, tI_le, tI_eq, tI_add, tI_sub, tI_mul, tI_nat, Int32.reduceToInt, Int.reduceToNat, fe_0, fe_1, fe_2, fe_3, fe_4, fe_5]) <;> (try simp (disch := omega) only [tI_bm]) <;> omega)) (by omega) (by rw [FU_eq]; ((try simp only [tI_lt, tI_le, tI_eq, tI_add, tI_sub, tI_mul, tI_nat, Int32.reduceToInt, Int.reduceToNat, fe_0, fe_1, fe_2, fe_3, fe_4, fe_5]) <;> (try simp (disch := omega) only [tI_bm]) <;> omega)) h
set_option maxHeartbeats 400000 in
theorem s_X11_quiet_21 (σ : Nat) (k2 : Int32 → Int32 → Int32 → (Nat → Int32) → (Nat → Int32) → (Nat → Int32) → (Nat → Int32) → (Nat → Int32) → Option (Int32 × Int32 × Int32 × (Nat → Int32) × (Nat → Int32) × (Nat → Int32) × (Nat → Int32) × (Nat → Int32))) (c_side : Int32) (c_many : Nat → Int32) (c_one : Nat → Int32) (c_two : Nat → Int32) (c_kinds : Nat → Int32) (c_kindBits : Nat → Int32) (c_netOf : Nat → Int32) (c_stuck : Nat → Int32) (c_dusty : Nat → Int32) (c_part : Nat → Int32) {Q} : ∀ (n : Nat) (x1 : Int32) (x2 : Int32) (x3 : Int32) (c_kept : Int32) (c_latest : Int32) (c_state : Nat → Int32) (c_joined : Nat → Int32) (c_live : Nat → Int32) (c_ground : Nat → Int32) (c_past : Nat → Int32), (x2 = 0 ∨ x2 = 1) → (∀ st jo li gr pa, Ok (k2 (x1 + 1) c_kept c_latest st jo li gr pa) Q) → Q (x1, c_kept, c_latest, c_state, c_joined, c_live, c_ground, c_past) → KR c_kept c_latest → 0 ≤ x3.toInt → x3.toInt ≤ 320 → 320 < x3.toInt + n → Ok (f_X11_quiet_21 k2 c_side c_many c_one c_two c_kinds c_kindBits c_netOf c_stuck c_dusty c_part n x1 x2 x3 c_kept c_latest c_state c_joined c_live c_ground c_past) Q
  | 0, x1, x2, x3, c_kept, c_latest, c_state, c_joined, c_live, c_ground, c_past, h0, hk, hq, h4, h1, h2, h3 => by exfalso; omega
  | n + 1, x1, x2, x3, c_kept, c_latest, c_state, c_joined, c_live, c_ground, c_past, h0, hk, hq, h4, h1, h2, h3 => by
    unfold f_X11_quiet_21 f_X11_quiet_68 f_X11_quiet_61
    obtain ⟨q1, q2, q3, q4⟩ := h4
    have fin : Ok (if x2 = 0 then vlet (x1 + 1) fun t1 => k2 t1 c_kept c_latest c_state c_joined c_live c_ground c_past else some (x1, c_kept, c_latest, c_state, c_joined, c_live, c_ground, c_past)) Q := ok_if (fun _ => ok_vlet (hk _ _ _ _ _)) (fun _ => ok_some hq)
    refine ok_if (fun a1 => fin) (fun a1 => ok_if (fun _ => fin) (fun a2 => ?_))
    simp only [tI_lt, tI_le, tI_eq, tI_add, tI_sub, tI_mul, tI_nat, Int32.reduceToInt, Int.reduceToNat, fe_0, fe_1, fe_2, fe_3, fe_4, fe_5] at a1
    have e : 0 ≤ (345 * c_latest + x3).toInt ∧ (345 * c_latest + x3).toInt < (34500 : Nat) := by ((try simp only [tI_lt, tI_le, tI_eq, tI_add, tI_sub, tI_mul, tI_nat, Int32.reduceToInt, Int.reduceToNat, fe_0, fe_1, fe_2, fe_3, fe_4, fe_5]) <;> (try simp (disch := omega) only [tI_bm]) <;> omega)
    have ih : ∀ v : Int32, v = 0 ∨ v = 1 → Ok (f_X11_quiet_21 k2 c_side c_many c_one c_two c_kinds c_kindBits c_netOf c_stuck c_dusty c_part n x1 v (x3 + 1) c_kept c_latest c_state c_joined c_live c_ground c_past) Q := fun v hv => s_X11_quiet_21 σ k2 c_side c_many c_one c_two c_kinds c_kindBits c_netOf c_stuck c_dusty c_part n _ _ _ _ _ _ _ _ _ _ hv hk hq ⟨q1, q2, q3, q4⟩ (by ((try simp only [tI_lt, tI_le, tI_eq, tI_add, tI_sub, tI_mul, tI_nat, Int32.reduceToInt, Int.reduceToNat, fe_0, fe_1, fe_2, fe_3, fe_4, fe_5]) <;> (try simp (disch := omega) only [tI_bm]) <;> omega)) (by ((try simp only [tI_lt, tI_le, tI_eq, tI_add, tI_sub, tI_mul, tI_nat, Int32.reduceToInt, Int.reduceToNat, fe_0, fe_1, fe_2, fe_3, fe_4, fe_5]) <;> (try simp (disch := omega) only [tI_bm]) <;> omega)) (by ((try simp only [tI_lt, tI_le, tI_eq, tI_add, tI_sub, tI_mul, tI_nat, Int32.reduceToInt, Int.reduceToNat, fe_0, fe_1, fe_2, fe_3, fe_4, fe_5]) <;> (try simp (disch := omega) only [tI_bm]) <;> omega))
    exact ok_bad (by omega) (ok_bad e (ok_if (fun _ => ok_vlet (ih 1 (.inr rfl))) (fun _ => ok_vlet (ih 0 (.inl rfl)))))
set_option maxHeartbeats 400000 in
theorem s_X11_quiet_2 (σ : Nat) (c_side : Int32) (c_many : Nat → Int32) (c_one : Nat → Int32) (c_two : Nat → Int32) (c_kinds : Nat → Int32) (c_kindBits : Nat → Int32) (c_netOf : Nat → Int32) (c_stuck : Nat → Int32) (c_dusty : Nat → Int32) (c_part : Nat → Int32) (hM : MI σ c_side c_many c_one c_kinds c_netOf) : ∀ (n : Nat) (x1 : Int32) (c_kept : Int32) (c_latest : Int32) (c_state : Nat → Int32) (c_joined : Nat → Int32) (c_live : Nat → Int32) (c_ground : Nat → Int32) (c_past : Nat → Int32), 0 ≤ x1.toInt → x1.toInt ≤ 2000 → 2000 < x1.toInt + n → KR c_kept c_latest → Ok (f_X11_quiet_2 c_side c_many c_one c_two c_kinds c_kindBits c_netOf c_stuck c_dusty c_part n x1 c_kept c_latest c_state c_joined c_live c_ground c_past) (fun r => KR r.2.1 r.2.2.1)
  | 0, x1, c_kept, c_latest, c_state, c_joined, c_live, c_ground, c_past, h1, h2, h3, h4 => by exfalso; omega
  | n + 1, x1, c_kept, c_latest, c_state, c_joined, c_live, c_ground, c_past, h1, h2, h3, h4 => by
    unfold f_X11_quiet_2
    refine ok_if (fun a1 => ok_some h4) (fun a1 => ?_)
    simp only [tI_lt, tI_le, tI_eq, tI_add, tI_sub, tI_mul, tI_nat, Int32.reduceToInt, Int.reduceToNat, fe_0, fe_1, fe_2, fe_3, fe_4, fe_5] at a1
    refine ok_bind (s_X11_keep _ _ _ _ h4) (fun r2 q2 => ok_bind (s_X11_ticks σ _ _ _ _ _ _ _ _ _ _ _ _ _ _ hM) (fun r3 _ => ?_))
    refine s_X11_quiet_21 σ (f_X11_quiet_2 c_side c_many c_one c_two c_kinds c_kindBits c_netOf c_stuck c_dusty c_part n) c_side c_many c_one c_two c_kinds c_kindBits c_netOf c_stuck c_dusty c_part FU _ _ _ _ _ _ _ _ _ _ (.inr rfl) ?_ q2 q2 (by decide) (by decide) (by rw [FU_eq]; decide)
    intro st jo li gr pa
    exact s_X11_quiet_2 σ c_side c_many c_one c_two c_kinds c_kindBits c_netOf c_stuck c_dusty c_part hM n _ _ _ _ _ _ _ _ (by ((try simp only [tI_lt, tI_le, tI_eq, tI_add, tI_sub, tI_mul, tI_nat, Int32.reduceToInt, Int.reduceToNat, fe_0, fe_1, fe_2, fe_3, fe_4, fe_5]) <;> (try simp (disch := omega) only [tI_bm]) <;> omega)) (by ((try simp only [tI_lt, tI_le, tI_eq, tI_add, tI_sub, tI_mul, tI_nat, Int32.reduceToInt, Int.reduceToNat, fe_0, fe_1, fe_2, fe_3, fe_4, fe_5]) <;> (try simp (disch := omega) only [tI_bm]) <;> omega)) (by ((try simp only [tI_lt, tI_le, tI_eq, tI_add, tI_sub, tI_mul, tI_nat, Int32.reduceToInt, Int.reduceToNat, fe_0, fe_1, fe_2, fe_3, fe_4, fe_5]) <;> (try simp (disch := omega) only [tI_bm]) <;> omega)) q2
set_option maxHeartbeats 400000 in
theorem s_X11_quiet (σ : Nat) (c_side : Int32) (c_kept : Int32) (c_latest : Int32) (c_many : Nat → Int32) (c_one : Nat → Int32) (c_two : Nat → Int32) (c_kinds : Nat → Int32) (c_kindBits : Nat → Int32) (c_netOf : Nat → Int32) (c_state : Nat → Int32) (c_stuck : Nat → Int32) (c_dusty : Nat → Int32) (c_joined : Nat → Int32) (c_live : Nat → Int32) (c_ground : Nat → Int32) (c_part : Nat → Int32) (c_past : Nat → Int32) (hM : MI σ c_side c_many c_one c_kinds c_netOf) (h : KR c_kept c_latest) : Ok (f_X11_quiet c_side c_kept c_latest c_many c_one c_two c_kinds c_kindBits c_netOf c_state c_stuck c_dusty c_joined c_live c_ground c_part c_past) (fun r => KR r.2.1 r.2.2.1) := by
  unfold f_X11_quiet
  exact s_X11_quiet_2 σ c_side c_many c_one c_two c_kinds c_kindBits c_netOf c_stuck c_dusty c_part hM FU _ _ _ _ _ _ _ _ (by decide) (by decide) (by rw [FU_eq]; decide) h
set_option maxHeartbeats 400000 in
theorem s_X11_back_38 (c_past : Nat → Int32) : ∀ (n : Nat) (x1 : Int32) (x2 : Int32) (x3 : Int32) (c_kept : Int32) (c_latest : Int32) (c_state : Nat → Int32), 1 ≤ x1.toInt → x1.toInt ≤ c_kept.toInt → 0 ≤ x2.toInt → x2.toInt < 100 → 0 ≤ x3.toInt → x3.toInt ≤ 345 → 345 < x3.toInt + n → KR c_kept c_latest → Ok (f_X11_back_38 c_past n x1 x2 x3 c_kept c_latest c_state) (fun r => KR r.2.1 r.2.2.1)
  | 0, x1, x2, x3, c_kept, c_latest, c_state, g1, g2, g3, g4, h1, h2, h3, h4 => by exfalso; omega
  | n + 1, x1, x2, x3, c_kept, c_latest, c_state, g1, g2, g3, g4, h1, h2, h3, h4 => by
    unfold f_X11_back_38
    have h4' := h4
    obtain ⟨q1, q2, q3, q4⟩ := h4'
    refine ok_if (fun a1 => ok_vlet (ok_vlet (ok_bad (by decide) (ok_some ?_)))) (fun a1 => ?_)
    · have e3 : (c_latest + 100 - x1).toInt = c_latest.toInt + 100 - x1.toInt := by clear h4; ((try simp only [tI_lt, tI_le, tI_eq, tI_add, tI_sub, tI_mul, tI_nat, Int32.reduceToInt, Int.reduceToNat, fe_0, fe_1, fe_2, fe_3, fe_4, fe_5]) <;> (try simp (disch := omega) only [tI_bm]) <;> omega)
      have e := tI_rem (x := c_latest + 100 - x1) (y := 100) (by omega) (by decide)
      rw [e3, l_100] at e
      have e4 : (c_kept - x1).toInt = c_kept.toInt - x1.toInt := by clear h4; ((try simp only [tI_lt, tI_le, tI_eq, tI_add, tI_sub, tI_mul, tI_nat, Int32.reduceToInt, Int.reduceToNat, fe_0, fe_1, fe_2, fe_3, fe_4, fe_5]) <;> (try simp (disch := omega) only [tI_bm]) <;> omega)
      dsimp only
      refine ⟨by omega, by omega, by omega, by omega⟩
    · simp only [tI_lt, tI_le, tI_eq, tI_add, tI_sub, tI_mul, tI_nat, Int32.reduceToInt, Int.reduceToNat, fe_0, fe_1, fe_2, fe_3, fe_4, fe_5] at a1
      have e : 0 ≤ (345 * x2 + x3).toInt ∧ (345 * x2 + x3).toInt < (34500 : Nat) := by clear h4; ((try simp only [tI_lt, tI_le, tI_eq, tI_add, tI_sub, tI_mul, tI_nat, Int32.reduceToInt, Int.reduceToNat, fe_0, fe_1, fe_2, fe_3, fe_4, fe_5]) <;> (try simp (disch := omega) only [tI_bm]) <;> omega)
      refine ok_bad e (ok_vlet (ok_bad (by omega) (ok_vlet (ok_vlet ?_))))
      exact s_X11_back_38 c_past n _ _ _ _ _ _ g1 g2 g3 g4 (by ((try simp only [tI_lt, tI_le, tI_eq, tI_add, tI_sub, tI_mul, tI_nat, Int32.reduceToInt, Int.reduceToNat, fe_0, fe_1, fe_2, fe_3, fe_4, fe_5]) <;> (try simp (disch := omega) only [tI_bm]) <;> omega)) (by ((try simp only [tI_lt, tI_le, tI_eq, tI_add, tI_sub, tI_mul, tI_nat, Int32.reduceToInt, Int.reduceToNat, fe_0, fe_1, fe_2, fe_3, fe_4, fe_5]) <;> (try simp (disch := omega) only [tI_bm]) <;> omega)) (by ((try simp only [tI_lt, tI_le, tI_eq, tI_add, tI_sub, tI_mul, tI_nat, Int32.reduceToInt, Int.reduceToNat, fe_0, fe_1, fe_2, fe_3, fe_4, fe_5]) <;> (try simp (disch := omega) only [tI_bm]) <;> omega)) h4
set_option maxHeartbeats 400000 in
theorem s_X11_back (x1 : Int32) (c_kept : Int32) (c_latest : Int32) (c_state : Nat → Int32) (c_past : Nat → Int32) (h : KR c_kept c_latest) : Ok (f_X11_back x1 c_kept c_latest c_state c_past) (fun r => KR r.2.1 r.2.2.1) := by
  unfold f_X11_back
  have h4' := h
  obtain ⟨q1, q2, q3, q4⟩ := h4'
  refine ok_if (fun _ => ok_some h) (fun a1 => ok_if (fun a2 => ok_some h) (fun a2 => ok_if (fun a3 => ok_vlet ?_) (fun _ => ok_some h)))
  simp only [tI_lt, tI_le, tI_eq, tI_add, tI_sub, tI_mul, tI_nat, Int32.reduceToInt, Int.reduceToNat, fe_0, fe_1, fe_2, fe_3, fe_4, fe_5] at a1 a2 a3
  have e3 : (c_latest + 100 - x1 + 1).toInt = c_latest.toInt + 100 - x1.toInt + 1 := by clear h; ((try simp only [tI_lt, tI_le, tI_eq, tI_add, tI_sub, tI_mul, tI_nat, Int32.reduceToInt, Int.reduceToNat, fe_0, fe_1, fe_2, fe_3, fe_4, fe_5]) <;> (try simp (disch := omega) only [tI_bm]) <;> omega)
  have e := tI_rem (x := c_latest + 100 - x1 + 1) (y := 100) (by omega) (by decide)
  rw [e3, l_100] at e
  exact s_X11_back_38 c_past FU _ _ _ _ _ _ (by omega) a3 (by omega) (by omega) (by decide) (by decide) (by rw [FU_eq]; decide) h
