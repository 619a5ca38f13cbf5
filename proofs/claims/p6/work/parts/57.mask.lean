/-! the reference: questions -/
set_option maxHeartbeats 400000 in
theorem s_X11_isNet (σ : Nat) (x1 : Int32) (c_side : Int32) (c_netOf : Nat → Int32) (c_isTold : Nat → Int32) (hs : c_side.toInt = (σ : Int)) (h1 : σ ≤ 1) (hx : 0 ≤ x1.toInt ∧ x1.toInt < 954) : Ok (f_X11_isNet x1 c_side c_netOf c_isTold) (fun _ => True) := by
  unfold f_X11_isNet
  have e : 0 ≤ (954 * c_side + x1).toInt ∧ (954 * c_side + x1).toInt < (1908 : Nat) := by ((try simp only [tI_lt, tI_le, tI_eq, tI_add, tI_sub, tI_mul, tI_nat, Int32.reduceToInt, Int.reduceToNat, fe_0, fe_1, fe_2, fe_3, fe_4, fe_5]) <;> (try simp (disch := omega) only [tI_bm]) <;> omega)
  exact ok_bad e (ok_if (fun _ => ok_some trivial) (fun _ => ok_bad e (ok_if (fun _ => ok_some trivial) (fun _ => ok_some trivial))))
set_option maxHeartbeats 400000 in
theorem s_X11_count_66 (σ : Nat) (c_side : Int32) (c_kept : Int32) (c_many : Nat → Int32) (c_one : Nat → Int32) (c_two : Nat → Int32) (c_kinds : Nat → Int32) (c_kindBits : Nat → Int32) (c_netOf : Nat → Int32) (c_isTold : Nat → Int32) (c_state : Nat → Int32) (c_stuck : Nat → Int32) (c_dusty : Nat → Int32) (hM : MI σ c_side c_many c_one c_kinds c_netOf) : ∀ (n : Nat) (x1 : Int32) (x2 : Int32) (x3 : Int32) (c_joined : Nat → Int32) (c_live : Nat → Int32) (c_ground : Nat → Int32), 0 ≤ x3.toInt → x3.toInt ≤ 954 → 954 < x3.toInt + n → JI c_joined → Ok (f_X11_count_66 c_side c_kept c_many c_one c_two c_kinds c_kindBits c_netOf c_isTold c_state c_stuck c_dusty n x1 x2 x3 c_joined c_live c_ground) (fun _ => True)
  | 0, x1, x2, x3, c_joined, c_live, c_ground, h1, h2, h3, hJ => by exfalso; omega
  | n + 1, x1, x2, x3, c_joined, c_live, c_ground, h1, h2, h3, hJ => by
    unfold f_X11_count_66 f_X11_count_123 f_X11_count_116 f_X11_count_120 f_X11_count_121 f_X11_count_123
    have hM' := hM
    obtain ⟨hs, hσ, m0, m1, m2, m3, m4, hK, hO1, hO⟩ := hM'
    refine ok_if (fun a1 => ok_some trivial) (fun a1 => ?_)
    simp only [tI_lt, tI_le, tI_eq, tI_add, tI_sub, tI_mul, tI_nat, Int32.reduceToInt, Int.reduceToNat, fe_0, fe_1, fe_2, fe_3, fe_4, fe_5] at a1
    have ih : ∀ v : Int32, Ok (f_X11_count_66 c_side c_kept c_many c_one c_two c_kinds c_kindBits c_netOf c_isTold c_state c_stuck c_dusty n x1 v (x3 + 1) c_joined c_live c_ground) (fun _ => True) := fun v => s_X11_count_66 σ c_side c_kept c_many c_one c_two c_kinds c_kindBits c_netOf c_isTold c_state c_stuck c_dusty hM n _ _ _ _ _ _ (by ((try simp only [tI_lt, tI_le, tI_eq, tI_add, tI_sub, tI_mul, tI_nat, Int32.reduceToInt, Int.reduceToNat, fe_0, fe_1, fe_2, fe_3, fe_4, fe_5]) <;> (try simp (disch := omega) only [tI_bm]) <;> omega)) (by ((try simp only [tI_lt, tI_le, tI_eq, tI_add, tI_sub, tI_mul, tI_nat, Int32.reduceToInt, Int.reduceToNat, fe_0, fe_1, fe_2, fe_3, fe_4, fe_5]) <;> (try simp (disch := omega) only [tI_bm]) <;> omega)) (by ((try simp only [tI_lt, tI_le, tI_eq, tI_add, tI_sub, tI_mul, tI_nat, Int32.reduceToInt, Int.reduceToNat, fe_0, fe_1, fe_2, fe_3, fe_4, fe_5]) <;> (try simp (disch := omega) only [tI_bm]) <;> omega)) hJ
    refine ok_bind (s_X11_isNet σ _ _ _ _ hs hσ ⟨h1, by omega⟩) (fun r1 _ => ok_if (fun _ => ok_vlet (ih _)) (fun _ => ok_if (fun _ => ok_vlet (ok_vlet (ih _))) (fun _ => ?_)))
    refine ok_bind (s_X11_groupOf σ _ _ _ _ hs hσ hO hJ h1 (by omega)) (fun r2 q2 => ok_bad ⟨q2.1, q2.2.1⟩ (ok_if (fun _ => ok_vlet (ok_vlet (ih _))) (fun _ => ?_)))
    exact ok_bind (s_X11_groupOf σ _ _ _ _ hs hσ hO hJ h1 (by omega)) (fun r2 q2 => ok_bad ⟨q2.1, q2.2.1⟩ (ok_if (fun _ => ok_vlet (ok_vlet (ih _))) (fun _ => ok_vlet (ok_vlet (ih _)))))
set_option maxHeartbeats 400000 in
theorem s_X11_count (σ : Nat) (x1 : Int32) (c_side : Int32) (c_kept : Int32) (c_many : Nat → Int32) (c_one : Nat → Int32) (c_two : Nat → Int32) (c_kinds : Nat → Int32) (c_kindBits : Nat → Int32) (c_netOf : Nat → Int32) (c_isTold : Nat → Int32) (c_state : Nat → Int32) (c_stuck : Nat → Int32) (c_dusty : Nat → Int32) (c_joined : Nat → Int32) (c_live : Nat → Int32) (c_ground : Nat → Int32) (hM : MI σ c_side c_many c_one c_kinds c_netOf) : Ok (f_X11_count x1 c_side c_kept c_many c_one c_two c_kinds c_kindBits c_netOf c_isTold c_state c_stuck c_dusty c_joined c_live c_ground) (fun _ => True) := by
  have go52 : 0 ≤ x1.toInt ∧ x1.toInt < 5 → Ok (f_X11_count_52 c_side c_kept c_many c_one c_two c_kinds c_kindBits c_netOf c_isTold c_state c_stuck c_dusty x1 c_joined c_live c_ground) (fun _ => True) := by
    intro h
    unfold f_X11_count_52
    exact ok_eq (s_X11_here σ x1 c_side c_many hM.1 hM.2.1 h.1 h.2) (ok_some trivial)
  have go58 : Ok (f_X11_count_58 c_side c_kept c_many c_one c_two c_kinds c_kindBits c_netOf c_isTold c_state c_stuck c_dusty x1 c_joined c_live c_ground) (fun _ => True) := by
    unfold f_X11_count_58
    refine ok_bind (s_X11_look σ _ _ _ _ _ _ _ _ _ _ _ _ _ hM) (fun r1 q1 => ?_)
    exact s_X11_count_66 σ c_side c_kept c_many c_one c_two c_kinds c_kindBits c_netOf c_isTold c_state c_stuck c_dusty hM FU _ _ _ _ _ _ (by decide) (by decide) (by rw [FU_eq]; decide) q1
  unfold f_X11_count
  refine ok_if (fun e => go52 (by subst e; decide)) (fun _ => ?_)
  refine ok_if (fun e => go52 (by subst e; decide)) (fun _ => ?_)
  refine ok_if (fun e => go52 (by subst e; decide)) (fun _ => ?_)
  refine ok_if (fun e => go52 (by subst e; decide)) (fun _ => ?_)
  refine ok_if (fun e => go52 (by subst e; decide)) (fun _ => ?_)
  exact ok_if (fun _ => go58) (fun _ => ok_if (fun _ => ok_bad (by decide) (ok_some trivial)) (fun _ => ok_if (fun _ => go58) (fun _ => ok_if (fun _ => ok_some trivial) (fun _ => ok_some trivial))))
set_option maxHeartbeats 400000 in
theorem s_X11_first (x : Int32) : f_X11_first x = some (if x = 0 then 0 else if x = 1 then 40 else if x = 2 then 64 else if x = 3 then 88 else 92) := by
  unfold f_X11_first
  repeat' split
  all_goals rfl
set_option maxHeartbeats 400000 in
theorem s_X11_letter (σ : Nat) (x1 : Int32) (x2 : Int32) (x3 : Int32) (c_side : Int32) (c_many : Nat → Int32) (c_nameSize : Nat → Int32) (c_names : Nat → Int32) (one kinds netOf : Nat → Int32) (hM : MI σ c_side c_many one kinds netOf) (hz : ∀ i : Nat, i < 232 → (c_nameSize i).toInt ≤ 8) : Ok (f_X11_letter x1 x2 x3 c_side c_many c_nameSize c_names) (fun r => (r = -1 ∧ ¬ (0 ≤ x1.toInt ∧ x1.toInt < 5 ∧ 0 ≤ x2.toInt ∧ x2.toInt < (c_many (5 * σ + x1.toInt.toNat)).toInt ∧ 0 ≤ x3.toInt ∧ x3.toInt < (c_nameSize (116 * σ + (f_X11_first x1).get!.toInt.toNat + x2.toInt.toNat)).toInt)) ∨ (0 ≤ x1.toInt ∧ x1.toInt < 5 ∧ 0 ≤ x2.toInt ∧ x2.toInt < (c_many (5 * σ + x1.toInt.toNat)).toInt ∧ 0 ≤ x3.toInt ∧ x3.toInt < (c_nameSize (116 * σ + (f_X11_first x1).get!.toInt.toNat + x2.toInt.toNat)).toInt ∧ r = c_names (8 * (116 * σ + (f_X11_first x1).get!.toInt.toNat + x2.toInt.toNat) + x3.toInt.toNat))) := by
  unfold f_X11_letter
  obtain ⟨hs, hσ, m0, m1, m2, m3, m4, hK, hO1, hO⟩ := hM
  refine ok_if (fun a1 => ok_some (.inl ⟨rfl, by ((try simp only [tI_lt, tI_le, tI_eq, tI_add, tI_sub, tI_mul, tI_nat, Int32.reduceToInt, Int.reduceToNat, fe_0, fe_1, fe_2, fe_3, fe_4, fe_5] at *) <;> (try simp (disch := omega) only [tI_bm]) <;> (first | omega | ((try simp (disch := omega) only [tI_bm] at *) <;> omega)))⟩)) (fun a1 => ok_if (fun a2 => ok_some (.inl ⟨rfl, by ((try simp only [tI_lt, tI_le, tI_eq, tI_add, tI_sub, tI_mul, tI_nat, Int32.reduceToInt, Int.reduceToNat, fe_0, fe_1, fe_2, fe_3, fe_4, fe_5] at *) <;> (try simp (disch := omega) only [tI_bm]) <;> (first | omega | ((try simp (disch := omega) only [tI_bm] at *) <;> omega)))⟩)) (fun a2 => ok_if (fun a3 => ok_some (.inl ⟨rfl, by ((try simp only [tI_lt, tI_le, tI_eq, tI_add, tI_sub, tI_mul, tI_nat, Int32.reduceToInt, Int.reduceToNat, fe_0, fe_1, fe_2, fe_3, fe_4, fe_5] at *) <;> (try simp (disch := omega) only [tI_bm]) <;> (first | omega | ((try simp (disch := omega) only [tI_bm] at *) <;> omega)))⟩)) (fun a3 => ?_)))
  simp only [tI_lt, tI_le, tI_eq, tI_add, tI_sub, tI_mul, tI_nat, Int32.reduceToInt, Int.reduceToNat, fe_0, fe_1, fe_2, fe_3, fe_4, fe_5] at a1 a2 a3
  refine ok_eq (s_X11_here σ x1 c_side c_many hs hσ (by omega) (by omega)) (ok_if (fun a4 => ?_) (fun a4 => ok_some (.inl ⟨rfl, by rw [tI_lt] at a4; omega⟩)))
  rw [tI_lt] at a4
  rw [s_X11_first]
  dsimp only [Option.bind, Option.get!]
  have hf : ∃ F : Nat, (if x1 = 0 then (0 : Int32) else if x1 = 1 then 40 else if x1 = 2 then 64 else if x1 = 3 then 88 else 92).toInt = (F : Int) ∧ F + x2.toInt.toNat < 116 := by
    have : x1.toInt = 0 ∨ x1.toInt = 1 ∨ x1.toInt = 2 ∨ x1.toInt = 3 ∨ x1.toInt = 4 := by omega
    rcases this with e | e | e | e | e
    · have e' : x1 = 0 := Int32.toInt_inj.mp (by rw [e]; decide)
      subst e'
      refine ⟨0, by decide, ?_⟩
      rw [show (0 : Int32).toInt.toNat = 0 from by decide] at a4
      omega
    · have e' : x1 = 1 := Int32.toInt_inj.mp (by rw [e]; decide)
      subst e'
      refine ⟨40, by decide, ?_⟩
      rw [show (1 : Int32).toInt.toNat = 1 from by decide] at a4
      omega
    · have e' : x1 = 2 := Int32.toInt_inj.mp (by rw [e]; decide)
      subst e'
      refine ⟨64, by decide, ?_⟩
      rw [show (2 : Int32).toInt.toNat = 2 from by decide] at a4
      omega
    · have e' : x1 = 3 := Int32.toInt_inj.mp (by rw [e]; decide)
      subst e'
      refine ⟨88, by decide, ?_⟩
      rw [show (3 : Int32).toInt.toNat = 3 from by decide] at a4
      omega
    · have e' : x1 = 4 := Int32.toInt_inj.mp (by rw [e]; decide)
      subst e'
      refine ⟨92, by decide, ?_⟩
      rw [show (4 : Int32).toInt.toNat = 4 from by decide] at a4
      omega
  obtain ⟨F, f1, f2⟩ := hf
  generalize (if x1 = 0 then (0 : Int32) else if x1 = 1 then 40 else if x1 = 2 then 64 else if x1 = 3 then 88 else 92) = ff at f1
  have e3 : (116 * c_side + ff + x2).toInt = 116 * σ + F + x2.toInt := by ((try simp only [tI_lt, tI_le, tI_eq, tI_add, tI_sub, tI_mul, tI_nat, Int32.reduceToInt, Int.reduceToNat, fe_0, fe_1, fe_2, fe_3, fe_4, fe_5]) <;> (try simp (disch := omega) only [tI_bm]) <;> omega)
  have e4 : (116 * c_side + ff + x2).toInt.toNat = 116 * σ + ff.toInt.toNat + x2.toInt.toNat := by omega
  refine ok_vlet (ok_if (fun a5 => ok_some (.inl ⟨rfl, by ((try simp only [tI_lt, tI_le, tI_eq, tI_add, tI_sub, tI_mul, tI_nat, Int32.reduceToInt, Int.reduceToNat, fe_0, fe_1, fe_2, fe_3, fe_4, fe_5] at *) <;> (try simp (disch := omega) only [tI_bm]) <;> (first | omega | ((try simp (disch := omega) only [tI_bm] at *) <;> omega)))⟩)) (fun a5 => ok_bad (by omega) (ok_if (fun a6 => ok_some (.inl ⟨rfl, ?_⟩)) (fun a6 => ok_bad ?_ (ok_some (.inr ⟨by omega, by omega, by omega, a4, ?_, ?_, ?_⟩)))))) 
  all_goals simp only [tI_le, tI_lt, tI_nat, Int32.reduceToInt] at a5
  · rw [tI_le, tI_nat, e4] at a6
    omega
  · have z := hz (116 * σ + ff.toInt.toNat + x2.toInt.toNat) (by omega)
    rw [tI_le, tI_nat, e4] at a6
    generalize 116 * c_side + ff + x2 = tt at e3 e4
    ((try simp only [tI_lt, tI_le, tI_eq, tI_add, tI_sub, tI_mul, tI_nat, Int32.reduceToInt, Int.reduceToNat, fe_0, fe_1, fe_2, fe_3, fe_4, fe_5]) <;> (try simp (disch := omega) only [tI_bm]) <;> omega)
  · omega
  · rw [tI_le, tI_nat, e4] at a6
    omega
  · have z := hz (116 * σ + ff.toInt.toNat + x2.toInt.toNat) (by omega)
    rw [tI_le, tI_nat, e4] at a6
    have e5 : (8 * (116 * c_side + ff + x2) + x3).toInt = 8 * (116 * c_side + ff + x2).toInt + x3.toInt := by
      generalize 116 * c_side + ff + x2 = tt at e3 e4
      ((try simp only [tI_lt, tI_le, tI_eq, tI_add, tI_sub, tI_mul, tI_nat, Int32.reduceToInt, Int.reduceToNat, fe_0, fe_1, fe_2, fe_3, fe_4, fe_5]) <;> (try simp (disch := omega) only [tI_bm]) <;> omega)
    rw [tI_nat, e5]
    congr 1
    omega
def mP (σ : Nat) (s : Nat) (x : Int32) (many : Nat → Int32) : Prop := 0 ≤ x.toInt ∧ x.toInt < (many (5 * σ + s)).toInt
def mC (σ : Nat) (x1 x2 : Int32) (many kinds : Nat → Int32) : Prop := mP σ 0 x1 many ∧ 1 ≤ x2.toInt ∧ x2.toInt ≤ (kinds (116 * σ + x1.toInt.toNat)).toInt
set_option maxHeartbeats 400000 in
theorem s_X11_key (σ : Nat) (x1 : Int32) (x2 : Int32) (c_side : Int32) (c_many : Nat → Int32) (c_state : Nat → Int32) (one kinds netOf : Nat → Int32) (hM : MI σ c_side c_many one kinds netOf) : Ok (f_X11_key x1 x2 c_side c_many c_state) (fun r => (mP σ 1 x1 c_many ∧ r.1 = 1) ∨ (¬ mP σ 1 x1 c_many ∧ r.1 = 0)) := by
  unfold f_X11_key mP
  obtain ⟨hs, hσ, m0, m1, m2, m3, m4, hK, hO1, hO⟩ := hM
  refine ok_if (fun a1 => ok_some (.inr ⟨by ((try simp only [tI_lt, tI_le, tI_eq, tI_add, tI_sub, tI_mul, tI_nat, Int32.reduceToInt, Int.reduceToNat, fe_0, fe_1, fe_2, fe_3, fe_4, fe_5] at *) <;> (try simp (disch := omega) only [tI_bm]) <;> (first | omega | ((try simp (disch := omega) only [tI_bm] at *) <;> omega))), rfl⟩)) (fun a1 => ok_eq (s_X11_here σ 1 c_side c_many hs hσ (by decide) (by decide)) ?_)
  rw [show (1 : Int32).toInt.toNat = 1 from by decide]
  refine ok_if (fun a2 => ?_) (fun a2 => ok_some (.inr ⟨by ((try simp only [tI_lt, tI_le, tI_eq, tI_add, tI_sub, tI_mul, tI_nat, Int32.reduceToInt, Int.reduceToNat, fe_0, fe_1, fe_2, fe_3, fe_4, fe_5] at *) <;> (try simp (disch := omega) only [tI_bm]) <;> (first | omega | ((try simp (disch := omega) only [tI_bm] at *) <;> omega))), rfl⟩))
  simp only [tI_lt, tI_le, tI_eq, tI_add, tI_sub, tI_mul, tI_nat, Int32.reduceToInt, Int.reduceToNat, fe_0, fe_1, fe_2, fe_3, fe_4, fe_5] at a1 a2
  have e : 0 ≤ (320 + x1).toInt ∧ (320 + x1).toInt < (345 : Nat) := by ((try simp only [tI_lt, tI_le, tI_eq, tI_add, tI_sub, tI_mul, tI_nat, Int32.reduceToInt, Int.reduceToNat, fe_0, fe_1, fe_2, fe_3, fe_4, fe_5]) <;> (try simp (disch := omega) only [tI_bm]) <;> omega)
  exact ok_if (fun _ => ok_bad e (ok_vlet (ok_some (.inl ⟨by omega, rfl⟩)))) (fun _ => ok_bad e (ok_vlet (ok_some (.inl ⟨by omega, rfl⟩))))
set_option maxHeartbeats 400000 in
theorem s_X11_relay_143 (σ : Nat) (c_side : Int32) (c_many : Nat → Int32) (c_one : Nat → Int32) (c_two : Nat → Int32) (c_kinds : Nat → Int32) (c_kindBits : Nat → Int32) (c_netOf : Nat → Int32) (c_isTold : Nat → Int32) (c_state : Nat → Int32) (c_stuck : Nat → Int32) (c_dusty : Nat → Int32) (hs : c_side.toInt = (σ : Int)) (hσ : σ ≤ 1) : ∀ (n : Nat) (x1 : Int32) (x4 : Int32) (x5 : Int32) (c_joined : Nat → Int32) (c_live : Nat → Int32) (c_ground : Nat → Int32), 0 ≤ x1.toInt → x1.toInt < 40 → 0 ≤ x5.toInt → x5.toInt ≤ 20 → 20 < x5.toInt + n → Ok (f_X11_relay_143 c_side c_many c_one c_two c_kinds c_kindBits c_netOf c_isTold c_state c_stuck c_dusty n x1 x4 x5 c_joined c_live c_ground) (fun _ => True)
  | 0, x1, x4, x5, c_joined, c_live, c_ground, g1, g2, h1, h2, h3 => by exfalso; omega
  | n + 1, x1, x4, x5, c_joined, c_live, c_ground, g1, g2, h1, h2, h3 => by
    unfold f_X11_relay_143 f_X11_relay_183
    refine ok_if (fun a1 => ok_some trivial) (fun a1 => ?_)
    simp only [tI_lt, tI_le, tI_eq, tI_add, tI_sub, tI_mul, tI_nat, Int32.reduceToInt, Int.reduceToNat, fe_0, fe_1, fe_2, fe_3, fe_4, fe_5] at a1
    have ih : ∀ v : Int32, Ok (f_X11_relay_143 c_side c_many c_one c_two c_kinds c_kindBits c_netOf c_isTold c_state c_stuck c_dusty n x1 v (x5 + 1) c_joined c_live c_ground) (fun _ => True) := fun v => s_X11_relay_143 σ c_side c_many c_one c_two c_kinds c_kindBits c_netOf c_isTold c_state c_stuck c_dusty hs hσ n _ _ _ _ _ _ g1 g2 (by ((try simp only [tI_lt, tI_le, tI_eq, tI_add, tI_sub, tI_mul, tI_nat, Int32.reduceToInt, Int.reduceToNat, fe_0, fe_1, fe_2, fe_3, fe_4, fe_5]) <;> (try simp (disch := omega) only [tI_bm]) <;> omega)) (by ((try simp only [tI_lt, tI_le, tI_eq, tI_add, tI_sub, tI_mul, tI_nat, Int32.reduceToInt, Int.reduceToNat, fe_0, fe_1, fe_2, fe_3, fe_4, fe_5]) <;> (try simp (disch := omega) only [tI_bm]) <;> omega)) (by ((try simp only [tI_lt, tI_le, tI_eq, tI_add, tI_sub, tI_mul, tI_nat, Int32.reduceToInt, Int.reduceToNat, fe_0, fe_1, fe_2, fe_3, fe_4, fe_5]) <;> (try simp (disch := omega) only [tI_bm]) <;> omega))
    exact ok_bad (by ((try simp only [tI_lt, tI_le, tI_eq, tI_add, tI_sub, tI_mul, tI_nat, Int32.reduceToInt, Int.reduceToNat, fe_0, fe_1, fe_2, fe_3, fe_4, fe_5]) <;> (try simp (disch := omega) only [tI_bm]) <;> omega)) (ok_if (fun _ => ok_vlet (ok_vlet (ih _))) (fun _ => ok_vlet (ok_vlet (ih _))))
set_option maxHeartbeats 400000 in
theorem s_X11_relay (σ : Nat) (x1 : Int32) (x2 : Int32) (c_side : Int32) (c_many : Nat → Int32) (c_one : Nat → Int32) (c_two : Nat → Int32) (c_kinds : Nat → Int32) (c_kindBits : Nat → Int32) (c_netOf : Nat → Int32) (c_isTold : Nat → Int32) (c_state : Nat → Int32) (c_stuck : Nat → Int32) (c_dusty : Nat → Int32) (c_joined : Nat → Int32) (c_live : Nat → Int32) (c_ground : Nat → Int32) (hM : MI σ c_side c_many c_one c_kinds c_netOf) : Ok (f_X11_relay x1 x2 c_side c_many c_one c_two c_kinds c_kindBits c_netOf c_isTold c_state c_stuck c_dusty c_joined c_live c_ground) (fun _ => True) := by
  unfold f_X11_relay
  have hM' := hM
  obtain ⟨hs, hσ, m0, m1, m2, m3, m4, hK, hO1, hO⟩ := hM'
  refine ok_if (fun a1 => ok_some trivial) (fun a1 => ok_eq (s_X11_here σ 0 c_side c_many hs hσ (by decide) (by decide)) ?_)
  rw [show (0 : Int32).toInt.toNat = 0 from by decide]
  refine ok_if (fun a2 => ok_vlet ?_) (fun a2 => ok_some trivial)
  simp only [tI_lt, tI_le, tI_eq, tI_add, tI_sub, tI_mul, tI_nat, Int32.reduceToInt, Int.reduceToNat, fe_0, fe_1, fe_2, fe_3, fe_4, fe_5] at a1 a2
  have e0 : 0 ≤ (0 + x1).toInt ∧ (0 + x1).toInt < (345 : Nat) := by ((try simp only [tI_lt, tI_le, tI_eq, tI_add, tI_sub, tI_mul, tI_nat, Int32.reduceToInt, Int.reduceToNat, fe_0, fe_1, fe_2, fe_3, fe_4, fe_5]) <;> (try simp (disch := omega) only [tI_bm]) <;> omega)
  have e4 : 0 ≤ (40 + x1).toInt ∧ (40 + x1).toInt < (345 : Nat) := by ((try simp only [tI_lt, tI_le, tI_eq, tI_add, tI_sub, tI_mul, tI_nat, Int32.reduceToInt, Int.reduceToNat, fe_0, fe_1, fe_2, fe_3, fe_4, fe_5]) <;> (try simp (disch := omega) only [tI_bm]) <;> omega)
  have e1 : 0 ≤ (116 * c_side + x1).toInt ∧ (116 * c_side + x1).toInt < (232 : Nat) := by ((try simp only [tI_lt, tI_le, tI_eq, tI_add, tI_sub, tI_mul, tI_nat, Int32.reduceToInt, Int.reduceToNat, fe_0, fe_1, fe_2, fe_3, fe_4, fe_5]) <;> (try simp (disch := omega) only [tI_bm]) <;> omega)
  refine ok_if (fun _ => ok_bad e0 (ok_some trivial)) (fun _ => ok_if (fun _ => ok_bad e4 (ok_some trivial)) (fun _ => ok_if (fun _ => ?_) (fun _ => ok_if (fun _ => ok_bad e1 (ok_some trivial)) (fun _ => ok_if (fun _ => ok_bad e1 (ok_some trivial)) (fun _ => ok_if (fun _ => ok_bad e1 (ok_some trivial)) (fun _ => ok_if (fun _ => ?_) (fun _ => ok_some trivial)))))))
  · refine ok_bind (s_X11_look σ _ _ _ _ _ _ _ _ _ _ _ _ _ hM) (fun r8 q8 => ok_bind (s_X11_isOn σ _ _ _ _ _ _ _ hs hσ hO q8 (by ((try simp only [tI_lt, tI_le, tI_eq, tI_add, tI_sub, tI_mul, tI_nat, Int32.reduceToInt, Int.reduceToNat, fe_0, fe_1, fe_2, fe_3, fe_4, fe_5]) <;> (try simp (disch := omega) only [tI_bm]) <;> omega)) (by ((try simp only [tI_lt, tI_le, tI_eq, tI_add, tI_sub, tI_mul, tI_nat, Int32.reduceToInt, Int.reduceToNat, fe_0, fe_1, fe_2, fe_3, fe_4, fe_5]) <;> (try simp (disch := omega) only [tI_bm]) <;> omega)) (by ((try simp only [tI_lt, tI_le, tI_eq, tI_add, tI_sub, tI_mul, tI_nat, Int32.reduceToInt, Int.reduceToNat, fe_0, fe_1, fe_2, fe_3, fe_4, fe_5]) <;> (try simp (disch := omega) only [tI_bm]) <;> omega)) (by ((try simp only [tI_lt, tI_le, tI_eq, tI_add, tI_sub, tI_mul, tI_nat, Int32.reduceToInt, Int.reduceToNat, fe_0, fe_1, fe_2, fe_3, fe_4, fe_5]) <;> (try simp (disch := omega) only [tI_bm]) <;> omega))) (fun r9 _ => ok_if (fun _ => ok_some trivial) (fun _ => ok_some trivial)))
  · exact s_X11_relay_143 σ c_side c_many c_one c_two c_kinds c_kindBits c_netOf c_isTold c_state c_stuck c_dusty hs hσ FU _ _ _ _ _ _ (by omega) (by omega) (by decide) (by decide) (by rw [FU_eq]; decide)
set_option maxHeartbeats 400000 in
theorem s_X11_isContact (σ : Nat) (x1 : Int32) (x2 : Int32) (c_side : Int32) (c_many : Nat → Int32) (c_kinds : Nat → Int32) (one netOf : Nat → Int32) (hM : MI σ c_side c_many one c_kinds netOf) : Ok (f_X11_isContact x1 x2 c_side c_many c_kinds) (fun r => (r = 0 ∧ ¬ mC σ x1 x2 c_many c_kinds) ∨ (r = 1 ∧ mC σ x1 x2 c_many c_kinds)) := by
  unfold f_X11_isContact mC mP
  obtain ⟨hs, hσ, m0, m1, m2, m3, m4, hK, hO1, hO⟩ := hM
  refine ok_if (fun a1 => ok_some (.inl ⟨rfl, by rw [tI_lt] at a1; simp only [Int32.reduceToInt] at a1; omega⟩)) (fun a1 => ok_eq (s_X11_here σ 0 c_side c_many hs hσ (by decide) (by decide)) ?_)
  rw [show (0 : Int32).toInt.toNat = 0 from by decide]
  refine ok_if (fun a2 => ok_some (.inl ⟨rfl, by rw [tI_le] at a2; omega⟩)) (fun a2 => ok_if (fun a3 => ok_some (.inl ⟨rfl, by rw [tI_lt] at a3; simp only [Int32.reduceToInt] at a3; omega⟩)) (fun a3 => ?_))
  simp only [tI_lt, tI_le, tI_eq, tI_add, tI_sub, tI_mul, tI_nat, Int32.reduceToInt, Int.reduceToNat, fe_0, fe_1, fe_2, fe_3, fe_4, fe_5] at a1 a2 a3
  have e1 : (116 * c_side + x1).toInt = 116 * σ + x1.toInt := by ((try simp only [tI_lt, tI_le, tI_eq, tI_add, tI_sub, tI_mul, tI_nat, Int32.reduceToInt, Int.reduceToNat, fe_0, fe_1, fe_2, fe_3, fe_4, fe_5]) <;> (try simp (disch := omega) only [tI_bm]) <;> omega)
  have e2 : ((116 : Int) * σ + x1.toInt).toNat = 116 * σ + x1.toInt.toNat := by omega
  refine ok_bad (by omega) (ok_if (fun a4 => ok_some (.inl ⟨rfl, ?_⟩)) (fun a4 => ok_some (.inr ⟨rfl, ?_⟩)))
  all_goals rw [tI_lt, tI_nat, e1, e2] at a4
  all_goals omega
set_option maxHeartbeats 400000 in
theorem s_X11_contact (σ : Nat) (x1 : Int32) (x2 : Int32) (c_side : Int32) (c_many : Nat → Int32) (c_kinds : Nat → Int32) (c_state : Nat → Int32) (one netOf : Nat → Int32) (hM : MI σ c_side c_many one c_kinds netOf) : Ok (f_X11_contact x1 x2 c_side c_many c_kinds c_state) (fun r => (r = -1 ∧ ¬ mC σ x1 x2 c_many c_kinds) ∨ (mC σ x1 x2 c_many c_kinds ∧ r = c_state (80 + 6 * x1.toInt.toNat + x2.toInt.toNat - 1))) := by
  unfold f_X11_contact
  refine ok_bind (s_X11_isContact σ _ _ _ _ _ one netOf hM) (fun r1 h => ?_)
  obtain ⟨hs, hσ, m0, m1, m2, m3, m4, hK, hO1, hO⟩ := hM
  rcases h with ⟨e, h⟩ | ⟨e, h⟩ <;> subst e
  · exact ok_if (fun _ => ok_some (.inl ⟨rfl, h⟩)) (fun a => absurd rfl a)
  have h' := h
  obtain ⟨⟨b1, b2⟩, b3, b4⟩ := h'
  have k := hK (116 * σ + x1.toInt.toNat) (by omega)
  have e : (80 + 6 * x1 + x2 - 1).toInt = 80 + 6 * x1.toInt + x2.toInt - 1 := by clear h; ((try simp only [tI_lt, tI_le, tI_eq, tI_add, tI_sub, tI_mul, tI_nat, Int32.reduceToInt, Int.reduceToNat, fe_0, fe_1, fe_2, fe_3, fe_4, fe_5]) <;> (try simp (disch := omega) only [tI_bm]) <;> omega)
  refine ok_if (fun a => absurd a (by decide)) (fun _ => ok_bad (by omega) (ok_some (.inr ⟨h, ?_⟩)))
  rw [tI_nat, e]
  congr 1
  omega
set_option maxHeartbeats 400000 in
theorem s_X11_lamp (σ : Nat) (x1 : Int32) (c_side : Int32) (c_many : Nat → Int32) (c_one : Nat → Int32) (c_two : Nat → Int32) (c_kinds : Nat → Int32) (c_kindBits : Nat → Int32) (c_netOf : Nat → Int32) (c_state : Nat → Int32) (c_stuck : Nat → Int32) (c_dusty : Nat → Int32) (c_joined : Nat → Int32) (c_live : Nat → Int32) (c_ground : Nat → Int32) (hM : MI σ c_side c_many c_one c_kinds c_netOf) : Ok (f_X11_lamp x1 c_side c_many c_one c_two c_kinds c_kindBits c_netOf c_state c_stuck c_dusty c_joined c_live c_ground) (fun _ => True) := by
  unfold f_X11_lamp
  have hM' := hM
  obtain ⟨hs, hσ, m0, m1, m2, m3, m4, hK, hO1, hO⟩ := hM'
  refine ok_if (fun a1 => ok_some trivial) (fun a1 => ok_eq (s_X11_here σ 2 c_side c_many hs hσ (by decide) (by decide)) ?_)
  rw [show (2 : Int32).toInt.toNat = 2 from by decide]
  refine ok_if (fun a2 => ?_) (fun a2 => ok_some trivial)
  simp only [tI_lt, tI_le, tI_eq, tI_add, tI_sub, tI_mul, tI_nat, Int32.reduceToInt, Int.reduceToNat, fe_0, fe_1, fe_2, fe_3, fe_4, fe_5] at a1 a2
  refine ok_bind (s_X11_look σ _ _ _ _ _ _ _ _ _ _ _ _ _ hM) (fun r2 q2 => ok_eq (s_endOf2 _ _) (ok_eq (s_endOf2 _ _) ?_))
  exact ok_bind (s_X11_isOn σ _ _ _ _ _ _ _ hs hσ hO q2 (by ((try simp only [tI_lt, tI_le, tI_eq, tI_add, tI_sub, tI_mul, tI_nat, Int32.reduceToInt, Int.reduceToNat, fe_0, fe_1, fe_2, fe_3, fe_4, fe_5]) <;> (try simp (disch := omega) only [tI_bm]) <;> omega)) (by ((try simp only [tI_lt, tI_le, tI_eq, tI_add, tI_sub, tI_mul, tI_nat, Int32.reduceToInt, Int.reduceToNat, fe_0, fe_1, fe_2, fe_3, fe_4, fe_5]) <;> (try simp (disch := omega) only [tI_bm]) <;> omega)) (by ((try simp only [tI_lt, tI_le, tI_eq, tI_add, tI_sub, tI_mul, tI_nat, Int32.reduceToInt, Int.reduceToNat, fe_0, fe_1, fe_2, fe_3, fe_4, fe_5]) <;> (try simp (disch := omega) only [tI_bm]) <;> omega)) (by ((try simp only [tI_lt, tI_le, tI_eq, tI_add, tI_sub, tI_mul, tI_nat, Int32.reduceToInt, Int.reduceToNat, fe_0, fe_1, fe_2, fe_3, fe_4, fe_5]) <;> (try simp (disch := omega) only [tI_bm]) <;> omega))) (fun r9 _ => ok_if (fun _ => ok_some trivial) (fun _ => ok_some trivial))
set_option maxHeartbeats 400000 in
theorem s_X11_net_93 (σ : Nat) (c_side : Int32) (c_many : Nat → Int32) (c_one : Nat → Int32) (c_two : Nat → Int32) (c_kinds : Nat → Int32) (c_kindBits : Nat → Int32) (c_netOf : Nat → Int32) (c_state : Nat → Int32) (c_stuck : Nat → Int32) (c_dusty : Nat → Int32) (x4 : Int32) (c_joined : Nat → Int32) (c_live : Nat → Int32) (c_ground : Nat → Int32) (hM : MI σ c_side c_many c_one c_kinds c_netOf) (hx : 0 ≤ x4.toInt) (hx2 : x4.toInt < 954) : Ok (f_X11_net_93 c_side c_many c_one c_two c_kinds c_kindBits c_netOf c_state c_stuck c_dusty x4 c_joined c_live c_ground) (fun _ => True) := by
  unfold f_X11_net_93 f_X11_net_116
  have hM' := hM
  obtain ⟨hs, hσ, m0, m1, m2, m3, m4, hK, hO1, hO⟩ := hM'
  refine ok_bind (s_X11_look σ _ _ _ _ _ _ _ _ _ _ _ _ _ hM) (fun r1 q1 => ok_bind (s_X11_groupOf σ _ _ _ _ hs hσ hO q1 hx hx2) (fun r2 q2 => ok_bad ⟨q2.1, q2.2.1⟩ (ok_if (fun _ => ?_) (fun _ => ?_))))
  · exact ok_bind (s_X11_groupOf σ _ _ _ _ hs hσ hO q1 hx hx2) (fun r2 q2 => ok_bad ⟨q2.1, q2.2.1⟩ (ok_if (fun _ => ok_some trivial) (fun _ => ok_some trivial)))
  · exact ok_bind (s_X11_groupOf σ _ _ _ _ hs hσ hO q1 hx hx2) (fun r2 q2 => ok_bad ⟨q2.1, q2.2.1⟩ (ok_if (fun _ => ok_some trivial) (fun _ => ok_some trivial)))
set_option maxHeartbeats 400000 in
theorem s_X11_net (σ : Nat) (x1 : Int32) (x2 : Int32) (x3 : Int32) (c_side : Int32) (c_many : Nat → Int32) (c_one : Nat → Int32) (c_two : Nat → Int32) (c_kinds : Nat → Int32) (c_kindBits : Nat → Int32) (c_netOf : Nat → Int32) (c_state : Nat → Int32) (c_stuck : Nat → Int32) (c_dusty : Nat → Int32) (c_joined : Nat → Int32) (c_live : Nat → Int32) (c_ground : Nat → Int32) (hM : MI σ c_side c_many c_one c_kinds c_netOf) : Ok (f_X11_net x1 x2 x3 c_side c_many c_one c_two c_kinds c_kindBits c_netOf c_state c_stuck c_dusty c_joined c_live c_ground) (fun _ => True) := by
  unfold f_X11_net
  have hM' := hM
  obtain ⟨hs, hσ, m0, m1, m2, m3, m4, hK, hO1, hO⟩ := hM'
  refine ok_if (fun a1 => ok_if (fun a2 => ok_if (fun a3 => ok_some trivial) (fun a3 => ok_if (fun a4 => ?_) (fun _ => ok_some trivial))) (fun _ => ok_some trivial)) (fun a1 => ?_)
  · simp only [tI_lt, tI_le, tI_eq, tI_add, tI_sub, tI_mul, tI_nat, Int32.reduceToInt, Int.reduceToNat, fe_0, fe_1, fe_2, fe_3, fe_4, fe_5] at a3 a4
    exact s_X11_net_93 σ _ _ _ _ _ _ _ _ _ _ _ _ _ _ hM (by omega) (by omega)
  refine ok_if (fun a2 => ok_some trivial) (fun a2 => ok_if (fun _ => ok_some trivial) (fun a3 => ok_if (fun _ => ok_some trivial) (fun a4 => ?_)))
  simp only [tI_lt, tI_le, tI_eq, tI_add, tI_sub, tI_mul, tI_nat, Int32.reduceToInt, Int.reduceToNat, fe_0, fe_1, fe_2, fe_3, fe_4, fe_5] at a2 a3 a4
  refine ok_eq (s_X11_here σ x1 c_side c_many hs hσ (by omega) (by omega)) (ok_if (fun _ => ok_some trivial) (fun a5 => ok_if (fun _ => ok_some trivial) (fun a6 => ?_)))
  simp only [tI_lt, tI_le, tI_eq, tI_add, tI_sub, tI_mul, tI_nat, Int32.reduceToInt, Int.reduceToNat, fe_0, fe_1, fe_2, fe_3, fe_4, fe_5] at a5 a6
  have go79 : ∀ y0 y1 : Int32, (x1.toInt = 0 ∧ y0 = x3 ∧ y1.toInt ≤ 19 ∨ ¬ x1.toInt = 0 ∧ y0 = x3 ∧ y1.toInt = 1) → Ok (f_X11_net_79 c_side c_many c_one c_two c_kinds c_kindBits c_netOf c_state c_stuck c_dusty x1 x2 x3 y0 y1 c_joined c_live c_ground) (fun _ => True) := by
    intro y0 y1 hy
    unfold f_X11_net_79
    refine ok_if (fun b1 => ?_) (fun _ => ok_some trivial)
    simp only [tI_lt, tI_le, tI_eq, tI_add, tI_sub, tI_mul, tI_nat, Int32.reduceToInt, Int.reduceToNat, fe_0, fe_1, fe_2, fe_3, fe_4, fe_5] at b1
    have c5 : x1.toInt = 0 ∨ x1.toInt = 1 ∨ x1.toInt = 2 ∨ x1.toInt = 3 ∨ x1.toInt = 4 := by omega
    rcases c5 with e | e | e | e | e
    · have e' : x1 = 0 := Int32.toInt_inj.mp (by rw [e]; decide)
      subst e'
      rw [show (0 : Int32).toInt.toNat = 0 from by decide] at a5
      rcases hy with ⟨-, hy, hy2⟩ | ⟨hy, -⟩
      · subst hy
        refine ok_eq (a := 2 + 20 * x2 + y0) rfl (s_X11_net_93 σ _ _ _ _ _ _ _ _ _ _ _ _ _ _ hM (by ((try simp only [tI_lt, tI_le, tI_eq, tI_add, tI_sub, tI_mul, tI_nat, Int32.reduceToInt, Int.reduceToNat, fe_0, fe_1, fe_2, fe_3, fe_4, fe_5]) <;> (try simp (disch := omega) only [tI_bm]) <;> omega)) (by ((try simp only [tI_lt, tI_le, tI_eq, tI_add, tI_sub, tI_mul, tI_nat, Int32.reduceToInt, Int.reduceToNat, fe_0, fe_1, fe_2, fe_3, fe_4, fe_5]) <;> (try simp (disch := omega) only [tI_bm]) <;> omega)))
      · exact absurd e hy
    · have e' : x1 = 1 := Int32.toInt_inj.mp (by rw [e]; decide)
      subst e'
      rw [show (1 : Int32).toInt.toNat = 1 from by decide] at a5
      rcases hy with ⟨hy, -⟩ | ⟨-, hy, hy2⟩
      · exact absurd hy (by decide)
      · subst hy
        exact ok_eq (s_endOf1 _ _) (s_X11_net_93 σ _ _ _ _ _ _ _ _ _ _ _ _ _ _ hM (by ((try simp only [tI_lt, tI_le, tI_eq, tI_add, tI_sub, tI_mul, tI_nat, Int32.reduceToInt, Int.reduceToNat, fe_0, fe_1, fe_2, fe_3, fe_4, fe_5]) <;> (try simp (disch := omega) only [tI_bm]) <;> omega)) (by ((try simp only [tI_lt, tI_le, tI_eq, tI_add, tI_sub, tI_mul, tI_nat, Int32.reduceToInt, Int.reduceToNat, fe_0, fe_1, fe_2, fe_3, fe_4, fe_5]) <;> (try simp (disch := omega) only [tI_bm]) <;> omega)))
    · have e' : x1 = 2 := Int32.toInt_inj.mp (by rw [e]; decide)
      subst e'
      rw [show (2 : Int32).toInt.toNat = 2 from by decide] at a5
      rcases hy with ⟨hy, -⟩ | ⟨-, hy, hy2⟩
      · exact absurd hy (by decide)
      · subst hy
        exact ok_eq (s_endOf2 _ _) (s_X11_net_93 σ _ _ _ _ _ _ _ _ _ _ _ _ _ _ hM (by ((try simp only [tI_lt, tI_le, tI_eq, tI_add, tI_sub, tI_mul, tI_nat, Int32.reduceToInt, Int.reduceToNat, fe_0, fe_1, fe_2, fe_3, fe_4, fe_5]) <;> (try simp (disch := omega) only [tI_bm]) <;> omega)) (by ((try simp only [tI_lt, tI_le, tI_eq, tI_add, tI_sub, tI_mul, tI_nat, Int32.reduceToInt, Int.reduceToNat, fe_0, fe_1, fe_2, fe_3, fe_4, fe_5]) <;> (try simp (disch := omega) only [tI_bm]) <;> omega)))
    · have e' : x1 = 3 := Int32.toInt_inj.mp (by rw [e]; decide)
      subst e'
      rw [show (3 : Int32).toInt.toNat = 3 from by decide] at a5
      rcases hy with ⟨hy, -⟩ | ⟨-, hy, hy2⟩
      · exact absurd hy (by decide)
      · subst hy
        exact ok_eq (s_endOf3 _ _) (s_X11_net_93 σ _ _ _ _ _ _ _ _ _ _ _ _ _ _ hM (by ((try simp only [tI_lt, tI_le, tI_eq, tI_add, tI_sub, tI_mul, tI_nat, Int32.reduceToInt, Int.reduceToNat, fe_0, fe_1, fe_2, fe_3, fe_4, fe_5]) <;> (try simp (disch := omega) only [tI_bm]) <;> omega)) (by ((try simp only [tI_lt, tI_le, tI_eq, tI_add, tI_sub, tI_mul, tI_nat, Int32.reduceToInt, Int.reduceToNat, fe_0, fe_1, fe_2, fe_3, fe_4, fe_5]) <;> (try simp (disch := omega) only [tI_bm]) <;> omega)))
    · have e' : x1 = 4 := Int32.toInt_inj.mp (by rw [e]; decide)
      subst e'
      rw [show (4 : Int32).toInt.toNat = 4 from by decide] at a5
      rcases hy with ⟨hy, -⟩ | ⟨-, hy, hy2⟩
      · exact absurd hy (by decide)
      · subst hy
        exact ok_eq (s_endOf4 _ _) (s_X11_net_93 σ _ _ _ _ _ _ _ _ _ _ _ _ _ _ hM (by ((try simp only [tI_lt, tI_le, tI_eq, tI_add, tI_sub, tI_mul, tI_nat, Int32.reduceToInt, Int.reduceToNat, fe_0, fe_1, fe_2, fe_3, fe_4, fe_5]) <;> (try simp (disch := omega) only [tI_bm]) <;> omega)) (by ((try simp only [tI_lt, tI_le, tI_eq, tI_add, tI_sub, tI_mul, tI_nat, Int32.reduceToInt, Int.reduceToNat, fe_0, fe_1, fe_2, fe_3, fe_4, fe_5]) <;> (try simp (disch := omega) only [tI_bm]) <;> omega)))
  refine ok_if (fun b1 => ?_) (fun b1 => go79 _ _ (.inr ⟨fun q => b1 (Int32.toInt_inj.mp (by rw [q]; decide)), rfl, by decide⟩))
  subst b1
  rw [show (0 : Int32).toInt.toNat = 0 from by decide] at a5
  have e1 : (116 * c_side + x2).toInt = 116 * σ + x2.toInt := by ((try simp only [tI_lt, tI_le, tI_eq, tI_add, tI_sub, tI_mul, tI_nat, Int32.reduceToInt, Int.reduceToNat, fe_0, fe_1, fe_2, fe_3, fe_4, fe_5]) <;> (try simp (disch := omega) only [tI_bm]) <;> omega)
  have k := hK (116 * c_side + x2).toNatClampNeg (by rw [tI_nat]; omega)
  refine ok_bad (by omega) (go79 _ _ (.inl ⟨by decide, rfl, ?_⟩))
  generalize c_kinds (116 * c_side + x2).toNatClampNeg = kk at k
  ((try simp only [tI_lt, tI_le, tI_eq, tI_add, tI_sub, tI_mul, tI_nat, Int32.reduceToInt, Int.reduceToNat, fe_0, fe_1, fe_2, fe_3, fe_4, fe_5]) <;> (try simp (disch := omega) only [tI_bm]) <;> omega)
set_option maxHeartbeats 400000 in
theorem s_X11_stuck (σ : Nat) (x1 : Int32) (x2 : Int32) (x3 : Int32) (c_side : Int32) (c_many : Nat → Int32) (c_kinds : Nat → Int32) (c_stuck : Nat → Int32) (one netOf : Nat → Int32) (hM : MI σ c_side c_many one c_kinds netOf) : Ok (f_X11_stuck x1 x2 x3 c_side c_many c_kinds c_stuck) (fun r => ((mC σ x1 x2 c_many c_kinds ∧ -1 ≤ x3.toInt ∧ x3.toInt ≤ 2) ∧ r.1 = 1) ∨ (¬ (mC σ x1 x2 c_many c_kinds ∧ -1 ≤ x3.toInt ∧ x3.toInt ≤ 2) ∧ r.1 = 0)) := by
  unfold f_X11_stuck
  refine ok_bind (s_X11_isContact σ _ _ _ _ _ one netOf hM) (fun r1 h => ?_)
  obtain ⟨hs, hσ, m0, m1, m2, m3, m4, hK, hO1, hO⟩ := hM
  rcases h with ⟨e, h⟩ | ⟨e, h⟩ <;> subst e
  · exact ok_if (fun _ => ok_some (.inr ⟨fun q => h q.1, rfl⟩)) (fun a => absurd rfl a)
  have h' := h
  obtain ⟨⟨b1, b2⟩, b3, b4⟩ := h'
  have k := hK (116 * σ + x1.toInt.toNat) (by omega)
  have e : (6 * x1 + x2 - 1).toInt = 6 * x1.toInt + x2.toInt - 1 := by clear h; ((try simp only [tI_lt, tI_le, tI_eq, tI_add, tI_sub, tI_mul, tI_nat, Int32.reduceToInt, Int.reduceToNat, fe_0, fe_1, fe_2, fe_3, fe_4, fe_5]) <;> (try simp (disch := omega) only [tI_bm]) <;> omega)
  refine ok_if (fun a => absurd a (by decide)) (fun _ => ok_if (fun a2 => ok_some (.inr ⟨fun q => ?_, rfl⟩)) (fun a2 => ok_if (fun a3 => ok_bad (by omega) (ok_vlet (ok_some (.inl ⟨⟨h, ?_, ?_⟩, rfl⟩)))) (fun a3 => ok_some (.inr ⟨fun q => ?_, rfl⟩))))
  all_goals simp only [tI_lt, tI_le, Int32.reduceToInt] at a2
  · have := q.2.1
    omega
  · omega
  · simp only [tI_lt, tI_le, Int32.reduceToInt] at a3
    omega
  · simp only [tI_lt, tI_le, Int32.reduceToInt] at a3
    have := q.2.2
    omega
set_option maxHeartbeats 400000 in
theorem s_X11_dust (σ : Nat) (x1 : Int32) (x2 : Int32) (x3 : Int32) (c_side : Int32) (c_many : Nat → Int32) (c_kinds : Nat → Int32) (c_dusty : Nat → Int32) (one netOf : Nat → Int32) (hM : MI σ c_side c_many one c_kinds netOf) : Ok (f_X11_dust x1 x2 x3 c_side c_many c_kinds c_dusty) (fun r => (mC σ x1 x2 c_many c_kinds ∧ r.1 = 1) ∨ (¬ mC σ x1 x2 c_many c_kinds ∧ r.1 = 0)) := by
  unfold f_X11_dust
  refine ok_bind (s_X11_isContact σ _ _ _ _ _ one netOf hM) (fun r1 h => ?_)
  obtain ⟨hs, hσ, m0, m1, m2, m3, m4, hK, hO1, hO⟩ := hM
  rcases h with ⟨e, h⟩ | ⟨e, h⟩ <;> subst e
  · exact ok_if (fun _ => ok_some (.inr ⟨h, rfl⟩)) (fun a => absurd rfl a)
  have h' := h
  obtain ⟨⟨b1, b2⟩, b3, b4⟩ := h'
  have k := hK (116 * σ + x1.toInt.toNat) (by omega)
  have e : (6 * x1 + x2 - 1).toInt = 6 * x1.toInt + x2.toInt - 1 := by clear h; ((try simp only [tI_lt, tI_le, tI_eq, tI_add, tI_sub, tI_mul, tI_nat, Int32.reduceToInt, Int.reduceToNat, fe_0, fe_1, fe_2, fe_3, fe_4, fe_5]) <;> (try simp (disch := omega) only [tI_bm]) <;> omega)
  exact ok_if (fun a => absurd a (by decide)) (fun _ => ok_bad (by omega) (ok_vlet (ok_some (.inl ⟨h, rfl⟩))))
