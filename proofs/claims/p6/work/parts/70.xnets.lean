/-! the class's nets: within the domain -/
set_option maxHeartbeats 400000 in
theorem s_X3_clear_22 : ∀ (n : Nat) (x1 : Int32) (c_parts : Nat → Int32) (c_told : Nat → Int32) (c_joined : Nat → Int32) (c_netOf : Nat → Int32), 0 ≤ x1.toInt → x1.toInt ≤ 954 → 954 < x1.toInt + n → (∀ e : Nat, (e : Int) < x1.toInt → c_told e = 0 ∧ (c_joined e).toInt = e ∧ c_netOf e = -1) → Ok (f_X3_clear_22 n x1 c_parts c_told c_joined c_netOf) (fun r => r.1 = c_parts ∧ (∀ e : Nat, e < 954 → r.2.1 e = 0 ∧ (r.2.2.1 e).toInt = e ∧ r.2.2.2 e = -1))
  | 0, x1, c_parts, c_told, c_joined, c_netOf, h1, h2, h3, h4 => by exfalso; omega
  | n + 1, x1, c_parts, c_told, c_joined, c_netOf, h1, h2, h3, h4 => by
    unfold f_X3_clear_22
    refine ok_if (fun a => ok_some ⟨rfl, fun e he => h4 e (by rw [tI_le, show (954 : Int32).toInt = 954 from by decide] at a; omega)⟩) (fun a => ?_)
    rw [tI_le, show (954 : Int32).toInt = 954 from by decide] at a
    have hb : 0 ≤ x1.toInt ∧ x1.toInt < (954 : Nat) := by omega
    have e1 : (x1 + 1).toInt = x1.toInt + 1 := by ((try simp only [tI_lt, tI_le, tI_eq, tI_add, tI_sub, tI_mul, tI_nat, Int32.reduceToInt, Int.reduceToNat, fe_0, fe_1, fe_2, fe_3, fe_4, fe_5]) <;> (try simp (disch := omega) only [tI_bm]) <;> omega)
    refine ok_bad hb (ok_vlet (ok_bad hb (ok_vlet (ok_bad hb (ok_vlet (ok_vlet ?_))))))
    refine s_X3_clear_22 n _ _ _ _ _ (by omega) (by omega) (by omega) (fun e he => ?_)
    rw [upd_at, upd_at, upd_at, tI_nat]
    by_cases z : e = x1.toInt.toNat
    · rw [if_pos z, if_pos z, if_pos z]
      exact ⟨nar0, by omega, rfl⟩
    · rw [if_neg z, if_neg z, if_neg z]
      exact h4 e (by omega)
set_option maxHeartbeats 400000 in
theorem s_X3_clear (c_parts : Nat → Int32) (c_told : Nat → Int32) (c_joined : Nat → Int32) (c_netOf : Nat → Int32) : Ok (f_X3_clear c_parts c_told c_joined c_netOf) (fun r => (∀ s : Nat, s < 5 → r.1 s = 0) ∧ (∀ e : Nat, e < 954 → r.2.1 e = 0 ∧ (r.2.2.1 e).toInt = e ∧ r.2.2.2 e = -1)) := by
  unfold f_X3_clear
  have go : ∀ (n : Nat) (x1 : Int32) (c_parts : Nat → Int32), 0 ≤ x1.toInt → x1.toInt ≤ 5 → 10 < x1.toInt + n → (∀ s : Nat, (s : Int) < x1.toInt → c_parts s = 0) → Ok (f_X3_clear_2 n x1 c_parts c_told c_joined c_netOf) (fun r => (∀ s : Nat, s < 5 → r.1 s = 0) ∧ (∀ e : Nat, e < 954 → r.2.1 e = 0 ∧ (r.2.2.1 e).toInt = e ∧ r.2.2.2 e = -1)) := by
    intro n
    induction n with
    | zero => intro x1 c h1 h2 h3; exfalso; omega
    | succ n ih =>
      intro x1 c h1 h2 h3 h4
      unfold f_X3_clear_2
      refine ok_if (fun a => ?_) (fun a => ?_)
      · rw [tI_le, show (5 : Int32).toInt = 5 from by decide] at a
        refine ok_mono (s_X3_clear_22 FU 0 c c_told c_joined c_netOf (by decide) (by decide) (by rw [FU_eq]; decide) (fun e he => by rw [show (0 : Int32).toInt = 0 from by decide] at he; omega)) (fun r hr => ⟨fun s hs => ?_, hr.2⟩)
        rw [hr.1]; exact h4 s (by omega)
      · rw [tI_le, show (5 : Int32).toInt = 5 from by decide] at a
        have e1 : (x1 + 1).toInt = x1.toInt + 1 := by ((try simp only [tI_lt, tI_le, tI_eq, tI_add, tI_sub, tI_mul, tI_nat, Int32.reduceToInt, Int.reduceToNat, fe_0, fe_1, fe_2, fe_3, fe_4, fe_5]) <;> (try simp (disch := omega) only [tI_bm]) <;> omega)
        refine ok_bad (by omega) (ok_vlet (ok_vlet (ih _ _ (by omega) (by omega) (by omega) (fun s hs => ?_))))
        rw [upd_at, tI_nat]
        by_cases z : s = x1.toInt.toNat
        · rw [if_pos z]
        · rw [if_neg z]; exact h4 s (by omega)
  exact go FU 0 c_parts (by decide) (by decide) (by rw [FU_eq]; decide) (fun s hs => by rw [show (0 : Int32).toInt = 0 from by decide] at hs; omega)
def JB (j : Nat → Int32) : Prop := ∀ e : Nat, e < 954 → 0 ≤ (j e).toInt ∧ (j e).toInt < 954
set_option maxHeartbeats 400000 in
theorem s_X3_headOf_4 : ∀ (n : Nat) (x2 : Int32) (x3 : Int32) (c_joined : Nat → Int32), 0 ≤ x3.toInt → x3.toInt ≤ 954 → 954 < x3.toInt + n → 0 ≤ x2.toInt → x2.toInt < 954 → JB c_joined → Ok (f_X3_headOf_4 n x2 x3 c_joined) (fun r => 0 ≤ r.1.toInt ∧ r.1.toInt < 954 ∧ JB r.2)
  | 0, x2, x3, c_joined, h1, h2, h3, g1, g2, hJ => by exfalso; omega
  | n + 1, x2, x3, c_joined, h1, h2, h3, g1, g2, hJ => by
    unfold f_X3_headOf_4
    have hb : 0 ≤ x2.toInt ∧ x2.toInt < (954 : Nat) := by omega
    have j1 := hJ x2.toInt.toNat (by omega)
    have j2 := hJ (c_joined x2.toInt.toNat).toInt.toNat (by omega)
    refine ok_if (fun _ => ok_some ⟨g1, g2, hJ⟩) (fun a => ok_bad hb (ok_if (fun _ => ok_some ⟨g1, g2, hJ⟩) (fun _ => ok_bad hb (ok_bad j1 (ok_vlet (ok_bad hb (ok_vlet (ok_bad hb (ok_vlet (ok_vlet ?_)))))))))) 
    rw [tI_le, show (954 : Int32).toInt = 954 from by decide] at a
    have e3 : (x3 + 1).toInt = x3.toInt + 1 := by ((try simp only [tI_lt, tI_le, tI_eq, tI_add, tI_sub, tI_mul, tI_nat, Int32.reduceToInt, Int.reduceToNat, fe_0, fe_1, fe_2, fe_3, fe_4, fe_5]) <;> (try simp (disch := omega) only [tI_bm]) <;> omega)
    have eu : upd c_joined x2.toNatClampNeg (c_joined (c_joined x2.toNatClampNeg).toNatClampNeg) x2.toNatClampNeg = c_joined (c_joined x2.toInt.toNat).toInt.toNat := by
      rw [upd_at, if_pos rfl]; rfl
    rw [eu]
    refine s_X3_headOf_4 n _ _ _ (by omega) (by omega) (by omega) j2.1 j2.2 (fun e he => ?_)
    rw [upd_at]
    split
    · exact j2
    · exact hJ e he
set_option maxHeartbeats 400000 in
theorem s_X3_headOf (x1 : Int32) (c_joined : Nat → Int32) (h1 : 0 ≤ x1.toInt) (h2 : x1.toInt < 954) (hJ : JB c_joined) : Ok (f_X3_headOf x1 c_joined) (fun r => 0 ≤ r.1.toInt ∧ r.1.toInt < 954 ∧ JB r.2) := by
  unfold f_X3_headOf
  exact s_X3_headOf_4 FU _ _ _ (by decide) (by decide) (by rw [FU_eq]; decide) h1 h2 hJ
set_option maxHeartbeats 400000 in
theorem s_X3_joinTold (x1 : Int32) (x2 : Int32) (c_told : Nat → Int32) (c_joined : Nat → Int32) (hJ : JB c_joined) : Ok (f_X3_joinTold x1 x2 c_told c_joined) (fun r => JB r.2) := by
  unfold f_X3_joinTold
  refine ok_if (fun _ => ok_some hJ) (fun a1 => ok_if (fun _ => ok_some hJ) (fun a2 => ok_if (fun _ => ok_some hJ) (fun a3 => ok_if (fun a4 => ?_) (fun _ => ok_some hJ))))
  simp only [tI_lt, tI_le, tI_eq, tI_add, tI_sub, tI_mul, tI_nat, Int32.reduceToInt, Int.reduceToNat, fe_0, fe_1, fe_2, fe_3, fe_4, fe_5] at a1 a2 a3 a4
  refine ok_bad (by omega) (ok_vlet (ok_bad (by omega) (ok_vlet (ok_bind (s_X3_headOf _ _ (by omega) (by omega) hJ) (fun r5 q5 => ok_bind (s_X3_headOf _ _ (by omega) (by omega) q5.2.2) (fun r6 q6 => ok_bad ⟨q5.1, q5.2.1⟩ (ok_vlet (ok_some (fun e he => ?_)))))))))
  dsimp only
  rw [upd_at]
  split
  · exact ⟨q6.1, q6.2.1⟩
  · exact q6.2.2 e he
set_option maxHeartbeats 400000 in
theorem s_X5_joinWires_2 (c_pins : Int32) (c_pinEnds : Nat → Int32) (c_pinWires : Nat → Int32) (hp : c_pins.toInt ≤ 1334) : ∀ (n : Nat) (x1 : Int32) (c_draft_told : Nat → Int32) (c_draft_joined : Nat → Int32), 0 ≤ x1.toInt → x1.toInt ≤ 1334 → 1334 < x1.toInt + n → JB c_draft_joined → Ok (f_X5_joinWires_2 c_pins c_pinEnds c_pinWires n x1 c_draft_told c_draft_joined) (fun r => JB r.2)
  | 0, x1, c_draft_told, c_draft_joined, h1, h2, h3, hJ => by exfalso; omega
  | n + 1, x1, c_draft_told, c_draft_joined, h1, h2, h3, hJ => by
    unfold f_X5_joinWires_2 f_X5_joinWires_31
    refine ok_if (fun _ => ok_some hJ) (fun a => ?_)
    rw [tI_le] at a
    have hb : 0 ≤ x1.toInt ∧ x1.toInt < (1334 : Nat) := by omega
    have e1 : (x1 + 1).toInt = x1.toInt + 1 := by ((try simp only [tI_lt, tI_le, tI_eq, tI_add, tI_sub, tI_mul, tI_nat, Int32.reduceToInt, Int.reduceToNat, fe_0, fe_1, fe_2, fe_3, fe_4, fe_5]) <;> (try simp (disch := omega) only [tI_bm]) <;> omega)
    have go62 : ∀ y1 : Int32, Ok (f_X5_joinWires_62 (f_X5_joinWires_2 c_pins c_pinEnds c_pinWires n) c_pins c_pinEnds c_pinWires x1 y1 c_draft_told c_draft_joined) (fun r => JB r.2) := by
      intro y1
      unfold f_X5_joinWires_62
      exact ok_bad hb (ok_bind (s_X3_joinTold _ _ _ _ hJ) (fun r2 q2 => ok_vlet (s_X5_joinWires_2 c_pins c_pinEnds c_pinWires hp n _ _ _ (by omega) (by omega) (by omega) q2)))
    have go36 : ∀ y0 : Int32, (y0 = 0 → 0 < x1.toInt) → Ok (f_X5_joinWires_36 (f_X5_joinWires_2 c_pins c_pinEnds c_pinWires n) c_pins c_pinEnds c_pinWires x1 y0 c_draft_told c_draft_joined) (fun r => JB r.2) := by
      intro y0 hy
      unfold f_X5_joinWires_36
      refine ok_if (fun z => ok_bad ?_ (go62 _)) (fun _ => ok_bad hb (go62 _))
      have := hy z
      ((try simp only [tI_lt, tI_le, tI_eq, tI_add, tI_sub, tI_mul, tI_nat, Int32.reduceToInt, Int.reduceToNat, fe_0, fe_1, fe_2, fe_3, fe_4, fe_5]) <;> (try simp (disch := omega) only [tI_bm]) <;> omega)
    refine ok_if (fun _ => go36 1 (fun q => absurd q (by decide))) (fun z => ?_)
    have z' : ¬ x1.toInt = 0 := fun q => z (Int32.toInt_inj.mp (by rw [q]; decide))
    refine ok_bad hb (ok_bad (by ((try simp only [tI_lt, tI_le, tI_eq, tI_add, tI_sub, tI_mul, tI_nat, Int32.reduceToInt, Int.reduceToNat, fe_0, fe_1, fe_2, fe_3, fe_4, fe_5]) <;> (try simp (disch := omega) only [tI_bm]) <;> omega)) (ok_if (fun _ => go36 0 (fun _ => by omega)) (fun _ => go36 1 (fun q => absurd q (by decide)))))
set_option maxHeartbeats 400000 in
theorem s_X5_joinWires (c_pins : Int32) (c_draft_told : Nat → Int32) (c_draft_joined : Nat → Int32) (c_pinEnds : Nat → Int32) (c_pinWires : Nat → Int32) (hp : c_pins.toInt ≤ 1334) (hJ : JB c_draft_joined) : Ok (f_X5_joinWires c_pins c_draft_told c_draft_joined c_pinEnds c_pinWires) (fun r => JB r.2) := by
  unfold f_X5_joinWires
  exact s_X5_joinWires_2 c_pins c_pinEnds c_pinWires hp FU _ _ _ (by decide) (by decide) (by rw [FU_eq]; decide) hJ
set_option maxHeartbeats 400000 in
theorem s_X3_numberUntold_2 (c_parts : Nat → Int32) (c_contacts : Nat → Int32) (hN : NS c_parts c_contacts) : ∀ (n : Nat) (x1 : Int32) (x2 : Int32) (x3 : Int32) (c_nets : Int32) (c_netOf : Nat → Int32), 0 ≤ x3.toInt → x3.toInt ≤ 20 → 20 < x3.toInt + n → Ok (f_X3_numberUntold_2 c_parts c_contacts n x1 x2 x3 c_nets c_netOf) (fun _ => True)
  | 0, x1, x2, x3, c_nets, c_netOf, h1, h2, h3 => by exfalso; omega
  | n + 1, x1, x2, x3, c_nets, c_netOf, h1, h2, h3 => by
    unfold f_X3_numberUntold_2 f_X3_numberUntold_52
    refine ok_if (fun _ => ok_some trivial) (fun a => ?_)
    rw [tI_le, show (20 : Int32).toInt = 20 from by decide] at a
    have e1 : (x3 + 1).toInt = x3.toInt + 1 := by ((try simp only [tI_lt, tI_le, tI_eq, tI_add, tI_sub, tI_mul, tI_nat, Int32.reduceToInt, Int.reduceToNat, fe_0, fe_1, fe_2, fe_3, fe_4, fe_5]) <;> (try simp (disch := omega) only [tI_bm]) <;> omega)
    have ih : ∀ (c_nets : Int32) (c_netOf : Nat → Int32), Ok (f_X3_numberUntold_2 c_parts c_contacts n x1 x2 (x3 + 1) c_nets c_netOf) (fun _ => True) := fun _ _ => s_X3_numberUntold_2 c_parts c_contacts hN n _ _ _ _ _ (by omega) (by omega) (by omega)
    refine ok_bind (so_X3_endAt _ _ _ _ _ hN) (fun r1 hr => ok_if (fun _ => ok_vlet (ih _ _)) (fun b => ?_))
    have hb : 0 ≤ r1.toInt ∧ r1.toInt < (954 : Nat) := by
      rcases hr with q | q
      · exact absurd (Int32.toInt_inj.mp (by rw [q]; decide)) b
      · exact q
    exact ok_bad hb (ok_if (fun _ => ok_vlet (ok_bad hb (ok_vlet (ok_vlet (ih _ _))))) (fun _ => ok_vlet (ih _ _)))
set_option maxHeartbeats 400000 in
theorem s_X3_numberUntold (x1 : Int32) (x2 : Int32) (c_nets : Int32) (c_parts : Nat → Int32) (c_contacts : Nat → Int32) (c_netOf : Nat → Int32) (hN : NS c_parts c_contacts) : Ok (f_X3_numberUntold x1 x2 c_nets c_parts c_contacts c_netOf) (fun _ => True) := by
  unfold f_X3_numberUntold
  exact s_X3_numberUntold_2 c_parts c_contacts hN FU _ _ _ _ _ (by decide) (by decide) (by rw [FU_eq]; decide)
set_option maxHeartbeats 400000 in
theorem NS_le {parts contacts : Nat → Int32} (h : NS parts contacts) (s : Nat) (hs : s < 5) : 0 ≤ (parts s).toInt ∧ (parts s).toInt ≤ 40 := by
  obtain ⟨n0, n1, n2, n3, n4, n5⟩ := h
  have : s = 0 ∨ s = 1 ∨ s = 2 ∨ s = 3 ∨ s = 4 := by omega
  rcases this with e | e | e | e | e <;> subst e <;> omega
set_option maxHeartbeats 400000 in
theorem s_X3_numberNets_91 (k84 : Int32 → Int32 → Int32 → (Nat → Int32) → (Nat → Int32) → Option (Int32 × Int32 × (Nat → Int32) × (Nat → Int32))) (c_parts : Nat → Int32) (c_contacts : Nat → Int32) (c_told : Nat → Int32) {Q} (hN : NS c_parts c_contacts) (x1 c_toldNets : Int32) (c_joined : Nat → Int32) (h1 : 0 ≤ x1.toInt ∧ x1.toInt < 5) (hk : ∀ (c_nets : Int32) (c_netOf : Nat → Int32), Ok (k84 (x1 + 1) c_toldNets c_nets c_joined c_netOf) Q) : ∀ (n : Nat) (x2 : Int32) (c_nets : Int32) (c_netOf : Nat → Int32), 0 ≤ x2.toInt → x2.toInt ≤ 40 → 40 < x2.toInt + n → Ok (f_X3_numberNets_91 k84 c_parts c_contacts c_told n x1 x2 c_toldNets c_nets c_joined c_netOf) Q
  | 0, x2, c_nets, c_netOf, g1, g2, g3 => by exfalso; omega
  | n + 1, x2, c_nets, c_netOf, g1, g2, g3 => by
    unfold f_X3_numberNets_91
    have p := NS_le hN x1.toInt.toNat (by omega)
    refine ok_bad h1 (ok_if (fun _ => ok_vlet (hk _ _)) (fun a => ?_))
    rw [tI_le, tI_nat] at a
    exact ok_bind (s_X3_numberUntold _ _ _ _ _ _ hN) (fun r3 _ => ok_vlet (s_X3_numberNets_91 k84 c_parts c_contacts c_told hN x1 c_toldNets c_joined h1 hk n _ _ _ (by ((try simp only [tI_lt, tI_le, tI_eq, tI_add, tI_sub, tI_mul, tI_nat, Int32.reduceToInt, Int.reduceToNat, fe_0, fe_1, fe_2, fe_3, fe_4, fe_5]) <;> (try simp (disch := omega) only [tI_bm]) <;> omega)) (by ((try simp only [tI_lt, tI_le, tI_eq, tI_add, tI_sub, tI_mul, tI_nat, Int32.reduceToInt, Int.reduceToNat, fe_0, fe_1, fe_2, fe_3, fe_4, fe_5]) <;> (try simp (disch := omega) only [tI_bm]) <;> omega)) (by ((try simp only [tI_lt, tI_le, tI_eq, tI_add, tI_sub, tI_mul, tI_nat, Int32.reduceToInt, Int.reduceToNat, fe_0, fe_1, fe_2, fe_3, fe_4, fe_5]) <;> (try simp (disch := omega) only [tI_bm]) <;> omega))))
set_option maxHeartbeats 400000 in
theorem s_X3_numberNets_84 (c_parts : Nat → Int32) (c_contacts : Nat → Int32) (c_told : Nat → Int32) (hN : NS c_parts c_contacts) : ∀ (n : Nat) (x1 : Int32) (c_toldNets : Int32) (c_nets : Int32) (c_joined : Nat → Int32) (c_netOf : Nat → Int32), 0 ≤ x1.toInt → x1.toInt ≤ 5 → 5 < x1.toInt + n → Ok (f_X3_numberNets_84 c_parts c_contacts c_told n x1 c_toldNets c_nets c_joined c_netOf) (fun r => r.1 = c_toldNets)
  | 0, x1, c_toldNets, c_nets, c_joined, c_netOf, h1, h2, h3 => by exfalso; omega
  | n + 1, x1, c_toldNets, c_nets, c_joined, c_netOf, h1, h2, h3 => by
    unfold f_X3_numberNets_84
    refine ok_if (fun _ => ok_bind (s_X3_numberUntold _ _ _ _ _ _ hN) (fun r1 _ => ok_some rfl)) (fun a => ?_)
    rw [tI_le, show (5 : Int32).toInt = 5 from by decide] at a
    refine s_X3_numberNets_91 (f_X3_numberNets_84 c_parts c_contacts c_told n) c_parts c_contacts c_told hN x1 c_toldNets c_joined (by omega) (fun cn co => ?_) FU 0 _ _ (by decide) (by decide) (by rw [FU_eq]; decide)
    exact s_X3_numberNets_84 c_parts c_contacts c_told hN n _ _ _ _ _ (by ((try simp only [tI_lt, tI_le, tI_eq, tI_add, tI_sub, tI_mul, tI_nat, Int32.reduceToInt, Int.reduceToNat, fe_0, fe_1, fe_2, fe_3, fe_4, fe_5]) <;> (try simp (disch := omega) only [tI_bm]) <;> omega)) (by ((try simp only [tI_lt, tI_le, tI_eq, tI_add, tI_sub, tI_mul, tI_nat, Int32.reduceToInt, Int.reduceToNat, fe_0, fe_1, fe_2, fe_3, fe_4, fe_5]) <;> (try simp (disch := omega) only [tI_bm]) <;> omega)) (by ((try simp only [tI_lt, tI_le, tI_eq, tI_add, tI_sub, tI_mul, tI_nat, Int32.reduceToInt, Int.reduceToNat, fe_0, fe_1, fe_2, fe_3, fe_4, fe_5]) <;> (try simp (disch := omega) only [tI_bm]) <;> omega))
set_option maxHeartbeats 400000 in
theorem s_X3_numberNets_7 (c_parts : Nat → Int32) (c_contacts : Nat → Int32) (c_told : Nat → Int32) (hN : NS c_parts c_contacts) : ∀ (n : Nat) (x1 : Int32) (c_toldNets : Int32) (c_nets : Int32) (c_joined : Nat → Int32) (c_netOf : Nat → Int32), 0 ≤ x1.toInt → x1.toInt ≤ 954 → 954 < x1.toInt + n → 0 ≤ c_nets.toInt → c_nets.toInt ≤ x1.toInt → JB c_joined → Ok (f_X3_numberNets_7 c_parts c_contacts c_told n x1 c_toldNets c_nets c_joined c_netOf) (fun r => 0 ≤ r.1.toInt ∧ r.1.toInt ≤ 954)
  | 0, x1, c_toldNets, c_nets, c_joined, c_netOf, h1, h2, h3, h4, h5, hJ => by exfalso; omega
  | n + 1, x1, c_toldNets, c_nets, c_joined, c_netOf, h1, h2, h3, h4, h5, hJ => by
    unfold f_X3_numberNets_7
    refine ok_if (fun a => ?_) (fun a => ?_)
    · refine ok_mono (s_X3_numberNets_84 c_parts c_contacts c_told hN FU _ _ _ _ _ (by decide) (by decide) (by rw [FU_eq]; decide)) (fun r hr => ?_)
      rw [hr]; omega
    · rw [tI_le, show (954 : Int32).toInt = 954 from by decide] at a
      have hb : 0 ≤ x1.toInt ∧ x1.toInt < (954 : Nat) := by omega
      have e1 : (x1 + 1).toInt = x1.toInt + 1 := by ((try simp only [tI_lt, tI_le, tI_eq, tI_add, tI_sub, tI_mul, tI_nat, Int32.reduceToInt, Int.reduceToNat, fe_0, fe_1, fe_2, fe_3, fe_4, fe_5]) <;> (try simp (disch := omega) only [tI_bm]) <;> omega)
      have en : (c_nets + 1).toInt = c_nets.toInt + 1 := by ((try simp only [tI_lt, tI_le, tI_eq, tI_add, tI_sub, tI_mul, tI_nat, Int32.reduceToInt, Int.reduceToNat, fe_0, fe_1, fe_2, fe_3, fe_4, fe_5]) <;> (try simp (disch := omega) only [tI_bm]) <;> omega)
      have go : ∀ (c_nets : Int32) (c_joined c_netOf : Nat → Int32), 0 ≤ c_nets.toInt → c_nets.toInt ≤ x1.toInt + 1 → JB c_joined → Ok (f_X3_numberNets_7 c_parts c_contacts c_told n (x1 + 1) c_toldNets c_nets c_joined c_netOf) (fun r => 0 ≤ r.1.toInt ∧ r.1.toInt ≤ 954) := fun cn cj co q1 q2 q3 => s_X3_numberNets_7 c_parts c_contacts c_told hN n _ _ _ _ _ (by omega) (by omega) (by omega) q1 (by omega) q3
      unfold f_X3_numberNets_56 f_X3_numberNets_68
      refine ok_bad hb (ok_if (fun _ => ok_vlet (go _ _ _ h4 (by omega) hJ)) (fun _ => ok_bind (s_X3_headOf _ _ h1 (by omega) hJ) (fun r2 q2 => ?_)))
      have hb2 : 0 ≤ r2.1.toInt ∧ r2.1.toInt < (954 : Nat) := ⟨q2.1, q2.2.1⟩
      refine ok_bad hb2 (ok_if (fun _ => ok_vlet (ok_bad hb2 (ok_vlet (ok_bad hb2 (ok_vlet (ok_bad hb (ok_vlet (ok_vlet (go _ _ _ (by omega) (by omega) q2.2.2))))))))) (fun _ => ok_bad hb2 (ok_vlet (ok_bad hb (ok_vlet (ok_vlet (go _ _ _ h4 (by omega) q2.2.2)))))))
set_option maxHeartbeats 400000 in
theorem s_X3_numberNets (c_toldNets : Int32) (c_nets : Int32) (c_parts : Nat → Int32) (c_contacts : Nat → Int32) (c_told : Nat → Int32) (c_joined : Nat → Int32) (c_netOf : Nat → Int32) (hN : NS c_parts c_contacts) (hJ : JB c_joined) : Ok (f_X3_numberNets c_toldNets c_nets c_parts c_contacts c_told c_joined c_netOf) (fun r => 0 ≤ r.1.toInt ∧ r.1.toInt ≤ 954) := by
  unfold f_X3_numberNets
  exact s_X3_numberNets_7 c_parts c_contacts c_told hN FU _ _ _ _ _ (by decide) (by decide) (by rw [FU_eq]; decide) (by decide) (by decide) hJ
