/-! the start -/
set_option maxHeartbeats 400000 in
theorem s_X3_init : Ok f_X3_init (fun r => (0 ≤ r.1.toInt ∧ r.1.toInt ≤ 954) ∧ (∀ s : Nat, s < 5 → r.2.2.1 s = 0) ∧ r.2.2.2.2.2.2.1 = fun _ => 0) := by
  unfold f_X3_init
  refine ok_bind (s_X3_clear _ _ _ _) (fun r13 h13 => ?_)
  have z : (0 : Int32).toInt = 0 := by decide
  have z4 : ∀ s : Nat, s < 5 → (r13.1 s).toInt = 0 := fun s hs => by rw [h13.1 s hs, z]
  refine ok_bind (s_X3_numberNets _ _ _ _ _ _ _ ?_ (fun e he => ?_)) (fun r14 h14 => ok_some ⟨h14, h13.1, rfl⟩)
  · rw [NS, z4 0 (by decide), z4 1 (by decide), z4 2 (by decide), z4 3 (by decide), z4 4 (by decide)]
    exact ⟨by decide, by decide, by decide, by decide, by decide, fun r hr => by show 0 ≤ (0 : Int32).toInt ∧ (0 : Int32).toInt ≤ 6; decide⟩
  · have := (h13.2 e he).2.1
    omega
set_option maxHeartbeats 400000 in
theorem s_X5_init : Ok f_X5_init (fun r => r.2.2.2.2.2.2.2.2.2.2.2.2.2.1 = (fun _ => 0) ∧ r.2.2.2.2.2.2.2.2.2.2.2.2.2.2.2.2.2.2.2.2.2.1 = fun _ => 0) := by
  unfold f_X5_init
  refine ok_bind (P := fun r => r.2.2.2.2.1 = fun _ => 0) (ok_some rfl) (fun r3 h3 => ?_)
  refine ok_bind s_X3_init (fun r6 h6 => ok_some ⟨h3, h6.2.2⟩)
set_option maxHeartbeats 400000 in
theorem s_X2_init : Ok f_X2_init (fun r => (0 ≤ r.1.toInt ∧ r.1.toInt ≤ 954) ∧ (∀ s : Nat, s < 5 → r.2.2.1 s = 0) ∧ r.2.2.2.2.2.2.1 = fun _ => 0) := by
  unfold f_X2_init
  refine ok_bind s_X3_init (fun r3 h3 => ok_bind (P := fun _ => True) ?_ (fun r6 _ => ok_bind (P := fun _ => True) (ok_some trivial) (fun r9 _ => ok_some h3)))
  unfold f_X9_init
  exact ok_bind (s_X9_clear _ _) (fun r _ => ok_some trivial)
set_option maxHeartbeats 400000 in
theorem s_X10_init : Ok f_X10_init (fun s => s.1 = 0 ∧ s.2.2.2.1 = (fun _ => 0) ∧ s.2.2.2.2.2.2.2.2.2.2.2.2.2.2.2.2.2.1 = (fun _ => 0) ∧ s.2.2.2.2.2.2.2.2.2.2.2.2.2.2.2.2.2.2.2.2.2.2.2.2.2.1 = (fun _ => 0) ∧ IX [] s.2.2.2.2.2.2.2.2.2.2.2.2.2.2.2.2.2.2.2.2.2.2.2.2.2.2.2.2.2.2.2.2.2.2.2.1 s.2.2.2.2.2.2.2.2.2.2.2.2.2.2.2.2.2.2.2.2.2.2.2.2.2.2.2.2.2.2.2.2.2.2.2.2.2.1 s.2.2.2.2.2.2.2.2.2.2.2.2.2.2.2.2.2.2.2.2.2.2.2.2.2.2.2.2.2.2.2.2.2.2.2.2.2.2.1 s.2.2.2.2.2.2.2.2.2.2.2.2.2.2.2.2.2.2.2.2.2.2.2.2.2.2.2.2.2.2.2.2.2.2.2.2.2.2.2.1 s.2.2.2.2.2.2.2.2.2.2.2.2.2.2.2.2.2.2.2.2.2.2.2.2.2.2.2.2.2.2.2.2.2.2.2.2.2.2.2.2.1 s.2.2.2.2.2.2.2.2.2.2.2.2.2.2.2.2.2.2.2.2.2.2.2.2.2.2.2.2.2.2.2.2.2.2.2.2.2.2.2.2.2.1 s.2.2.2.2.2.2.2.2.2.2.2.2.2.2.2.2.2.2.2.2.2.2.2.2.2.2.2.2.2.2.2.2.2.2.2.2.2.2.2.2.2.2.1 s.2.2.2.2.2.2.2.2.2.2.2.2.2.2.2.2.2.2.2.2.2.2.2.2.2.2.2.2.2.2.2.2.2.2.2.2.2.2.2.2.2.2.2.1 s.2.2.2.2.2.2.2.2.2.2.2.2.2.2.2.2.2.2.2.2.2.2.2.2.2.2.2.2.2.2.2.2.2.2.2.2.2.2.2.2.2.2.2.2.1 ∧ s.2.2.2.2.2.2.2.2.2.2.2.2.2.2.2.2.2.2.2.2.2.2.2.2.2.2.2.2.2.2.2.2.2.2.2.2.2.2.2.2.2.2.2.2.2.2.2.2.2.2.2.2.2.2.2.2.2.2.2.2.2.2.2.1 = 0 ∧ s.2.2.2.2.2.2.2.2.2.2.2.2.2.2.2.2.2.2.2.2.2.2.2.2.2.2.2.2.2.2.2.2.2.2.2.2.2.2.2.2.2.2.2.2.2.2.2.2.2.2.2.2.2.2.2.2.2.2.2.2.2.2.2.2.1 = 0) := by
  unfold f_X10_init
  refine ok_bind s_X5_init (fun r4 h4 => ok_bind s_X2_init (fun r7 h7 => ok_bind (P := fun _ => True) (ok_some trivial) (fun r10 _ => ok_bind (P := fun r => r.1 = 0 ∧ r.2.1 = 0) (ok_some ⟨rfl, rfl⟩) (fun r13 h13 => ok_bind (P := fun _ => True) ?_ (fun r16 _ => ok_some ?_)))))
  · unfold f_X4_init
    exact ok_bind (P := fun _ => True) (ok_some trivial) (fun _ _ => ok_bind (P := fun _ => True) (ok_some trivial) (fun _ _ => ok_bind (P := fun _ => True) (ok_some trivial) (fun _ _ => ok_some trivial)))
  · have z : (0 : Int32).toInt = 0 := by decide
    obtain ⟨g1, g2, g3⟩ := h7
    have z4 : ∀ s : Nat, s < 5 → (r7.2.2.1 s).toInt = 0 := fun s hs => by rw [g2 s hs, z]
    have zc : ∀ r : Nat, r < 40 → 0 ≤ (r7.2.2.2.2.2.2.1 r).toInt ∧ (r7.2.2.2.2.2.2.1 r).toInt ≤ 6 := fun r _ => by
      rw [g3]
      show 0 ≤ (0 : Int32).toInt ∧ (0 : Int32).toInt ≤ 6
      decide
    refine ⟨rfl, rfl, h4.1, h4.2, ⟨⟨rfl, ?_, ?_, ?_, trivial, ?_⟩, trivial, g1, ?_⟩, h13.1, h13.2⟩
    · have n : NS r7.2.2.1 r7.2.2.2.2.2.2.1 := by
        rw [NS, z4 0 (by decide), z4 1 (by decide), z4 2 (by decide), z4 3 (by decide), z4 4 (by decide)]
        exact ⟨by decide, by decide, by decide, by decide, by decide, zc⟩
      exact n
    · intro s hs
      have := z4 s hs
      refine ⟨?_, ?_⟩
      · show 0 ≤ (r7.2.2.1 s).toInt
        omega
      · show (r7.2.2.1 s).toInt ≤ mst s
        omega
    · exact fun s hs => z4 s hs
    · exact fun i a h => h.elim
    · exact fun a ha => absurd ha (List.not_mem_nil)
set_option maxHeartbeats 400000 in
theorem s_X11_init : Ok f_X11_init (fun t => t.1 = 0 ∧ t.2.2.2.2.2.2.2.2.2.2.2.2.2.2.1 = (fun _ => 0) ∧ IM [] 0 t.2.2.2.2.2.2.2.2.1 t.2.2.2.2.2.2.2.2.2.2.2.2.2.2.2.2.2.2.2.2.1 t.2.2.2.2.2.2.2.2.2.2.2.2.2.2.2.2.2.2.2.2.2.1 t.2.2.2.2.2.2.2.2.2.2.2.2.2.2.2.2.2.2.2.2.2.2.1 t.2.2.2.2.2.2.2.2.2.2.2.2.2.2.2.2.2.2.2.2.2.2.2.1 t.2.2.2.2.2.2.2.2.2.2.2.2.2.2.2.2.2.2.2.2.2.2.2.2.1 t.2.2.2.2.2.2.2.2.2.2.2.2.2.2.2.2.2.2.2.2.2.2.2.2.2.1 t.2.2.2.2.2.2.2.2.2.2.2.2.2.2.2.2.2.2.2.2.2.2.2.2.2.2.1 t.2.2.2.2.2.2.2.2.2.2.2.2.2.2.2.2.2.2.2.2.2.2.2.2.2.2.2.1 ∧ KR t.2.2.2.2.2.2.2.2.2.2.1 t.2.2.2.2.2.2.2.2.2.2.2.1 ∧ RIv t.2.2.2.2.2.2.2.2.2.2.2.2.2.2.2.2.2.2.2.2.2.2.2.2.2.2.2.2.2.2.2.2.2.2.2.2.2.2.2.2.1 t.2.2.2.2.2.2.2.2.2.2.2.2.2.2.2.2.2.2.2.2.2.2.2.2.2.2.2.2.2.2.2.2.2.2.2.2.2.2.2.2.2.1 t.2.2.2.2.2.2.2.2.2.2.2.2.2.1) := by
  unfold f_X11_init
  have go1 : ∀ (n : Nat) (x1 : Int32) (c : Nat → Int32), 0 ≤ x1.toInt → x1.toInt ≤ 954 → 954 < x1.toInt + n → (∀ e : Nat, (e : Int) < x1.toInt → (c e).toInt = e) → Ok (f_X11_init_291 n x1 c) (fun r => ∀ e : Nat, e < 954 → (r e).toInt = e) := by
    intro n
    induction n with
    | zero => intro x1 c h1 h2 h3; exfalso; omega
    | succ n ih =>
      intro x1 c h1 h2 h3 h4
      unfold f_X11_init_291
      refine ok_if (fun a => ok_some (fun e he => h4 e (by rw [tI_le, show (954 : Int32).toInt = 954 from by decide] at a; omega))) (fun a => ?_)
      rw [tI_le, show (954 : Int32).toInt = 954 from by decide] at a
      have b3 : (x1 + 1).toInt = x1.toInt + 1 := by ((try simp only [tI_lt, tI_le, tI_eq, tI_add, tI_sub, tI_mul, tI_nat, Int32.reduceToInt, Int.reduceToNat, fe_0, fe_1, fe_2, fe_3, fe_4, fe_5]) <;> (try simp (disch := omega) only [tI_bm]) <;> omega)
      refine ok_bad (by omega) (ok_vlet (ok_vlet (ih _ _ (by omega) (by omega) (by omega) (fun e he => ?_))))
      rw [upd_at, tI_nat]
      by_cases z : e = x1.toInt.toNat
      · rw [if_pos z]; omega
      · rw [if_neg z]; exact h4 e (by omega)
  have go2 : ∀ (n : Nat) (x1 : Int32) (c : Nat → Int32), 0 ≤ x1.toInt → x1.toInt ≤ 240 → 240 < x1.toInt + n → Ok (f_X11_init_313 n x1 c) (fun _ => True) := by
    intro n
    induction n with
    | zero => intro x1 c h1 h2 h3; exfalso; omega
    | succ n ih =>
      intro x1 c h1 h2 h3
      unfold f_X11_init_313
      refine ok_if (fun a => ok_some trivial) (fun a => ?_)
      rw [tI_le, show (240 : Int32).toInt = 240 from by decide] at a
      have b3 : (x1 + 1).toInt = x1.toInt + 1 := by ((try simp only [tI_lt, tI_le, tI_eq, tI_add, tI_sub, tI_mul, tI_nat, Int32.reduceToInt, Int.reduceToNat, fe_0, fe_1, fe_2, fe_3, fe_4, fe_5]) <;> (try simp (disch := omega) only [tI_bm]) <;> omega)
      exact ok_bad (by omega) (ok_vlet (ok_vlet (ih _ _ (by omega) (by omega) (by omega))))
  refine ok_bind (go1 FU 0 _ (by decide) (by decide) (by rw [FU_eq]; decide) (fun s hs => by rw [show (0 : Int32).toInt = 0 from by decide] at hs; omega)) (fun r1 h1 => ok_bind (go2 FU 0 _ (by decide) (by decide) (by rw [FU_eq]; decide)) (fun r2 _ => ok_some ?_))
  have hG : GB (fun _ => 0) (fun _ => 0) := fun i _ => ⟨⟨by show 0 ≤ (0 : Int32).toInt; decide, by show (0 : Int32).toInt ≤ 8; decide⟩, by show 0 ≤ (0 : Int32).toInt; decide, by show (0 : Int32).toInt ≤ 6; decide⟩
  have kr : KR 0 0 := ⟨by decide, by decide, by decide, by decide⟩
  have z44 : (0 : Int32).toInt ≤ 4 := by decide
  refine ⟨rfl, rfl, ⟨MI_of (nameSize := fun _ => 0) (by decide) rfl (fun s hs => ?_) hG (fun c hc => ?_) (fun e he => ?_), hG, fun s hs => ?_, rfl, trivial⟩, kr, fun i _ => ?_, fun i _ => ?_, z44⟩
  · show 0 ≤ (0 : Int32).toInt ∧ (0 : Int32).toInt ≤ mst s
    rw [show (0 : Int32).toInt = 0 from by decide]
    omega
  · have hc' : (c : Int) < (0 : Int32).toInt := hc
    rw [show (0 : Int32).toInt = 0 from by decide] at hc'
    omega
  · have := h1 e he
    show 0 ≤ (r1 (954 * 0 + e)).toInt ∧ (r1 (954 * 0 + e)).toInt < 954
    rw [show 954 * 0 + e = e by omega]
    omega
  · show (0 : Int32).toInt = ((0 : Nat) : Int)
    decide
  · show 0 ≤ (0 : Int32).toInt ∧ (0 : Int32).toInt < 40
    decide
  · show 0 ≤ (0 : Int32).toInt ∧ (0 : Int32).toInt < 40
    decide
set_option maxHeartbeats 400000 in
theorem hop_init : ∃ s t, f_X10_init = some s ∧ f_X11_init = some t ∧ INV0 s t := by
  refine hop2 s_X10_init s_X11_init (fun s t p q => ?_)
  obtain ⟨p1, p2, p3, p4, p5, p6, p7⟩ := p
  obtain ⟨q1, q2, q3, q4, q5⟩ := q
  refine ⟨[], 0, ?_, ⟨by rw [q1, p1], by rw [q2, p2]⟩, ?_, p5, ?_, q3, q4, q5⟩
  · rw [p1, p2]
    exact ⟨by decide, by decide, fun i => by show -128 ≤ (0 : Int32).toInt ∧ (0 : Int32).toInt < 128; decide⟩
  · rw [p3, p4]
    exact ⟨fun i _ => by show 0 ≤ (0 : Int32).toInt; decide, fun i _ => by show 0 ≤ (0 : Int32).toInt ∧ (0 : Int32).toInt ≤ 6; decide⟩
  · rw [p6, p7]
    exact ⟨by decide, by decide, by decide, by decide⟩
