/-! the reference on a netlist without parts -/
set_option maxHeartbeats 400000 in
theorem ok_and {α : Type} {o : Option α} {P Q : α → Prop} (h : Ok o P) (k : Ok o Q) : Ok o (fun r => P r ∧ Q r) := by
  obtain ⟨r, e, p⟩ := h
  obtain ⟨r2, e2, q⟩ := k
  have : some r = some r2 := e.symm.trans e2
  injection this with this
  subst this
  exact ⟨r, e, p, q⟩
def FMs (σ : Nat) (side : Int32) (many netOf isTold : Nat → Int32) : Prop := side.toInt = (σ : Int) ∧ σ ≤ 1 ∧ (∀ s : Nat, s < 5 → many (5 * σ + s) = 0) ∧ (∀ e : Nat, e < 954 → (netOf (954 * σ + e)).toInt = e ∧ isTold (954 * σ + e) = 0)
set_option maxHeartbeats 400000 in
theorem fm_here {σ : Nat} {c_side : Int32} {c_many netOf isTold : Nat → Int32} (h : FMs σ c_side c_many netOf isTold) (x1 : Int32) (hx : 0 ≤ x1.toInt) (hx2 : x1.toInt < 5) : (f_X11_here x1 c_side c_many) = some 0 := by
  rw [s_X11_here σ x1 c_side c_many h.1 h.2.1 hx hx2, h.2.2.1 _ (by omega)]
set_option maxHeartbeats 400000 in
theorem fm_group {σ : Nat} {c_many isTold : Nat → Int32} (x1 : Int32) (c_side : Int32) (c_netOf : Nat → Int32) (c_joined : Nat → Int32) (h : FMs σ c_side c_many c_netOf isTold) (hj : ∀ e : Nat, e < 954 → (c_joined e).toInt = e) (hx : 0 ≤ x1.toInt) (hx2 : x1.toInt < 954) : (f_X11_groupOf x1 c_side c_netOf c_joined) = some x1 := by
  unfold f_X11_groupOf
  have h1 := h.1
  have h2 := h.2.1
  have e : (954 * c_side + x1).toInt = 954 * σ + x1.toInt := by ((try simp only [tI_lt, tI_le, tI_eq, tI_add, tI_sub, tI_mul, tI_nat, Int32.reduceToInt, Int.reduceToNat, fe_0, fe_1, fe_2, fe_3, fe_4, fe_5]) <;> (try simp (disch := omega) only [tI_bm]) <;> omega)
  have e2 : (954 * c_side + x1).toNatClampNeg = 954 * σ + x1.toInt.toNat := by rw [tI_nat, e]; omega
  have hb : bad (954 * c_side + x1) 1908 = false := bad_f (by omega) (by omega)
  have hn := (h.2.2.2 x1.toInt.toNat (by omega)).1
  have ex : c_netOf (954 * σ + x1.toInt.toNat) = x1 := Int32.toInt_inj.mp (by omega)
  rw [hb, if_neg (by decide), e2, ex]
  dsimp only [vlet]
  have go : ∀ n : Nat, 0 < n → (f_X11_groupOf_16 c_side c_netOf c_joined n x1) = some x1 := by
    intro n hn
    cases n with
    | zero => exact absurd hn (Nat.lt_irrefl _)
    | succ n =>
      unfold f_X11_groupOf_16
      have hb2 : bad x1 954 = false := bad_f hx hx2
      have ej : c_joined x1.toInt.toNat = x1 := Int32.toInt_inj.mp (by rw [hj _ (by omega)]; omega)
      rw [hb2, if_neg (by decide), tI_nat, ej, if_pos rfl]
  exact go FU (by rw [FU_eq]; decide)
set_option maxHeartbeats 400000 in
theorem fm_look_136 (c_side : Int32) (c_many : Nat → Int32) (c_one : Nat → Int32) (c_two : Nat → Int32) (c_kinds : Nat → Int32) (c_kindBits : Nat → Int32) (c_netOf : Nat → Int32) (c_state : Nat → Int32) (c_stuck : Nat → Int32) (c_dusty : Nat → Int32) (σ : Nat) (isTold : Nat → Int32) (h : FMs σ c_side c_many c_netOf isTold) : ∀ (n : Nat) (x1 : Int32) (c_joined : Nat → Int32) (c_live : Nat → Int32) (c_ground : Nat → Int32), 0 ≤ x1.toInt → 0 < n → (∀ e : Nat, e < 954 → (c_joined e).toInt = e ∧ c_live e = 0 ∧ c_ground e = 0) → Ok (f_X11_look_136 c_side c_many c_one c_two c_kinds c_kindBits c_netOf c_state c_stuck c_dusty n x1 c_joined c_live c_ground) (fun r => (∀ e : Nat, e < 954 → (r.1 e).toInt = e ∧ r.2.1 e = (if e = 0 then 1 else 0) ∧ r.2.2 e = (if e = 1 then 1 else 0)))
  | 0, x1, c_joined, c_live, c_ground, h1, h2, h3 => absurd h2 (Nat.lt_irrefl _)
  | n + 1, x1, c_joined, c_live, c_ground, h1, h2, h3 => by
    unfold f_X11_look_136
    refine ok_eq (fm_here h 3 (by decide) (by decide)) ?_
    rw [if_pos (by rw [tI_le, l_0]; exact h1)]
    have hj : ∀ e : Nat, e < 954 → (c_joined e).toInt = e := fun e he => (h3 e he).1
    refine ok_eq (fm_group 0 c_side c_netOf c_joined h hj (by decide) (by decide)) ?_
    refine ok_bad (by decide) (ok_vlet ?_)
    refine ok_eq (fm_group 1 c_side c_netOf c_joined h hj (by decide) (by decide)) ?_
    refine ok_bad (by decide) (ok_vlet ?_)
    have n1 : vp_nar .boolean (1 : Int32) = 1 := by decide
    have e0 : (0 : Int32).toNatClampNeg = 0 := by decide
    have e1 : (1 : Int32).toNatClampNeg = 1 := by decide
    rw [n1, e0, e1]
    have fin : ∀ e : Nat, e < 954 → (c_joined e).toInt = e ∧ upd c_live 0 1 e = (if e = 0 then 1 else 0) ∧ upd c_ground 1 1 e = (if e = 1 then 1 else 0) := by
      intro e he
      have := h3 e he
      refine ⟨this.1, ?_, ?_⟩
      · rw [upd_at]
        by_cases z : e = 0
        · rw [if_pos z, if_pos z]
        · rw [if_neg z, if_neg z]; exact this.2.1
      · rw [upd_at]
        by_cases z : e = 1
        · rw [if_pos z, if_pos z]
        · rw [if_neg z, if_neg z]; exact this.2.2
    generalize upd c_live 0 1 = lv at fin
    generalize upd c_ground 1 1 = gr at fin
    have go : ∀ m : Nat, 1 < m → Ok (f_X11_look_239 c_side c_many c_one c_two c_kinds c_kindBits c_netOf c_state c_stuck c_dusty m (1 : Int32) c_joined lv gr) (fun r => (∀ e : Nat, e < 954 → (r.1 e).toInt = e ∧ r.2.1 e = (if e = 0 then 1 else 0) ∧ r.2.2 e = (if e = 1 then 1 else 0))) := by
      intro m hm
      match m, hm with
      | m + 2, _ =>
        unfold f_X11_look_239
        rw [if_neg (by decide)]
        have go2 : ∀ q : Nat, 0 < q → Ok (f_X11_look_247 (f_X11_look_239 c_side c_many c_one c_two c_kinds c_kindBits c_netOf c_state c_stuck c_dusty (m + 1)) c_side c_many c_one c_two c_kinds c_kindBits c_netOf c_state c_stuck c_dusty q (0 : Int32) (0 : Int32) c_joined lv gr) (fun r => (∀ e : Nat, e < 954 → (r.1 e).toInt = e ∧ r.2.1 e = (if e = 0 then 1 else 0) ∧ r.2.2 e = (if e = 1 then 1 else 0))) := by
          intro q hq
          cases q with
          | zero => exact absurd hq (Nat.lt_irrefl _)
          | succ q =>
            unfold f_X11_look_247
            refine ok_eq (fm_here h 4 (by decide) (by decide)) ?_
            rw [if_pos (by decide)]
            unfold f_X11_look_239
            rw [if_pos rfl]
            exact ok_some fin
        exact go2 FU (by rw [FU_eq]; decide)
    exact go FU (by rw [FU_eq]; decide)
set_option maxHeartbeats 400000 in
theorem fm_look_87 (c_side : Int32) (c_many : Nat → Int32) (c_one : Nat → Int32) (c_two : Nat → Int32) (c_kinds : Nat → Int32) (c_kindBits : Nat → Int32) (c_netOf : Nat → Int32) (c_state : Nat → Int32) (c_stuck : Nat → Int32) (c_dusty : Nat → Int32) (σ : Nat) (isTold : Nat → Int32) (h : FMs σ c_side c_many c_netOf isTold) : ∀ (n : Nat) (x1 : Int32) (c_joined : Nat → Int32) (c_live : Nat → Int32) (c_ground : Nat → Int32), 0 ≤ x1.toInt → 0 < n → (∀ e : Nat, e < 954 → (c_joined e).toInt = e ∧ c_live e = 0 ∧ c_ground e = 0) → Ok (f_X11_look_87 c_side c_many c_one c_two c_kinds c_kindBits c_netOf c_state c_stuck c_dusty n x1 c_joined c_live c_ground) (fun r => (∀ e : Nat, e < 954 → (r.1 e).toInt = e ∧ r.2.1 e = (if e = 0 then 1 else 0) ∧ r.2.2 e = (if e = 1 then 1 else 0)))
  | 0, x1, c_joined, c_live, c_ground, h1, h2, h3 => absurd h2 (Nat.lt_irrefl _)
  | n + 1, x1, c_joined, c_live, c_ground, h1, h2, h3 => by
    unfold f_X11_look_87
    refine ok_eq (fm_here h 1 (by decide) (by decide)) ?_
    rw [if_pos (by rw [tI_le, l_0]; exact h1)]
    exact fm_look_136 c_side c_many c_one c_two c_kinds c_kindBits c_netOf c_state c_stuck c_dusty σ isTold h FU _ _ _ _ (by decide) (by rw [FU_eq]; decide) h3
set_option maxHeartbeats 400000 in
theorem fm_look_38 (c_side : Int32) (c_many : Nat → Int32) (c_one : Nat → Int32) (c_two : Nat → Int32) (c_kinds : Nat → Int32) (c_kindBits : Nat → Int32) (c_netOf : Nat → Int32) (c_state : Nat → Int32) (c_stuck : Nat → Int32) (c_dusty : Nat → Int32) (σ : Nat) (isTold : Nat → Int32) (h : FMs σ c_side c_many c_netOf isTold) : ∀ (n : Nat) (x1 : Int32) (c_joined : Nat → Int32) (c_live : Nat → Int32) (c_ground : Nat → Int32), 0 ≤ x1.toInt → 0 < n → (∀ e : Nat, e < 954 → (c_joined e).toInt = e ∧ c_live e = 0 ∧ c_ground e = 0) → Ok (f_X11_look_38 c_side c_many c_one c_two c_kinds c_kindBits c_netOf c_state c_stuck c_dusty n x1 c_joined c_live c_ground) (fun r => (∀ e : Nat, e < 954 → (r.1 e).toInt = e ∧ r.2.1 e = (if e = 0 then 1 else 0) ∧ r.2.2 e = (if e = 1 then 1 else 0)))
  | 0, x1, c_joined, c_live, c_ground, h1, h2, h3 => absurd h2 (Nat.lt_irrefl _)
  | n + 1, x1, c_joined, c_live, c_ground, h1, h2, h3 => by
    unfold f_X11_look_38
    refine ok_eq (fm_here h 0 (by decide) (by decide)) ?_
    rw [if_pos (by rw [tI_le, l_0]; exact h1)]
    exact fm_look_87 c_side c_many c_one c_two c_kinds c_kindBits c_netOf c_state c_stuck c_dusty σ isTold h FU _ _ _ _ (by decide) (by rw [FU_eq]; decide) h3
set_option maxHeartbeats 400000 in
theorem fm_look_2 (c_side : Int32) (c_many : Nat → Int32) (c_one : Nat → Int32) (c_two : Nat → Int32) (c_kinds : Nat → Int32) (c_kindBits : Nat → Int32) (c_netOf : Nat → Int32) (c_state : Nat → Int32) (c_stuck : Nat → Int32) (c_dusty : Nat → Int32) (σ : Nat) (isTold : Nat → Int32) (h : FMs σ c_side c_many c_netOf isTold) : ∀ (n : Nat) (x1 : Int32) (c_joined : Nat → Int32) (c_live : Nat → Int32) (c_ground : Nat → Int32), 0 ≤ x1.toInt → x1.toInt ≤ 954 → 954 < x1.toInt + n → (∀ e : Nat, (e : Int) < x1.toInt → (c_joined e).toInt = e ∧ c_live e = 0 ∧ c_ground e = 0) → Ok (f_X11_look_2 c_side c_many c_one c_two c_kinds c_kindBits c_netOf c_state c_stuck c_dusty n x1 c_joined c_live c_ground) (fun r => (∀ e : Nat, e < 954 → (r.1 e).toInt = e ∧ r.2.1 e = (if e = 0 then 1 else 0) ∧ r.2.2 e = (if e = 1 then 1 else 0)))
  | 0, x1, c_joined, c_live, c_ground, h1, h2, h3, h4 => by exfalso; omega
  | n + 1, x1, c_joined, c_live, c_ground, h1, h2, h3, h4 => by
    unfold f_X11_look_2
    refine ok_if (fun a => ?_) (fun a => ?_)
    · rw [tI_le, l_954] at a
      exact fm_look_38 c_side c_many c_one c_two c_kinds c_kindBits c_netOf c_state c_stuck c_dusty σ isTold h FU _ _ _ _ (by decide) (by rw [FU_eq]; decide) (fun e he => h4 e (by omega))
    · rw [tI_le, l_954] at a
      have hb : 0 ≤ x1.toInt ∧ x1.toInt < (954 : Nat) := by omega
      have e1 : (x1 + 1).toInt = x1.toInt + 1 := by ((try simp only [tI_lt, tI_le, tI_eq, tI_add, tI_sub, tI_mul, tI_nat, Int32.reduceToInt, Int.reduceToNat, fe_0, fe_1, fe_2, fe_3, fe_4, fe_5]) <;> (try simp (disch := omega) only [tI_bm]) <;> omega)
      refine ok_bad hb (ok_vlet (ok_bad hb (ok_vlet (ok_bad hb (ok_vlet (ok_vlet ?_))))))
      refine fm_look_2 c_side c_many c_one c_two c_kinds c_kindBits c_netOf c_state c_stuck c_dusty σ isTold h n _ _ _ _ (by omega) (by omega) (by omega) (fun e he => ?_)
      rw [upd_at, upd_at, upd_at, tI_nat, nar0]
      by_cases z : e = x1.toInt.toNat
      · rw [if_pos z, if_pos z, if_pos z]; exact ⟨by omega, rfl, rfl⟩
      · rw [if_neg z, if_neg z, if_neg z]; exact h4 e (by omega)
set_option maxHeartbeats 400000 in
theorem fm_look (c_side : Int32) (c_many : Nat → Int32) (c_one : Nat → Int32) (c_two : Nat → Int32) (c_kinds : Nat → Int32) (c_kindBits : Nat → Int32) (c_netOf : Nat → Int32) (c_state : Nat → Int32) (c_stuck : Nat → Int32) (c_dusty : Nat → Int32) (c_joined : Nat → Int32) (c_live : Nat → Int32) (c_ground : Nat → Int32) (σ : Nat) (isTold : Nat → Int32) (h : FMs σ c_side c_many c_netOf isTold) : Ok (f_X11_look c_side c_many c_one c_two c_kinds c_kindBits c_netOf c_state c_stuck c_dusty c_joined c_live c_ground) (fun r => (∀ e : Nat, e < 954 → (r.1 e).toInt = e ∧ r.2.1 e = (if e = 0 then 1 else 0) ∧ r.2.2 e = (if e = 1 then 1 else 0))) := by
  unfold f_X11_look
  exact fm_look_2 c_side c_many c_one c_two c_kinds c_kindBits c_netOf c_state c_stuck c_dusty σ isTold h FU _ _ _ _ (by decide) (by decide) (by rw [FU_eq]; decide) (fun e he => by rw [l_0] at he; omega)
set_option maxHeartbeats 400000 in
theorem fm_ticks (c_side : Int32) (c_many : Nat → Int32) (c_one : Nat → Int32) (c_two : Nat → Int32) (c_kinds : Nat → Int32) (c_kindBits : Nat → Int32) (c_netOf : Nat → Int32) (c_state : Nat → Int32) (c_stuck : Nat → Int32) (c_dusty : Nat → Int32) (c_joined : Nat → Int32) (c_live : Nat → Int32) (c_ground : Nat → Int32) (c_part : Nat → Int32) (σ : Nat) (isTold : Nat → Int32) (h : FMs σ c_side c_many c_netOf isTold) : Ok (f_X11_ticks c_side c_many c_one c_two c_kinds c_kindBits c_netOf c_state c_stuck c_dusty c_joined c_live c_ground c_part) (fun r => r.1 = upd c_state 344 (c_state 344 + 1)) := by
  unfold f_X11_ticks
  refine ok_bad (by decide) (ok_vlet (ok_bad (by decide) (ok_vlet ?_)))
  rw [show (344 : Int32).toNatClampNeg = 344 from by decide]
  refine ok_bind (fm_look _ _ _ _ _ _ _ _ _ _ _ _ _ σ isTold h) (fun r5 _ => ?_)
  have h40 : ∀ n, 0 < n → ∀ (j l g : Nat → Int32), Ok (f_X11_ticks_40 c_side c_many c_one c_two c_kinds c_kindBits c_netOf c_stuck c_dusty c_part n 0 (upd c_state 344 (c_state 344 + 1)) j l g) (fun r => r.1 = upd c_state 344 (c_state 344 + 1)) := by
    intro n hn j l g
    cases n with
    | zero => exact absurd hn (Nat.lt_irrefl _)
    | succ n =>
      unfold f_X11_ticks_40
      refine ok_eq (fm_here h 0 (by decide) (by decide)) ?_
      rw [if_pos (by decide)]
      exact ok_some rfl
  have h18 : ∀ n, 0 < n → ∀ (j l g : Nat → Int32), Ok (f_X11_ticks_18 c_side c_many c_one c_two c_kinds c_kindBits c_netOf c_stuck c_dusty c_part n 0 (upd c_state 344 (c_state 344 + 1)) j l g) (fun r => r.1 = upd c_state 344 (c_state 344 + 1)) := by
    intro n hn j l g
    cases n with
    | zero => exact absurd hn (Nat.lt_irrefl _)
    | succ n =>
      unfold f_X11_ticks_18
      refine ok_eq (fm_here h 0 (by decide) (by decide)) ?_
      rw [if_pos (by decide)]
      exact h40 FU (by rw [FU_eq]; decide) j l g
  exact h18 FU (by rw [FU_eq]; decide) _ _ _
set_option maxHeartbeats 400000 in
theorem m_keep_15 (c_state : Nat → Int32) (l : Nat) (hl : l < 100) : ∀ (n : Nat) (x1 : Int32) (c_kept : Int32) (c_latest : Int32) (c_past : Nat → Int32), c_latest.toInt = l → 0 ≤ x1.toInt → x1.toInt ≤ 345 → 345 < x1.toInt + n → (∀ k : Nat, (k : Int) < x1.toInt → c_past (345 * l + k) = c_state k) → Ok (f_X11_keep_15 c_state n x1 c_kept c_latest c_past) (fun r => r.1 = xmin 100 (c_kept + 1) ∧ r.2.1 = c_latest ∧ ∀ k : Nat, k < 345 → r.2.2 (345 * l + k) = c_state k)
  | 0, x1, c_kept, c_latest, c_past, h0, h1, h2, h3, h4 => by exfalso; omega
  | n + 1, x1, c_kept, c_latest, c_past, h0, h1, h2, h3, h4 => by
    unfold f_X11_keep_15
    refine ok_if (fun a => ok_vlet (ok_some ⟨rfl, rfl, fun k hk => h4 k (by rw [tI_le, l_345] at a; omega)⟩)) (fun a => ?_)
    rw [tI_le, l_345] at a
    have b1 : (345 * c_latest + x1).toInt = 345 * l + x1.toInt := by ((try simp only [tI_lt, tI_le, tI_eq, tI_add, tI_sub, tI_mul, tI_nat, Int32.reduceToInt, Int.reduceToNat, fe_0, fe_1, fe_2, fe_3, fe_4, fe_5]) <;> (try simp (disch := omega) only [tI_bm]) <;> omega)
    have b2 : (345 * c_latest + x1).toNatClampNeg = 345 * l + x1.toInt.toNat := by rw [tI_nat, b1]; omega
    have e1 : (x1 + 1).toInt = x1.toInt + 1 := by ((try simp only [tI_lt, tI_le, tI_eq, tI_add, tI_sub, tI_mul, tI_nat, Int32.reduceToInt, Int.reduceToNat, fe_0, fe_1, fe_2, fe_3, fe_4, fe_5]) <;> (try simp (disch := omega) only [tI_bm]) <;> omega)
    refine ok_bad (by omega) (ok_vlet (ok_bad (by omega) (ok_vlet (ok_vlet ?_))))
    rw [b2, tI_nat]
    refine m_keep_15 c_state l hl n _ _ _ _ h0 (by omega) (by omega) (by omega) (fun k hk => ?_)
    rw [upd_at]
    by_cases z : k = x1.toInt.toNat
    · rw [if_pos (by omega), z]
    · rw [if_neg (by omega)]; exact h4 k (by omega)
set_option maxHeartbeats 400000 in
theorem m_keep (c_kept : Int32) (c_latest : Int32) (c_state : Nat → Int32) (c_past : Nat → Int32) (h : KR c_kept c_latest) : Ok (f_X11_keep c_kept c_latest c_state c_past) (fun r => KR r.1 r.2.1 ∧ r.2.1 = xrem (c_latest + 1) 100 ∧ r.1 = xmin 100 (c_kept + 1) ∧ ∀ k : Nat, k < 345 → r.2.2 (345 * r.2.1.toInt.toNat + k) = c_state k) := by
  refine ok_and (s_X11_keep _ _ _ _ h) ?_
  obtain ⟨g1, g2, g3, g4⟩ := h
  have q := tI_rem (x := c_latest + 1) (y := 100) (by ((try simp only [tI_lt, tI_le, tI_eq, tI_add, tI_sub, tI_mul, tI_nat, Int32.reduceToInt, Int.reduceToNat, fe_0, fe_1, fe_2, fe_3, fe_4, fe_5] at *) <;> (try simp (disch := omega) only [tI_bm]) <;> (first | omega | ((try simp (disch := omega) only [tI_bm] at *) <;> omega)))) (by decide)
  have e3 : (c_latest + 1).toInt = c_latest.toInt + 1 := by ((try simp only [tI_lt, tI_le, tI_eq, tI_add, tI_sub, tI_mul, tI_nat, Int32.reduceToInt, Int.reduceToNat, fe_0, fe_1, fe_2, fe_3, fe_4, fe_5] at *) <;> (try simp (disch := omega) only [tI_bm]) <;> (first | omega | ((try simp (disch := omega) only [tI_bm] at *) <;> omega)))
  rw [e3, l_100] at q
  have q0 := Int.emod_nonneg (c_latest.toInt + 1) (show (100 : Int) ≠ 0 by decide)
  have q1 := Int.emod_lt_of_pos (c_latest.toInt + 1) (show (0 : Int) < 100 by decide)
  unfold f_X11_keep
  refine ok_vlet (ok_mono (m_keep_15 c_state (xrem (c_latest + 1) 100).toInt.toNat (by omega) FU 0 c_kept (xrem (c_latest + 1) 100) c_past (by omega) (by decide) (by decide) (by rw [FU_eq]; decide) (fun s hs => by rw [l_0] at hs; omega)) (fun r hr => ?_))
  obtain ⟨k1, k2, k3⟩ := hr
  exact ⟨k2, k1, by rw [k2]; exact k3⟩
set_option maxHeartbeats 400000 in
theorem fm_tick_15 (c_side : Int32) (c_many : Nat → Int32) (c_one : Nat → Int32) (c_two : Nat → Int32) (c_kinds : Nat → Int32) (c_kindBits : Nat → Int32) (c_netOf : Nat → Int32) (c_stuck : Nat → Int32) (c_dusty : Nat → Int32) (c_part : Nat → Int32) (σ : Nat) (isTold : Nat → Int32) (h : FMs σ c_side c_many c_netOf isTold) (T : Int) : ∀ (n : Nat) (x1 : Int32) (x2 : Int32) (c_kept : Int32) (c_latest : Int32) (c_state : Nat → Int32) (c_joined : Nat → Int32) (c_live : Nat → Int32) (c_ground : Nat → Int32) (c_past : Nat → Int32), 0 ≤ x2.toInt → x2.toInt ≤ x1.toInt → x1.toInt ≤ 1000 → x1.toInt < x2.toInt + n → KR c_kept c_latest → (c_state 344).toInt = T + x2.toInt → 0 ≤ T → T ≤ 1000 → Ok (f_X11_tick_15 c_side c_many c_one c_two c_kinds c_kindBits c_netOf c_stuck c_dusty c_part n x1 x2 c_kept c_latest c_state c_joined c_live c_ground c_past) (fun r => r.1.toInt = T + x1.toInt)
  | 0, x1, x2, c_kept, c_latest, c_state, c_joined, c_live, c_ground, c_past, h1, h2, h3, h4, hK, hT, g1, g2 => by exfalso; omega
  | n + 1, x1, x2, c_kept, c_latest, c_state, c_joined, c_live, c_ground, c_past, h1, h2, h3, h4, hK, hT, g1, g2 => by
    unfold f_X11_tick_15
    refine ok_if (fun a => ?_) (fun a => ?_)
    · rw [tI_le] at a
      refine ok_bad (by decide) (ok_some ?_)
      rw [show (344 : Int32).toNatClampNeg = 344 from by decide]
      show (c_state 344).toInt = _
      omega
    · rw [tI_le] at a
      refine ok_bind (m_keep _ _ _ _ hK) (fun r2 q2 => ok_bind (fm_ticks _ _ _ _ _ _ _ _ _ _ _ _ _ _ σ isTold h) (fun r3 q3 => ok_vlet ?_))
      refine fm_tick_15 c_side c_many c_one c_two c_kinds c_kindBits c_netOf c_stuck c_dusty c_part σ isTold h T n _ _ _ _ _ _ _ _ _ (by ((try simp only [tI_lt, tI_le, tI_eq, tI_add, tI_sub, tI_mul, tI_nat, Int32.reduceToInt, Int.reduceToNat, fe_0, fe_1, fe_2, fe_3, fe_4, fe_5]) <;> (try simp (disch := omega) only [tI_bm]) <;> omega)) (by ((try simp only [tI_lt, tI_le, tI_eq, tI_add, tI_sub, tI_mul, tI_nat, Int32.reduceToInt, Int.reduceToNat, fe_0, fe_1, fe_2, fe_3, fe_4, fe_5]) <;> (try simp (disch := omega) only [tI_bm]) <;> omega)) (by ((try simp only [tI_lt, tI_le, tI_eq, tI_add, tI_sub, tI_mul, tI_nat, Int32.reduceToInt, Int.reduceToNat, fe_0, fe_1, fe_2, fe_3, fe_4, fe_5]) <;> (try simp (disch := omega) only [tI_bm]) <;> omega)) (by ((try simp only [tI_lt, tI_le, tI_eq, tI_add, tI_sub, tI_mul, tI_nat, Int32.reduceToInt, Int.reduceToNat, fe_0, fe_1, fe_2, fe_3, fe_4, fe_5]) <;> (try simp (disch := omega) only [tI_bm]) <;> omega)) q2.1 ?_ g1 g2
      rw [q3, upd_at, if_pos rfl]
      ((try simp only [tI_lt, tI_le, tI_eq, tI_add, tI_sub, tI_mul, tI_nat, Int32.reduceToInt, Int.reduceToNat, fe_0, fe_1, fe_2, fe_3, fe_4, fe_5]) <;> (try simp (disch := omega) only [tI_bm]) <;> omega)
set_option maxHeartbeats 400000 in
theorem fm_tick (x1 : Int32) (c_side : Int32) (c_kept : Int32) (c_latest : Int32) (c_many : Nat → Int32) (c_one : Nat → Int32) (c_two : Nat → Int32) (c_kinds : Nat → Int32) (c_kindBits : Nat → Int32) (c_netOf : Nat → Int32) (c_state : Nat → Int32) (c_stuck : Nat → Int32) (c_dusty : Nat → Int32) (c_joined : Nat → Int32) (c_live : Nat → Int32) (c_ground : Nat → Int32) (c_part : Nat → Int32) (c_past : Nat → Int32) (σ : Nat) (isTold : Nat → Int32) (h : FMs σ c_side c_many c_netOf isTold) (hK : KR c_kept c_latest) (ht : c_state 344 = 0) : Ok (f_X11_tick x1 c_side c_kept c_latest c_many c_one c_two c_kinds c_kindBits c_netOf c_state c_stuck c_dusty c_joined c_live c_ground c_part c_past) (fun r => r.1.toInt = if 0 ≤ x1.toInt ∧ x1.toInt ≤ 500 then x1.toInt else -1) := by
  unfold f_X11_tick
  refine ok_if (fun a => ok_some ?_) (fun a => ok_if (fun b => ?_) (fun b => ok_some ?_))
  · rw [tI_lt, l_0] at a
    show (-1 : Int32).toInt = _
    rw [if_neg (by omega)]; decide
  · rw [tI_lt, l_0] at a
    rw [tI_le, l_500] at b
    refine ok_mono (fm_tick_15 c_side c_many c_one c_two c_kinds c_kindBits c_netOf c_stuck c_dusty c_part σ isTold h 0 FU _ _ _ _ _ _ _ _ _ (by decide) (by rw [l_0]; omega) (by omega) (by rw [FU_eq, l_0]; omega) hK (by rw [ht]; decide) (by decide) (by decide)) (fun r hr => ?_)
    rw [if_pos (by omega), hr]; omega
  · rw [tI_le, l_500] at b
    show (-1 : Int32).toInt = _
    rw [if_neg (by omega)]; decide
set_option maxHeartbeats 400000 in
theorem fm_quiet_21 (k2 : Int32 → Int32 → Int32 → (Nat → Int32) → (Nat → Int32) → (Nat → Int32) → (Nat → Int32) → (Nat → Int32) → Option (Int32 × Int32 × Int32 × (Nat → Int32) × (Nat → Int32) × (Nat → Int32) × (Nat → Int32) × (Nat → Int32))) (c_side : Int32) (c_many : Nat → Int32) (c_one : Nat → Int32) (c_two : Nat → Int32) (c_kinds : Nat → Int32) (c_kindBits : Nat → Int32) (c_netOf : Nat → Int32) (c_stuck : Nat → Int32) (c_dusty : Nat → Int32) (c_part : Nat → Int32) (l : Nat) (hl : l < 100) : ∀ (n : Nat) (x1 : Int32) (x2 : Int32) (x3 : Int32) (c_kept : Int32) (c_latest : Int32) (c_state : Nat → Int32) (c_joined : Nat → Int32) (c_live : Nat → Int32) (c_ground : Nat → Int32) (c_past : Nat → Int32), x2 = 1 → c_latest.toInt = l → 0 ≤ x3.toInt → x3.toInt ≤ 320 → 320 < x3.toInt + n → (∀ k : Nat, k < 320 → c_state k = c_past (345 * l + k)) → Ok (f_X11_quiet_21 k2 c_side c_many c_one c_two c_kinds c_kindBits c_netOf c_stuck c_dusty c_part n x1 x2 x3 c_kept c_latest c_state c_joined c_live c_ground c_past) (fun r => r.1 = x1)
  | 0, x1, x2, x3, c_kept, c_latest, c_state, c_joined, c_live, c_ground, c_past, e, h0, h1, h2, h3, h4 => by exfalso; omega
  | n + 1, x1, x2, x3, c_kept, c_latest, c_state, c_joined, c_live, c_ground, c_past, e, h0, h1, h2, h3, h4 => by
    unfold f_X11_quiet_21
    refine ok_if (fun a => ?_) (fun a => ?_)
    · unfold f_X11_quiet_68
      rw [if_neg (by rw [e]; decide)]
      exact ok_some rfl
    · rw [tI_le, l_320] at a
      have b1 : (345 * c_latest + x3).toInt = 345 * l + x3.toInt := by ((try simp only [tI_lt, tI_le, tI_eq, tI_add, tI_sub, tI_mul, tI_nat, Int32.reduceToInt, Int.reduceToNat, fe_0, fe_1, fe_2, fe_3, fe_4, fe_5]) <;> (try simp (disch := omega) only [tI_bm]) <;> omega)
      have b2 : (345 * c_latest + x3).toNatClampNeg = 345 * l + x3.toInt.toNat := by rw [tI_nat, b1]; omega
      rw [if_neg (by rw [e]; decide)]
      refine ok_bad (by omega) (ok_bad (by omega) ?_)
      rw [b2, tI_nat, if_pos (h4 _ (by omega))]
      unfold f_X11_quiet_61
      exact ok_vlet (fm_quiet_21 k2 c_side c_many c_one c_two c_kinds c_kindBits c_netOf c_stuck c_dusty c_part l hl n _ _ _ _ _ _ _ _ _ _ rfl h0 (by ((try simp only [tI_lt, tI_le, tI_eq, tI_add, tI_sub, tI_mul, tI_nat, Int32.reduceToInt, Int.reduceToNat, fe_0, fe_1, fe_2, fe_3, fe_4, fe_5]) <;> (try simp (disch := omega) only [tI_bm]) <;> omega)) (by ((try simp only [tI_lt, tI_le, tI_eq, tI_add, tI_sub, tI_mul, tI_nat, Int32.reduceToInt, Int.reduceToNat, fe_0, fe_1, fe_2, fe_3, fe_4, fe_5]) <;> (try simp (disch := omega) only [tI_bm]) <;> omega)) (by ((try simp only [tI_lt, tI_le, tI_eq, tI_add, tI_sub, tI_mul, tI_nat, Int32.reduceToInt, Int.reduceToNat, fe_0, fe_1, fe_2, fe_3, fe_4, fe_5]) <;> (try simp (disch := omega) only [tI_bm]) <;> omega)) h4)
set_option maxHeartbeats 400000 in
theorem fm_quiet (c_side : Int32) (c_kept : Int32) (c_latest : Int32) (c_many : Nat → Int32) (c_one : Nat → Int32) (c_two : Nat → Int32) (c_kinds : Nat → Int32) (c_kindBits : Nat → Int32) (c_netOf : Nat → Int32) (c_state : Nat → Int32) (c_stuck : Nat → Int32) (c_dusty : Nat → Int32) (c_joined : Nat → Int32) (c_live : Nat → Int32) (c_ground : Nat → Int32) (c_part : Nat → Int32) (c_past : Nat → Int32) (σ : Nat) (isTold : Nat → Int32) (h : FMs σ c_side c_many c_netOf isTold) (hK : KR c_kept c_latest) : Ok (f_X11_quiet c_side c_kept c_latest c_many c_one c_two c_kinds c_kindBits c_netOf c_state c_stuck c_dusty c_joined c_live c_ground c_part c_past) (fun r => r.1 = 0) := by
  unfold f_X11_quiet
  have go : ∀ (n : Nat), 0 < n → Ok (f_X11_quiet_2 c_side c_many c_one c_two c_kinds c_kindBits c_netOf c_stuck c_dusty c_part n (0 : Int32) c_kept c_latest c_state c_joined c_live c_ground c_past) (fun r => r.1 = 0) := by
    intro n hn
    cases n with
    | zero => exact absurd hn (Nat.lt_irrefl _)
    | succ n =>
      unfold f_X11_quiet_2
      rw [if_neg (by decide)]
      refine ok_bind (m_keep _ _ _ _ hK) (fun r1 q1 => ok_bind (fm_ticks _ _ _ _ _ _ _ _ _ _ _ _ _ _ σ isTold h) (fun r2 q2 => ?_))
      obtain ⟨k1, k2, k3, k4⟩ := q1
      have hl : r1.2.1.toInt.toNat < 100 := by have := k1.2.2; omega
      refine fm_quiet_21 _ c_side c_many c_one c_two c_kinds c_kindBits c_netOf c_stuck c_dusty c_part r1.2.1.toInt.toNat hl FU _ _ _ _ _ _ _ _ _ _ rfl (by have := k1.2.2; omega) (by decide) (by decide) (by rw [FU_eq]; decide) (fun k hk => ?_)
      rw [q2, upd_at, if_neg (by omega), k4 k (by omega)]
  exact go FU (by rw [FU_eq]; decide)
