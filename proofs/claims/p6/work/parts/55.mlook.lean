/-! the reference: joined groups, the flood -/
def MI (σ : Nat) (side : Int32) (many one kinds netOf : Nat → Int32) : Prop := side.toInt = (σ : Int) ∧ σ ≤ 1 ∧ (0 ≤ (many (5 * σ + 0)).toInt ∧ (many (5 * σ + 0)).toInt ≤ 40) ∧ (0 ≤ (many (5 * σ + 1)).toInt ∧ (many (5 * σ + 1)).toInt ≤ 24) ∧ (0 ≤ (many (5 * σ + 2)).toInt ∧ (many (5 * σ + 2)).toInt ≤ 24) ∧ (0 ≤ (many (5 * σ + 3)).toInt ∧ (many (5 * σ + 3)).toInt ≤ 4) ∧ (0 ≤ (many (5 * σ + 4)).toInt ∧ (many (5 * σ + 4)).toInt ≤ 24) ∧ (∀ i : Nat, i < 232 → 0 ≤ (kinds i).toInt ∧ (kinds i).toInt ≤ 6) ∧ (∀ c : Nat, (c : Int) < (many (5 * σ + 3)).toInt → 0 < (one (116 * σ + 88 + c)).toInt) ∧ (∀ e : Nat, e < 954 → 0 ≤ (netOf (954 * σ + e)).toInt ∧ (netOf (954 * σ + e)).toInt < 954)
set_option maxHeartbeats 400000 in
theorem s_X11_here (σ : Nat) (x1 : Int32) (c_side : Int32) (c_many : Nat → Int32) (hs : c_side.toInt = (σ : Int)) (h1 : σ ≤ 1) (hx : 0 ≤ x1.toInt) (hx2 : x1.toInt < 5) : (f_X11_here x1 c_side c_many) = some (c_many (5 * σ + x1.toInt.toNat)) := by
  unfold f_X11_here
  have e : (5 * c_side + x1).toInt = 5 * σ + x1.toInt := by ((try simp only [tI_lt, tI_le, tI_eq, tI_add, tI_sub, tI_mul, tI_nat, Int32.reduceToInt, Int.reduceToNat, fe_0, fe_1, fe_2, fe_3, fe_4, fe_5]) <;> (try simp (disch := omega) only [tI_bm]) <;> omega)
  rw [bad_f (by omega) (by omega), if_neg (by decide), tI_nat, e]
  have e2 : ((5 : Int) * σ + x1.toInt).toNat = 5 * σ + x1.toInt.toNat := by omega
  rw [e2]
def JI (j : Nat → Int32) : Prop := ∀ e : Nat, e < 954 → 0 ≤ (j e).toInt ∧ (j e).toInt ≤ e
set_option maxHeartbeats 400000 in
theorem s_X11_groupOf_16 (c_side : Int32) (c_netOf : Nat → Int32) (c_joined : Nat → Int32) (hJ : JI c_joined) : ∀ (n : Nat) (x2 : Int32), 0 ≤ x2.toInt → x2.toInt < 954 → x2.toInt < n → Ok (f_X11_groupOf_16 c_side c_netOf c_joined n x2) (fun r => 0 ≤ r.toInt ∧ r.toInt < 954 ∧ c_joined r.toInt.toNat = r)
  | 0, x2, h1, h2, h3 => by exfalso; omega
  | n + 1, x2, h1, h2, h3 => by
    unfold f_X11_groupOf_16
    have hb : 0 ≤ x2.toInt ∧ x2.toInt < (954 : Nat) := by omega
    have hj := hJ x2.toInt.toNat (by omega)
    refine ok_bad hb (ok_if (fun a => ok_some ⟨h1, h2, a⟩) (fun a => ok_bad hb (ok_vlet ?_)))
    have a2 : ¬ (c_joined x2.toInt.toNat).toInt = x2.toInt := fun q => a (Int32.toInt_inj.mp q)
    exact s_X11_groupOf_16 c_side c_netOf c_joined hJ n _ hj.1 (by rw [tI_nat]; omega) (by rw [tI_nat]; omega)
set_option maxHeartbeats 400000 in
theorem s_X11_groupOf (σ : Nat) (x1 : Int32) (c_side : Int32) (c_netOf : Nat → Int32) (c_joined : Nat → Int32) (hs : c_side.toInt = (σ : Int)) (h1 : σ ≤ 1) (hO : ∀ e : Nat, e < 954 → 0 ≤ (c_netOf (954 * σ + e)).toInt ∧ (c_netOf (954 * σ + e)).toInt < 954) (hJ : JI c_joined) (hx : 0 ≤ x1.toInt) (hx2 : x1.toInt < 954) : Ok (f_X11_groupOf x1 c_side c_netOf c_joined) (fun r => 0 ≤ r.toInt ∧ r.toInt < 954 ∧ c_joined r.toInt.toNat = r) := by
  unfold f_X11_groupOf
  have e : (954 * c_side + x1).toInt = 954 * σ + x1.toInt := by ((try simp only [tI_lt, tI_le, tI_eq, tI_add, tI_sub, tI_mul, tI_nat, Int32.reduceToInt, Int.reduceToNat, fe_0, fe_1, fe_2, fe_3, fe_4, fe_5]) <;> (try simp (disch := omega) only [tI_bm]) <;> omega)
  have e2 : ((954 : Int) * σ + x1.toInt).toNat = 954 * σ + x1.toInt.toNat := by omega
  have o := hO x1.toInt.toNat (by omega)
  refine ok_bad (by omega) (ok_vlet ?_)
  rw [tI_nat, e, e2]
  exact s_X11_groupOf_16 c_side c_netOf c_joined hJ FU _ o.1 o.2 (by rw [FU_eq]; omega)
set_option maxHeartbeats 400000 in
theorem s_X11_both (σ : Nat) (x1 : Int32) (x2 : Int32) (c_side : Int32) (c_netOf : Nat → Int32) (c_joined : Nat → Int32) (hs : c_side.toInt = (σ : Int)) (h1 : σ ≤ 1) (hO : ∀ e : Nat, e < 954 → 0 ≤ (c_netOf (954 * σ + e)).toInt ∧ (c_netOf (954 * σ + e)).toInt < 954) (hJ : JI c_joined) (hx : 0 ≤ x1.toInt ∧ x1.toInt < 954) (hx2 : 0 ≤ x2.toInt ∧ x2.toInt < 954) : Ok (f_X11_both x1 x2 c_side c_netOf c_joined) (fun r => JI r) := by
  unfold f_X11_both
  refine ok_bind (s_X11_groupOf σ _ _ _ _ hs h1 hO hJ hx.1 hx.2) (fun r1 q1 => ok_bind (s_X11_groupOf σ _ _ _ _ hs h1 hO hJ hx2.1 hx2.2) (fun r2 q2 => ok_if (fun _ => ok_some hJ) (fun a => ok_vlet ?_)))
  have hm : 0 ≤ (xmax r1 r2).toInt ∧ (xmax r1 r2).toInt < (954 : Nat) ∧ 0 ≤ (xmin r1 r2).toInt ∧ (xmin r1 r2).toInt ≤ (xmax r1 r2).toInt := by
    unfold xmax xmin
    repeat' split
    all_goals ((try simp only [tI_lt, tI_le, tI_eq, tI_add, tI_sub, tI_mul, tI_nat, Int32.reduceToInt, Int.reduceToNat, fe_0, fe_1, fe_2, fe_3, fe_4, fe_5] at *) <;> (try simp (disch := omega) only [tI_bm]) <;> (first | omega | ((try simp (disch := omega) only [tI_bm] at *) <;> omega)))
  refine ok_bad ⟨hm.1, hm.2.1⟩ (ok_vlet (ok_some (fun e he => ?_)))
  have := hJ e he
  simp only [upd_at, tI_nat]
  split <;> omega
set_option maxHeartbeats 400000 in
theorem s_X11_contact1_133 (σ : Nat) (c_side : Int32) (c_kindBits : Nat → Int32) (c_netOf : Nat → Int32) (c_state : Nat → Int32) (c_stuck : Nat → Int32) (c_dusty : Nat → Int32) (x6 : Int32) (c_joined : Nat → Int32) (hs : c_side.toInt = (σ : Int)) (h1 : σ ≤ 1) (hO : ∀ e : Nat, e < 954 → 0 ≤ (c_netOf (954 * σ + e)).toInt ∧ (c_netOf (954 * σ + e)).toInt < 954) (hJ : JI c_joined) (hx : 0 ≤ x6.toInt ∧ x6.toInt ≤ 900) : Ok (f_X11_contact1_133 c_side c_kindBits c_netOf c_state c_stuck c_dusty x6 c_joined) (fun r => JI r) := by
  unfold f_X11_contact1_133
  exact ok_bind (s_X11_both σ _ _ _ _ _ hs h1 hO hJ (by omega) (by ((try simp only [tI_lt, tI_le, tI_eq, tI_add, tI_sub, tI_mul, tI_nat, Int32.reduceToInt, Int.reduceToNat, fe_0, fe_1, fe_2, fe_3, fe_4, fe_5]) <;> (try simp (disch := omega) only [tI_bm]) <;> omega))) (fun r q => ok_some q)
set_option maxHeartbeats 400000 in
theorem s_X11_contact1_116 (σ : Nat) (c_side : Int32) (c_kindBits : Nat → Int32) (c_netOf : Nat → Int32) (c_state : Nat → Int32) (c_stuck : Nat → Int32) (c_dusty : Nat → Int32) (x4 : Int32) (x5 : Int32) (x6 : Int32) (c_joined : Nat → Int32) (hs : c_side.toInt = (σ : Int)) (h1 : σ ≤ 1) (hO : ∀ e : Nat, e < 954 → 0 ≤ (c_netOf (954 * σ + e)).toInt ∧ (c_netOf (954 * σ + e)).toInt < 954) (hJ : JI c_joined) (hx : 0 ≤ x6.toInt ∧ x6.toInt ≤ 900) : Ok (f_X11_contact1_116 c_side c_kindBits c_netOf c_state c_stuck c_dusty x4 x5 x6 c_joined) (fun r => JI r) := by
  unfold f_X11_contact1_116
  have go := s_X11_contact1_133 σ c_side c_kindBits c_netOf c_state c_stuck c_dusty x6 c_joined hs h1 hO hJ hx
  exact ok_if (fun _ => go) (fun _ => ok_if (fun _ => ok_if (fun _ => ok_some hJ) (fun _ => go)) (fun _ => ok_some hJ))
set_option maxHeartbeats 400000 in
theorem s_X11_contact1_106 (σ : Nat) (c_side : Int32) (c_kindBits : Nat → Int32) (c_netOf : Nat → Int32) (c_state : Nat → Int32) (c_stuck : Nat → Int32) (c_dusty : Nat → Int32) (x4 : Int32) (x5 : Int32) (x6 : Int32) (c_joined : Nat → Int32) (hs : c_side.toInt = (σ : Int)) (h1 : σ ≤ 1) (hO : ∀ e : Nat, e < 954 → 0 ≤ (c_netOf (954 * σ + e)).toInt ∧ (c_netOf (954 * σ + e)).toInt < 954) (hJ : JI c_joined) (hx : 0 ≤ x6.toInt ∧ x6.toInt ≤ 900) : Ok (f_X11_contact1_106 c_side c_kindBits c_netOf c_state c_stuck c_dusty x4 x5 x6 c_joined) (fun r => JI r) := by
  unfold f_X11_contact1_106
  exact ok_bind (s_X11_both σ _ _ _ _ _ hs h1 hO hJ (by omega) (by ((try simp only [tI_lt, tI_le, tI_eq, tI_add, tI_sub, tI_mul, tI_nat, Int32.reduceToInt, Int.reduceToNat, fe_0, fe_1, fe_2, fe_3, fe_4, fe_5]) <;> (try simp (disch := omega) only [tI_bm]) <;> omega))) (fun r q => s_X11_contact1_116 σ _ _ _ _ _ _ _ _ _ _ hs h1 hO q hx)
set_option maxHeartbeats 400000 in
theorem s_X11_contact1 (σ : Nat) (x1 : Int32) (x2 : Int32) (c_side : Int32) (c_kindBits : Nat → Int32) (c_netOf : Nat → Int32) (c_state : Nat → Int32) (c_stuck : Nat → Int32) (c_dusty : Nat → Int32) (c_joined : Nat → Int32) (hs : c_side.toInt = (σ : Int)) (h1 : σ ≤ 1) (hO : ∀ e : Nat, e < 954 → 0 ≤ (c_netOf (954 * σ + e)).toInt ∧ (c_netOf (954 * σ + e)).toInt < 954) (hJ : JI c_joined) (hx : 0 ≤ x1.toInt ∧ x1.toInt < 40) (hx2 : 0 ≤ x2.toInt ∧ x2.toInt < 6) : Ok (f_X11_contact1 x1 x2 c_side c_kindBits c_netOf c_state c_stuck c_dusty c_joined) (fun r => JI r) := by
  unfold f_X11_contact1
  have go74 : ∀ x4 y0 : Int32, Ok (f_X11_contact1_74 c_side c_kindBits c_netOf c_state c_stuck c_dusty x1 x2 x4 y0 c_joined) (fun r => JI r) := by
    intro x4 y0
    unfold f_X11_contact1_74
    refine ok_vlet ?_
    have e : 0 ≤ (((((2 : Int32) + ((20 : Int32) * x1)) + (2 : Int32)) + ((3 : Int32) * x2))).toInt ∧ (((((2 : Int32) + ((20 : Int32) * x1)) + (2 : Int32)) + ((3 : Int32) * x2))).toInt ≤ 900 := by ((try simp only [tI_lt, tI_le, tI_eq, tI_add, tI_sub, tI_mul, tI_nat, Int32.reduceToInt, Int.reduceToNat, fe_0, fe_1, fe_2, fe_3, fe_4, fe_5]) <;> (try simp (disch := omega) only [tI_bm]) <;> omega)
    generalize (((((2 : Int32) + ((20 : Int32) * x1)) + (2 : Int32)) + ((3 : Int32) * x2))) = t at e
    have g1 := fun x5 => s_X11_contact1_116 σ c_side c_kindBits c_netOf c_state c_stuck c_dusty x4 x5 t c_joined hs h1 hO hJ e
    have g2 := fun x5 => s_X11_contact1_106 σ c_side c_kindBits c_netOf c_state c_stuck c_dusty x4 x5 t c_joined hs h1 hO hJ e
    exact ok_if (fun _ => g2 _) (fun _ => ok_if (fun _ => ok_if (fun _ => g1 _) (fun _ => g2 _)) (fun _ => g1 _))
  have go45 : ∀ y0 : Int32, Ok (f_X11_contact1_45 c_side c_kindBits c_netOf c_state c_stuck c_dusty x1 x2 y0 c_joined) (fun r => JI r) := by
    intro y0
    unfold f_X11_contact1_45
    have e : (116 * c_side + x1).toInt = 116 * σ + x1.toInt := by ((try simp only [tI_lt, tI_le, tI_eq, tI_add, tI_sub, tI_mul, tI_nat, Int32.reduceToInt, Int.reduceToNat, fe_0, fe_1, fe_2, fe_3, fe_4, fe_5]) <;> (try simp (disch := omega) only [tI_bm]) <;> omega)
    exact ok_bad (by omega) (ok_if (fun _ => go74 _ _) (fun _ => go74 _ _))
  refine ok_vlet ?_
  have e : 0 ≤ (6 * x1 + x2).toInt ∧ (6 * x1 + x2).toInt < (240 : Nat) := by ((try simp only [tI_lt, tI_le, tI_eq, tI_add, tI_sub, tI_mul, tI_nat, Int32.reduceToInt, Int.reduceToNat, fe_0, fe_1, fe_2, fe_3, fe_4, fe_5]) <;> (try simp (disch := omega) only [tI_bm]) <;> omega)
  have e2 : (80 + (6 * x1 + x2)).toInt = 80 + (6 * x1 + x2).toInt := by
    generalize 6 * x1 + x2 = z at e
    ((try simp only [tI_lt, tI_le, tI_eq, tI_add, tI_sub, tI_mul, tI_nat, Int32.reduceToInt, Int.reduceToNat, fe_0, fe_1, fe_2, fe_3, fe_4, fe_5]) <;> (try simp (disch := omega) only [tI_bm]) <;> omega)
  exact ok_bad e (ok_if (fun _ => ok_bad e (ok_if (fun _ => ok_bad (by omega) (go45 _)) (fun _ => ok_bad e (go45 _)))) (fun _ => ok_some hJ))
/-! the flood ends: each go that goes on makes one more end live or grounded -/
def cz (f : Nat → Int32) : Nat → Nat
  | 0 => 0
  | n + 1 => cz f n + (if f n = 0 then 1 else 0)
set_option maxHeartbeats 400000 in
theorem cz_le (f : Nat → Int32) : ∀ n, cz f n ≤ n
  | 0 => Nat.le_refl _
  | n + 1 => by
    have := cz_le f n
    show cz f n + _ ≤ n + 1
    split <;> omega
set_option maxHeartbeats 400000 in
theorem cz_up (f : Nat → Int32) (k : Nat) (v : Int32) : ∀ n, (n ≤ k → cz (upd f k v) n = cz f n) ∧ (k < n → cz (upd f k v) n + (if f k = 0 then 1 else 0) = cz f n + (if v = 0 then 1 else 0))
  | 0 => ⟨fun _ => rfl, fun h => by omega⟩
  | n + 1 => by
    obtain ⟨h1, h2⟩ := cz_up f k v n
    constructor
    · intro h
      have e1 := h1 (by omega)
      show cz (upd f k v) n + (if upd f k v n = 0 then 1 else 0) = cz f n + (if f n = 0 then 1 else 0)
      rw [e1, upd_at, if_neg (show ¬ n = k by omega)]
    · intro h
      show cz (upd f k v) n + (if upd f k v n = 0 then 1 else 0) + _ = cz f n + (if f n = 0 then 1 else 0) + _
      rw [upd_at]
      by_cases e : n = k
      · have e1 := h1 (by omega)
        rw [if_pos e, e1, e]
        omega
      · have e1 := h2 (by omega)
        rw [if_neg e]
        omega
set_option maxHeartbeats 400000 in
theorem nar0 : vp_nar .boolean (0 : Int32) = 0 := by decide
set_option maxHeartbeats 400000 in
theorem nar1 : vp_nar .boolean (1 : Int32) = 1 := by decide
set_option maxHeartbeats 400000 in
theorem s_X11_look_389 (k239 : Int32 → (Nat → Int32) → (Nat → Int32) → (Nat → Int32) → Option ((Nat → Int32) × (Nat → Int32) × (Nat → Int32))) (k247 : Int32 → Int32 → (Nat → Int32) → (Nat → Int32) → (Nat → Int32) → Option ((Nat → Int32) × (Nat → Int32) × (Nat → Int32))) (c_side : Int32) (c_many : Nat → Int32) (c_one : Nat → Int32) (c_two : Nat → Int32) (c_kinds : Nat → Int32) (c_kindBits : Nat → Int32) (c_netOf : Nat → Int32) (c_state : Nat → Int32) (c_stuck : Nat → Int32) (c_dusty : Nat → Int32) (x1 : Int32) (x2 : Int32) (y1 : Int32) (y2 : Int32) (c_joined : Nat → Int32) (c_live : Nat → Int32) (c_ground : Nat → Int32) (C : (Nat → Int32) → Nat) (hC : ∀ f, C f = cz f 954)  (hy : 0 ≤ y1.toInt ∧ y1.toInt < 954) (hz : y2 = 1 ∨ (y2 = 0 ∧ c_ground y1.toInt.toNat = 0)) {Q} (hk : ∀ g, C g + (if c_ground y1.toInt.toNat = 0 ∧ y2 = 1 then 1 else 0) = C c_ground → Ok (k247 x1 (x2 + 1) c_joined c_live g) Q) : Ok (f_X11_look_389 k239 k247 c_side c_many c_one c_two c_kinds c_kindBits c_netOf c_state c_stuck c_dusty x1 x2 y1 y2 c_joined c_live c_ground) Q := by
  unfold f_X11_look_389
  refine ok_bad ⟨hy.1, hy.2⟩ (ok_vlet (ok_vlet (hk _ ?_)))
  rw [tI_nat]
  have h := (cz_up c_ground y1.toInt.toNat (vp_nar .boolean y2) 954).2 (by omega)
  rw [← hC, ← hC] at h
  rcases hz with e | ⟨e, e2⟩ <;> subst e
  · rw [nar1] at h ⊢
    rw [if_neg (show ¬ (1 : Int32) = 0 by decide)] at h
    by_cases c : c_ground y1.toInt.toNat = 0
    · rw [if_pos c] at h; rw [if_pos ⟨c, rfl⟩]; omega
    · rw [if_neg c] at h; rw [if_neg (fun q => c q.1)]; omega
  · rw [nar0] at h ⊢
    rw [if_pos e2] at h
    rw [if_neg (fun q => absurd q.2 (by decide))]
    rw [if_pos rfl] at h
    omega
set_option maxHeartbeats 400000 in
theorem s_X11_look_328 (k239 : Int32 → (Nat → Int32) → (Nat → Int32) → (Nat → Int32) → Option ((Nat → Int32) × (Nat → Int32) × (Nat → Int32))) (k247 : Int32 → Int32 → (Nat → Int32) → (Nat → Int32) → (Nat → Int32) → Option ((Nat → Int32) × (Nat → Int32) × (Nat → Int32))) (c_side : Int32) (c_many : Nat → Int32) (c_one : Nat → Int32) (c_two : Nat → Int32) (c_kinds : Nat → Int32) (c_kindBits : Nat → Int32) (c_netOf : Nat → Int32) (c_state : Nat → Int32) (c_stuck : Nat → Int32) (c_dusty : Nat → Int32) (x2 : Int32) (x3 : Int32) (x4 : Int32) (y0 : Int32) (c_joined : Nat → Int32) (c_live : Nat → Int32) (c_ground : Nat → Int32) (C : (Nat → Int32) → Nat) (hC : ∀ f, C f = cz f 954)  (h3 : 0 ≤ x3.toInt ∧ x3.toInt < 954) (h4 : 0 ≤ x4.toInt ∧ x4.toInt < 954) {Q} (hk : ∀ l g, C l + C g + (if (¬ c_live x3.toInt.toNat = 0 ∧ c_live x4.toInt.toNat = 0) ∨ (¬ c_ground x4.toInt.toNat = 0 ∧ c_ground x3.toInt.toNat = 0) then 1 else 0) ≤ C c_live + C c_ground → Ok (k247 y0 (x2 + 1) c_joined l g) Q) : Ok (f_X11_look_328 k239 k247 c_side c_many c_one c_two c_kinds c_kindBits c_netOf c_state c_stuck c_dusty x2 x3 x4 y0 c_joined c_live c_ground) Q := by
  unfold f_X11_look_328 f_X11_look_354
  have b3 : 0 ≤ x3.toInt ∧ x3.toInt < (954 : Nat) := h3
  have b4 : 0 ≤ x4.toInt ∧ x4.toInt < (954 : Nat) := h4
  have go359 : ∀ v : Int32, (v = 1 ∧ (¬ c_live x4.toInt.toNat = 0 ∨ ¬ c_live x3.toInt.toNat = 0)) ∨ (v = 0 ∧ c_live x4.toInt.toNat = 0 ∧ c_live x3.toInt.toNat = 0) → Ok (f_X11_look_359 k239 k247 c_side c_many c_one c_two c_kinds c_kindBits c_netOf c_state c_stuck c_dusty y0 x2 x3 x4 x4 v c_joined c_live c_ground) Q := by
    intro v hv
    unfold f_X11_look_359 f_X11_look_384
    refine ok_bad b4 (ok_vlet (ok_bad b3 ?_))
    have hc := (cz_up c_live x4.toInt.toNat (vp_nar .boolean v) 954).2 (by omega)
    rw [← hC, ← hC] at hc
    have hl : C (upd c_live x4.toInt.toNat (vp_nar .boolean v)) + (if ¬ c_live x3.toInt.toNat = 0 ∧ c_live x4.toInt.toNat = 0 then 1 else 0) ≤ C c_live := by
      rcases hv with ⟨e, h⟩ | ⟨e, h⟩ <;> subst e
      · rw [nar1] at hc ⊢
        rw [if_neg (show ¬ (1 : Int32) = 0 by decide)] at hc
        by_cases c : c_live x4.toInt.toNat = 0
        · rw [if_pos c] at hc
          split <;> omega
        · rw [if_neg c] at hc
          rw [if_neg (fun q => c q.2)]; omega
      · rw [nar0] at hc ⊢
        rw [if_pos h.1, if_pos rfl] at hc
        rw [if_neg (fun q => q.1 h.2)]; omega
    have fin : ∀ g w, (w = 1 ∧ (¬ c_ground x3.toInt.toNat = 0 ∨ ¬ c_ground x4.toInt.toNat = 0)) ∨ (w = 0 ∧ c_ground x3.toInt.toNat = 0 ∧ c_ground x4.toInt.toNat = 0) → C g + (if c_ground x3.toInt.toNat = 0 ∧ w = (1 : Int32) then 1 else 0) = C c_ground → Ok (k247 y0 (x2 + 1) c_joined (upd c_live x4.toNatClampNeg (vp_nar .boolean v)) g) Q := by
      intro g w hw hg
      refine hk _ _ ?_
      rw [tI_nat]
      by_cases c1 : ¬ c_live x3.toInt.toNat = 0 ∧ c_live x4.toInt.toNat = 0
      · rw [if_pos c1] at hl
        rw [if_pos (.inl c1)]
        split at hg <;> omega
      · rw [if_neg c1] at hl
        by_cases c2 : ¬ c_ground x4.toInt.toNat = 0 ∧ c_ground x3.toInt.toNat = 0
        · rw [if_pos (.inr c2)]
          rcases hw with ⟨e, h⟩ | ⟨e, h⟩
          · rw [if_pos ⟨c2.2, e⟩] at hg; omega
          · exact absurd h.2 c2.1
        · rw [if_neg (fun q => q.elim c1 c2)]
          split at hg <;> omega
    refine ok_if (fun a1 => ok_bad b4 (ok_if (fun a2 => ?_) (fun a2 => ?_))) (fun a1 => ?_)
    · exact s_X11_look_389 _ _ _ _ _ _ _ _ _ _ _ _ _ _ _ _ _ _ _ C hC h3 (.inr ⟨rfl, a1⟩) (fun g hg => fin g 0 (.inr ⟨rfl, a1, a2⟩) hg)
    · exact s_X11_look_389 _ _ _ _ _ _ _ _ _ _ _ _ _ _ _ _ _ _ _ C hC h3 (.inl rfl) (fun g hg => fin g 1 (.inl ⟨rfl, .inr a2⟩) hg)
    · exact s_X11_look_389 _ _ _ _ _ _ _ _ _ _ _ _ _ _ _ _ _ _ _ C hC h3 (.inl rfl) (fun g hg => fin g 1 (.inl ⟨rfl, .inl a1⟩) hg)
  refine ok_bad b4 (ok_if (fun a1 => ok_bad b3 (ok_if (fun a2 => ?_) (fun a2 => ?_))) (fun a1 => ?_))
  · exact go359 0 (.inr ⟨rfl, a1, a2⟩)
  · exact go359 1 (.inl ⟨rfl, .inr a2⟩)
  · exact go359 1 (.inl ⟨rfl, .inl a1⟩)
set_option maxHeartbeats 400000 in
theorem s_endOf4 (x2 x3 : Int32) : f_X11_endOf 4 x2 x3 = some (906 + 2 * x2 + x3) := rfl
set_option maxHeartbeats 400000 in
theorem s_endOf3 (x2 x3 : Int32) : f_X11_endOf 3 x2 x3 = some (898 + 2 * x2 + x3) := rfl
set_option maxHeartbeats 400000 in
theorem s_endOf2 (x2 x3 : Int32) : f_X11_endOf 2 x2 x3 = some (850 + 2 * x2 + x3) := rfl
set_option maxHeartbeats 400000 in
theorem s_endOf1 (x2 x3 : Int32) : f_X11_endOf 1 x2 x3 = some (802 + 2 * x2 + x3) := rfl
set_option maxHeartbeats 400000 in
theorem ok_eq {α β : Type} {o : Option α} {a : α} {f : α → Option β} {Q : β → Prop} (e : o = some a) (k : Ok (f a) Q) : Ok (o.bind f) Q := by rw [e]; exact k
set_option maxHeartbeats 400000 in
theorem s_X11_look_247 (σ : Nat) (k239 : Int32 → (Nat → Int32) → (Nat → Int32) → (Nat → Int32) → Option ((Nat → Int32) × (Nat → Int32) × (Nat → Int32))) (c_side : Int32) (c_many : Nat → Int32) (c_one : Nat → Int32) (c_two : Nat → Int32) (c_kinds : Nat → Int32) (c_kindBits : Nat → Int32) (c_netOf : Nat → Int32) (c_state : Nat → Int32) (c_stuck : Nat → Int32) (c_dusty : Nat → Int32) (c_joined : Nat → Int32) (C : (Nat → Int32) → Nat) (hC : ∀ f, C f = cz f 954)  (hM : MI σ c_side c_many c_one c_kinds c_netOf) (hJ : JI c_joined) {Q} (M : Nat) (hk : ∀ x1 l g, (x1 = 0 ∧ C l + C g ≤ M) ∨ (x1 = 1 ∧ C l + C g < M) → Ok (k239 x1 c_joined l g) Q) : ∀ (n : Nat) (x1 : Int32) (x2 : Int32) (c_live : Nat → Int32) (c_ground : Nat → Int32), 0 ≤ x2.toInt → x2.toInt ≤ 24 → 24 < x2.toInt + n → (x1 = 0 ∧ C c_live + C c_ground ≤ M) ∨ (x1 = 1 ∧ C c_live + C c_ground < M) → Ok (f_X11_look_247 k239 c_side c_many c_one c_two c_kinds c_kindBits c_netOf c_state c_stuck c_dusty n x1 x2 c_joined c_live c_ground) Q
  | 0, x1, x2, c_live, c_ground, h1, h2, h3, h4 => by exfalso; omega
  | n + 1, x1, x2, c_live, c_ground, h1, h2, h3, h4 => by
    unfold f_X11_look_247
    have hM' := hM
    obtain ⟨hs, hσ, m0, m1, m2, m3, m4, hK, hO1, hO⟩ := hM'
    have eh := s_X11_here σ 4 c_side c_many hs hσ (by decide) (by decide)
    refine ok_eq eh ?_
    rw [show (4 : Int32).toInt.toNat = 4 from by decide]
    refine ok_if (fun a1 => hk _ _ _ h4) (fun a1 => ?_)
    simp only [tI_lt, tI_le, tI_eq, tI_add, tI_sub, tI_mul, tI_nat, Int32.reduceToInt, Int.reduceToNat, fe_0, fe_1, fe_2, fe_3, fe_4, fe_5] at a1
    refine ok_eq (s_endOf4 _ _) (ok_bind (s_X11_groupOf σ _ _ _ _ hs hσ hO hJ (by ((try simp only [tI_lt, tI_le, tI_eq, tI_add, tI_sub, tI_mul, tI_nat, Int32.reduceToInt, Int.reduceToNat, fe_0, fe_1, fe_2, fe_3, fe_4, fe_5]) <;> (try simp (disch := omega) only [tI_bm]) <;> omega)) (by ((try simp only [tI_lt, tI_le, tI_eq, tI_add, tI_sub, tI_mul, tI_nat, Int32.reduceToInt, Int.reduceToNat, fe_0, fe_1, fe_2, fe_3, fe_4, fe_5]) <;> (try simp (disch := omega) only [tI_bm]) <;> omega))) (fun r3 q3 => ok_eq (s_endOf4 _ _) (ok_bind (s_X11_groupOf σ _ _ _ _ hs hσ hO hJ (by ((try simp only [tI_lt, tI_le, tI_eq, tI_add, tI_sub, tI_mul, tI_nat, Int32.reduceToInt, Int.reduceToNat, fe_0, fe_1, fe_2, fe_3, fe_4, fe_5]) <;> (try simp (disch := omega) only [tI_bm]) <;> omega)) (by ((try simp only [tI_lt, tI_le, tI_eq, tI_add, tI_sub, tI_mul, tI_nat, Int32.reduceToInt, Int.reduceToNat, fe_0, fe_1, fe_2, fe_3, fe_4, fe_5]) <;> (try simp (disch := omega) only [tI_bm]) <;> omega))) (fun r5 q5 => ?_))))
    have b3 : 0 ≤ r3.toInt ∧ r3.toInt < (954 : Nat) := ⟨q3.1, q3.2.1⟩
    have b5 : 0 ≤ r5.toInt ∧ r5.toInt < (954 : Nat) := ⟨q5.1, q5.2.1⟩
    have go : ∀ y0 : Int32, (y0 = 0 ∧ x1 = 0) ∨ (y0 = 1 ∧ (x1 = 1 ∨ (¬ c_live r3.toInt.toNat = 0 ∧ c_live r5.toInt.toNat = 0) ∨ (¬ c_ground r5.toInt.toNat = 0 ∧ c_ground r3.toInt.toNat = 0))) → Ok (f_X11_look_328 k239 (f_X11_look_247 k239 c_side c_many c_one c_two c_kinds c_kindBits c_netOf c_state c_stuck c_dusty n) c_side c_many c_one c_two c_kinds c_kindBits c_netOf c_state c_stuck c_dusty x2 r3 r5 y0 c_joined c_live c_ground) Q := by
      intro y0 hy
      refine s_X11_look_328 _ _ _ _ _ _ _ _ _ _ _ _ _ _ _ _ _ _ _ C hC ⟨b3.1, b3.2⟩ ⟨b5.1, b5.2⟩ (fun l g hlg => ?_)
      refine s_X11_look_247 σ k239 c_side c_many c_one c_two c_kinds c_kindBits c_netOf c_state c_stuck c_dusty c_joined C hC hM hJ M hk n _ _ _ _ (by ((try simp only [tI_lt, tI_le, tI_eq, tI_add, tI_sub, tI_mul, tI_nat, Int32.reduceToInt, Int.reduceToNat, fe_0, fe_1, fe_2, fe_3, fe_4, fe_5]) <;> (try simp (disch := omega) only [tI_bm]) <;> omega)) (by ((try simp only [tI_lt, tI_le, tI_eq, tI_add, tI_sub, tI_mul, tI_nat, Int32.reduceToInt, Int.reduceToNat, fe_0, fe_1, fe_2, fe_3, fe_4, fe_5]) <;> (try simp (disch := omega) only [tI_bm]) <;> omega)) (by ((try simp only [tI_lt, tI_le, tI_eq, tI_add, tI_sub, tI_mul, tI_nat, Int32.reduceToInt, Int.reduceToNat, fe_0, fe_1, fe_2, fe_3, fe_4, fe_5]) <;> (try simp (disch := omega) only [tI_bm]) <;> omega)) ?_
      rcases hy with ⟨e, e1⟩ | ⟨e, e1⟩
      · left
        refine ⟨e, ?_⟩
        rcases h4 with h4 | h4
        · omega
        · rw [e1] at h4; exact absurd h4.1 (by decide)
      · right
        refine ⟨e, ?_⟩
        rcases e1 with e1 | e1
        · rcases h4 with h4 | h4
          · rw [e1] at h4; exact absurd h4.1 (by decide)
          · omega
        · rw [if_pos e1] at hlg
          rcases h4 with h4 | h4 <;> omega
    have go304 : x1 = 0 → Ok (f_X11_look_304 k239 (f_X11_look_247 k239 c_side c_many c_one c_two c_kinds c_kindBits c_netOf c_state c_stuck c_dusty n) c_side c_many c_one c_two c_kinds c_kindBits c_netOf c_state c_stuck c_dusty x2 r3 r5 c_joined c_live c_ground) Q := by
      intro e
      unfold f_X11_look_304 f_X11_look_327 f_X11_look_323
      exact ok_bad b5 (ok_if (fun c1 => go 0 (.inl ⟨rfl, e⟩)) (fun c1 => ok_bad b3 (ok_if (fun c2 => go 1 (.inr ⟨rfl, .inr (.inr ⟨c1, c2⟩)⟩)) (fun c2 => go 0 (.inl ⟨rfl, e⟩)))))
    unfold f_X11_look_323
    refine ok_if (fun e => ok_bad b3 (ok_if (fun c1 => go304 e) (fun c1 => ok_bad b5 (ok_if (fun c2 => ?_) (fun c2 => go304 e))))) (fun e => ?_)
    · exact go 1 (.inr ⟨rfl, .inr (.inl ⟨c1, c2⟩)⟩)
    · exact go 1 (.inr ⟨rfl, .inl (h4.elim (fun q => absurd q.1 e) (fun q => q.1))⟩)
set_option maxHeartbeats 400000 in
theorem s_X11_look_239 (σ : Nat) (c_side : Int32) (c_many : Nat → Int32) (c_one : Nat → Int32) (c_two : Nat → Int32) (c_kinds : Nat → Int32) (c_kindBits : Nat → Int32) (c_netOf : Nat → Int32) (c_state : Nat → Int32) (c_stuck : Nat → Int32) (c_dusty : Nat → Int32) (c_joined : Nat → Int32) (C : (Nat → Int32) → Nat) (hC : ∀ f, C f = cz f 954)  (hM : MI σ c_side c_many c_one c_kinds c_netOf) (hJ : JI c_joined) : ∀ (n : Nat) (x1 : Int32) (c_live : Nat → Int32) (c_ground : Nat → Int32), (x1 = 0 ∨ x1 = 1) → C c_live + C c_ground + 1 < n → 0 < n → Ok (f_X11_look_239 c_side c_many c_one c_two c_kinds c_kindBits c_netOf c_state c_stuck c_dusty n x1 c_joined c_live c_ground) (fun r => JI r.1)
  | 0, x1, c_live, c_ground, h1, h2, h3 => by exfalso; omega
  | n + 1, x1, c_live, c_ground, h1, h2, h3 => by
    unfold f_X11_look_239
    refine ok_if (fun _ => ok_some hJ) (fun a => ?_)
    refine s_X11_look_247 σ _ c_side c_many c_one c_two c_kinds c_kindBits c_netOf c_state c_stuck c_dusty c_joined C hC hM hJ (C c_live + C c_ground) ?_ FU 0 0 c_live c_ground (by decide) (by decide) (by rw [FU_eq]; decide) (.inl ⟨rfl, Nat.le_refl _⟩)
    intro x1' l g hh
    rcases hh with ⟨e, hh⟩ | ⟨e, hh⟩
    · subst e
      cases n with
      | zero => exfalso; omega
      | succ n => unfold f_X11_look_239; exact ok_if (fun _ => ok_some hJ) (fun a => absurd rfl a)
    · exact s_X11_look_239 σ c_side c_many c_one c_two c_kinds c_kindBits c_netOf c_state c_stuck c_dusty c_joined C hC hM hJ n x1' l g (.inr e) (by omega) (by omega)
set_option maxHeartbeats 400000 in
theorem s_X11_look_136 (σ : Nat) (c_side : Int32) (c_many : Nat → Int32) (c_one : Nat → Int32) (c_two : Nat → Int32) (c_kinds : Nat → Int32) (c_kindBits : Nat → Int32) (c_netOf : Nat → Int32) (c_state : Nat → Int32) (c_stuck : Nat → Int32) (c_dusty : Nat → Int32) (hM : MI σ c_side c_many c_one c_kinds c_netOf) : ∀ (n : Nat) (x1 : Int32) (c_joined : Nat → Int32) (c_live : Nat → Int32) (c_ground : Nat → Int32), 0 ≤ x1.toInt → x1.toInt ≤ 24 → 24 < x1.toInt + n → JI c_joined → Ok (f_X11_look_136 c_side c_many c_one c_two c_kinds c_kindBits c_netOf c_state c_stuck c_dusty n x1 c_joined c_live c_ground) (fun r => JI r.1)
  | 0, x1, c_joined, c_live, c_ground, h1, h2, h3, h4 => by exfalso; omega
  | n + 1, x1, c_joined, c_live, c_ground, h1, h2, h3, hJ => by
    unfold f_X11_look_136 f_X11_look_209
    have hM' := hM
    obtain ⟨hs, hσ, m0, m1, m2, m3, m4, hK, hO1, hO⟩ := hM'
    refine ok_eq (s_X11_here σ 3 c_side c_many hs hσ (by decide) (by decide)) ?_
    rw [show (3 : Int32).toInt.toNat = 3 from by decide]
    refine ok_if (fun a1 => ?_) (fun a1 => ?_)
    · refine ok_bind (s_X11_groupOf σ _ _ _ _ hs hσ hO hJ (by decide) (by decide)) (fun r2 q2 => ok_bad ⟨q2.1, q2.2.1⟩ (ok_vlet ?_))
      refine ok_bind (s_X11_groupOf σ _ _ _ _ hs hσ hO hJ (by decide) (by decide)) (fun r5 q5 => ok_bad ⟨q5.1, q5.2.1⟩ (ok_vlet ?_))
      refine s_X11_look_239 σ c_side c_many c_one c_two c_kinds c_kindBits c_netOf c_state c_stuck c_dusty c_joined (fun f => cz f 954) (fun _ => rfl) hM hJ FU _ _ _ (.inr rfl) ?_ (by rw [FU_eq]; omega)
      have z1 := cz_le (upd c_live r2.toNatClampNeg (vp_nar .boolean 1)) 954
      have z2 := cz_le (upd c_ground r5.toNatClampNeg (vp_nar .boolean 1)) 954
      rw [FU_eq]
      generalize cz (upd c_live r2.toNatClampNeg (vp_nar .boolean 1)) 954 = y1 at *
      generalize cz (upd c_ground r5.toNatClampNeg (vp_nar .boolean 1)) 954 = y2 at *
      omega
    · simp only [tI_lt, tI_le, tI_eq, tI_add, tI_sub, tI_mul, tI_nat, Int32.reduceToInt, Int.reduceToNat, fe_0, fe_1, fe_2, fe_3, fe_4, fe_5] at a1
      have e1 : (116 * c_side + 88 + x1).toInt = 116 * σ + 88 + x1.toInt := by ((try simp only [tI_lt, tI_le, tI_eq, tI_add, tI_sub, tI_mul, tI_nat, Int32.reduceToInt, Int.reduceToNat, fe_0, fe_1, fe_2, fe_3, fe_4, fe_5]) <;> (try simp (disch := omega) only [tI_bm]) <;> omega)
      have o := hO1 x1.toInt.toNat (by omega)
      have e2 : ((116 : Int) * σ + 88 + x1.toInt).toNat = 116 * σ + 88 + x1.toInt.toNat := by omega
      have hb : 0 ≤ (116 * c_side + 88 + x1).toInt ∧ (116 * c_side + 88 + x1).toInt < (232 : Nat) := by omega
      have hne : ¬ c_one (116 * c_side + 88 + x1).toNatClampNeg = 0 := by
        rw [tI_nat, e1, e2]
        intro q
        rw [q] at o
        exact absurd o (by decide)
      refine ok_bad (by decide) (ok_bad hb (ok_if (fun q => absurd q hne) (fun _ => ok_bad hb (ok_if (fun _ => ok_vlet ?_) (fun _ => ?_)))))
      · exact s_X11_look_136 σ c_side c_many c_one c_two c_kinds c_kindBits c_netOf c_state c_stuck c_dusty hM n _ _ _ _ (by ((try simp only [tI_lt, tI_le, tI_eq, tI_add, tI_sub, tI_mul, tI_nat, Int32.reduceToInt, Int.reduceToNat, fe_0, fe_1, fe_2, fe_3, fe_4, fe_5]) <;> (try simp (disch := omega) only [tI_bm]) <;> omega)) (by ((try simp only [tI_lt, tI_le, tI_eq, tI_add, tI_sub, tI_mul, tI_nat, Int32.reduceToInt, Int.reduceToNat, fe_0, fe_1, fe_2, fe_3, fe_4, fe_5]) <;> (try simp (disch := omega) only [tI_bm]) <;> omega)) (by ((try simp only [tI_lt, tI_le, tI_eq, tI_add, tI_sub, tI_mul, tI_nat, Int32.reduceToInt, Int.reduceToNat, fe_0, fe_1, fe_2, fe_3, fe_4, fe_5]) <;> (try simp (disch := omega) only [tI_bm]) <;> omega)) hJ
      · refine ok_eq (s_endOf3 _ _) (ok_eq (s_endOf3 _ _) (ok_bind (s_X11_both σ _ _ _ _ _ hs hσ hO hJ (by ((try simp only [tI_lt, tI_le, tI_eq, tI_add, tI_sub, tI_mul, tI_nat, Int32.reduceToInt, Int.reduceToNat, fe_0, fe_1, fe_2, fe_3, fe_4, fe_5]) <;> (try simp (disch := omega) only [tI_bm]) <;> omega)) (by ((try simp only [tI_lt, tI_le, tI_eq, tI_add, tI_sub, tI_mul, tI_nat, Int32.reduceToInt, Int.reduceToNat, fe_0, fe_1, fe_2, fe_3, fe_4, fe_5]) <;> (try simp (disch := omega) only [tI_bm]) <;> omega))) (fun r14 q14 => ok_vlet ?_)))
        exact s_X11_look_136 σ c_side c_many c_one c_two c_kinds c_kindBits c_netOf c_state c_stuck c_dusty hM n _ _ _ _ (by ((try simp only [tI_lt, tI_le, tI_eq, tI_add, tI_sub, tI_mul, tI_nat, Int32.reduceToInt, Int.reduceToNat, fe_0, fe_1, fe_2, fe_3, fe_4, fe_5]) <;> (try simp (disch := omega) only [tI_bm]) <;> omega)) (by ((try simp only [tI_lt, tI_le, tI_eq, tI_add, tI_sub, tI_mul, tI_nat, Int32.reduceToInt, Int.reduceToNat, fe_0, fe_1, fe_2, fe_3, fe_4, fe_5]) <;> (try simp (disch := omega) only [tI_bm]) <;> omega)) (by ((try simp only [tI_lt, tI_le, tI_eq, tI_add, tI_sub, tI_mul, tI_nat, Int32.reduceToInt, Int.reduceToNat, fe_0, fe_1, fe_2, fe_3, fe_4, fe_5]) <;> (try simp (disch := omega) only [tI_bm]) <;> omega)) q14
set_option maxHeartbeats 400000 in
theorem s_X11_look_87 (σ : Nat) (c_side : Int32) (c_many : Nat → Int32) (c_one : Nat → Int32) (c_two : Nat → Int32) (c_kinds : Nat → Int32) (c_kindBits : Nat → Int32) (c_netOf : Nat → Int32) (c_state : Nat → Int32) (c_stuck : Nat → Int32) (c_dusty : Nat → Int32) (hM : MI σ c_side c_many c_one c_kinds c_netOf) : ∀ (n : Nat) (x1 : Int32) (c_joined : Nat → Int32) (c_live : Nat → Int32) (c_ground : Nat → Int32), 0 ≤ x1.toInt → x1.toInt ≤ 24 → 24 < x1.toInt + n → JI c_joined → Ok (f_X11_look_87 c_side c_many c_one c_two c_kinds c_kindBits c_netOf c_state c_stuck c_dusty n x1 c_joined c_live c_ground) (fun r => JI r.1)
  | 0, x1, c_joined, c_live, c_ground, h1, h2, h3, h4 => by exfalso; omega
  | n + 1, x1, c_joined, c_live, c_ground, h1, h2, h3, hJ => by
    unfold f_X11_look_87 f_X11_look_128
    have hM' := hM
    obtain ⟨hs, hσ, m0, m1, m2, m3, m4, hK, hO1, hO⟩ := hM'
    refine ok_eq (s_X11_here σ 1 c_side c_many hs hσ (by decide) (by decide)) ?_
    rw [show (1 : Int32).toInt.toNat = 1 from by decide]
    refine ok_if (fun a1 => ?_) (fun a1 => ?_)
    · exact s_X11_look_136 σ c_side c_many c_one c_two c_kinds c_kindBits c_netOf c_state c_stuck c_dusty hM FU _ _ _ _ (by decide) (by decide) (by rw [FU_eq]; decide) hJ
    · simp only [tI_lt, tI_le, tI_eq, tI_add, tI_sub, tI_mul, tI_nat, Int32.reduceToInt, Int.reduceToNat, fe_0, fe_1, fe_2, fe_3, fe_4, fe_5] at a1
      refine ok_bad (by ((try simp only [tI_lt, tI_le, tI_eq, tI_add, tI_sub, tI_mul, tI_nat, Int32.reduceToInt, Int.reduceToNat, fe_0, fe_1, fe_2, fe_3, fe_4, fe_5]) <;> (try simp (disch := omega) only [tI_bm]) <;> omega)) (ok_if (fun _ => ?_) (fun _ => ok_vlet ?_))
      · refine ok_eq (s_endOf1 _ _) (ok_eq (s_endOf1 _ _) (ok_bind (s_X11_both σ _ _ _ _ _ hs hσ hO hJ (by ((try simp only [tI_lt, tI_le, tI_eq, tI_add, tI_sub, tI_mul, tI_nat, Int32.reduceToInt, Int.reduceToNat, fe_0, fe_1, fe_2, fe_3, fe_4, fe_5]) <;> (try simp (disch := omega) only [tI_bm]) <;> omega)) (by ((try simp only [tI_lt, tI_le, tI_eq, tI_add, tI_sub, tI_mul, tI_nat, Int32.reduceToInt, Int.reduceToNat, fe_0, fe_1, fe_2, fe_3, fe_4, fe_5]) <;> (try simp (disch := omega) only [tI_bm]) <;> omega))) (fun r14 q14 => ok_vlet ?_)))
        exact s_X11_look_87 σ c_side c_many c_one c_two c_kinds c_kindBits c_netOf c_state c_stuck c_dusty hM n _ _ _ _ (by ((try simp only [tI_lt, tI_le, tI_eq, tI_add, tI_sub, tI_mul, tI_nat, Int32.reduceToInt, Int.reduceToNat, fe_0, fe_1, fe_2, fe_3, fe_4, fe_5]) <;> (try simp (disch := omega) only [tI_bm]) <;> omega)) (by ((try simp only [tI_lt, tI_le, tI_eq, tI_add, tI_sub, tI_mul, tI_nat, Int32.reduceToInt, Int.reduceToNat, fe_0, fe_1, fe_2, fe_3, fe_4, fe_5]) <;> (try simp (disch := omega) only [tI_bm]) <;> omega)) (by ((try simp only [tI_lt, tI_le, tI_eq, tI_add, tI_sub, tI_mul, tI_nat, Int32.reduceToInt, Int.reduceToNat, fe_0, fe_1, fe_2, fe_3, fe_4, fe_5]) <;> (try simp (disch := omega) only [tI_bm]) <;> omega)) q14
      · exact s_X11_look_87 σ c_side c_many c_one c_two c_kinds c_kindBits c_netOf c_state c_stuck c_dusty hM n _ _ _ _ (by ((try simp only [tI_lt, tI_le, tI_eq, tI_add, tI_sub, tI_mul, tI_nat, Int32.reduceToInt, Int.reduceToNat, fe_0, fe_1, fe_2, fe_3, fe_4, fe_5]) <;> (try simp (disch := omega) only [tI_bm]) <;> omega)) (by ((try simp only [tI_lt, tI_le, tI_eq, tI_add, tI_sub, tI_mul, tI_nat, Int32.reduceToInt, Int.reduceToNat, fe_0, fe_1, fe_2, fe_3, fe_4, fe_5]) <;> (try simp (disch := omega) only [tI_bm]) <;> omega)) (by ((try simp only [tI_lt, tI_le, tI_eq, tI_add, tI_sub, tI_mul, tI_nat, Int32.reduceToInt, Int.reduceToNat, fe_0, fe_1, fe_2, fe_3, fe_4, fe_5]) <;> (try simp (disch := omega) only [tI_bm]) <;> omega)) hJ
set_option maxHeartbeats 400000 in
theorem s_X11_look_49 (σ : Nat) (k38 : Int32 → (Nat → Int32) → (Nat → Int32) → (Nat → Int32) → Option ((Nat → Int32) × (Nat → Int32) × (Nat → Int32))) (c_side : Int32) (c_many : Nat → Int32) (c_one : Nat → Int32) (c_two : Nat → Int32) (c_kinds : Nat → Int32) (c_kindBits : Nat → Int32) (c_netOf : Nat → Int32) (c_state : Nat → Int32) (c_stuck : Nat → Int32) (c_dusty : Nat → Int32) (hM : MI σ c_side c_many c_one c_kinds c_netOf) {Q} : ∀ (n : Nat) (x1 : Int32) (x2 : Int32) (c_joined : Nat → Int32) (c_live : Nat → Int32) (c_ground : Nat → Int32), 0 ≤ x1.toInt → x1.toInt < 40 → (∀ c_joined c_live c_ground, JI c_joined → Ok (k38 (x1 + 1) c_joined c_live c_ground) Q) → 0 ≤ x2.toInt → x2.toInt ≤ 6 → 24 < x2.toInt + n → JI c_joined → Ok (f_X11_look_49 k38 c_side c_many c_one c_two c_kinds c_kindBits c_netOf c_state c_stuck c_dusty n x1 x2 c_joined c_live c_ground) Q
  | 0, x1, x2, c_joined, c_live, c_ground, g1, g2, hk, h1, h2, h3, h4 => by exfalso; omega
  | n + 1, x1, x2, c_joined, c_live, c_ground, g1, g2, hk, h1, h2, h3, hJ => by
    unfold f_X11_look_49
    have hM' := hM
    obtain ⟨hs, hσ, m0, m1, m2, m3, m4, hK, hO1, hO⟩ := hM'
    have e1 : (116 * c_side + x1).toInt = 116 * σ + x1.toInt := by ((try simp only [tI_lt, tI_le, tI_eq, tI_add, tI_sub, tI_mul, tI_nat, Int32.reduceToInt, Int.reduceToNat, fe_0, fe_1, fe_2, fe_3, fe_4, fe_5]) <;> (try simp (disch := omega) only [tI_bm]) <;> omega)
    have k1 := hK (116 * c_side + x1).toNatClampNeg (by rw [tI_nat]; omega)
    refine ok_bad (by omega) (ok_if (fun a1 => ok_vlet (hk _ _ _ hJ)) (fun a1 => ?_))
    rw [tI_le] at a1
    refine ok_bind (s_X11_contact1 σ _ _ _ _ _ _ _ _ _ hs hσ hO hJ ⟨g1, g2⟩ ⟨h1, by omega⟩) (fun r3 q3 => ok_vlet ?_)
    exact s_X11_look_49 σ k38 c_side c_many c_one c_two c_kinds c_kindBits c_netOf c_state c_stuck c_dusty hM n _ _ _ _ _ g1 g2 hk (by ((try simp only [tI_lt, tI_le, tI_eq, tI_add, tI_sub, tI_mul, tI_nat, Int32.reduceToInt, Int.reduceToNat, fe_0, fe_1, fe_2, fe_3, fe_4, fe_5]) <;> (try simp (disch := omega) only [tI_bm]) <;> omega)) (by ((try simp only [tI_lt, tI_le, tI_eq, tI_add, tI_sub, tI_mul, tI_nat, Int32.reduceToInt, Int.reduceToNat, fe_0, fe_1, fe_2, fe_3, fe_4, fe_5]) <;> (try simp (disch := omega) only [tI_bm]) <;> omega)) (by ((try simp only [tI_lt, tI_le, tI_eq, tI_add, tI_sub, tI_mul, tI_nat, Int32.reduceToInt, Int.reduceToNat, fe_0, fe_1, fe_2, fe_3, fe_4, fe_5]) <;> (try simp (disch := omega) only [tI_bm]) <;> omega)) q3
set_option maxHeartbeats 400000 in
theorem s_X11_look_38 (σ : Nat) (c_side : Int32) (c_many : Nat → Int32) (c_one : Nat → Int32) (c_two : Nat → Int32) (c_kinds : Nat → Int32) (c_kindBits : Nat → Int32) (c_netOf : Nat → Int32) (c_state : Nat → Int32) (c_stuck : Nat → Int32) (c_dusty : Nat → Int32) (hM : MI σ c_side c_many c_one c_kinds c_netOf) : ∀ (n : Nat) (x1 : Int32) (c_joined : Nat → Int32) (c_live : Nat → Int32) (c_ground : Nat → Int32), 0 ≤ x1.toInt → x1.toInt ≤ 40 → 40 < x1.toInt + n → JI c_joined → Ok (f_X11_look_38 c_side c_many c_one c_two c_kinds c_kindBits c_netOf c_state c_stuck c_dusty n x1 c_joined c_live c_ground) (fun r => JI r.1)
  | 0, x1, c_joined, c_live, c_ground, h1, h2, h3, h4 => by exfalso; omega
  | n + 1, x1, c_joined, c_live, c_ground, h1, h2, h3, hJ => by
    unfold f_X11_look_38
    have hM' := hM
    obtain ⟨hs, hσ, m0, m1, m2, m3, m4, hK, hO1, hO⟩ := hM'
    refine ok_eq (s_X11_here σ 0 c_side c_many hs hσ (by decide) (by decide)) ?_
    rw [show (0 : Int32).toInt.toNat = 0 from by decide]
    refine ok_if (fun a1 => ?_) (fun a1 => ?_)
    · exact s_X11_look_87 σ c_side c_many c_one c_two c_kinds c_kindBits c_netOf c_state c_stuck c_dusty hM FU _ _ _ _ (by decide) (by decide) (by rw [FU_eq]; decide) hJ
    · simp only [tI_lt, tI_le, tI_eq, tI_add, tI_sub, tI_mul, tI_nat, Int32.reduceToInt, Int.reduceToNat, fe_0, fe_1, fe_2, fe_3, fe_4, fe_5] at a1
      refine s_X11_look_49 σ (f_X11_look_38 c_side c_many c_one c_two c_kinds c_kindBits c_netOf c_state c_stuck c_dusty n) c_side c_many c_one c_two c_kinds c_kindBits c_netOf c_state c_stuck c_dusty hM FU _ _ _ _ _ h1 (by omega) ?_ (by decide) (by decide) (by rw [FU_eq]; decide) hJ
      intro j l g hj
      exact s_X11_look_38 σ c_side c_many c_one c_two c_kinds c_kindBits c_netOf c_state c_stuck c_dusty hM n _ _ _ _ (by ((try simp only [tI_lt, tI_le, tI_eq, tI_add, tI_sub, tI_mul, tI_nat, Int32.reduceToInt, Int.reduceToNat, fe_0, fe_1, fe_2, fe_3, fe_4, fe_5]) <;> (try simp (disch := omega) only [tI_bm]) <;> omega)) (by ((try simp only [tI_lt, tI_le, tI_eq, tI_add, tI_sub, tI_mul, tI_nat, Int32.reduceToInt, Int.reduceToNat, fe_0, fe_1, fe_2, fe_3, fe_4, fe_5]) <;> (try simp (disch := omega) only [tI_bm]) <;> omega)) (by ((try simp only [tI_lt, tI_le, tI_eq, tI_add, tI_sub, tI_mul, tI_nat, Int32.reduceToInt, Int.reduceToNat, fe_0, fe_1, fe_2, fe_3, fe_4, fe_5]) <;> (try simp (disch := omega) only [tI_bm]) <;> omega)) hj
set_option maxHeartbeats 400000 in
theorem s_X11_look_2 (σ : Nat) (c_side : Int32) (c_many : Nat → Int32) (c_one : Nat → Int32) (c_two : Nat → Int32) (c_kinds : Nat → Int32) (c_kindBits : Nat → Int32) (c_netOf : Nat → Int32) (c_state : Nat → Int32) (c_stuck : Nat → Int32) (c_dusty : Nat → Int32) (hM : MI σ c_side c_many c_one c_kinds c_netOf) : ∀ (n : Nat) (x1 : Int32) (c_joined : Nat → Int32) (c_live : Nat → Int32) (c_ground : Nat → Int32), 0 ≤ x1.toInt → x1.toInt ≤ 954 → 954 < x1.toInt + n → (∀ e : Nat, (e : Int) < x1.toInt → 0 ≤ (c_joined e).toInt ∧ (c_joined e).toInt ≤ e) → Ok (f_X11_look_2 c_side c_many c_one c_two c_kinds c_kindBits c_netOf c_state c_stuck c_dusty n x1 c_joined c_live c_ground) (fun r => JI r.1)
  | 0, x1, c_joined, c_live, c_ground, h1, h2, h3, h4 => by exfalso; omega
  | n + 1, x1, c_joined, c_live, c_ground, h1, h2, h3, h4 => by
    unfold f_X11_look_2
    refine ok_if (fun a1 => ?_) (fun a1 => ?_)
    · exact s_X11_look_38 σ c_side c_many c_one c_two c_kinds c_kindBits c_netOf c_state c_stuck c_dusty hM FU _ _ _ _ (by decide) (by decide) (by rw [FU_eq]; decide) (fun e he => h4 e (by ((try simp only [tI_lt, tI_le, tI_eq, tI_add, tI_sub, tI_mul, tI_nat, Int32.reduceToInt, Int.reduceToNat, fe_0, fe_1, fe_2, fe_3, fe_4, fe_5] at *) <;> (try simp (disch := omega) only [tI_bm]) <;> (first | omega | ((try simp (disch := omega) only [tI_bm] at *) <;> omega)))))
    · simp only [tI_lt, tI_le, tI_eq, tI_add, tI_sub, tI_mul, tI_nat, Int32.reduceToInt, Int.reduceToNat, fe_0, fe_1, fe_2, fe_3, fe_4, fe_5] at a1
      have hb : 0 ≤ x1.toInt ∧ x1.toInt < (954 : Nat) := by omega
      refine ok_bad hb (ok_vlet (ok_bad hb (ok_vlet (ok_bad hb (ok_vlet (ok_vlet ?_))))))
      refine s_X11_look_2 σ c_side c_many c_one c_two c_kinds c_kindBits c_netOf c_state c_stuck c_dusty hM n _ _ _ _ (by ((try simp only [tI_lt, tI_le, tI_eq, tI_add, tI_sub, tI_mul, tI_nat, Int32.reduceToInt, Int.reduceToNat, fe_0, fe_1, fe_2, fe_3, fe_4, fe_5]) <;> (try simp (disch := omega) only [tI_bm]) <;> omega)) (by ((try simp only [tI_lt, tI_le, tI_eq, tI_add, tI_sub, tI_mul, tI_nat, Int32.reduceToInt, Int.reduceToNat, fe_0, fe_1, fe_2, fe_3, fe_4, fe_5]) <;> (try simp (disch := omega) only [tI_bm]) <;> omega)) (by ((try simp only [tI_lt, tI_le, tI_eq, tI_add, tI_sub, tI_mul, tI_nat, Int32.reduceToInt, Int.reduceToNat, fe_0, fe_1, fe_2, fe_3, fe_4, fe_5]) <;> (try simp (disch := omega) only [tI_bm]) <;> omega)) (fun e he => ?_)
      have e1 : (x1 + 1).toInt = x1.toInt + 1 := by ((try simp only [tI_lt, tI_le, tI_eq, tI_add, tI_sub, tI_mul, tI_nat, Int32.reduceToInt, Int.reduceToNat, fe_0, fe_1, fe_2, fe_3, fe_4, fe_5]) <;> (try simp (disch := omega) only [tI_bm]) <;> omega)
      have := h4 e
      simp only [upd_at, tI_nat]
      split <;> omega
set_option maxHeartbeats 400000 in
theorem s_X11_look (σ : Nat) (c_side : Int32) (c_many : Nat → Int32) (c_one : Nat → Int32) (c_two : Nat → Int32) (c_kinds : Nat → Int32) (c_kindBits : Nat → Int32) (c_netOf : Nat → Int32) (c_state : Nat → Int32) (c_stuck : Nat → Int32) (c_dusty : Nat → Int32) (c_joined : Nat → Int32) (c_live : Nat → Int32) (c_ground : Nat → Int32) (hM : MI σ c_side c_many c_one c_kinds c_netOf) : Ok (f_X11_look c_side c_many c_one c_two c_kinds c_kindBits c_netOf c_state c_stuck c_dusty c_joined c_live c_ground) (fun r => JI r.1) := by
  unfold f_X11_look
  exact s_X11_look_2 σ c_side c_many c_one c_two c_kinds c_kindBits c_netOf c_state c_stuck c_dusty hM FU _ _ _ _ (by decide) (by decide) (by rw [FU_eq]; decide) (fun e he => by rw [show (0 : Int32).toInt = 0 from by decide] at he; omega)
set_option maxHeartbeats 400000 in
theorem s_X11_isOnlyLive (σ : Nat) (x1 : Int32) (c_side : Int32) (c_netOf : Nat → Int32) (c_joined : Nat → Int32) (c_live : Nat → Int32) (c_ground : Nat → Int32) (hs : c_side.toInt = (σ : Int)) (h1 : σ ≤ 1) (hO : ∀ e : Nat, e < 954 → 0 ≤ (c_netOf (954 * σ + e)).toInt ∧ (c_netOf (954 * σ + e)).toInt < 954) (hJ : JI c_joined) (hx : 0 ≤ x1.toInt) (hx2 : x1.toInt < 954) : Ok (f_X11_isOnlyLive x1 c_side c_netOf c_joined c_live c_ground) (fun r => r = 0 ∨ r = 1) := by
  unfold f_X11_isOnlyLive
  refine ok_bind (s_X11_groupOf σ _ _ _ _ hs h1 hO hJ hx hx2) (fun r1 q1 => ok_bad ⟨q1.1, q1.2.1⟩ (ok_if (fun _ => ok_some (.inl rfl)) (fun _ => ?_)))
  exact ok_bind (s_X11_groupOf σ _ _ _ _ hs h1 hO hJ hx hx2) (fun r1 q1 => ok_bad ⟨q1.1, q1.2.1⟩ (ok_if (fun _ => ok_some (.inr rfl)) (fun _ => ok_some (.inl rfl))))
set_option maxHeartbeats 400000 in
theorem s_X11_isOnlyGround (σ : Nat) (x1 : Int32) (c_side : Int32) (c_netOf : Nat → Int32) (c_joined : Nat → Int32) (c_live : Nat → Int32) (c_ground : Nat → Int32) (hs : c_side.toInt = (σ : Int)) (h1 : σ ≤ 1) (hO : ∀ e : Nat, e < 954 → 0 ≤ (c_netOf (954 * σ + e)).toInt ∧ (c_netOf (954 * σ + e)).toInt < 954) (hJ : JI c_joined) (hx : 0 ≤ x1.toInt) (hx2 : x1.toInt < 954) : Ok (f_X11_isOnlyGround x1 c_side c_netOf c_joined c_live c_ground) (fun r => r = 0 ∨ r = 1) := by
  unfold f_X11_isOnlyGround
  refine ok_bind (s_X11_groupOf σ _ _ _ _ hs h1 hO hJ hx hx2) (fun r1 q1 => ok_bad ⟨q1.1, q1.2.1⟩ (ok_if (fun _ => ok_some (.inl rfl)) (fun _ => ?_)))
  exact ok_bind (s_X11_groupOf σ _ _ _ _ hs h1 hO hJ hx hx2) (fun r1 q1 => ok_bad ⟨q1.1, q1.2.1⟩ (ok_if (fun _ => ok_some (.inr rfl)) (fun _ => ok_some (.inl rfl))))
set_option maxHeartbeats 400000 in
theorem s_X11_isOn (σ : Nat) (x1 : Int32) (x2 : Int32) (c_side : Int32) (c_netOf : Nat → Int32) (c_joined : Nat → Int32) (c_live : Nat → Int32) (c_ground : Nat → Int32) (hs : c_side.toInt = (σ : Int)) (h1 : σ ≤ 1) (hO : ∀ e : Nat, e < 954 → 0 ≤ (c_netOf (954 * σ + e)).toInt ∧ (c_netOf (954 * σ + e)).toInt < 954) (hJ : JI c_joined) (hx : 0 ≤ x1.toInt) (hx2 : x1.toInt < 954) (hy : 0 ≤ x2.toInt) (hy2 : x2.toInt < 954) : Ok (f_X11_isOn x1 x2 c_side c_netOf c_joined c_live c_ground) (fun r => r = 0 ∨ r = 1) := by
  unfold f_X11_isOn
  have go : Ok (f_X11_isOn_16 c_side c_netOf c_joined c_live c_ground x1 x2) (fun r => r = 0 ∨ r = 1) := by
    unfold f_X11_isOn_16 f_X11_isOn_32
    exact ok_bind (s_X11_isOnlyGround σ _ _ _ _ _ _ hs h1 hO hJ hx hx2) (fun _ _ => ok_if (fun _ => ok_some (.inl rfl)) (fun _ => ok_bind (s_X11_isOnlyLive σ _ _ _ _ _ _ hs h1 hO hJ hy hy2) (fun _ _ => ok_if (fun _ => ok_some (.inl rfl)) (fun _ => ok_some (.inr rfl)))))
  unfold f_X11_isOn_32
  exact ok_bind (s_X11_isOnlyLive σ _ _ _ _ _ _ hs h1 hO hJ hx hx2) (fun _ _ => ok_if (fun _ => go) (fun _ => ok_bind (s_X11_isOnlyGround σ _ _ _ _ _ _ hs h1 hO hJ hy hy2) (fun _ _ => ok_if (fun _ => go) (fun _ => ok_some (.inr rfl)))))
