/-! a TICK on the reference's side -/
def mB (state : Nat → Int32) (r : Nat) : Bool := decide (state r = 1)
def b2 (b : Bool) : Int32 := if b = true then 1 else 0
set_option maxHeartbeats 400000 in
theorem b2_1 (b : Bool) : b2 b = 1 ↔ b = true := by cases b <;> decide
/-! what stands behind the coils, as far as k -/
def SMC (E g w : Nat → Bool) (tp td s0 : Nat → Int32) (k : Nat) (s : Nat → Int32) : Prop := (∀ i, i < 40 → s i = if i < k then b2 (stp (g i) (w i) (E i) (mB s0 i) (s0 (40 + i)) (tp i) (td i)).1 else s0 i) ∧ (∀ i, i < 40 → s (40 + i) = if i < k then (stp (g i) (w i) (E i) (mB s0 i) (s0 (40 + i)) (tp i) (td i)).2 else s0 (40 + i)) ∧ ∀ i, 80 ≤ i → s i = s0 i
set_option maxHeartbeats 400000 in
theorem m_coil {σ : Nat} (x1 : Int32) (c_side : Int32) (c_one : Nat → Int32) (c_two : Nat → Int32) (c_netOf : Nat → Int32) (c_state : Nat → Int32) (c_joined : Nat → Int32) (c_live : Nat → Int32) (c_ground : Nat → Int32) (c_part : Nat → Int32) (hs : c_side.toInt = (σ : Int)) (hσ : σ ≤ 1) (hO : ∀ e : Nat, e < 954 → 0 ≤ (c_netOf (954 * σ + e)).toInt ∧ (c_netOf (954 * σ + e)).toInt < 954) {LV GD : Nat → Prop} (hJ : JI c_joined) (hL : ∀ e, e < 954 → (¬ c_live (rt (jn c_joined) (nuM σ c_netOf e)) = 0 ↔ LV e)) (hG : ∀ e, e < 954 → (¬ c_ground (rt (jn c_joined) (nuM σ c_netOf e)) = 0 ↔ GD e)) (r : Nat) (E g w : Bool) (h1 : x1.toInt = r) (hr : r < 40) (hE : E = true ↔ ENG LV GD (2 + 20 * r) (2 + 20 * r + 1)) (hw : c_part r = 1 ↔ w = true) (hg : c_part r = 2 ↔ g = true) (h01 : c_state r = 0 ∨ c_state r = 1) (ht : 1 ≤ (c_one (116 * σ + r)).toInt ∧ 1 ≤ (c_two (116 * σ + r)).toInt) : Pc (f_X11_coil x1 c_side c_one c_two c_netOf c_state c_joined c_live c_ground c_part) (fun q => q r = b2 (stp g w E (mB c_state r) (c_state (40 + r)) (c_one (116 * σ + r)) (c_two (116 * σ + r))).1 ∧ q (40 + r) = (stp g w E (mB c_state r) (c_state (40 + r)) (c_one (116 * σ + r)) (c_two (116 * σ + r))).2 ∧ ∀ i, i ≠ r → i ≠ 40 + r → q i = c_state i) := by
  have er : x1.toNatClampNeg = r := by rw [tI_nat]; omega
  have e0 : (0 + x1).toNatClampNeg = r := by
    have : (0 + x1).toInt = x1.toInt := by ((try simp only [tI_lt, tI_le, tI_eq, tI_add, tI_sub, tI_mul, tI_nat, Int32.reduceToInt, Int.reduceToNat, fe_0, fe_1, fe_2, fe_3, fe_4, fe_5]) <;> (try simp (disch := omega) only [tI_bm]) <;> omega)
    rw [tI_nat, this]; omega
  have e40 : (40 + x1).toNatClampNeg = 40 + r := by
    have : (40 + x1).toInt = 40 + x1.toInt := by ((try simp only [tI_lt, tI_le, tI_eq, tI_add, tI_sub, tI_mul, tI_nat, Int32.reduceToInt, Int.reduceToNat, fe_0, fe_1, fe_2, fe_3, fe_4, fe_5]) <;> (try simp (disch := omega) only [tI_bm]) <;> omega)
    rw [tI_nat, this]; omega
  have eb : (116 * c_side + x1).toNatClampNeg = 116 * σ + r := by
    have : (116 * c_side + x1).toInt = 116 * σ + r := by ((try simp only [tI_lt, tI_le, tI_eq, tI_add, tI_sub, tI_mul, tI_nat, Int32.reduceToInt, Int.reduceToNat, fe_0, fe_1, fe_2, fe_3, fe_4, fe_5]) <;> (try simp (disch := omega) only [tI_bm]) <;> omega)
    rw [tI_nat, this]; omega
  have pB : c_state r = b2 (mB c_state r) := by
    unfold mB
    rcases h01 with q | q <;> rw [q] <;> decide
  unfold f_X11_coil
  refine pc_bad (fun _ => ?_)
  rw [er]
  by_cases wt : w = true
  · rw [if_pos (hw.mpr wt)]
    have gf : ¬ g = true := fun q => by
      have a := hg.mpr q
      rw [hw.mpr wt] at a; exact absurd a (by decide)
    have es : stp g w E (mB c_state r) (c_state (40 + r)) (c_one (116 * σ + r)) (c_two (116 * σ + r)) = (mB c_state r, c_state (40 + r)) := by
      unfold stp
      rw [if_neg gf, if_pos wt]
    rw [es]
    exact pc_some ⟨pB, rfl, fun _ _ _ => rfl⟩
  rw [if_neg (fun q => wt (hw.mp q))]
  -- the last step
  have last : ∀ (x2 x5 y2 : Int32) (p2 : Bool) (c2 : Int32), x2 = b2 (mB c_state r) → y2 = c2 → (x5 = 0 ∧ p2 = mB c_state r ∨ ¬ x5 = 0 ∧ p2 = !mB c_state r) → stp g w E (mB c_state r) (c_state (40 + r)) (c_one (116 * σ + r)) (c_two (116 * σ + r)) = (p2, c2) → Pc (f_X11_coil_144 c_side c_one c_two c_netOf c_joined c_live c_ground c_part x1 x2 x5 (40 + x1) y2 c_state) (fun q => q r = b2 (stp g w E (mB c_state r) (c_state (40 + r)) (c_one (116 * σ + r)) (c_two (116 * σ + r))).1 ∧ q (40 + r) = (stp g w E (mB c_state r) (c_state (40 + r)) (c_one (116 * σ + r)) (c_two (116 * σ + r))).2 ∧ ∀ i, i ≠ r → i ≠ 40 + r → q i = c_state i) := by
    intro x2 x5 y2 p2 c2 hx2 hy hx5 es
    rw [es, hx2, hy]
    unfold f_X11_coil_144
    refine pc_bad (fun _ => pc_vlet ?_)
    rw [e40]
    have base : ∀ v : Int32, v = b2 p2 → (upd (upd c_state (40 + r) c2) r v r = b2 p2 ∧ upd (upd c_state (40 + r) c2) r v (40 + r) = c2 ∧ ∀ i, i ≠ r → i ≠ 40 + r → upd (upd c_state (40 + r) c2) r v i = c_state i) := fun v hv => ⟨by rw [upd_at, if_pos rfl]; exact hv, by rw [upd_at, if_neg (by omega), upd_at, if_pos rfl], fun i i1 i2 => by rw [upd_at, if_neg i1, upd_at, if_neg i2]⟩
    refine pc_if (fun z => pc_some ?_) (fun z => pc_if (fun y => pc_bad (fun _ => pc_vlet (pc_some ?_))) (fun y => pc_bad (fun _ => pc_vlet (pc_some ?_))))
    · have p2e : p2 = mB c_state r := by
        rcases hx5 with ⟨-, q⟩ | ⟨q, -⟩
        · exact q
        · exact absurd z q
      refine ⟨?_, ?_, fun i i1 i2 => ?_⟩
      · show upd c_state (40 + r) c2 r = b2 p2
        rw [upd_at, if_neg (by omega), p2e]; exact pB
      · show upd c_state (40 + r) c2 (40 + r) = c2
        rw [upd_at, if_pos rfl]
      · show upd c_state (40 + r) c2 i = c_state i
        rw [upd_at, if_neg i2]
    · have p2e : p2 = !mB c_state r := by
        rcases hx5 with ⟨q, -⟩ | ⟨-, q⟩
        · exact absurd q z
        · exact q
      rw [e0]
      refine base 1 ?_
      rw [p2e]
      revert y
      cases mB c_state r <;> decide
    · have p2e : p2 = !mB c_state r := by
        rcases hx5 with ⟨q, -⟩ | ⟨-, q⟩
        · exact absurd q z
        · exact q
      rw [e0]
      refine base 0 ?_
      rw [p2e]
      revert y
      cases mB c_state r <;> decide
  have t118 : ∀ (x2 x4 : Int32), x2 = b2 (mB c_state r) → stp g w E (mB c_state r) (c_state (40 + r)) (c_one (116 * σ + r)) (c_two (116 * σ + r)) = (!mB c_state r, 0) → Pc (f_X11_coil_118 c_side c_one c_two c_netOf c_joined c_live c_ground c_part x1 x2 x4 c_state) (fun q => q r = b2 (stp g w E (mB c_state r) (c_state (40 + r)) (c_one (116 * σ + r)) (c_two (116 * σ + r))).1 ∧ q (40 + r) = (stp g w E (mB c_state r) (c_state (40 + r)) (c_one (116 * σ + r)) (c_two (116 * σ + r))).2 ∧ ∀ i, i ≠ r → i ≠ 40 + r → q i = c_state i) := by
    intro x2 x4 hx2 es
    unfold f_X11_coil_118 f_X11_coil_123
    rw [if_neg (by decide)]
    exact last x2 1 0 _ _ hx2 rfl (.inr ⟨by decide, rfl⟩) es
  -- behind the counting
  have t66 : ∀ (x2 y0 : Int32), x2 = b2 (mB c_state r) → ((E = mB c_state r ∧ y0 = 0) ∨ (¬ E = mB c_state r ∧ y0 = c_state (40 + r) + 1)) → Pc (f_X11_coil_66 c_side c_one c_two c_netOf c_joined c_live c_ground c_part x1 x2 y0 c_state) (fun q => q r = b2 (stp g w E (mB c_state r) (c_state (40 + r)) (c_one (116 * σ + r)) (c_two (116 * σ + r))).1 ∧ q (40 + r) = (stp g w E (mB c_state r) (c_state (40 + r)) (c_one (116 * σ + r)) (c_two (116 * σ + r))).2 ∧ ∀ i, i ≠ r → i ≠ 40 + r → q i = c_state i) := by
    intro x2 y0 hx2 hy
    unfold f_X11_coil_66
    refine pc_bad (fun _ => ?_)
    rw [er]
    by_cases gt : g = true
    · rw [if_pos (hg.mpr gt)]
      refine t118 _ _ hx2 ?_
      unfold stp
      rw [if_pos gt]
    · rw [if_neg (fun q => gt (hg.mp q))]
      have es : stp g w E (mB c_state r) (c_state (40 + r)) (c_one (116 * σ + r)) (c_two (116 * σ + r)) = if E = mB c_state r then (mB c_state r, 0) else if c_state (40 + r) + 1 = (if mB c_state r = true then c_two (116 * σ + r) else c_one (116 * σ + r)) then (!mB c_state r, 0) else (mB c_state r, c_state (40 + r) + 1) := by
        unfold stp
        rw [if_neg gt, if_neg wt]
      have t115 : ∀ y1 : Int32, y1 = (if mB c_state r = true then c_two (116 * σ + r) else c_one (116 * σ + r)) → Pc (f_X11_coil_115 c_side c_one c_two c_netOf c_joined c_live c_ground c_part x1 x2 y0 y0 y1 c_state) (fun q => q r = b2 (stp g w E (mB c_state r) (c_state (40 + r)) (c_one (116 * σ + r)) (c_two (116 * σ + r))).1 ∧ q (40 + r) = (stp g w E (mB c_state r) (c_state (40 + r)) (c_one (116 * σ + r)) (c_two (116 * σ + r))).2 ∧ ∀ i, i ≠ r → i ≠ 40 + r → q i = c_state i) := by
        intro y1 hy1
        unfold f_X11_coil_115
        have y1p : 1 ≤ y1.toInt := by
          rw [hy1]; split
          · exact ht.2
          · exact ht.1
        refine pc_if (fun z => ?_) (fun z => ?_)
        · rcases hy with ⟨q1, q2⟩ | ⟨q1, q2⟩
          · rw [← z, q2, l_0] at y1p; omega
          · refine t118 _ _ hx2 ?_
            rw [es, if_neg q1, if_pos (by rw [← hy1, ← z, q2])]
        · unfold f_X11_coil_123
          rw [if_pos rfl]
          rcases hy with ⟨q1, q2⟩ | ⟨q1, q2⟩
          · exact last x2 0 y0 (mB c_state r) 0 hx2 q2 (.inl ⟨rfl, rfl⟩) (by rw [es, if_pos q1])
          · exact last x2 0 y0 (mB c_state r) (c_state (40 + r) + 1) hx2 q2 (.inl ⟨rfl, rfl⟩) (by rw [es, if_neg q1, if_neg (by rw [← hy1, ← q2]; exact z)])
      refine pc_if (fun z => pc_bad (fun _ => ?_)) (fun z => pc_bad (fun _ => ?_))
      · rw [eb]
        refine t115 _ ?_
        rw [if_neg (fun q => by rw [hx2, q] at z; exact absurd z (by decide))]
      · rw [eb]
        refine t115 _ ?_
        rw [if_pos]
        cases v : mB c_state r with
        | true => rfl
        | false => rw [hx2, v] at z; exact absurd rfl z
  have t28 : ∀ y0 : Int32, y0 = b2 (mB c_state r) → Pc (f_X11_coil_28 c_side c_one c_two c_netOf c_joined c_live c_ground c_part x1 y0 c_state) (fun q => q r = b2 (stp g w E (mB c_state r) (c_state (40 + r)) (c_one (116 * σ + r)) (c_two (116 * σ + r))).1 ∧ q (40 + r) = (stp g w E (mB c_state r) (c_state (40 + r)) (c_one (116 * σ + r)) (c_two (116 * σ + r))).2 ∧ ∀ i, i ≠ r → i ≠ 40 + r → q i = c_state i) := by
    intro y0 hy
    unfold f_X11_coil_28
    have a1 : (2 + 20 * x1).toInt = ((2 + 20 * r : Nat) : Int) := by ((try simp only [tI_lt, tI_le, tI_eq, tI_add, tI_sub, tI_mul, tI_nat, Int32.reduceToInt, Int.reduceToNat, fe_0, fe_1, fe_2, fe_3, fe_4, fe_5]) <;> (try simp (disch := omega) only [tI_bm]) <;> omega)
    have a2 : (3 + 20 * x1).toInt = ((2 + 20 * r + 1 : Nat) : Int) := by ((try simp only [tI_lt, tI_le, tI_eq, tI_add, tI_sub, tI_mul, tI_nat, Int32.reduceToInt, Int.reduceToNat, fe_0, fe_1, fe_2, fe_3, fe_4, fe_5]) <;> (try simp (disch := omega) only [tI_bm]) <;> omega)
    refine pc_bind (m_isOn (x1 := 2 + 20 * x1) (x2 := 3 + 20 * x1) (c_side := c_side) (c_netOf := c_netOf) (c_joined := c_joined) (c_live := c_live) (c_ground := c_ground) hs hσ hO hJ (2 + 20 * r) (2 + 20 * r + 1) a1 a2 (by omega) (by omega) hL hG) (fun r1 q1 => ?_)
    rw [← hE] at q1
    have e1 : r1 = b2 E := by
      rcases q1 with ⟨q, t⟩ | ⟨q, t⟩
      · rw [q, t]; rfl
      · rw [q, eq_false_of_ne_true t]; rfl
    have ei : r1 = y0 ↔ E = mB c_state r := by
      rw [e1, hy]
      cases E <;> cases mB c_state r <;> decide
    refine pc_if (fun z => t66 _ _ hy (.inl ⟨ei.mp z, rfl⟩)) (fun z => pc_bad (fun _ => t66 _ _ hy (.inr ⟨fun q => z (ei.mpr q), ?_⟩)))
    rw [e40]
  refine pc_bad (fun _ => ?_)
  rw [e0]
  refine pc_if (fun z => t28 1 ?_) (fun z => t28 0 ?_)
  · unfold mB; rw [z]; decide
  · have : c_state r = 0 := h01.resolve_right z
    unfold mB; rw [this]; decide
