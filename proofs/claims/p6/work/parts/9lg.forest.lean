/-! the class's nets: the forest of joined ends -/
def rtF (j : Nat → Nat) (k x : Nat) : Nat := if h : k = 0 then x else if j x = x then x else rtF j (k - 1) (j x)
termination_by k
set_option maxHeartbeats 400000 in
theorem rtF_s (j : Nat → Nat) (k x : Nat) : rtF j (k + 1) x = if j x = x then x else rtF j k (j x) := by
  rw [rtF, dif_neg (Nat.succ_ne_zero k)]
  rfl
set_option maxHeartbeats 400000 in
theorem rtF_0 (j : Nat → Nat) (x : Nat) : rtF j 0 x = x := by rw [rtF, dif_pos rfl]
def rho (j : Nat → Nat) (x : Nat) : Nat := rtF j 954 x
def cnr (j : Nat → Nat) (k : Nat) : Nat := if h : k = 0 then 0 else cnr j (k - 1) + (if j (k - 1) = k - 1 then 0 else 1)
termination_by k
set_option maxHeartbeats 400000 in
theorem cnr_z (j : Nat → Nat) : cnr j 0 = 0 := by rw [cnr, dif_pos rfl]
set_option maxHeartbeats 400000 in
theorem cnr_s (j : Nat → Nat) (k : Nat) : cnr j (k + 1) = cnr j k + (if j k = k then 0 else 1) := by
  rw [cnr, dif_neg (Nat.succ_ne_zero k)]
  rfl
set_option maxHeartbeats 400000 in
theorem cnr_le (j : Nat → Nat) : ∀ k, cnr j k ≤ k
  | 0 => by rw [cnr_z]; exact Nat.le_refl _
  | k + 1 => by
    have := cnr_le j k
    rw [cnr_s]
    split <;> omega
set_option maxHeartbeats 400000 in
theorem cnr_lt (j : Nat → Nat) (e : Nat) (h : j e = e) : ∀ k, e < k → cnr j k < k
  | 0, hk => absurd hk (Nat.not_lt_zero _)
  | k + 1, hk => by
    rw [cnr_s]
    by_cases z : e = k
    · subst z
      rw [if_pos h]
      have := cnr_le j e
      omega
    · have := cnr_lt j e h k (by omega)
      split <;> omega
set_option maxHeartbeats 400000 in
theorem cnr_up (j : Nat → Nat) (a b : Nat) (h : j a = a) (hb : b ≠ a) : ∀ k, cnr (fun x => if x = a then b else j x) k = cnr j k + (if a < k then 1 else 0)
  | 0 => by rw [cnr_z, cnr_z]; rfl
  | k + 1 => by
    rw [cnr_s, cnr_s]
    show cnr (fun x => if x = a then b else j x) k + (if (if k = a then b else j k) = k then 0 else 1) = cnr j k + (if j k = k then 0 else 1) + (if a < k + 1 then 1 else 0)
    rw [cnr_up j a b h hb k]
    by_cases z : k = a
    · subst z
      rw [if_pos rfl, if_neg hb, if_pos h, if_neg (by omega), if_pos (by omega)]
    · rw [if_neg z]
      by_cases y : a < k
      · rw [if_pos y, if_pos (show a < k + 1 by omega)]; omega
      · rw [if_neg y, if_neg (show ¬ a < k + 1 by omega)]; omega
set_option maxHeartbeats 400000 in
theorem cnr_cg (j1 j2 : Nat → Nat) (h : ∀ x, x < 954 → (j2 x = x ↔ j1 x = x)) : ∀ k, k ≤ 954 → cnr j2 k = cnr j1 k
  | 0, _ => by rw [cnr_z, cnr_z]
  | k + 1, hk => by
    rw [cnr_s, cnr_s]
    rw [cnr_cg j1 j2 h k (by omega)]
    by_cases z : j1 k = k
    · rw [if_pos z, if_pos ((h k (by omega)).mpr z)]
    · rw [if_neg z, if_neg (fun w => z ((h k (by omega)).mp w))]
def RK (j h : Nat → Nat) : Prop := cnr j 954 ≤ 953 ∧ ∀ x, x < 954 → j x < 954 ∧ (j x ≠ x → h (j x) < h x) ∧ (j x = x → h x = 0) ∧ h x ≤ cnr j 954
set_option maxHeartbeats 400000 in
theorem rtF_st {j h : Nat → Nat} (H : RK j h) : ∀ k x, x < 954 → h x ≤ k → rtF j (k + 1) x = rtF j k x
  | 0, x, hx, hk => by
    obtain ⟨a, b, c, d⟩ := H.2 x hx
    have e : j x = x := Classical.byContradiction (fun w => by have := b w; omega)
    rw [rtF_s, if_pos e, rtF_0]
  | k + 1, x, hx, hk => by
    obtain ⟨a, b, c, d⟩ := H.2 x hx
    rw [rtF_s j (k + 1) x, rtF_s j k x]
    by_cases e : j x = x
    · rw [if_pos e, if_pos e]
    · rw [if_neg e, if_neg e]
      have := b e
      exact rtF_st H k (j x) a (by omega)
set_option maxHeartbeats 400000 in
theorem rho_n {j : Nat → Nat} {x : Nat} (e : j x = x) : rho j x = x := by
  unfold rho
  rw [rtF_s]
  rw [if_pos e]
set_option maxHeartbeats 400000 in
theorem rho_s {j h : Nat → Nat} (H : RK j h) {x : Nat} (hx : x < 954) (e : j x ≠ x) : rho j x = rho j (j x) := by
  obtain ⟨a, b, c, d⟩ := H.2 x hx
  have := b e
  have h1 := H.1
  unfold rho
  rw [rtF_s j 953 x]
  rw [if_neg e, rtF_st H 953 (j x) a (by omega)]
set_option maxHeartbeats 400000 in
theorem rho_ind {j h : Nat → Nat} (H : RK j h) (P : Nat → Prop) (h1 : ∀ x, x < 954 → j x = x → P x) (h2 : ∀ x, x < 954 → j x ≠ x → P (j x) → P x) : ∀ x, x < 954 → P x := by
  have go : ∀ n x, x < 954 → h x < n → P x := by
    intro n
    induction n with
    | zero => intro x _ hn; exact absurd hn (Nat.not_lt_zero _)
    | succ n ih =>
      intro x hx hn
      obtain ⟨a, b, c, d⟩ := H.2 x hx
      by_cases e : j x = x
      · exact h1 x hx e
      · have := b e
        exact h2 x hx e (ih (j x) a (by omega))
  exact fun x hx => go (h x + 1) x hx (Nat.lt_succ_self _)
set_option maxHeartbeats 400000 in
theorem rho_fix {j h : Nat → Nat} (H : RK j h) : ∀ x, x < 954 → rho j x < 954 ∧ j (rho j x) = rho j x := by
  refine rho_ind H _ (fun x hx e => ?_) (fun x hx e ih => ?_)
  · rw [rho_n e]; exact ⟨hx, e⟩
  · rw [rho_s H hx e]; exact ih
set_option maxHeartbeats 400000 in
theorem rho_id {j h : Nat → Nat} (H : RK j h) (x : Nat) (hx : x < 954) : rho j (rho j x) = rho j x := rho_n (rho_fix H x hx).2
/-! a way made shorter -/
set_option maxHeartbeats 400000 in
theorem rho_half {j h : Nat → Nat} (H : RK j h) (x : Nat) (hx : x < 954) (e : j x ≠ x) : RK (fun y => if y = x then j (j x) else j y) h ∧ ∀ y, y < 954 → rho (fun y => if y = x then j (j x) else j y) y = rho j y := by
  obtain ⟨a, b, c, d⟩ := H.2 x hx
  obtain ⟨a2, b2, c2, d2⟩ := H.2 (j x) a
  have bx := b e
  have hjj : h (j (j x)) < h x := by
    by_cases z : j (j x) = j x
    · rw [z]; exact bx
    · have := b2 z; omega
  have ne : j (j x) ≠ x := fun z => by rw [z] at hjj; exact Nat.lt_irrefl _ hjj
  have ceq : cnr (fun y => if y = x then j (j x) else j y) 954 = cnr j 954 := by
    refine cnr_cg _ _ (fun y hy => ?_) 954 (Nat.le_refl _)
    show (if y = x then j (j x) else j y) = y ↔ j y = y
    by_cases z : y = x
    · subst z
      rw [if_pos rfl]
      exact ⟨fun w => absurd w ne, fun w => absurd w e⟩
    · rw [if_neg z]
  have H2 : RK (fun y => if y = x then j (j x) else j y) h := by
    refine ⟨by rw [ceq]; exact H.1, fun y hy => ?_⟩
    rw [ceq]
    show (if y = x then j (j x) else j y) < 954 ∧ ((if y = x then j (j x) else j y) ≠ y → h (if y = x then j (j x) else j y) < h y) ∧ ((if y = x then j (j x) else j y) = y → h y = 0) ∧ h y ≤ cnr j 954
    by_cases z : y = x
    · subst z
      rw [if_pos rfl]
      exact ⟨a2, fun _ => hjj, fun w => absurd w ne, d⟩
    · rw [if_neg z]; exact H.2 y hy
  refine ⟨H2, rho_ind H _ (fun y hy ey => ?_) (fun y hy ey ih => ?_)⟩
  · have z : y ≠ x := fun z => e (z ▸ ey)
    rw [rho_n ey, rho_n (j := fun y => if y = x then j (j x) else j y) (by show (if y = x then j (j x) else j y) = y; rw [if_neg z]; exact ey)]
  · by_cases z : y = x
    · subst z
      have v : (if y = y then j (j y) else j y) = j (j y) := if_pos rfl
      rw [rho_s H2 hy (by rw [v]; exact ne), v, rho_s H hy ey]
      -- the way of j y in the new forest is known; that of j (j y) follows it
      by_cases q : j (j y) = j y
      · exact (congrArg (rho _) q).trans ih
      · have v2 : (if (j y) = y then j (j y) else j (j y)) = j (j y) := if_neg e
        rw [rho_s H2 a (by rw [v2]; exact q), v2] at ih
        exact ih
    · have v : (if y = x then j (j x) else j y) = j y := if_neg z
      rw [rho_s H2 hy (by rw [v]; exact ey), v, ih, rho_s H hy ey]
/-! a root put below another -/
set_option maxHeartbeats 400000 in
theorem rho_un {j h : Nat → Nat} (H : RK j h) (a b : Nat) (ha : a < 954) (hb : b < 954) (ja : j a = a) (jb : j b = b) (ne : b ≠ a) : (∃ h2, RK (fun y => if y = a then b else j y) h2) ∧ ∀ y, y < 954 → rho (fun y => if y = a then b else j y) y = if rho j y = a then b else rho j y := by
  have cup := cnr_up j a b ja ne 954
  rw [if_pos ha] at cup
  have H2 : RK (fun y => if y = a then b else j y) (fun y => if rho j y = a then h y + 1 else h y) := by
    refine ⟨?_, fun y hy => ?_⟩
    · have := cnr_lt (fun y => if y = a then b else j y) b (by show (if b = a then b else j b) = b; rw [if_neg ne]; exact jb) 954 hb
      omega
    · rw [cup]
      obtain ⟨p, q, r, s⟩ := H.2 y hy
      show (if y = a then b else j y) < 954 ∧ ((if y = a then b else j y) ≠ y → (if rho j (if y = a then b else j y) = a then h (if y = a then b else j y) + 1 else h (if y = a then b else j y)) < (if rho j y = a then h y + 1 else h y)) ∧ ((if y = a then b else j y) = y → (if rho j y = a then h y + 1 else h y) = 0) ∧ (if rho j y = a then h y + 1 else h y) ≤ cnr j 954 + 1
      by_cases z : y = a
      · subst z
        rw [if_pos rfl, rho_n jb, if_neg ne, rho_n ja, if_pos rfl]
        have hb0 := (H.2 b hb).2.2.1 jb
        exact ⟨hb, fun _ => by omega, fun w => absurd w ne, by omega⟩
      · rw [if_neg z]
        refine ⟨p, fun w => ?_, fun w => ?_, ?_⟩
        · rw [rho_s H hy w]
          have := q w
          split <;> omega
        · rw [rho_n w, if_neg z]; exact r w
        · split <;> omega
  refine ⟨⟨_, H2⟩, rho_ind H _ (fun y hy ey => ?_) (fun y hy ey ih => ?_)⟩
  · by_cases z : y = a
    · subst z
      have v : (if y = y then b else j y) = b := if_pos rfl
      have vb : (if b = y then b else j b) = b := by show (if b = y then b else j b) = b; rw [if_neg ne]; exact jb
      rw [rho_s H2 hy (by rw [v]; exact ne), v, rho_n vb, rho_n ja, if_pos rfl]
    · have v : (if y = a then b else j y) = y := by show (if y = a then b else j y) = y; rw [if_neg z]; exact ey
      rw [rho_n v, rho_n ey, if_neg z]
  · have z : y ≠ a := fun z => ey (z ▸ ja)
    have v : (if y = a then b else j y) = j y := if_neg z
    rw [rho_s H2 hy (by rw [v]; exact ey), v, ih, rho_s H hy ey]
/-! the class's own forest -/
def FS (J : Nat → Int32) : Prop := JB J ∧ ∃ h, RK (jn J) h
set_option maxHeartbeats 400000 in
theorem jn_upd {J : Nat → Int32} {x m : Nat} {v : Int32} (hx : x < 954) (hv : v.toInt = m) : jn (upd J x v) = fun y => if y = x then m else jn J y := by
  funext y
  unfold jn
  by_cases z : y = x
  · rw [if_pos (by omega), upd_at, if_pos z, if_pos z]; omega
  · rw [if_neg z]
    by_cases w : y < 954
    · rw [if_pos w, if_pos w, upd_at, if_neg z]
    · rw [if_neg w, if_neg w]
set_option maxHeartbeats 400000 in
theorem x_headOf_4 (h : Nat → Nat) : ∀ (n : Nat) (x2 : Int32) (x3 : Int32) (c_joined : Nat → Int32), 0 ≤ x3.toInt → 0 ≤ x2.toInt → x2.toInt < 954 → JB c_joined → RK (jn c_joined) h → h x2.toInt.toNat + x3.toInt ≤ 953 → Pc (f_X3_headOf_4 n x2 x3 c_joined) (fun r => r.1.toInt = rho (jn c_joined) x2.toInt.toNat ∧ JB r.2 ∧ RK (jn r.2) h ∧ ∀ y, y < 954 → rho (jn r.2) y = rho (jn c_joined) y)
  | 0, x2, x3, c_joined, h3, g1, g2, hJ, H, hb => by unfold f_X3_headOf_4; exact pc_none
  | n + 1, x2, x3, c_joined, h3, g1, g2, hJ, H, hb => by
    unfold f_X3_headOf_4
    refine pc_if (fun a => by exfalso; rw [tI_le, l_954] at a; omega) (fun a => pc_bad (fun _ => ?_))
    have ex : jn c_joined x2.toInt.toNat = (c_joined x2.toInt.toNat).toInt.toNat := jn_at (by omega)
    have j1 := hJ x2.toInt.toNat (by omega)
    have e2 : jn c_joined (jn c_joined x2.toInt.toNat) = (c_joined (c_joined x2.toInt.toNat).toInt.toNat).toInt.toNat := by
      rw [ex]; exact jn_at (by omega)
    have j2 := hJ (c_joined x2.toInt.toNat).toInt.toNat (by omega)
    rw [tI_nat]
    refine pc_if (fun b => pc_some ⟨?_, hJ, H, fun _ _ => rfl⟩) (fun b => pc_bad (fun _ => pc_bad (fun _ => pc_vlet (pc_bad (fun _ => pc_vlet (pc_bad (fun _ => pc_vlet (pc_vlet ?_))))))))
    · rw [rho_n (j := jn c_joined) (by rw [ex, b])]
      show x2.toInt = _
      omega
    · have ne : jn c_joined x2.toInt.toNat ≠ x2.toInt.toNat := fun w => b (Int32.toInt_inj.mp (by rw [ex] at w; omega))
      obtain ⟨H2, H3⟩ := rho_half H x2.toInt.toNat (by omega) ne
      rw [tI_nat]
      have ju := jn_upd (J := c_joined) (x := x2.toInt.toNat) (m := jn c_joined (jn c_joined x2.toInt.toNat)) (v := c_joined (c_joined x2.toInt.toNat).toInt.toNat) (by omega) (by rw [e2]; omega)
      have eu : upd c_joined x2.toInt.toNat (c_joined (c_joined x2.toInt.toNat).toInt.toNat) x2.toInt.toNat = c_joined (c_joined x2.toInt.toNat).toInt.toNat := by rw [upd_at, if_pos rfl]
      rw [eu]
      have hd1 := (H.2 x2.toInt.toNat (by omega)).2.1 ne
      have q3 := (H.2 (jn c_joined x2.toInt.toNat) (by rw [ex]; omega))
      have hle : h (c_joined (c_joined x2.toInt.toNat).toInt.toNat).toInt.toNat < h x2.toInt.toNat := by
        rw [← e2]
        by_cases w : jn c_joined (jn c_joined x2.toInt.toNat) = jn c_joined x2.toInt.toNat
        · rw [w]; exact hd1
        · have := q3.2.1 w; omega
      have e3 : (x3 + 1).toInt = x3.toInt + 1 := by ((try simp only [tI_lt, tI_le, tI_eq, tI_add, tI_sub, tI_mul, tI_nat, Int32.reduceToInt, Int.reduceToNat, fe_0, fe_1, fe_2, fe_3, fe_4, fe_5]) <;> (try simp (disch := omega) only [tI_bm]) <;> omega)
      refine pc_mono (x_headOf_4 h n _ _ _ (by omega) j2.1 j2.2 (fun e he => ?_) (by rw [ju]; exact H2) (by omega)) (fun r hr => ?_)
      · rw [upd_at]
        split
        · exact j2
        · exact hJ e he
      · obtain ⟨r1, r2, r3, r4⟩ := hr
        rw [ju] at r1 r4
        refine ⟨?_, r2, r3, fun y hy => by rw [r4 y hy]; exact H3 y hy⟩
        rw [r1, H3 _ (by omega), ← e2]
        have s1 := rho_s H (show x2.toInt.toNat < 954 by omega) ne
        rw [s1]
        by_cases w : jn c_joined (jn c_joined x2.toInt.toNat) = jn c_joined x2.toInt.toNat
        · rw [w]
        · rw [rho_s H (show jn c_joined x2.toInt.toNat < 954 by rw [ex]; omega) w]
set_option maxHeartbeats 400000 in
theorem x_headOf (x1 : Int32) (c_joined : Nat → Int32) (x : Nat) (h1 : x1.toInt = x) (hx : x < 954) (hF : FS c_joined) : Pc (f_X3_headOf x1 c_joined) (fun r => r.1.toInt = rho (jn c_joined) x ∧ FS r.2 ∧ ∀ y, y < 954 → rho (jn r.2) y = rho (jn c_joined) y) := by
  obtain ⟨hJ, h, H⟩ := hF
  unfold f_X3_headOf
  have hb := (H.2 x1.toInt.toNat (by omega)).2.2.2
  have h9 := H.1
  refine pc_mono (x_headOf_4 h FU x1 0 c_joined (by decide) (by omega) (by omega) hJ H (by rw [l_0]; omega)) (fun r hr => ?_)
  obtain ⟨r1, r2, r3, r4⟩ := hr
  have ex : x1.toInt.toNat = x := by omega
  rw [ex] at r1
  exact ⟨r1, ⟨r2, h, r3⟩, r4⟩
set_option maxHeartbeats 400000 in
theorem x_joinTold (x1 : Int32) (x2 : Int32) (c_told : Nat → Int32) (c_joined : Nat → Int32) (a b : Nat) (ha : a < 954) (hb : b < 954) (h1 : x1.toInt = a) (h2 : x2.toInt = b) (hF : FS c_joined) : Pc (f_X3_joinTold x1 x2 c_told c_joined) (fun r => (∀ e, e < 954 → (r.1 e = if e = a ∨ e = b then 1 else c_told e)) ∧ FS r.2 ∧ ∀ y, y < 954 → rho (jn r.2) y = if rho (jn c_joined) y = rho (jn c_joined) a then rho (jn c_joined) b else rho (jn c_joined) y) := by
  unfold f_X3_joinTold
  rw [if_neg (by rw [tI_lt, l_0]; omega), if_neg (by rw [tI_le, l_954]; omega), if_neg (by rw [tI_lt, l_0]; omega), if_pos (by rw [tI_lt, l_954]; omega)]
  have n1 : vp_nar .boolean (1 : Int32) = 1 := by decide
  have ea : x1.toNatClampNeg = a := by rw [tI_nat]; omega
  have eb : x2.toNatClampNeg = b := by rw [tI_nat]; omega
  refine pc_bad (fun _ => pc_vlet (pc_bad (fun _ => pc_vlet ?_)))
  rw [n1, ea, eb]
  refine pc_bind (x_headOf _ _ a h1 ha hF) (fun r5 q5 => pc_bind (x_headOf _ _ b h2 hb q5.2.1) (fun r6 q6 => pc_bad (fun bb => pc_vlet (pc_some ?_))))
  obtain ⟨p1, p2, p3⟩ := q5
  obtain ⟨s1, s2, s3⟩ := q6
  have s1' : r6.1.toInt = rho (jn c_joined) b := by rw [s1, p3 b hb]
  have s3' : ∀ y, y < 954 → rho (jn r6.2) y = rho (jn c_joined) y := fun y hy => by rw [s3 y hy, p3 y hy]
  obtain ⟨hJ6, h6, H6⟩ := s2
  have ra : rho (jn c_joined) a < 954 := by omega
  have e5 : r5.1.toNatClampNeg = rho (jn c_joined) a := by rw [tI_nat]; omega
  have rb : rho (jn c_joined) b < 954 := by
    have := (rho_fix H6 b hb).1
    rw [s3' b hb] at this; exact this
  have ju := jn_upd (J := r6.2) (x := rho (jn c_joined) a) (m := rho (jn c_joined) b) (v := r6.1) ra s1'
  have ja : jn r6.2 (rho (jn c_joined) a) = rho (jn c_joined) a := by
    have := (rho_fix H6 a ha).2
    rw [s3' a ha] at this; exact this
  have jb : jn r6.2 (rho (jn c_joined) b) = rho (jn c_joined) b := by
    have := (rho_fix H6 b hb).2
    rw [s3' b hb] at this; exact this
  refine ⟨fun e he => ?_, ⟨fun e he => ?_, ?_⟩, fun y hy => ?_⟩
  · show upd (upd c_told a 1) b 1 e = _
    rw [upd_at, upd_at]
    by_cases z1 : e = b
    · rw [if_pos z1, if_pos (.inr z1)]
    · rw [if_neg z1]
      by_cases z2 : e = a
      · rw [if_pos z2, if_pos (.inl z2)]
      · rw [if_neg z2, if_neg (fun w => w.elim z2 z1)]
  · show 0 ≤ (upd r6.2 r5.1.toNatClampNeg r6.1 e).toInt ∧ (upd r6.2 r5.1.toNatClampNeg r6.1 e).toInt < 954
    rw [upd_at]
    split
    · omega
    · exact hJ6 e he
  · show ∃ h, RK (jn (upd r6.2 r5.1.toNatClampNeg r6.1)) h
    rw [e5, ju]
    by_cases z : rho (jn c_joined) b = rho (jn c_joined) a
    · have : (fun y => if y = rho (jn c_joined) a then rho (jn c_joined) b else jn r6.2 y) = jn r6.2 := by
        funext y
        by_cases w : y = rho (jn c_joined) a
        · rw [if_pos w, z, w, ja]
        · rw [if_neg w]
      rw [this]
      exact ⟨h6, H6⟩
    · exact (rho_un H6 _ _ ra rb ja jb z).1
  · show rho (jn (upd r6.2 r5.1.toNatClampNeg r6.1)) y = _
    rw [e5, ju]
    by_cases z : rho (jn c_joined) b = rho (jn c_joined) a
    · have : (fun y => if y = rho (jn c_joined) a then rho (jn c_joined) b else jn r6.2 y) = jn r6.2 := by
        funext y
        by_cases w : y = rho (jn c_joined) a
        · rw [if_pos w, z, w, ja]
        · rw [if_neg w]
      rw [this, s3' y hy]
      by_cases w : rho (jn c_joined) y = rho (jn c_joined) a
      · rw [if_pos w, w, z]
      · rw [if_neg w]
    · rw [(rho_un H6 _ _ ra rb ja jb z).2 y hy, s3' y hy]
