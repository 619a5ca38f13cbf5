/-! a TICK on the reference's side: contacts moved, all of it -/
def SMQ (nk : Nat → Nat) (s1 : Nat → Int32) (k c : Nat) (s : Nat → Int32) : Prop := (∀ i, i < 80 → s i = s1 i) ∧ (∀ r d, r < 40 → d < 6 → s (80 + 6 * r + d) = if (r < k ∧ d < nk r) ∨ (r = k ∧ d < c) then mvp (mB s1 r) (s1 (80 + 6 * r + d)) else s1 (80 + 6 * r + d)) ∧ ∀ i, 320 ≤ i → s i = s1 i
set_option maxHeartbeats 400000 in
theorem SMQ_next {nk : Nat → Nat} {s1 : Nat → Int32} {k : Nat} {s : Nat → Int32} (h : SMQ nk s1 k (nk k) s) : SMQ nk s1 (k + 1) 0 s := by
  refine ⟨h.1, fun r d hr hd => ?_, h.2.2⟩
  rw [h.2.1 r d hr hd]
  by_cases z : (r < k ∧ d < nk r) ∨ (r = k ∧ d < nk k)
  · rw [if_pos z, if_pos]
    rcases z with z | ⟨z1, z2⟩
    · exact .inl ⟨by omega, z.2⟩
    · exact .inl ⟨by omega, by rw [z1]; exact z2⟩
  · rw [if_neg z, if_neg]
    rintro (⟨q1, q2⟩ | ⟨q1, q2⟩)
    · by_cases y : r = k
      · exact z (.inr ⟨y, by rw [← y]; exact q2⟩)
      · exact z (.inl ⟨by omega, q2⟩)
    · exact absurd q2 (Nat.not_lt_zero _)
set_option maxHeartbeats 400000 in
theorem m_ticks_51 (σ R : Nat) (k40 : Int32 → (Nat → Int32) → (Nat → Int32) → (Nat → Int32) → (Nat → Int32) → Option ((Nat → Int32) × (Nat → Int32) × (Nat → Int32) × (Nat → Int32))) (c_side : Int32) (c_many : Nat → Int32) (c_one : Nat → Int32) (c_two : Nat → Int32) (c_kinds : Nat → Int32) (c_kindBits : Nat → Int32) (c_netOf : Nat → Int32) (c_stuck : Nat → Int32) (c_dusty : Nat → Int32) (c_part : Nat → Int32) (hs : c_side.toInt = (σ : Int)) (hσ : σ ≤ 1) (nk : Nat → Nat) (hR4 : R ≤ 40) (hnk : ∀ r, r < R → (c_kinds (116 * σ + r)).toInt = nk r ∧ nk r ≤ 6) (s1 : Nat → Int32) (h01 : ∀ r, r < 40 → s1 r = 0 ∨ s1 r = 1) (r : Nat) (hr : r < R) {Q} (hk : ∀ (y : Int32) (s j lv gr : Nat → Int32), y.toInt = ((r + 1 : Nat) : Int) → SMQ nk s1 (r + 1) 0 s → Pc (k40 y s j lv gr) Q) : ∀ (n : Nat) (x1 : Int32) (x2 : Int32) (c_state : Nat → Int32) (c_joined : Nat → Int32) (c_live : Nat → Int32) (c_ground : Nat → Int32) (c : Nat), x1.toInt = r → x2.toInt = c → c ≤ nk r → SMQ nk s1 r c c_state → Pc (f_X11_ticks_51 k40 c_side c_many c_one c_two c_kinds c_kindBits c_netOf c_stuck c_dusty c_part n x1 x2 c_state c_joined c_live c_ground) Q
  | 0, x1, x2, c_state, c_joined, c_live, c_ground, c, h1, h2, h3, hI => pc_none
  | n + 1, x1, x2, c_state, c_joined, c_live, c_ground, c, h1, h2, h3, hI => by
    unfold f_X11_ticks_51 f_X11_ticks_123
    have eb : (116 * c_side + x1).toNatClampNeg = 116 * σ + r := by
      have : (116 * c_side + x1).toInt = 116 * σ + r := by ((try simp only [tI_lt, tI_le, tI_eq, tI_add, tI_sub, tI_mul, tI_nat, Int32.reduceToInt, Int.reduceToNat, fe_0, fe_1, fe_2, fe_3, fe_4, fe_5]) <;> (try simp (disch := omega) only [tI_bm]) <;> omega)
      rw [tI_nat, this]; omega
    have e0 : (0 + x1).toNatClampNeg = r := by
      have : (0 + x1).toInt = x1.toInt := by ((try simp only [tI_lt, tI_le, tI_eq, tI_add, tI_sub, tI_mul, tI_nat, Int32.reduceToInt, Int.reduceToNat, fe_0, fe_1, fe_2, fe_3, fe_4, fe_5]) <;> (try simp (disch := omega) only [tI_bm]) <;> omega)
      rw [tI_nat, this]; omega
    have nr := hnk r hr
    refine pc_bad (fun _ => ?_)
    rw [eb]
    refine pc_if (fun a => pc_vlet ?_) (fun a => pc_vlet ?_)
    · rw [tI_le] at a
      have : c = nk r := by omega
      subst this
      exact hk _ _ _ _ _ (by ((try simp only [tI_lt, tI_le, tI_eq, tI_add, tI_sub, tI_mul, tI_nat, Int32.reduceToInt, Int.reduceToNat, fe_0, fe_1, fe_2, fe_3, fe_4, fe_5]) <;> (try simp (disch := omega) only [tI_bm]) <;> omega)) (SMQ_next hI)
    · rw [tI_le] at a
      have et : (80 + 6 * x1 + x2).toNatClampNeg = 80 + 6 * r + c := by
        have : (80 + 6 * x1 + x2).toInt = 80 + 6 * r + c := by ((try simp only [tI_lt, tI_le, tI_eq, tI_add, tI_sub, tI_mul, tI_nat, Int32.reduceToInt, Int.reduceToNat, fe_0, fe_1, fe_2, fe_3, fe_4, fe_5]) <;> (try simp (disch := omega) only [tI_bm]) <;> omega)
        rw [tI_nat, this]; omega
      have ev : (x2 + 1).toInt = ((c + 1 : Nat) : Int) := by ((try simp only [tI_lt, tI_le, tI_eq, tI_add, tI_sub, tI_mul, tI_nat, Int32.reduceToInt, Int.reduceToNat, fe_0, fe_1, fe_2, fe_3, fe_4, fe_5]) <;> (try simp (disch := omega) only [tI_bm]) <;> omega)
      have sr : c_state r = s1 r := hI.1 r (by omega)
      have st : c_state (80 + 6 * r + c) = s1 (80 + 6 * r + c) := by
        rw [hI.2.1 r c (by omega) (by omega), if_neg]
        rintro (⟨q1, q2⟩ | ⟨q1, q2⟩) <;> omega
      have on : ∀ v : Int32, v = mvp (mB s1 r) (s1 (80 + 6 * r + c)) → Pc (f_X11_ticks_51 k40 c_side c_many c_one c_two c_kinds c_kindBits c_netOf c_stuck c_dusty c_part n x1 (x2 + 1) (upd c_state (80 + 6 * r + c) v) c_joined c_live c_ground) Q := by
        intro v hv
        refine m_ticks_51 σ R k40 c_side c_many c_one c_two c_kinds c_kindBits c_netOf c_stuck c_dusty c_part hs hσ nk hR4 hnk s1 h01 r hr hk n x1 (x2 + 1) _ _ _ _ (c + 1) h1 ev (by omega) ⟨fun i hi => ?_, fun q d hq hd => ?_, fun i hi => ?_⟩
        · rw [upd_at, if_neg (by omega)]; exact hI.1 i hi
        · rw [upd_at]
          by_cases z : q = r ∧ d = c
          · obtain ⟨z1, z2⟩ := z
            subst z1 z2
            rw [if_pos rfl, if_pos (.inr ⟨rfl, by omega⟩)]
            exact hv
          · rw [if_neg (by omega), hI.2.1 q d hq hd]
            by_cases y : (q < r ∧ d < nk q) ∨ (q = r ∧ d < c)
            · rw [if_pos y, if_pos (by omega)]
            · rw [if_neg y, if_neg (by omega)]
        · rw [upd_at, if_neg (by omega)]; exact hI.2.2 i hi
      refine pc_bad (fun _ => ?_)
      rw [e0, sr]
      refine pc_if (fun z => pc_bad (fun _ => ?_)) (fun z => pc_bad (fun _ => ?_))
      · refine pc_bad (fun _ => pc_vlet (pc_vlet ?_))
        rw [et, st]
        refine on _ ?_
        unfold mvp mB
        rw [if_pos (decide_eq_true z)]
      · refine pc_bad (fun _ => pc_vlet (pc_vlet ?_))
        rw [et, st]
        refine on _ ?_
        unfold mvp mB
        rw [if_neg (by rw [decide_eq_true_eq]; exact z)]
set_option maxHeartbeats 400000 in
theorem m_ticks_40 (σ R : Nat) (c_side : Int32) (c_many : Nat → Int32) (c_one : Nat → Int32) (c_two : Nat → Int32) (c_kinds : Nat → Int32) (c_kindBits : Nat → Int32) (c_netOf : Nat → Int32) (c_stuck : Nat → Int32) (c_dusty : Nat → Int32) (c_part : Nat → Int32) (hs : c_side.toInt = (σ : Int)) (hσ : σ ≤ 1) (nk : Nat → Nat) (hR : (c_many (5 * σ + 0)).toInt = R) (hR4 : R ≤ 40) (hnk : ∀ r, r < R → (c_kinds (116 * σ + r)).toInt = nk r ∧ nk r ≤ 6) (s1 : Nat → Int32) (h01 : ∀ r, r < 40 → s1 r = 0 ∨ s1 r = 1) : ∀ (n : Nat) (x1 : Int32) (c_state : Nat → Int32) (c_joined : Nat → Int32) (c_live : Nat → Int32) (c_ground : Nat → Int32) (r : Nat), x1.toInt = r → r ≤ R → SMQ nk s1 r 0 c_state → Pc (f_X11_ticks_40 c_side c_many c_one c_two c_kinds c_kindBits c_netOf c_stuck c_dusty c_part n x1 c_state c_joined c_live c_ground) (fun q => SMQ nk s1 R 0 q.1)
  | 0, x1, c_state, c_joined, c_live, c_ground, r, h1, h2, hI => pc_none
  | n + 1, x1, c_state, c_joined, c_live, c_ground, r, h1, h2, hI => by
    unfold f_X11_ticks_40
    refine pc_eq (s_X11_here σ 0 c_side c_many hs hσ (by decide) (by decide)) ?_
    rw [show (0 : Int32).toInt.toNat = 0 from by decide]
    refine pc_if (fun a => ?_) (fun a => ?_)
    · rw [tI_le] at a
      have : r = R := by omega
      subst this
      exact pc_some hI
    · rw [tI_le] at a
      exact m_ticks_51 σ R _ c_side c_many c_one c_two c_kinds c_kindBits c_netOf c_stuck c_dusty c_part hs hσ nk hR4 hnk s1 h01 r (by omega) (fun y s j lv gr hy hS => m_ticks_40 σ R c_side c_many c_one c_two c_kinds c_kindBits c_netOf c_stuck c_dusty c_part hs hσ nk hR hR4 hnk s1 h01 n y s j lv gr (r + 1) hy (by omega) hS) FU _ _ _ _ _ _ 0 h1 (by decide) (Nat.zero_le _) hI
/-! what stands behind a TICK -/
def TQP (R : Nat) (nk : Nat → Nat) (E g w : Nat → Bool) (tp td s0 s : Nat → Int32) : Prop := (∀ i, i < 40 → s i = if i < R then b2 (stp (g i) (w i) (E i) (mB s0 i) (s0 (40 + i)) (tp i) (td i)).1 else s0 i) ∧ (∀ i, i < 40 → s (40 + i) = if i < R then (stp (g i) (w i) (E i) (mB s0 i) (s0 (40 + i)) (tp i) (td i)).2 else s0 (40 + i)) ∧ (∀ r d, r < 40 → d < 6 → s (80 + 6 * r + d) = if r < R ∧ d < nk r then mvp (stp (g r) (w r) (E r) (mB s0 r) (s0 (40 + r)) (tp r) (td r)).1 (s0 (80 + 6 * r + d)) else s0 (80 + 6 * r + d)) ∧ ∀ i, 320 ≤ i → s i = s0 i
set_option maxHeartbeats 400000 in
theorem mB_b2 {s : Nat → Int32} {r : Nat} {b : Bool} (h : s r = b2 b) : mB s r = b := by
  unfold mB
  rw [h]
  cases b <;> decide
set_option maxHeartbeats 400000 in
theorem m_ticks_18 (σ R : Nat) (c_side : Int32) (c_many : Nat → Int32) (c_one : Nat → Int32) (c_two : Nat → Int32) (c_kinds : Nat → Int32) (c_kindBits : Nat → Int32) (c_netOf : Nat → Int32) (c_stuck : Nat → Int32) (c_dusty : Nat → Int32) (c_part : Nat → Int32) (hM : MI σ c_side c_many c_one c_kinds c_netOf) {LV GD : Nat → Prop} (nk : Nat → Nat) (hR : (c_many (5 * σ + 0)).toInt = R) (hR4 : R ≤ 40) (hnk : ∀ r, r < R → (c_kinds (116 * σ + r)).toInt = nk r ∧ nk r ≤ 6) (E g w : Nat → Bool) (j0 lv gr s0 : Nat → Int32) (hJ : JI j0) (hL : ∀ e, e < 954 → (¬ lv (rt (jn j0) (nuM σ c_netOf e)) = 0 ↔ LV e)) (hG : ∀ e, e < 954 → (¬ gr (rt (jn j0) (nuM σ c_netOf e)) = 0 ↔ GD e)) (hE : ∀ r, r < R → (E r = true ↔ ENG LV GD (2 + 20 * r) (2 + 20 * r + 1))) (hw : ∀ r, r < R → (c_part r = 1 ↔ w r = true)) (hg : ∀ r, r < R → (c_part r = 2 ↔ g r = true)) (h01 : ∀ r, r < 40 → s0 r = 0 ∨ s0 r = 1) (ht : ∀ r, r < R → 1 ≤ (c_one (116 * σ + r)).toInt ∧ 1 ≤ (c_two (116 * σ + r)).toInt) : ∀ (n : Nat) (x1 : Int32) (c_state : Nat → Int32) (c_joined : Nat → Int32) (c_live : Nat → Int32) (c_ground : Nat → Int32) (r : Nat), x1.toInt = r → r ≤ R → c_joined = j0 → c_live = lv → c_ground = gr → SMC E g w (fun i => c_one (116 * σ + i)) (fun i => c_two (116 * σ + i)) s0 r c_state → Pc (f_X11_ticks_18 c_side c_many c_one c_two c_kinds c_kindBits c_netOf c_stuck c_dusty c_part n x1 c_state c_joined c_live c_ground) (fun q => TQP R nk E g w (fun i => c_one (116 * σ + i)) (fun i => c_two (116 * σ + i)) s0 q.1)
  | 0, x1, c_state, c_joined, c_live, c_ground, r, h1, h2, e1, e2, e3, hI => pc_none
  | n + 1, x1, c_state, c_joined, c_live, c_ground, r, h1, h2, e1, e2, e3, hI => by
    unfold f_X11_ticks_18
    subst e1 e2 e3
    have hM' := hM
    obtain ⟨hs, hσ, m0, m1, m2, m3, m4, hK, hO1, hO⟩ := hM'
    refine pc_eq (s_X11_here σ 0 c_side c_many hs hσ (by decide) (by decide)) ?_
    rw [show (0 : Int32).toInt.toNat = 0 from by decide]
    obtain ⟨i1, i2, i3⟩ := hI
    refine pc_if (fun a => ?_) (fun a => ?_)
    · rw [tI_le] at a
      have rR : r = R := by omega
      subst rR
      have s01 : ∀ i, i < 40 → c_state i = 0 ∨ c_state i = 1 := fun i hi => by
        rw [i1 i hi]
        split
        · unfold b2; split
          · exact .inr rfl
          · exact .inl rfl
        · exact h01 i hi
      refine pc_mono (m_ticks_40 σ r c_side c_many c_one c_two c_kinds c_kindBits c_netOf c_stuck c_dusty c_part hs hσ nk hR hR4 hnk c_state s01 FU 0 c_state c_joined c_live c_ground 0 (by decide) (Nat.zero_le _) ⟨fun _ _ => rfl, fun q d _ _ => by rw [if_neg (by omega)], fun _ _ => rfl⟩) (fun q hq => ?_)
      obtain ⟨q1, q2, q3⟩ := hq
      refine ⟨fun i hi => by rw [q1 i (by omega)]; exact i1 i hi, fun i hi => by rw [q1 _ (by omega)]; exact i2 i hi, fun k d hk hd => ?_, fun i hi => by rw [q3 i hi]; exact i3 i (by omega)⟩
      rw [q2 k d hk hd, i3 _ (by omega)]
      by_cases z : k < r ∧ d < nk k
      · rw [if_pos (.inl z), if_pos z]
        have := i1 k hk
        rw [if_pos z.1] at this
        rw [mB_b2 this]
      · rw [if_neg (by omega), if_neg z]
    · rw [tI_le] at a
      have rR : r < R := by omega
      have ev : (x1 + 1).toInt = ((r + 1 : Nat) : Int) := by ((try simp only [tI_lt, tI_le, tI_eq, tI_add, tI_sub, tI_mul, tI_nat, Int32.reduceToInt, Int.reduceToNat, fe_0, fe_1, fe_2, fe_3, fe_4, fe_5]) <;> (try simp (disch := omega) only [tI_bm]) <;> omega)
      have sr : c_state r = s0 r := by rw [i1 r (by omega), if_neg (Nat.lt_irrefl _)]
      have sc : c_state (40 + r) = s0 (40 + r) := by rw [i2 r (by omega), if_neg (Nat.lt_irrefl _)]
      have sb : mB c_state r = mB s0 r := by unfold mB; rw [sr]
      refine pc_bind (m_coil _ _ _ _ _ _ _ _ _ _ hs hσ hO hJ hL hG r (E r) (g r) (w r) h1 (by omega) (hE r rR) (hw r rR) (hg r rR) (by rw [sr]; exact h01 r (by omega)) (ht r rR)) (fun r2 q2 => pc_vlet ?_)
      obtain ⟨q1, q2, q3⟩ := q2
      rw [sb, sc] at q1 q2
      refine m_ticks_18 σ R c_side c_many c_one c_two c_kinds c_kindBits c_netOf c_stuck c_dusty c_part hM nk hR hR4 hnk E g w c_joined c_live c_ground s0 hJ hL hG hE hw hg h01 ht n _ _ _ _ _ (r + 1) ev (by omega) rfl rfl rfl ⟨fun i hi => ?_, fun i hi => ?_, fun i hi => ?_⟩
      · by_cases z : i = r
        · subst z
          rw [if_pos (by omega)]; exact q1
        · rw [q3 i z (by omega), i1 i hi]
          by_cases y : i < r
          · rw [if_pos y, if_pos (by omega)]
          · rw [if_neg y, if_neg (by omega)]
      · by_cases z : i = r
        · subst z
          rw [if_pos (by omega)]; exact q2
        · rw [q3 (40 + i) (by omega) (by omega), i2 i hi]
          by_cases y : i < r
          · rw [if_pos y, if_pos (by omega)]
          · rw [if_neg y, if_neg (by omega)]
      · rw [q3 i (by omega) (by omega)]; exact i3 i hi
def tk1 (s : Nat → Int32) : Nat → Int32 := upd s 344 (s 344 + 1)
set_option maxHeartbeats 400000 in
theorem m_ticks (σ R K C D : Nat) (c_side : Int32) (c_many : Nat → Int32) (c_one : Nat → Int32) (c_two : Nat → Int32) (c_kinds : Nat → Int32) (c_kindBits : Nat → Int32) (c_netOf : Nat → Int32) (c_state : Nat → Int32) (c_stuck : Nat → Int32) (c_dusty : Nat → Int32) (c_joined : Nat → Int32) (c_live : Nat → Int32) (c_ground : Nat → Int32) (c_part : Nat → Int32) (hM : MI σ c_side c_many c_one c_kinds c_netOf) (nk : Nat → Nat) (hR : (c_many (5 * σ + 0)).toInt = R) (hR4 : R ≤ 40) (hnk : ∀ r, r < R → (c_kinds (116 * σ + r)).toInt = nk r ∧ nk r ≤ 6) (hK' : (c_many (5 * σ + 1)).toInt = K) (hC : (c_many (5 * σ + 3)).toInt = C) (hD : (c_many (5 * σ + 4)).toInt = D) {JL : PL} (hJL : JL = accF (onMB σ c_one c_two (tk1 c_state)) 898 C ++ (accF (keyMB (tk1 c_state)) 802 K ++ accR (efM σ c_kindBits c_stuck c_dusty (tk1 c_state)) nk R)) (E g w : Nat → Bool) (hE : ∀ r, r < R → (E r = true ↔ ENG (LVd 0 (nuM σ c_netOf) JL (accF (fun _ => true) 906 D)) (LVd 1 (nuM σ c_netOf) JL (rvL (accF (fun _ => true) 906 D))) (2 + 20 * r) (2 + 20 * r + 1))) (hw : ∀ r, r < R → (c_part r = 1 ↔ w r = true)) (hg : ∀ r, r < R → (c_part r = 2 ↔ g r = true)) (h01 : ∀ r, r < 40 → c_state r = 0 ∨ c_state r = 1) (ht : ∀ r, r < R → 1 ≤ (c_one (116 * σ + r)).toInt ∧ 1 ≤ (c_two (116 * σ + r)).toInt) : Pc (f_X11_ticks c_side c_many c_one c_two c_kinds c_kindBits c_netOf c_state c_stuck c_dusty c_joined c_live c_ground c_part) (fun q => TQP R nk E g w (fun i => c_one (116 * σ + i)) (fun i => c_two (116 * σ + i)) (tk1 c_state) q.1) := by
  unfold f_X11_ticks
  rw [show (344 : Int32).toNatClampNeg = 344 from by decide]
  refine pc_bad (fun _ => pc_vlet (pc_bad (fun _ => pc_vlet (pc_bind (m_look σ R K C D _ _ _ _ _ _ _ (tk1 c_state) _ _ _ _ _ hM nk hR hnk hK' hC hD hJL) (fun r5 q5 => ?_)))))
  obtain ⟨j1, l1, l2⟩ := q5
  have t01 : ∀ r, r < 40 → tk1 c_state r = 0 ∨ tk1 c_state r = 1 := fun r hr => by
    unfold tk1
    rw [upd_at, if_neg (by omega)]; exact h01 r hr
  exact m_ticks_18 σ R c_side c_many c_one c_two c_kinds c_kindBits c_netOf c_stuck c_dusty c_part hM nk hR hR4 hnk E g w r5.1 r5.2.1 r5.2.2 (tk1 c_state) j1 (fun e he => LST_LV l1 (fun _ => Iff.rfl) e he) (fun e he => LST_LV l2 (fun _ => Iff.rfl) e he) hE hw hg t01 ht FU 0 (tk1 c_state) r5.1 r5.2.1 r5.2.2 0 (by decide) (Nat.zero_le _) rfl rfl rfl ⟨fun i _ => by rw [if_neg (Nat.not_lt_zero _)], fun i _ => by rw [if_neg (Nat.not_lt_zero _)], fun _ _ => rfl⟩
