/-! the orders tried on the reference's side -/
set_option maxHeartbeats 400000 in
theorem STP_01 {S : List StT} {σ : Nat} (one two bits stuck dusty netOf : Nat → Int32) {g w : Nat → Bool} {s s2 : Nat → Int32} (h : STP S σ one two bits stuck dusty netOf g w s s2) (h0 : ∀ r, r < 40 → s r = 0 ∨ s r = 1) : (∀ r, r < 40 → s2 r = 0 ∨ s2 r = 1) ∧ ∀ r, cnt 0 S ≤ r → r < 40 → s2 r = s r := by
  obtain ⟨E, -, q, -⟩ := h
  have t : ∀ r, r < 40 → tk1 s r = s r := fun r hr => by unfold tk1; rw [upd_at, if_neg (by omega)]
  refine ⟨fun r hr => ?_, fun r h1 h2 => ?_⟩
  · have a := q r hr
    by_cases z : r < cnt 0 S
    · rw [if_pos z] at a
      rw [a]
      unfold b2
      split
      · exact .inr rfl
      · exact .inl rfl
    · rw [if_neg z, t r hr] at a
      rw [a]; exact h0 r hr
  · have a := q r h2
    rw [if_neg (by omega), t r h2] at a
    exact a
set_option maxHeartbeats 400000 in
theorem RUN_01 {S : List StT} {σ : Nat} (one two bits stuck dusty netOf : Nat → Int32) {L : List Nat} : ∀ (d : Nat) {s s2 : Nat → Int32}, RUN S σ one two bits stuck dusty netOf L d s s2 → (∀ r, r < 40 → s r = 0 ∨ s r = 1) → (∀ r, r < 40 → s2 r = 0 ∨ s2 r = 1) ∧ ∀ r, cnt 0 S ≤ r → r < 40 → s2 r = s r
  | 0, s, s2, h, h0 => ⟨fun r hr => by rw [← h r (by omega)]; exact h0 r hr, fun r _ hr => (h r (by omega)).symm⟩
  | d + 1, s, s2, h, h0 => by
    obtain ⟨m, a, b⟩ := h
    obtain ⟨x1, x2⟩ := RUN_01 one two bits stuck dusty netOf d a h0
    obtain ⟨y1, y2⟩ := STP_01 one two bits stuck dusty netOf b x1
    exact ⟨y1, fun r h1 h2 => (y2 r h1 h2).trans (x2 r h1 h2)⟩
set_option maxHeartbeats 400000 in
theorem m_stepR (c_side : Int32) (c_many : Nat → Int32) (c_one : Nat → Int32) (c_two : Nat → Int32) (c_kinds : Nat → Int32) (c_kindBits : Nat → Int32) (c_netOf : Nat → Int32) (c_state : Nat → Int32) (c_stuck : Nat → Int32) (c_dusty : Nat → Int32) (c_joined : Nat → Int32) (c_live : Nat → Int32) (c_ground : Nat → Int32) (c_part : Nat → Int32) {S : List StT} {σ : Nat} (nets : Int32) (parts pick drop cont makes per on_ netX stuckX dustX : Nat → Int32) (hC : CTX S σ nets parts pick drop cont makes per on_ netX stuckX dustX c_one c_two c_kinds c_kindBits c_netOf c_stuck c_dusty c_many c_side) (g w : Nat → Bool) (hw : ∀ r, r < 40 → (c_part r = 1 ↔ w r = true)) (hg : ∀ r, r < 40 → (c_part r = 2 ↔ g r = true)) (h01 : ∀ r, r < 40 → c_state r = 0 ∨ c_state r = 1) : Pc (f_X11_ticks c_side c_many c_one c_two c_kinds c_kindBits c_netOf c_state c_stuck c_dusty c_joined c_live c_ground c_part) (fun q => STP S σ c_one c_two c_kindBits c_stuck c_dusty c_netOf g w c_state q.1) := by
  obtain ⟨toldNets, names, told, nameSize, nm, isTold, hA, hI, hIM, hNX, hNM, hW⟩ := hC
  obtain ⟨-, -, m0, -⟩ := GS_nk hI.1
  obtain ⟨E, hE⟩ := E_ex (ENS S (nuM σ c_netOf) (JLT S σ c_one c_two c_kindBits c_stuck c_dusty (tk1 c_state)))
  exact pc_mono (m_run _ _ _ _ _ _ _ _ _ _ _ _ _ _ nets parts pick drop cont makes per on_ netX stuckX dustX hA hI hIM hNX hNM hW E g w (fun r _ => hE r) (fun r hr => hw r (by omega)) (fun r hr => hg r (by omega)) h01) (fun q hq => ⟨E, fun r _ => hE r, hq⟩)
def pvl (k d : Nat) : Int32 := if k < d then 0 else if k = d then 2 else 1
set_option maxHeartbeats 400000 in
theorem pvl_1 (k d : Nat) : pvl k d = 1 ↔ d < k := by
  unfold pvl
  by_cases a : k < d
  · rw [if_pos a]; exact ⟨fun q => absurd q (by decide), fun q => by omega⟩
  · by_cases b : k = d
    · rw [if_neg a, if_pos b]; exact ⟨fun q => absurd q (by decide), fun q => by omega⟩
    · rw [if_neg a, if_neg b]; exact ⟨fun _ => by omega, fun _ => rfl⟩
set_option maxHeartbeats 400000 in
theorem pvl_2 (k d : Nat) : pvl k d = 2 ↔ k = d := by
  unfold pvl
  by_cases a : k < d
  · rw [if_pos a]; exact ⟨fun q => absurd q (by decide), fun q => by omega⟩
  · by_cases b : k = d
    · rw [if_neg a, if_pos b]; exact ⟨fun _ => b, fun _ => rfl⟩
    · rw [if_neg a, if_neg b]; exact ⟨fun q => absurd q (by decide), fun q => absurd q b⟩
set_option maxHeartbeats 400000 in
theorem m_x82 (k40 : Int32 → Int32 → Int32 → Int32 → Int32 → (Nat → Int32) → (Nat → Int32) → (Nat → Int32) → (Nat → Int32) → (Nat → Int32) → (Nat → Int32) → (Nat → Int32) → (Nat → Int32) → (Nat → Int32) → Option (Int32 × (Nat → Int32) × (Nat → Int32) × (Nat → Int32) × (Nat → Int32) × (Nat → Int32) × (Nat → Int32) × (Nat → Int32) × (Nat → Int32) × (Nat → Int32))) (k73 : Int32 → Int32 → Int32 → Int32 → Int32 → Int32 → (Nat → Int32) → (Nat → Int32) → (Nat → Int32) → (Nat → Int32) → (Nat → Int32) → (Nat → Int32) → (Nat → Int32) → (Nat → Int32) → (Nat → Int32) → Option (Int32 × (Nat → Int32) × (Nat → Int32) × (Nat → Int32) × (Nat → Int32) × (Nat → Int32) × (Nat → Int32) × (Nat → Int32) × (Nat → Int32) × (Nat → Int32))) (c_side : Int32) (c_many : Nat → Int32) (c_one : Nat → Int32) (c_two : Nat → Int32) (c_kinds : Nat → Int32) (c_kindBits : Nat → Int32) (c_netOf : Nat → Int32) (c_stuck : Nat → Int32) (c_dusty : Nat → Int32) (c_ahead : Nat → Int32) (c_due : Nat → Int32) {S : List StT} {σ : Nat} (nets : Int32) (parts pick drop cont makes per on_ netX stuckX dustX : Nat → Int32) (hC : CTX S σ nets parts pick drop cont makes per on_ netX stuckX dustX c_one c_two c_kinds c_kindBits c_netOf c_stuck c_dusty c_many c_side) (L : List Nat) (n9 d : Nat) (hL : L.length = n9) (h4 : n9 ≤ 4) (hD : DST L) (h40 : ∀ r, r ∈ L → r < 40) {Q} : ∀ (n : Nat) (x1 : Int32) (x2 : Int32) (x3 : Int32) (x4 : Int32) (x5 : Int32) (x6 : Int32) (x7 : Int32) (c_state : Nat → Int32) (c_joined : Nat → Int32) (c_live : Nat → Int32) (c_ground : Nat → Int32) (c_part : Nat → Int32) (c_order : Nat → Int32) (c_picked : Nat → Int32) (c_after : Nat → Int32) (c_used : Nat → Int32) (i : Nat), x1.toInt = n9 → x6.toInt = d → x7.toInt = i → i ≤ n9 → (∀ k, k < n9 → (c_order k).toInt = L.getD k 0) → (∀ r, r < 40 → c_state r = 0 ∨ c_state r = 1) → (∀ r, r < 40 → r ∉ L → c_part r = 0) → (∀ k, k < i → c_part (L.getD k 0) = pvl k d) → (∀ (st jo li gr pa : Nat → Int32), STP S σ c_one c_two c_kindBits c_stuck c_dusty c_netOf (gO L d) (wO L d) c_state st → (∀ r, r < 40 → r ∉ L → pa r = 0) → Pc (k73 x1 x2 x3 x4 x5 (x6 + 1) st jo li gr pa c_order c_picked c_after c_used) Q) → Pc (f_X11_parts__82 k40 k73 c_side c_many c_one c_two c_kinds c_kindBits c_netOf c_stuck c_dusty c_ahead c_due n x1 x2 x3 x4 x5 x6 x7 c_state c_joined c_live c_ground c_part c_order c_picked c_after c_used) Q
  | 0, x1, x2, x3, x4, x5, x6, x7, c_state, c_joined, c_live, c_ground, c_part, c_order, c_picked, c_after, c_used, i, g1, g2, g3, g5, g6, g7, g8, g9, hk => pc_none
  | n + 1, x1, x2, x3, x4, x5, x6, x7, c_state, c_joined, c_live, c_ground, c_part, c_order, c_picked, c_after, c_used, i, g1, g2, g3, g5, g6, g7, g8, g9, hk => by
    unfold f_X11_parts__82 f_X11_parts__122
    refine pc_if (fun a => ?_) (fun a => ?_)
    · rw [tI_le] at a
      have ein : i = n9 := by omega
      subst ein
      have at9 : ∀ r, r ∈ L → ∃ k, k < i ∧ L[k]? = some r := fun r hr => by
        obtain ⟨k, hk, e⟩ := List.getElem_of_mem hr
        exact ⟨k, by omega, by rw [List.getElem?_eq_getElem hk, e]⟩
      have pv : ∀ k r, L[k]? = some r → c_part r = pvl k d := fun k r hr => by
        have kl : k < i := by
          rcases Nat.lt_or_ge k i with q | q
          · exact q
          · rw [List.getElem?_eq_none (by omega)] at hr; cases hr
        have := g9 k kl
        rw [getD_of hr] at this
        exact this
      refine pc_bind (m_stepR _ _ _ _ _ _ _ _ _ _ _ _ _ _ nets parts pick drop cont makes per on_ netX stuckX dustX hC (gO L d) (wO L d) (fun r hr => ?_) (fun r hr => ?_) g7) (fun r1 q1 => pc_vlet (hk _ _ _ _ _ q1 g8))
      · unfold wO
        constructor
        · intro p1
          by_cases m : r ∈ L
          · obtain ⟨k, k1, k2⟩ := at9 r m
            rw [pv k r k2, pvl_1] at p1
            refine decide_eq_true (List.mem_of_getElem? (i := k - (d + 1)) ?_)
            rw [List.getElem?_drop, show d + 1 + (k - (d + 1)) = k by omega]
            exact k2
          · rw [g8 r hr m] at p1
            exact absurd p1 (by decide)
        · intro p1
          obtain ⟨k, k1, e⟩ := List.getElem_of_mem (of_decide_eq_true p1)
          have : (L.drop (d + 1))[k]? = some r := by rw [List.getElem?_eq_getElem k1, e]
          rw [List.getElem?_drop] at this
          rw [pv _ r this, pvl_1]
          omega
      · unfold gO
        constructor
        · intro p1
          by_cases m : r ∈ L
          · obtain ⟨k, k1, k2⟩ := at9 r m
            rw [pv k r k2, pvl_2] at p1
            rw [p1] at k2
            exact decide_eq_true k2
          · rw [g8 r hr m] at p1
            exact absurd p1 (by decide)
        · intro p1
          rw [pv d r (of_decide_eq_true p1), pvl_2]
    · rw [tI_le] at a
      have il : i < L.length := by omega
      have at9 := getD_at il
      have mq : L.getD i 0 ∈ L := List.mem_of_getElem? at9
      have q40 := h40 _ mq
      have ei : x7.toNatClampNeg = i := by rw [tI_nat]; omega
      have e7 : (x7 + 1).toInt = ((i + 1 : Nat) : Int) := by ((try simp only [tI_lt, tI_le, tI_eq, tI_add, tI_sub, tI_mul, tI_nat, Int32.reduceToInt, Int.reduceToNat, fe_0, fe_1, fe_2, fe_3, fe_4, fe_5]) <;> (try simp (disch := omega) only [tI_bm]) <;> omega)
      have eo : (c_order i).toNatClampNeg = L.getD i 0 := by
        have := g6 i (by omega)
        rw [tI_nat]; omega
      have go : ∀ y2 : Int32, y2 = pvl i d → Pc (if bad (c_order i) 40 = true then none else vlet (upd c_part (c_order i).toNatClampNeg y2) fun w2 => vlet (x7 + 1) fun t3 => f_X11_parts__82 k40 k73 c_side c_many c_one c_two c_kinds c_kindBits c_netOf c_stuck c_dusty c_ahead c_due n x1 x2 x3 x4 x5 x6 t3 c_state c_joined c_live c_ground w2 c_order c_picked c_after c_used) Q := fun y2 hy => by
        refine pc_bad (fun _ => pc_vlet (pc_vlet ?_))
        rw [eo]
        refine m_x82 k40 k73 c_side c_many c_one c_two c_kinds c_kindBits c_netOf c_stuck c_dusty c_ahead c_due nets parts pick drop cont makes per on_ netX stuckX dustX hC L n9 d hL h4 hD h40 n _ _ _ _ _ _ _ _ _ _ _ _ _ _ _ _ (i + 1) g1 g2 e7 (by omega) g6 g7 (fun r hr hn => ?_) (fun k hk9 => ?_) hk
        · rw [upd_at, if_neg (fun w => hn (by rw [w]; exact mq))]
          exact g8 r hr hn
        · rw [upd_at]
          by_cases z : k = i
          · rw [z, if_pos rfl, hy]
          · rw [if_neg (fun w => z (DST_inj L k i _ hD (by rw [getD_at (show k < L.length by omega), w]) at9))]
            exact g9 k (by omega)
      refine pc_bad (fun _ => ?_)
      rw [ei]
      refine pc_if (fun b => pc_if (fun c => go 2 ?_) (fun c => go 0 ?_)) (fun b => go 1 ?_)
      · rw [c] at g3
        exact ((pvl_2 i d).mpr (by omega)).symm
      · rw [tI_le] at b
        have c' : ¬ x7.toInt = x6.toInt := fun w => c (Int32.toInt_inj.mp w)
        unfold pvl
        rw [if_pos (by omega)]
      · rw [tI_le] at b
        exact ((pvl_1 i d).mpr (by omega)).symm
set_option maxHeartbeats 400000 in
theorem m_x142 (k40 : Int32 → Int32 → Int32 → Int32 → Int32 → (Nat → Int32) → (Nat → Int32) → (Nat → Int32) → (Nat → Int32) → (Nat → Int32) → (Nat → Int32) → (Nat → Int32) → (Nat → Int32) → (Nat → Int32) → Option (Int32 × (Nat → Int32) × (Nat → Int32) × (Nat → Int32) × (Nat → Int32) × (Nat → Int32) × (Nat → Int32) × (Nat → Int32) × (Nat → Int32) × (Nat → Int32))) (c_side : Int32) (c_many : Nat → Int32) (c_one : Nat → Int32) (c_two : Nat → Int32) (c_kinds : Nat → Int32) (c_kindBits : Nat → Int32) (c_netOf : Nat → Int32) (c_stuck : Nat → Int32) (c_dusty : Nat → Int32) (c_ahead : Nat → Int32) (c_due : Nat → Int32) {σ : Nat} (R : Nat) (hs : c_side.toInt = (σ : Int)) (hσ : σ ≤ 1) (hR : (c_many (5 * σ + 0)).toInt = R) (hR4 : R ≤ 40) (pi0 : Nat → Int32) {Q} : ∀ (n : Nat) (x1 : Int32) (x2 : Int32) (x3 : Int32) (x4 : Int32) (x5 : Int32) (x6 : Int32) (c_state : Nat → Int32) (c_joined : Nat → Int32) (c_live : Nat → Int32) (c_ground : Nat → Int32) (c_part : Nat → Int32) (c_order : Nat → Int32) (c_picked : Nat → Int32) (c_after : Nat → Int32) (c_used : Nat → Int32) (i : Nat), x6.toInt = i → i ≤ R → (x4 = 0 ∨ x4 = 1) → (∀ j, j < i → c_picked j = c_state j) → (∀ j, i ≤ j → j < R → c_picked j = pi0 j) → (x4 = 0 → x5.toInt ≤ 0 ∨ ∀ j, j < i → pi0 j = c_state j) → (x4 = 1 → 0 < x5.toInt ∧ ∃ j, j < i ∧ ¬ pi0 j = c_state j) → (∀ (v : Int32) (pi : Nat → Int32), (v = 0 ∨ v = 1) → (∀ j, j < R → pi j = c_state j) → (v = 0 → x5.toInt ≤ 0 ∨ ∀ j, j < R → pi0 j = c_state j) → (v = 1 → 0 < x5.toInt ∧ ∃ j, j < R ∧ ¬ pi0 j = c_state j) → Pc (k40 x1 x2 x3 v (x5 + 1) c_state c_joined c_live c_ground c_part c_order pi c_after c_used) Q) → Pc (f_X11_parts__142 k40 c_side c_many c_one c_two c_kinds c_kindBits c_netOf c_stuck c_dusty c_ahead c_due n x1 x2 x3 x4 x5 x6 c_state c_joined c_live c_ground c_part c_order c_picked c_after c_used) Q
  | 0, x1, x2, x3, x4, x5, x6, c_state, c_joined, c_live, c_ground, c_part, c_order, c_picked, c_after, c_used, i, g1, g2, g3, g4, g5, g6, g7, hk => pc_none
  | n + 1, x1, x2, x3, x4, x5, x6, c_state, c_joined, c_live, c_ground, c_part, c_order, c_picked, c_after, c_used, i, g1, g2, g3, g4, g5, g6, g7, hk => by
    unfold f_X11_parts__142 f_X11_parts__185 f_X11_parts__181
    refine pc_eq (m_here _ _ _ hs hσ 0 (by decide) (by decide)) ?_
    refine pc_if (fun a => pc_vlet ?_) (fun a => ?_)
    · rw [tI_le] at a
      have : i = R := by omega
      subst this
      exact hk x4 c_picked g3 g4 g6 g7
    rw [tI_le] at a
    have e6 : (x6 + 1).toInt = ((i + 1 : Nat) : Int) := by ((try simp only [tI_lt, tI_le, tI_eq, tI_add, tI_sub, tI_mul, tI_nat, Int32.reduceToInt, Int.reduceToNat, fe_0, fe_1, fe_2, fe_3, fe_4, fe_5]) <;> (try simp (disch := omega) only [tI_bm]) <;> omega)
    have ei : x6.toNatClampNeg = i := by rw [tI_nat]; omega
    have e0 : (0 + x6).toNatClampNeg = i := by rw [Int32.zero_add]; exact ei
    have pi9 := g5 i (Nat.le_refl _) (by omega)
    have go : ∀ y0 : Int32, (y0 = 0 ∨ y0 = 1) → (y0 = 0 → x5.toInt ≤ 0 ∨ ∀ j, j < i + 1 → pi0 j = c_state j) → (y0 = 1 → 0 < x5.toInt ∧ ∃ j, j < i + 1 ∧ ¬ pi0 j = c_state j) → Pc (f_X11_parts__186 k40 (f_X11_parts__142 k40 c_side c_many c_one c_two c_kinds c_kindBits c_netOf c_stuck c_dusty c_ahead c_due n) c_side c_many c_one c_two c_kinds c_kindBits c_netOf c_stuck c_dusty c_ahead c_due x1 x2 x3 x5 x6 y0 c_state c_joined c_live c_ground c_part c_order c_picked c_after c_used) Q := by
      intro y0 h3 h6 h7
      unfold f_X11_parts__186
      refine pc_bad (fun _ => pc_vlet (pc_bad (fun _ => pc_vlet (pc_vlet ?_))))
      rw [e0, ei]
      refine m_x142 k40 c_side c_many c_one c_two c_kinds c_kindBits c_netOf c_stuck c_dusty c_ahead c_due R hs hσ hR hR4 pi0 n _ _ _ _ _ _ _ _ _ _ _ _ _ _ _ (i + 1) e6 (by omega) h3 (fun j hj => ?_) (fun j h1 h2 => ?_) h6 h7 hk
      · rw [upd_at]
        by_cases z : j = i
        · rw [if_pos z, z]
        · rw [if_neg z]; exact g4 j (by omega)
      · rw [upd_at, if_neg (by omega)]
        exact g5 j (by omega) h2
    have one9 : x4 = 1 → Pc (f_X11_parts__186 k40 (f_X11_parts__142 k40 c_side c_many c_one c_two c_kinds c_kindBits c_netOf c_stuck c_dusty c_ahead c_due n) c_side c_many c_one c_two c_kinds c_kindBits c_netOf c_stuck c_dusty c_ahead c_due x1 x2 x3 x5 x6 (1 : Int32) c_state c_joined c_live c_ground c_part c_order c_picked c_after c_used) Q := fun z => by
      obtain ⟨y1, j, y2, y3⟩ := g7 z
      exact go 1 (.inr rfl) (fun q => absurd q (by decide)) (fun _ => ⟨y1, j, by omega, y3⟩)
    refine pc_if (fun b => pc_if (fun c => ?_) (fun c => pc_bad (fun _ => pc_bad (fun _ => ?_)))) (fun b => one9 (g3.resolve_left b))
    · rw [tI_le, l_0] at c
      exact go 0 (.inl rfl) (fun _ => .inl c) (fun q => absurd q (by decide))
    · rw [tI_le, l_0] at c
      rw [e0, ei]
      refine pc_if (fun y => ?_) (fun y => ?_)
      · refine go 0 (.inl rfl) (fun _ => .inr (fun j hj => ?_)) (fun q => absurd q (by decide))
        by_cases z : j = i
        · rw [z, ← pi9]; exact y
        · rcases g6 b with w | w
          · exact absurd w c
          · exact w j (by omega)
      · exact go 1 (.inr rfl) (fun q => absurd q (by decide)) (fun _ => ⟨by omega, i, by omega, fun q => y (pi9.trans q)⟩)
set_option maxHeartbeats 400000 in
theorem m_x73 (k40 : Int32 → Int32 → Int32 → Int32 → Int32 → (Nat → Int32) → (Nat → Int32) → (Nat → Int32) → (Nat → Int32) → (Nat → Int32) → (Nat → Int32) → (Nat → Int32) → (Nat → Int32) → (Nat → Int32) → Option (Int32 × (Nat → Int32) × (Nat → Int32) × (Nat → Int32) × (Nat → Int32) × (Nat → Int32) × (Nat → Int32) × (Nat → Int32) × (Nat → Int32) × (Nat → Int32))) (c_side : Int32) (c_many : Nat → Int32) (c_one : Nat → Int32) (c_two : Nat → Int32) (c_kinds : Nat → Int32) (c_kindBits : Nat → Int32) (c_netOf : Nat → Int32) (c_stuck : Nat → Int32) (c_dusty : Nat → Int32) (c_ahead : Nat → Int32) (c_due : Nat → Int32) {S : List StT} {σ : Nat} (nets : Int32) (parts pick drop cont makes per on_ netX stuckX dustX : Nat → Int32) (hC : CTX S σ nets parts pick drop cont makes per on_ netX stuckX dustX c_one c_two c_kinds c_kindBits c_netOf c_stuck c_dusty c_many c_side) (R : Nat) (hs : c_side.toInt = (σ : Int)) (hσ : σ ≤ 1) (hR : (c_many (5 * σ + 0)).toInt = R) (hR4 : R ≤ 40) (L : List Nat) (n9 T : Nat) (hL : L.length = n9) (h4 : n9 ≤ 4) (hD : DST L) (h40 : ∀ r, r ∈ L → r < 40) (hT : T ≤ 100) (s0 : Nat → Int32) {Q} : ∀ (n : Nat) (x1 : Int32) (x2 : Int32) (x3 : Int32) (x4 : Int32) (x5 : Int32) (x6 : Int32) (c_state : Nat → Int32) (c_joined : Nat → Int32) (c_live : Nat → Int32) (c_ground : Nat → Int32) (c_part : Nat → Int32) (c_order : Nat → Int32) (c_picked : Nat → Int32) (c_after : Nat → Int32) (c_used : Nat → Int32) (d : Nat), x1.toInt = n9 → x2.toInt = T → x4 = 0 → x6.toInt = d → d ≤ T → (∀ k, k < n9 → (c_order k).toInt = L.getD k 0) → RUN S σ c_one c_two c_kindBits c_stuck c_dusty c_netOf L d s0 c_state → (∀ r, r < 40 → c_state r = 0 ∨ c_state r = 1) → (∀ r, r < 40 → r ∉ L → c_part r = 0) → (∀ (v : Int32) (st jo li gr pa pi : Nat → Int32), RUN S σ c_one c_two c_kindBits c_stuck c_dusty c_netOf L T s0 st → (∀ r, r < 40 → st r = 0 ∨ st r = 1) → (∀ r, r < 40 → r ∉ L → pa r = 0) → (v = 0 ∨ v = 1) → (∀ j, j < R → pi j = st j) → (v = 0 → x5.toInt ≤ 0 ∨ ∀ j, j < R → c_picked j = st j) → (v = 1 → 0 < x5.toInt ∧ ∃ j, j < R ∧ ¬ c_picked j = st j) → Pc (k40 x1 x2 x3 v (x5 + 1) st jo li gr pa c_order pi c_after c_used) Q) → Pc (f_X11_parts__73 k40 c_side c_many c_one c_two c_kinds c_kindBits c_netOf c_stuck c_dusty c_ahead c_due n x1 x2 x3 x4 x5 x6 c_state c_joined c_live c_ground c_part c_order c_picked c_after c_used) Q
  | 0, x1, x2, x3, x4, x5, x6, c_state, c_joined, c_live, c_ground, c_part, c_order, c_picked, c_after, c_used, d, g1, g2, g3, g5, g6, g7, g8, g9, g10, hk => pc_none
  | n + 1, x1, x2, x3, x4, x5, x6, c_state, c_joined, c_live, c_ground, c_part, c_order, c_picked, c_after, c_used, d, g1, g2, g3, g5, g6, g7, g8, g9, g10, hk => by
    unfold f_X11_parts__73
    refine pc_if (fun a => ?_) (fun a => ?_)
    · rw [tI_le] at a
      have : d = T := by omega
      subst this
      exact m_x142 k40 c_side c_many c_one c_two c_kinds c_kindBits c_netOf c_stuck c_dusty c_ahead c_due R hs hσ hR hR4 c_picked FU _ _ _ _ _ _ _ _ _ _ _ _ _ _ _ 0 (by decide) (Nat.zero_le _) (.inl g3) (fun j hj => absurd hj (Nat.not_lt_zero _)) (fun j _ _ => rfl) (fun _ => .inr (fun j hj => absurd hj (Nat.not_lt_zero _))) (fun q => by rw [g3] at q; exact absurd q (by decide)) (fun v pi h1 h2 h3 h4 => hk v _ _ _ _ _ pi g8 g9 g10 h1 h2 h3 h4)
    · rw [tI_le] at a
      have e6 : (x6 + 1).toInt = ((d + 1 : Nat) : Int) := by ((try simp only [tI_lt, tI_le, tI_eq, tI_add, tI_sub, tI_mul, tI_nat, Int32.reduceToInt, Int.reduceToNat, fe_0, fe_1, fe_2, fe_3, fe_4, fe_5]) <;> (try simp (disch := omega) only [tI_bm]) <;> omega)
      refine m_x82 k40 (f_X11_parts__73 k40 c_side c_many c_one c_two c_kinds c_kindBits c_netOf c_stuck c_dusty c_ahead c_due n) c_side c_many c_one c_two c_kinds c_kindBits c_netOf c_stuck c_dusty c_ahead c_due nets parts pick drop cont makes per on_ netX stuckX dustX hC L n9 d hL h4 hD h40 FU _ _ _ _ _ _ _ _ _ _ _ _ _ _ _ _ 0 g1 g5 (by decide) (Nat.zero_le _) g7 g9 g10 (fun k hk => absurd hk (Nat.not_lt_zero _)) (fun st jo li gr pa k1 k2 => ?_)
      exact m_x73 k40 c_side c_many c_one c_two c_kinds c_kindBits c_netOf c_stuck c_dusty c_ahead c_due nets parts pick drop cont makes per on_ netX stuckX dustX hC R hs hσ hR hR4 L n9 T hL h4 hD h40 hT s0 n _ _ _ _ _ _ _ _ _ _ _ _ _ _ _ (d + 1) g1 g2 g3 e6 (by omega) g7 ⟨c_state, g8, k1⟩ (STP_01 c_one c_two c_kindBits c_stuck c_dusty c_netOf k1 g9).1 k2 hk
set_option maxHeartbeats 400000 in
theorem m_x219 (c_side : Int32) (c_many : Nat → Int32) (c_one : Nat → Int32) (c_two : Nat → Int32) (c_kinds : Nat → Int32) (c_kindBits : Nat → Int32) (c_netOf : Nat → Int32) (c_stuck : Nat → Int32) (c_dusty : Nat → Int32) (c_ahead : Nat → Int32) (c_due : Nat → Int32) (v0 : Int32) (af : Nat → Int32) : ∀ (n : Nat) (x4 : Int32) (x5 : Int32) (c_state : Nat → Int32) (c_joined : Nat → Int32) (c_live : Nat → Int32) (c_ground : Nat → Int32) (c_part : Nat → Int32) (c_order : Nat → Int32) (c_picked : Nat → Int32) (c_after : Nat → Int32) (c_used : Nat → Int32) (k : Nat), x4 = v0 → c_after = af → x5.toInt = k → k ≤ 40 → (∀ i, i < k → c_part i = 0) → Pc (f_X11_parts__219 c_side c_many c_one c_two c_kinds c_kindBits c_netOf c_stuck c_dusty c_ahead c_due n x4 x5 c_state c_joined c_live c_ground c_part c_order c_picked c_after c_used) (fun r => r.1 = v0 ∧ Q345 r.2.1 af ∧ Z40 r.2.2.2.2.2.1)
  | 0, x4, x5, c_state, c_joined, c_live, c_ground, c_part, c_order, c_picked, c_after, c_used, k, e1, e2, h1, h2, h3 => pc_none
  | n + 1, x4, x5, c_state, c_joined, c_live, c_ground, c_part, c_order, c_picked, c_after, c_used, k, e1, e2, h1, h2, h3 => by
    unfold f_X11_parts__219
    refine pc_if (fun a => pc_bind (m_copy _ _) (fun r1 q1 => pc_if (fun _ => pc_some ⟨e1, fun i hi => by rw [← e2]; exact q1 i hi, fun i hi => h3 i ?_⟩) (fun _ => pc_none))) (fun a => ?_)
    · rw [tI_le, l_40] at a; omega
    rw [tI_le, l_40] at a
    have ek : x5.toNatClampNeg = k := by rw [tI_nat]; omega
    refine pc_bad (fun _ => pc_vlet (pc_vlet ?_))
    rw [ek]
    refine m_x219 c_side c_many c_one c_two c_kinds c_kindBits c_netOf c_stuck c_dusty c_ahead c_due v0 af n _ _ _ _ _ _ _ _ _ _ _ (k + 1) e1 e2 (by ((try simp only [tI_lt, tI_le, tI_eq, tI_add, tI_sub, tI_mul, tI_nat, Int32.reduceToInt, Int.reduceToNat, fe_0, fe_1, fe_2, fe_3, fe_4, fe_5]) <;> (try simp (disch := omega) only [tI_bm]) <;> omega)) (by omega) (fun i hi => ?_)
    rw [upd_at]
    by_cases z : i = k
    · rw [if_pos z]
    · rw [if_neg z]; exact h3 i (by omega)
set_option maxHeartbeats 400000 in
theorem m_x40 (c_side : Int32) (c_many : Nat → Int32) (c_one : Nat → Int32) (c_two : Nat → Int32) (c_kinds : Nat → Int32) (c_kindBits : Nat → Int32) (c_netOf : Nat → Int32) (c_stuck : Nat → Int32) (c_dusty : Nat → Int32) (c_ahead : Nat → Int32) (c_due : Nat → Int32) {S : List StT} {σ : Nat} (nets : Int32) (parts pick drop cont makes per on_ netX stuckX dustX : Nat → Int32) (hC : CTX S σ nets parts pick drop cont makes per on_ netX stuckX dustX c_one c_two c_kinds c_kindBits c_netOf c_stuck c_dusty c_many c_side) (R : Nat) (hs : c_side.toInt = (σ : Int)) (hσ : σ ≤ 1) (hR : (c_many (5 * σ + 0)).toInt = R) (hRS : R = cnt 0 S) (hR4 : R ≤ 40) (dl : List Nat) (n9 T : Nat) (hdn : dl.length = n9) (h4 : n9 ≤ 4) (hD : DST dl) (h40 : ∀ r, r ∈ dl → r < 40) (hT : T ≤ 100) (hdl : ∀ k, k < n9 → (c_due k).toInt = dl.getD k 0) (ha : ∀ r, r < 40 → c_ahead r = 0 ∨ c_ahead r = 1) (af : Nat → Int32) : ∀ (n : Nat) (x1 : Int32) (x2 : Int32) (x3 : Int32) (x4 : Int32) (x5 : Int32) (c_state : Nat → Int32) (c_joined : Nat → Int32) (c_live : Nat → Int32) (c_ground : Nat → Int32) (c_part : Nat → Int32) (c_order : Nat → Int32) (c_picked : Nat → Int32) (c_after : Nat → Int32) (c_used : Nat → Int32) (p : Nat), x1.toInt = n9 → x2.toInt = T → x3.toInt = fct n9 → (x4 = 0 ∨ x4 = 1) → x5.toInt = p → p ≤ fct n9 → 1 ≤ fct n9 → (∀ r, r < 40 → r ∉ dl → c_part r = 0) → c_after = af → (x4 = 0 → ∀ o, o < p → ∃ a, RUN S σ c_one c_two c_kindBits c_stuck c_dusty c_netOf (sqM n9 dl o) T c_ahead a ∧ (∀ r, r < 40 → a r = 0 ∨ a r = 1) ∧ ∀ j, j < R → c_picked j = a j) → (x4 = 1 → DIF S σ c_one c_two c_kindBits c_stuck c_dusty c_netOf (fun p => sqM n9 dl p) (fct n9) T c_ahead) → Pc (f_X11_parts__40 c_side c_many c_one c_two c_kinds c_kindBits c_netOf c_stuck c_dusty c_ahead c_due n x1 x2 x3 x4 x5 c_state c_joined c_live c_ground c_part c_order c_picked c_after c_used) (fun r => ((r.1 = 1 ∧ DIF S σ c_one c_two c_kindBits c_stuck c_dusty c_netOf (fun p => sqM n9 dl p) (fct n9) T c_ahead) ∨ (r.1 = 0 ∧ SAM S σ c_one c_two c_kindBits c_stuck c_dusty c_netOf (fun p => sqM n9 dl p) (fct n9) T c_ahead)) ∧ Q345 r.2.1 af ∧ Z40 r.2.2.2.2.2.1)
  | 0, x1, x2, x3, x4, x5, c_state, c_joined, c_live, c_ground, c_part, c_order, c_picked, c_after, c_used, p, g1, g2, g3, g4, g5, g6, f1, g7, g8, g9, g10 => pc_none
  | n + 1, x1, x2, x3, x4, x5, c_state, c_joined, c_live, c_ground, c_part, c_order, c_picked, c_after, c_used, p, g1, g2, g3, g4, g5, g6, f1, g7, g8, g9, g10 => by
    unfold f_X11_parts__40 f_X11_parts__216
    have f24 : fct n9 ≤ 24 := by
      have : n9 = 0 ∨ n9 = 1 ∨ n9 = 2 ∨ n9 = 3 ∨ n9 = 4 := by omega
      rcases this with e | e | e | e | e <;> subst e <;> decide
    have out := m_x219 c_side c_many c_one c_two c_kinds c_kindBits c_netOf c_stuck c_dusty c_ahead c_due x4 af FU x4 0 c_state c_joined c_live c_ground c_part c_order c_picked c_after c_used 0 rfl g8 (by decide) (by decide) (fun i hi => absurd hi (Nat.not_lt_zero _))
    have same : ∀ (o1 o2 : Nat) (a b : Nat → Int32), RUN S σ c_one c_two c_kindBits c_stuck c_dusty c_netOf (sqM n9 dl o1) T c_ahead a → RUN S σ c_one c_two c_kindBits c_stuck c_dusty c_netOf (sqM n9 dl o2) T c_ahead b → (∀ j, j < R → a j = b j) → OEQ a b := fun o1 o2 a b ra rb h i hi => by
      unfold mB
      by_cases z : i < R
      · rw [h i z]
      · rw [(RUN_01 c_one c_two c_kindBits c_stuck c_dusty c_netOf T ra ha).2 i (by omega) hi, (RUN_01 c_one c_two c_kindBits c_stuck c_dusty c_netOf T rb ha).2 i (by omega) hi]
    refine pc_if (fun a => ?_) (fun a => pc_if (fun b => ?_) (fun b => ?_))
    · rw [tI_le] at a
      have pf : p = fct n9 := by omega
      refine pc_mono out (fun r hr => ⟨?_, hr.2⟩)
      rcases g4 with z | z
      · refine .inr ⟨hr.1.trans z, ?_⟩
        obtain ⟨c, rc, c01, ec⟩ := g9 z 0 (by omega)
        refine ⟨c, fun o ho => ?_⟩
        obtain ⟨a9, ra, a01, ea⟩ := g9 z o (by omega)
        exact ⟨a9, ra, same o 0 a9 c ra rc (fun j hj => by rw [← ea j hj, ← ec j hj])⟩
      · exact .inl ⟨hr.1.trans z, g10 z⟩
    · rw [tI_le] at a
      have e5 : (x5 + 1).toInt = ((p + 1 : Nat) : Int) := by ((try simp only [tI_lt, tI_le, tI_eq, tI_add, tI_sub, tI_mul, tI_nat, Int32.reduceToInt, Int.reduceToNat, fe_0, fe_1, fe_2, fe_3, fe_4, fe_5]) <;> (try simp (disch := omega) only [tI_bm]) <;> omega)
      have hp : p < fct n9 := by omega
      refine pc_bind (m_arrange _ _ _ _ _ n9 p h4 dl hdn hdl hp g5 g1) (fun r1 q1 => pc_bind (m_copy _ _) (fun r2 q2 => ?_))
      obtain ⟨sl, sm⟩ := sqM_ok n9 dl p hdn hp
      have sd := sqM_DST n9 dl p hD hdn hp
      refine m_x73 (f_X11_parts__40 c_side c_many c_one c_two c_kinds c_kindBits c_netOf c_stuck c_dusty c_ahead c_due n) c_side c_many c_one c_two c_kinds c_kindBits c_netOf c_stuck c_dusty c_ahead c_due nets parts pick drop cont makes per on_ netX stuckX dustX hC R hs hσ hR hR4 (sqM n9 dl p) n9 T sl h4 sd (fun r hr => h40 r ((sm r).mp hr)) hT c_ahead FU _ _ _ _ _ _ _ _ _ _ _ _ _ _ _ 0 g1 g2 b (by decide) (Nat.zero_le _) q1 (fun i hi => (q2 i hi).symm) (fun r hr => by rw [q2 r (by omega)]; exact ha r hr) (fun r hr hn => g7 r hr (fun q => hn ((sm r).mpr q))) (fun v st jo li gr pa pi k1 k2 k3 k4 k5 k6 k7 => ?_)
      refine m_x40 c_side c_many c_one c_two c_kinds c_kindBits c_netOf c_stuck c_dusty c_ahead c_due nets parts pick drop cont makes per on_ netX stuckX dustX hC R hs hσ hR hRS hR4 dl n9 T hdn h4 hD h40 hT hdl ha af n _ _ _ _ _ _ _ _ _ _ _ _ _ _ (p + 1) g1 g2 g3 k4 e5 (by omega) f1 (fun r hr hn => k3 r hr (fun q => hn ((sm r).mp q))) g8 (fun v0 o ho => ?_) (fun v1 => ?_)
      · by_cases z : o = p
        · subst z
          exact ⟨st, k1, k2, k5⟩
        · obtain ⟨a9, ra, a01, ea⟩ := g9 b o (by omega)
          refine ⟨a9, ra, a01, fun j hj => ?_⟩
          rcases k6 v0 with w | w
          · omega
          · rw [k5 j hj, ← w j hj, ea j hj]
      · obtain ⟨y1, j, y2, y3⟩ := k7 v1
        obtain ⟨a9, ra, a01, ea⟩ := g9 b 0 (by omega)
        refine ⟨0, p, a9, st, by omega, hp, ra, k1, fun q => ?_⟩
        have m := q j (by omega)
        unfold mB at m
        rw [ea j y2] at y3
        rcases a01 j (by omega) with u | u <;> rcases k2 j (by omega) with w | w <;> rw [u, w] at m y3
        · exact y3 rfl
        · exact absurd m (by decide)
        · exact absurd m (by decide)
        · exact y3 rfl
    · refine pc_mono out (fun r hr => ⟨?_, hr.2⟩)
      have z := g4.resolve_left b
      exact .inl ⟨hr.1.trans z, g10 z⟩
set_option maxHeartbeats 400000 in
theorem m_xparts (x1 : Int32) (x2 : Int32) (c_side : Int32) (c_many : Nat → Int32) (c_one : Nat → Int32) (c_two : Nat → Int32) (c_kinds : Nat → Int32) (c_kindBits : Nat → Int32) (c_netOf : Nat → Int32) (c_state : Nat → Int32) (c_stuck : Nat → Int32) (c_dusty : Nat → Int32) (c_joined : Nat → Int32) (c_live : Nat → Int32) (c_ground : Nat → Int32) (c_part : Nat → Int32) (c_ahead : Nat → Int32) (c_due : Nat → Int32) (c_order : Nat → Int32) (c_picked : Nat → Int32) (c_after : Nat → Int32) (c_used : Nat → Int32) {S : List StT} {σ : Nat} (nets : Int32) (parts pick drop cont makes per on_ netX stuckX dustX : Nat → Int32) (hC : CTX S σ nets parts pick drop cont makes per on_ netX stuckX dustX c_one c_two c_kinds c_kindBits c_netOf c_stuck c_dusty c_many c_side) (R : Nat) (hs : c_side.toInt = (σ : Int)) (hσ : σ ≤ 1) (hR : (c_many (5 * σ + 0)).toInt = R) (hRS : R = cnt 0 S) (hR4 : R ≤ 40) (dl : List Nat) (n9 T : Nat) (hdn : dl.length = n9) (h4 : n9 ≤ 4) (hD : DST dl) (h40 : ∀ r, r ∈ dl → r < 40) (hT : T ≤ 100) (hdl : ∀ k, k < n9 → (c_due k).toInt = dl.getD k 0) (ha : ∀ r, r < 40 → c_ahead r = 0 ∨ c_ahead r = 1) (hn2 : 2 ≤ n9) (hz : Z40 c_part) (hx1 : x1.toInt = n9) (hx2 : x2.toInt = T) : Pc (f_X11_parts_ x1 x2 c_side c_many c_one c_two c_kinds c_kindBits c_netOf c_state c_stuck c_dusty c_joined c_live c_ground c_part c_ahead c_due c_order c_picked c_after c_used) (fun r => ((r.1 = 1 ∧ DIF S σ c_one c_two c_kindBits c_stuck c_dusty c_netOf (fun p => sqM n9 dl p) (fct n9) T c_ahead) ∨ (r.1 = 0 ∧ SAM S σ c_one c_two c_kindBits c_stuck c_dusty c_netOf (fun p => sqM n9 dl p) (fct n9) T c_ahead)) ∧ Q345 r.2.1 c_state ∧ Z40 r.2.2.2.2.2.1) := by
  unfold f_X11_parts_ f_X11_parts__33
  refine pc_bind (m_copy _ _) (fun r1 q1 => ?_)
  have go : ∀ y0 : Int32, y0.toInt = fct n9 → Pc (f_X11_parts__40 c_side c_many c_one c_two c_kinds c_kindBits c_netOf c_stuck c_dusty c_ahead c_due FU x1 x2 y0 (0 : Int32) (0 : Int32) c_state c_joined c_live c_ground c_part c_order c_picked r1 c_used) (fun r => ((r.1 = 1 ∧ DIF S σ c_one c_two c_kindBits c_stuck c_dusty c_netOf (fun p => sqM n9 dl p) (fct n9) T c_ahead) ∨ (r.1 = 0 ∧ SAM S σ c_one c_two c_kindBits c_stuck c_dusty c_netOf (fun p => sqM n9 dl p) (fct n9) T c_ahead)) ∧ Q345 r.2.1 c_state ∧ Z40 r.2.2.2.2.2.1) := fun y0 hy => by
    refine pc_mono (m_x40 c_side c_many c_one c_two c_kinds c_kindBits c_netOf c_stuck c_dusty c_ahead c_due nets parts pick drop cont makes per on_ netX stuckX dustX hC R hs hσ hR hRS hR4 dl n9 T hdn h4 hD h40 hT hdl ha r1 FU x1 x2 y0 0 0 c_state c_joined c_live c_ground c_part c_order c_picked r1 c_used 0 hx1 hx2 hy (.inl rfl) (by decide) (Nat.zero_le _) (fct_pos n9) (fun r hr _ => hz r hr) rfl (fun _ o ho => absurd ho (Nat.not_lt_zero _)) (fun q => absurd q (by decide))) (fun r hr => ⟨hr.1, fun i hi => (hr.2.1 i hi).trans (q1 i hi), hr.2.2⟩)
  refine pc_if (fun a => go 2 ?_) (fun a => pc_if (fun b => go 6 ?_) (fun b => go 24 ?_))
  · have : n9 = 2 := by rw [a] at hx1; have : (2 : Int) = (n9 : Int) := hx1; omega
    rw [this]; decide
  · have : n9 = 3 := by rw [b] at hx1; have : (3 : Int) = (n9 : Int) := hx1; omega
    rw [this]; decide
  · have a2 : n9 ≠ 2 := fun q => a (Int32.toInt_inj.mp (by rw [hx1, q]; decide))
    have b2 : n9 ≠ 3 := fun q => b (Int32.toInt_inj.mp (by rw [hx1, q]; decide))
    have : n9 = 4 := by omega
    rw [this]; decide
