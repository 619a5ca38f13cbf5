/-! two computations side by side -/
def P2 {α β : Type} (o1 : Option α) (o2 : Option β) (R : α → β → Prop) : Prop := ∀ a b, o1 = some a → o2 = some b → R a b
set_option maxHeartbeats 400000 in
theorem p2_some {α β : Type} {a : α} {b : β} {R : α → β → Prop} (h : R a b) : P2 (some a) (some b) R := fun x y e f => by
  injection e with e; injection f with f
  rw [← e, ← f]; exact h
set_option maxHeartbeats 400000 in
theorem p2_of {α β : Type} {o1 : Option α} {o2 : Option β} {R : α → β → Prop} (h : Pc o1 (fun a => Pc o2 (fun b => R a b))) : P2 o1 o2 R := fun a b e f => h a e b f
set_option maxHeartbeats 400000 in
theorem p2_l {α β γ : Type} {o : Option γ} {f : γ → Option α} {o2 : Option β} {P : γ → Prop} {R : α → β → Prop} (h : Pc o P) (k : ∀ r, P r → P2 (f r) o2 R) : P2 (o.bind f) o2 R := fun a b e g => by
  cases ho : o with
  | none => rw [ho] at e; cases e
  | some r =>
    rw [ho] at e
    exact k r (h r ho) a b e g
set_option maxHeartbeats 400000 in
theorem p2_r {α β γ : Type} {o : Option γ} {f : γ → Option β} {o1 : Option α} {P : γ → Prop} {R : α → β → Prop} (h : Pc o P) (k : ∀ r, P r → P2 o1 (f r) R) : P2 o1 (o.bind f) R := fun a b e g => by
  cases ho : o with
  | none => rw [ho] at g; cases g
  | some r =>
    rw [ho] at g
    exact k r (h r ho) a b e g
set_option maxHeartbeats 400000 in
theorem p2_n1 {α β : Type} {o2 : Option β} {R : α → β → Prop} : P2 (none : Option α) o2 R := fun _ _ e => by cases e
set_option maxHeartbeats 400000 in
theorem p2_n2 {α β : Type} {o1 : Option α} {R : α → β → Prop} : P2 o1 (none : Option β) R := fun _ _ _ e => by cases e
set_option maxHeartbeats 400000 in
theorem p2_if1 {α β : Type} {c : Prop} {_ : Decidable c} {a b : Option α} {o2 : Option β} {R : α → β → Prop} (h1 : c → P2 a o2 R) (h2 : ¬ c → P2 b o2 R) : P2 (if c then a else b) o2 R := by
  by_cases h : c
  · rw [if_pos h]; exact h1 h
  · rw [if_neg h]; exact h2 h
set_option maxHeartbeats 400000 in
theorem p2_if2 {α β : Type} {c : Prop} {_ : Decidable c} {a b : Option β} {o1 : Option α} {R : α → β → Prop} (h1 : c → P2 o1 a R) (h2 : ¬ c → P2 o1 b R) : P2 o1 (if c then a else b) R := by
  by_cases h : c
  · rw [if_pos h]; exact h1 h
  · rw [if_neg h]; exact h2 h
set_option maxHeartbeats 400000 in
theorem p2_v1 {α β γ : Type} {e : γ} {k : γ → Option α} {o2 : Option β} {R : α → β → Prop} (h : P2 (k e) o2 R) : P2 (vlet e k) o2 R := h
set_option maxHeartbeats 400000 in
theorem p2_v2 {α β γ : Type} {e : γ} {k : γ → Option β} {o1 : Option α} {R : α → β → Prop} (h : P2 o1 (k e) R) : P2 o1 (vlet e k) R := h
set_option maxHeartbeats 400000 in
theorem p2_b1 {α β : Type} {i : Int32} {n : Nat} {a : Option α} {o2 : Option β} {R : α → β → Prop} (h : 0 ≤ i.toInt ∧ i.toInt < n → P2 a o2 R) : P2 (if bad i n = true then none else a) o2 R := p2_if1 (fun _ => p2_n1) (fun q => h (bad_n q))
set_option maxHeartbeats 400000 in
theorem p2_b2 {α β : Type} {i : Int32} {n : Nat} {a : Option β} {o1 : Option α} {R : α → β → Prop} (h : 0 ≤ i.toInt ∧ i.toInt < n → P2 o1 a R) : P2 o1 (if bad i n = true then none else a) R := p2_if2 (fun _ => p2_n2) (fun q => h (bad_n q))
/-! the state's copies -/
set_option maxHeartbeats 400000 in
theorem SR_cg {nk : Nat → Nat} {p : Int64} {k t : Int32} {c po s c2 po2 s2 : Nat → Int32} (h : SR nk p k t c po s) (h1 : ∀ i, i < 40 → c2 i = c i) (h2 : ∀ i, i < 40 → po2 i = po i) (h3 : ∀ i, i < 345 → s2 i = s i) : SR nk p k t c2 po2 s2 := by
  obtain ⟨a, b, d, e, f, g, i⟩ := h
  refine ⟨fun j hj => ?_, b, fun j hj => by rw [h3 _ (by omega)]; exact d j hj, by rw [h3 _ (by decide)]; exact e, fun j hj => by rw [h1 j hj, h3 _ (by omega)]; exact f j hj, fun r q hr hq => by rw [h3 _ (by omega), h2 r hr]; exact g r q hr hq, fun r hr hz => by rw [h2 r hr]; exact i r hr hz⟩
  have := a j hj
  unfold mB at this ⊢
  rw [h3 j (by omega)]
  exact this
set_option maxHeartbeats 400000 in
theorem CIV_cg {R : Nat} {tp td s s2 : Nat → Int32} (hR : R ≤ 40) (h : CIV R tp td (mB s) (fun i => s (40 + i))) (h3 : ∀ i, i < 345 → s2 i = s i) : CIV R tp td (mB s2) (fun i => s2 (40 + i)) := fun r hr => by
  have := h r hr
  dsimp only at this ⊢
  unfold mB at this ⊢
  rw [h3 _ (by omega), h3 _ (by omega)]
  exact this
set_option maxHeartbeats 400000 in
theorem va_cpy_at (a b : Nat → Int32) (i : Nat) (h : i < 40) : va_cpy a b (0 : Int32).toNatClampNeg (0 : Int32).toNatClampNeg (40 : Int32).toNatClampNeg i = a i := by
  rw [show (0 : Int32).toNatClampNeg = 0 from by decide, show (40 : Int32).toNatClampNeg = 40 from by decide]
  unfold va_cpy
  rw [if_pos ⟨Nat.zero_le _, by omega⟩]
  congr 1
  omega
set_option maxHeartbeats 400000 in
theorem x_copy (c_picked : Int64) (c_keys : Int32) (c_time : Int32) (c_counts : Nat → Int32) (c_positions : Nat → Int32) (c_p1_picked : Int64) (c_p1_keys : Int32) (c_p1_time : Int32) (c_p1_counts : Nat → Int32) (c_p1_positions : Nat → Int32) : Pc (f_X6_copy c_picked c_keys c_time c_counts c_positions c_p1_picked c_p1_keys c_p1_time c_p1_counts c_p1_positions) (fun r => r.1 = c_p1_picked ∧ r.2.1 = c_p1_keys ∧ r.2.2.1 = c_p1_time ∧ (∀ i, i < 40 → r.2.2.2.1 i = c_p1_counts i) ∧ ∀ i, i < 40 → r.2.2.2.2 i = c_p1_positions i) := by
  unfold f_X6_copy
  exact pc_if (fun _ => pc_vlet (pc_if (fun _ => pc_vlet (pc_some ⟨rfl, rfl, rfl, fun i hi => va_cpy_at _ _ i hi, fun i hi => va_cpy_at _ _ i hi⟩)) (fun _ => pc_none))) (fun _ => pc_none)
set_option maxHeartbeats 400000 in
theorem x_keep (c_next : Int32) (c_size : Int32) (c_p1_picked : Int64) (c_p1_keys : Int32) (c_p1_time : Int32) (c_p1_counts : Nat → Int32) (c_p1_positions : Nat → Int32) (c_slot_picked : Int64) (c_slot_keys : Int32) (c_slot_time : Int32) (c_slot_counts : Nat → Int32) (c_slot_positions : Nat → Int32) : Pc (f_X1_keep c_next c_size c_p1_picked c_p1_keys c_p1_time c_p1_counts c_p1_positions c_slot_picked c_slot_keys c_slot_time c_slot_counts c_slot_positions) (fun r => r.1 = xrem (c_next + 1) 100 ∧ r.2.1 = xmin 100 (c_size + 1) ∧ r.2.2.1 = c_p1_picked ∧ r.2.2.2.1 = c_p1_keys ∧ r.2.2.2.2.1 = c_p1_time ∧ (∀ i, i < 40 → r.2.2.2.2.2.1 i = c_p1_counts i) ∧ ∀ i, i < 40 → r.2.2.2.2.2.2 i = c_p1_positions i) := by
  unfold f_X1_keep
  exact pc_bad (fun _ => pc_bind (x_copy _ _ _ _ _ _ _ _ _ _) (fun r h => pc_vlet (pc_vlet (pc_some ⟨rfl, rfl, h⟩))))
set_option maxHeartbeats 400000 in
theorem m_keep_15 (c_state : Nat → Int32) (L : Nat) (hL : L < 100) (p0 : Nat → Int32) (kp lt : Int32) : ∀ (n : Nat) (x1 : Int32) (c_kept : Int32) (c_latest : Int32) (c_past : Nat → Int32) (k : Nat), x1.toInt = k → k ≤ 345 → c_kept = kp → c_latest = lt → lt.toInt = L → (∀ i, c_past i = if 345 * L ≤ i ∧ i < 345 * L + k then c_state (i - 345 * L) else p0 i) → Pc (f_X11_keep_15 c_state n x1 c_kept c_latest c_past) (fun r => r.1 = xmin 100 (kp + 1) ∧ r.2.1 = lt ∧ ∀ i, r.2.2 i = if 345 * L ≤ i ∧ i < 345 * L + 345 then c_state (i - 345 * L) else p0 i)
  | 0, x1, c_kept, c_latest, c_past, k, h1, h2, e1, e2, e3, hp => pc_none
  | n + 1, x1, c_kept, c_latest, c_past, k, h1, h2, e1, e2, e3, hp => by
    unfold f_X11_keep_15
    subst e1 e2
    refine pc_if (fun a => pc_vlet ?_) (fun a => ?_)
    · rw [tI_le, l_345] at a
      have : k = 345 := by omega
      subst this
      exact pc_some ⟨rfl, rfl, hp⟩
    · rw [tI_le, l_345] at a
      have ek : x1.toNatClampNeg = k := by rw [tI_nat]; omega
      have eb : (345 * c_latest + x1).toNatClampNeg = 345 * L + k := by
        have : (345 * c_latest + x1).toInt = 345 * L + k := by ((try simp only [tI_lt, tI_le, tI_eq, tI_add, tI_sub, tI_mul, tI_nat, Int32.reduceToInt, Int.reduceToNat, fe_0, fe_1, fe_2, fe_3, fe_4, fe_5]) <;> (try simp (disch := omega) only [tI_bm]) <;> omega)
        rw [tI_nat, this]; omega
      refine pc_bad (fun _ => pc_vlet (pc_bad (fun _ => pc_vlet (pc_vlet ?_))))
      rw [eb, ek]
      refine m_keep_15 c_state L hL p0 c_kept c_latest n _ _ _ _ (k + 1) (by ((try simp only [tI_lt, tI_le, tI_eq, tI_add, tI_sub, tI_mul, tI_nat, Int32.reduceToInt, Int.reduceToNat, fe_0, fe_1, fe_2, fe_3, fe_4, fe_5]) <;> (try simp (disch := omega) only [tI_bm]) <;> omega)) (by omega) rfl rfl e3 (fun i => ?_)
      rw [upd_at]
      by_cases z : i = 345 * L + k
      · rw [if_pos z, if_pos (by omega)]
        congr 1
        omega
      · rw [if_neg z, hp i]
        by_cases y : 345 * L ≤ i ∧ i < 345 * L + k
        · rw [if_pos y, if_pos (by omega)]
        · rw [if_neg y, if_neg (by omega)]
set_option maxHeartbeats 400000 in
theorem m_keep (c_kept : Int32) (c_latest : Int32) (c_state : Nat → Int32) (c_past : Nat → Int32) (h1 : 0 ≤ c_latest.toInt ∧ c_latest.toInt < 100) : Pc (f_X11_keep c_kept c_latest c_state c_past) (fun r => r.1 = xmin 100 (c_kept + 1) ∧ r.2.1.toInt = ((c_latest.toInt.toNat + 1) % 100 : Nat) ∧ ∀ i, r.2.2 i = if 345 * ((c_latest.toInt.toNat + 1) % 100) ≤ i ∧ i < 345 * ((c_latest.toInt.toNat + 1) % 100) + 345 then c_state (i - 345 * ((c_latest.toInt.toNat + 1) % 100)) else c_past i) := by
  unfold f_X11_keep
  have e1 : (c_latest + 1).toInt = c_latest.toInt + 1 := by ((try simp only [tI_lt, tI_le, tI_eq, tI_add, tI_sub, tI_mul, tI_nat, Int32.reduceToInt, Int.reduceToNat, fe_0, fe_1, fe_2, fe_3, fe_4, fe_5]) <;> (try simp (disch := omega) only [tI_bm]) <;> omega)
  have e2 : (xrem (c_latest + 1) 100).toInt = ((c_latest.toInt.toNat + 1) % 100 : Nat) := by
    rw [tI_rem (by omega) (by decide), e1, show (100 : Int32).toInt = 100 from by decide]
    omega
  refine pc_vlet (pc_mono (m_keep_15 c_state ((c_latest.toInt.toNat + 1) % 100) (Nat.mod_lt _ (by decide)) c_past c_kept _ FU 0 c_kept _ c_past 0 (by decide) (by decide) rfl rfl e2 (fun i => by rw [if_neg (by omega)])) (fun r hr => ⟨hr.1, by rw [hr.2.1]; exact e2, hr.2.2⟩))
/-! the kept states on both sides -/
def HST (S : List StT) (pick drop : Nat → Int32) (next size : Int32) (pk : Nat → Int64) (ky tm : Nat → Int32) (cn po : Nat → Nat → Int32) (kept latest : Int32) (past : Nat → Int32) : Prop := kept = size ∧ ∀ j a b : Nat, 1 ≤ j → (j : Int) ≤ size.toInt → a = (next.toInt.toNat + 100 - j) % 100 → b = (latest.toInt.toNat + 101 - j) % 100 → SR (nkS S) (pk a) (ky a) (tm a) (cn a) (po a) (fun i => past (345 * b + i)) ∧ CIV (cnt 0 S) pick drop (mB (fun i => past (345 * b + i))) (fun i => past (345 * b + (40 + i)))
def DY (S : List StT) (pick drop : Nat → Int32) (picked : Int64) (keys time : Int32) (counts positions : Nat → Int32) (next size : Int32) (pk : Nat → Int64) (ky tm : Nat → Int32) (cn po : Nat → Nat → Int32) (state : Nat → Int32) (kept latest : Int32) (past : Nat → Int32) : Prop := SR (nkS S) picked keys time counts positions state ∧ CIV (cnt 0 S) pick drop (mB state) (fun i => state (40 + i)) ∧ HST S pick drop next size pk ky tm cn po kept latest past
set_option maxHeartbeats 400000 in
theorem xmin_100 {v : Int32} (h : 0 ≤ v.toInt ∧ v.toInt ≤ 100) : (xmin 100 (v + 1)).toInt = if v.toInt = 100 then 100 else v.toInt + 1 := by
  have e : (v + 1).toInt = v.toInt + 1 := by ((try simp only [tI_lt, tI_le, tI_eq, tI_add, tI_sub, tI_mul, tI_nat, Int32.reduceToInt, Int.reduceToNat, fe_0, fe_1, fe_2, fe_3, fe_4, fe_5]) <;> (try simp (disch := omega) only [tI_bm]) <;> omega)
  have e100 : (100 : Int32).toInt = 100 := by decide
  unfold xmin
  by_cases a : v + 1 < 100
  · rw [if_pos a]
    rw [tI_lt, e, e100] at a
    rw [if_neg (by omega)]; exact e
  · rw [if_neg a]
    rw [tI_lt, e, e100] at a
    by_cases b : v.toInt = 100
    · rw [if_pos b]; exact e100
    · rw [if_neg b, e100]; omega
/-! a TICK kept: what stands behind it -/
set_option maxHeartbeats 400000 in
theorem HST_next {S : List StT} {pick drop : Nat → Int32} {picked : Int64} {keys time : Int32} {counts positions : Nat → Int32} {next size : Int32} {pk : Nat → Int64} {ky tm : Nat → Int32} {cn po : Nat → Nat → Int32} {state : Nat → Int32} {kept latest : Int32} {past : Nat → Int32} (hR4 : cnt 0 S ≤ 40) (h : DY S pick drop picked keys time counts positions next size pk ky tm cn po state kept latest past) (hH : HR next size) (hK : KR kept latest) {n2 s2 k2 l2 : Int32} {p9 : Int64} {k9 t9 : Int32} {c9 po9 past2 : Nat → Int32} (e1 : n2 = xrem (next + 1) 100) (e2 : s2 = xmin 100 (size + 1)) (e3 : p9 = picked) (e4 : k9 = keys) (e5 : t9 = time) (e6 : ∀ i, i < 40 → c9 i = counts i) (e7 : ∀ i, i < 40 → po9 i = positions i) (f1 : k2 = xmin 100 (kept + 1)) (f2 : l2.toInt = ((latest.toInt.toNat + 1) % 100 : Nat)) (f3 : ∀ i, past2 i = if 345 * ((latest.toInt.toNat + 1) % 100) ≤ i ∧ i < 345 * ((latest.toInt.toNat + 1) % 100) + 345 then state (i - 345 * ((latest.toInt.toNat + 1) % 100)) else past i) : HST S pick drop n2 s2 (va_up pk next.toNatClampNeg p9) (va_up ky next.toNatClampNeg k9) (va_up tm next.toNatClampNeg t9) (va_up cn next.toNatClampNeg c9) (va_up po next.toNatClampNeg po9) k2 l2 past2 ∧ HR n2 s2 ∧ KR k2 l2 := by
  obtain ⟨d1, d2, d3, d4⟩ := h
  obtain ⟨h1, h2, h3, h4⟩ := hH
  obtain ⟨g1, g2, g3, g4⟩ := hK
  have en : (next + 1).toInt = next.toInt + 1 := by ((try simp only [tI_lt, tI_le, tI_eq, tI_add, tI_sub, tI_mul, tI_nat, Int32.reduceToInt, Int.reduceToNat, fe_0, fe_1, fe_2, fe_3, fe_4, fe_5]) <;> (try simp (disch := omega) only [tI_bm]) <;> omega)
  have n2v : n2.toInt = ((next.toInt.toNat + 1) % 100 : Nat) := by
    rw [e1, tI_rem (by omega) (by decide), en, show (100 : Int32).toInt = 100 from by decide]
    omega
  have s2v : s2.toInt = if size.toInt = 100 then 100 else size.toInt + 1 := by rw [e2]; exact xmin_100 ⟨h3, h4⟩
  have k2s : k2 = s2 := by rw [f1, e2, d3]
  have s2b : 0 ≤ s2.toInt ∧ s2.toInt ≤ 100 ∧ s2.toInt ≤ size.toInt + 1 := by rw [s2v]; split <;> omega
  have nx : next.toNatClampNeg = next.toInt.toNat := tI_nat _
  refine ⟨⟨k2s, fun j a b j1 j2 ha hb => ?_⟩, ⟨by omega, by omega, s2b.1, s2b.2.1⟩, ⟨by rw [k2s]; exact s2b.1, by rw [k2s]; exact s2b.2.1, by omega, by omega⟩⟩
  rw [nx]
  by_cases z : j = 1
  · have a1 : a = next.toInt.toNat := by omega
    have b1 : b = (latest.toInt.toNat + 1) % 100 := by omega
    have pv : ∀ i, i < 345 → past2 (345 * b + i) = state i := fun i hi => by
      rw [f3, b1, if_pos (by omega)]
      congr 1
      omega
    unfold va_up
    rw [if_pos a1, if_pos a1, if_pos a1, if_pos a1, if_pos a1, e3, e4, e5]
    exact ⟨SR_cg d1 e6 e7 pv, CIV_cg hR4 d2 pv⟩
  · have a1 : ¬ a = next.toInt.toNat := by omega
    have a2 : a = (next.toInt.toNat + 100 - (j - 1)) % 100 := by omega
    have b1 : ¬ b = (latest.toInt.toNat + 1) % 100 := by omega
    have b2 : b = (latest.toInt.toNat + 101 - (j - 1)) % 100 := by omega
    have pv : ∀ i, i < 345 → past2 (345 * b + i) = past (345 * b + i) := fun i hi => by
      rw [f3, if_neg (by omega)]
    unfold va_up
    rw [if_neg a1, if_neg a1, if_neg a1, if_neg a1, if_neg a1]
    have q := d4 (j - 1) a b (by omega) (by omega) a2 b2
    exact ⟨SR_cg q.1 (fun _ _ => rfl) (fun _ _ => rfl) pv, CIV_cg hR4 q.2 pv⟩
