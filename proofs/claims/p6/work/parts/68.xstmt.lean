/-! the class's wires -/
abbrev QnT : Type := Nat × Nat × Nat
def QX (kd : Nat → Int32) (vl : Nat → Int64) (pinAt pinEnds pinWires : Nat → Int32) : List QnT → Prop
  | [] => True
  | q :: r => (pinEnds r.length = Int32.ofNat q.2.1 ∧ q.2.1 ≤ 19 ∧ (pinWires r.length).toInt = q.2.2 ∧ 0 ≤ (pinAt r.length).toInt ∧ (pinAt r.length).toInt < 4001 ∧ PinK kd vl (pinAt r.length).toInt.toNat q.1) ∧ QX kd vl pinAt pinEnds pinWires r
set_option maxHeartbeats 400000 in
theorem QX_cg (kd : Nat → Int32) (vl : Nat → Int64) (a1 a2 b1 b2 c1 c2 : Nat → Int32) : ∀ Q : List QnT, (∀ i, i < Q.length → a2 i = a1 i ∧ b2 i = b1 i ∧ c2 i = c1 i) → QX kd vl a1 b1 c1 Q → QX kd vl a2 b2 c2 Q
  | [], _, _ => trivial
  | q :: r, h, hx => by
    have e := h r.length (by simp)
    refine ⟨?_, QX_cg kd vl a1 a2 b1 b2 c1 c2 r (fun i hi => h i (by simp; omega)) hx.2⟩
    rw [e.1, e.2.1, e.2.2]
    exact hx.1
def pnsW (w : Nat) (ps : List PinT) : List QnT := (ps.map (fun p => (p.1, p.2, w))).reverse
def pnsOf : List StT → List QnT
  | [] => []
  | a :: r => pnsW (cnt 5 r + 1) a.2.2.2.2.2.2 ++ pnsOf r
def WireX (size : Int32) (kd : Nat → Int32) (vl : Nat → Int64) (w : Nat) (Q : List QnT) (x1 wires : Int32) (o : Option (List PinT × List TkT)) (r1 at2 pins2 wires2 : Int32) (pinAt2 pinEnds2 pinWires2 : Nat → Int32) : Prop := match o with
  | none => r1 = 0 ∧ 0 ≤ at2.toInt ∧ at2.toInt < 4001
  | some (ps, r) => KX size kd vl at2 r ∧ (pins2.toInt = (pnsW w ps ++ Q).length) ∧ QX kd vl pinAt2 pinEnds2 pinWires2 (pnsW w ps ++ Q) ∧ 3 * (pnsW w ps ++ Q).length + wtg r ≤ 4000 ∧ wires2 = wires ∧ r1 = if pins2 < x1 + 2 then 0 else 1
set_option maxHeartbeats 400000 in
theorem pEnd_len {v : Nat} {l r : List TkT} {p : PinT} (h : pEnd v l = some (p, r)) : r.length ≤ l.length := by
  have a := @List.length_tail TkT l
  have b := @List.length_tail TkT l.tail
  unfold pEnd at h
  split at h
  · cases h; omega
  · split at h
    · cases h; omega
    · split at h
      · split at h
        · cases h; omega
        · split at h
          · cases h; omega
          · cases h; omega
      · cases h
set_option maxHeartbeats 400000 in
theorem pPin_len {l r : List TkT} {p : PinT} (h : pPin l = some (p, r)) : r.length < l.length := by
  cases l with
  | nil =>
    rw [show pPin [] = none from rfl] at h
    cases h
  | cons t l =>
    have a := @List.length_tail TkT l
    unfold pPin at h
    rw [List.length_cons]
    split at h
    · cases h; show l.length < _; omega
    · split at h
      · cases h; show l.length < _; omega
      · split at h
        · split at h
          · have := pEnd_len h
            have b : (t :: l).tail.tail = l.tail := rfl
            rw [b] at this
            omega
          · cases h
        · cases h
set_option maxHeartbeats 400000 in
theorem s_readWire_17 (c_tokens_size : Int32) (c_tokens_kinds : Nat → Int32) (c_tokens_values : Nat → Int64) (x1 c_wires : Int32) (w : Nat) (hw : c_wires.toInt = w) : ∀ (n : Nat) (x2 : Int32) (c_at : Int32) (c_nameAt : Int32) (c_number : Int32) (c_pins : Int32) (c_pinAt : Nat → Int32) (c_pinEnds : Nat → Int32) (c_pinWires : Nat → Int32) (f : Nat) (l : List TkT) (Q : List QnT), KX c_tokens_size c_tokens_kinds c_tokens_values c_at l → c_pins.toInt = Q.length → QX c_tokens_kinds c_tokens_values c_pinAt c_pinEnds c_pinWires Q → 3 * Q.length + wtg l ≤ 4000 → 0 ≤ x2.toInt → x2.toInt ≤ Q.length → 1400 < x2.toInt + n → l.length < f → Ok (f_X5_readWire_17 c_tokens_size c_tokens_kinds c_tokens_values n x1 x2 c_at c_nameAt c_number c_pins c_wires c_pinAt c_pinEnds c_pinWires) (fun r => WireX c_tokens_size c_tokens_kinds c_tokens_values w Q x1 c_wires (pPins f l) r.1 r.2.1 r.2.2.2.2.1 r.2.2.2.2.2.1 r.2.2.2.2.2.2.1 r.2.2.2.2.2.2.2.1 r.2.2.2.2.2.2.2.2)
  | 0, x2, c_at, c_nameAt, c_number, c_pins, c_pinAt, c_pinEnds, c_pinWires, f, l, Q, h, g1, g2, g3, g4, g5, g6, g7 => by exfalso; omega
  | n + 1, x2, c_at, c_nameAt, c_number, c_pins, c_pinAt, c_pinEnds, c_pinWires, 0, l, Q, h, g1, g2, g3, g4, g5, g6, g7 => absurd g7 (Nat.not_lt_zero _)
  | n + 1, x2, c_at, c_nameAt, c_number, c_pins, c_pinAt, c_pinEnds, c_pinWires, f + 1, l, Q, h, g1, g2, g3, g4, g5, g6, g7 => by
    unfold f_X5_readWire_17 pPins
    obtain ⟨b1, b2, b3, b4, b5, b6⟩ := KX_hd h
    refine ok_if (fun a => by exfalso; rw [tI_le, show (1334 : Int32).toInt = 1334 from by decide] at a; omega) (fun _ => ?_)
    refine ok_eq (e_kind _ _ _ c_tokens_values l h) ?_
    by_cases s : isSn l 59 = true
    · rw [if_pos ((k_sn b4 59 (by decide)).mpr s), if_pos s]
      unfold f_X5_readWire_48
      refine ok_if (fun a => ok_some ⟨h, g1, g2, g3, rfl, ?_⟩) (fun a => ok_some ⟨h, g1, g2, g3, rfl, ?_⟩)
      · rw [if_pos a]
      · rw [if_neg a]
    · rw [if_neg (fun q => s ((k_sn b4 59 (by decide)).mp q)), if_neg s]
      refine ok_bind (s_readPin _ _ _ _ _ _ _ _ _ _ _ l h (by omega)) (fun r2 hr => ?_)
      unfold PinX3 at hr
      cases hq : pPin l with
      | none =>
        rw [hq] at hr
        rw [if_pos hr.1]
        exact ok_some ⟨rfl, hr.2.1, hr.2.2⟩
      | some q =>
        obtain ⟨p, rr⟩ := q
        rw [hq] at hr
        obtain ⟨z1, z2, z3, z4, z5, z6, z7, z8, z9⟩ := hr
        rw [if_neg (by rw [z1]; decide)]
        have e2 : (x2 + 1).toInt = x2.toInt + 1 := by ((try simp only [tI_lt, tI_le, tI_eq, tI_add, tI_sub, tI_mul, tI_nat, Int32.reduceToInt, Int.reduceToNat, fe_0, fe_1, fe_2, fe_3, fe_4, fe_5]) <;> (try simp (disch := omega) only [tI_bm]) <;> omega)
        have ep : (c_pins + 1).toInt = c_pins.toInt + 1 := by ((try simp only [tI_lt, tI_le, tI_eq, tI_add, tI_sub, tI_mul, tI_nat, Int32.reduceToInt, Int.reduceToNat, fe_0, fe_1, fe_2, fe_3, fe_4, fe_5]) <;> (try simp (disch := omega) only [tI_bm]) <;> omega)
        have en : c_pins.toInt.toNat = Q.length := by omega
        have ll : rr.length < l.length := pPin_len hq
        refine ok_vlet ?_
        have ih := s_readWire_17 c_tokens_size c_tokens_kinds c_tokens_values x1 c_wires w hw n (x2 + 1) r2.2.1 r2.2.2.1 r2.2.2.2.1 r2.2.2.2.2.1 r2.2.2.2.2.2.1 r2.2.2.2.2.2.2.1 r2.2.2.2.2.2.2.2 f rr ((p.1, p.2, w) :: Q) z2 (by rw [z4, List.length_cons]; omega) ?_ (by rw [List.length_cons]; omega) (by omega) (by rw [List.length_cons]; omega) (by omega) (by omega)
        · refine ok_mono ih (fun r hr2 => ?_)
          unfold WireX at hr2 ⊢
          dsimp only
          cases hp : pPins f rr with
          | none =>
            rw [hp] at hr2
            exact hr2
          | some y =>
            obtain ⟨ps, r3⟩ := y
            rw [hp] at hr2
            have el : pnsW w (p :: ps) ++ Q = pnsW w ps ++ ((p.1, p.2, w) :: Q) := by
              unfold pnsW
              rw [List.map_cons, List.reverse_cons, List.append_assoc]
              rfl
            dsimp only
            rw [el]
            exact hr2
        · rw [z5, z6, z7, en]
          refine ⟨?_, QX_cg _ _ _ _ _ _ _ _ Q (fun i hi => ⟨by rw [upd_at, if_neg (by omega)], by rw [upd_at, if_neg (by omega)], by rw [upd_at, if_neg (by omega)]⟩) g2⟩
          rw [upd_at, upd_at, upd_at, if_pos rfl, if_pos rfl, if_pos rfl]
          exact ⟨rfl, z8, hw, b2, b3, z9⟩
set_option maxHeartbeats 400000 in
theorem s_readWire (c_at : Int32) (c_nameAt : Int32) (c_number : Int32) (c_pins : Int32) (c_wires : Int32) (c_tokens_size : Int32) (c_tokens_kinds : Nat → Int32) (c_tokens_values : Nat → Int64) (c_pinAt : Nat → Int32) (c_pinEnds : Nat → Int32) (c_pinWires : Nat → Int32) (l : List TkT) (h : KX c_tokens_size c_tokens_kinds c_tokens_values c_at l) (w : Nat) (hw : c_wires.toInt = w) (hw2 : w ≤ 100000) (Q : List QnT) (g1 : c_pins.toInt = Q.length) (g2 : QX c_tokens_kinds c_tokens_values c_pinAt c_pinEnds c_pinWires Q) (g3 : 3 * Q.length + wtg l ≤ 4000) : Ok (f_X5_readWire c_at c_nameAt c_number c_pins c_wires c_tokens_size c_tokens_kinds c_tokens_values c_pinAt c_pinEnds c_pinWires) (fun r => WireX c_tokens_size c_tokens_kinds c_tokens_values (w + 1) Q c_pins (c_wires + 1) (pPins 4002 l) r.1 r.2.1 r.2.2.2.2.1 r.2.2.2.2.2.1 r.2.2.2.2.2.2.1 r.2.2.2.2.2.2.2.1 r.2.2.2.2.2.2.2.2) := by
  unfold f_X5_readWire
  refine ok_vlet ?_
  have e : (c_wires + 1).toInt = ((w + 1 : Nat) : Int) := by ((try simp only [tI_lt, tI_le, tI_eq, tI_add, tI_sub, tI_mul, tI_nat, Int32.reduceToInt, Int.reduceToNat, fe_0, fe_1, fe_2, fe_3, fe_4, fe_5]) <;> (try simp (disch := omega) only [tI_bm]) <;> omega)
  have rg := KX_rng h
  have h' := h
  obtain ⟨k1, k2, k3, -, -⟩ := h'
  exact s_readWire_17 c_tokens_size c_tokens_kinds c_tokens_values c_pins (c_wires + 1) (w + 1) e FU 0 _ _ _ _ _ _ _ 4002 l Q h g1 g2 g3 (by decide) (by rw [show (0 : Int32).toInt = 0 from by decide]; omega) (by rw [FU_eq]; decide) (by omega)
/-! the class's numbers of relays and clocks -/
def NX (pick drop cont makes per on_ : Nat → Int32) : List StT → Prop
  | [] => True
  | a :: r => ((a.1 = 0 → (pick (cnt 0 r)).toInt = a.2.2.1 ∧ (drop (cnt 0 r)).toInt = a.2.2.2.1 ∧ (cont (cnt 0 r)).toInt = a.2.2.2.2.1 ∧ (makes (cnt 0 r)).toInt = a.2.2.2.2.2.1) ∧ (a.1 = 3 → (per (cnt 3 r)).toInt = a.2.2.1 ∧ (on_ (cnt 3 r)).toInt = a.2.2.2.1)) ∧ NX pick drop cont makes per on_ r
set_option maxHeartbeats 400000 in
theorem NX_cg (a1 a2 b1 b2 c1 c2 d1 d2 e1 e2 f1 f2 : Nat → Int32) : ∀ S : List StT, (∀ i, i < cnt 0 S → a2 i = a1 i ∧ b2 i = b1 i ∧ c2 i = c1 i ∧ d2 i = d1 i) → (∀ i, i < cnt 3 S → e2 i = e1 i ∧ f2 i = f1 i) → NX a1 b1 c1 d1 e1 f1 S → NX a2 b2 c2 d2 e2 f2 S
  | [], _, _, _ => trivial
  | st :: r, h, h3, hx => by
    refine ⟨⟨fun q => ?_, fun q => ?_⟩, NX_cg a1 a2 b1 b2 c1 c2 d1 d2 e1 e2 f1 f2 r (fun i hi => h i (by show i < cnt 0 r + _; omega)) (fun i hi => h3 i (by show i < cnt 3 r + _; omega)) hx.2⟩
    · have e := h (cnt 0 r) (by show _ < cnt 0 r + (if st.1 = 0 then 1 else 0); rw [if_pos q]; omega)
      rw [e.1, e.2.1, e.2.2.1, e.2.2.2]
      exact hx.1.1 q
    · have e := h3 (cnt 3 r) (by show _ < cnt 3 r + (if st.1 = 3 then 1 else 0); rw [if_pos q]; omega)
      rw [e.1, e.2]
      exact hx.1.2 q
def CB (cont : Nat → Int32) : Prop := ∀ r : Nat, r < 40 → 0 ≤ (cont r).toInt ∧ (cont r).toInt ≤ 6
set_option maxHeartbeats 400000 in
theorem e_setRelay (x1 : Int32) (x2 : Int32) (x3 : Int32) (x4 : Int32) (x5 : Int32) (c_parts : Nat → Int32) (c_pickTime : Nat → Int32) (c_dropTime : Nat → Int32) (c_contacts : Nat → Int32) (c_makes : Nat → Int32) (hB : PB c_parts) : (f_X3_setRelay x1 x2 x3 x4 x5 c_parts c_pickTime c_dropTime c_contacts c_makes) = some (if 0 ≤ x1.toInt ∧ x1.toInt < (c_parts 0).toInt then (upd c_pickTime x1.toInt.toNat x2, upd c_dropTime x1.toInt.toNat x3, upd c_contacts x1.toInt.toNat x4, upd c_makes x1.toInt.toNat x5) else (c_pickTime, c_dropTime, c_contacts, c_makes)) := by
  unfold f_X3_setRelay
  rw [s_X3_has]
  have p0 := hB 0 (by decide)
  have m40 := mst_le 0
  have e0 : (c_parts (0 : Int32).toInt.toNat) = c_parts 0 := rfl
  by_cases a : 0 ≤ x1.toInt ∧ x1.toInt < (c_parts 0).toInt
  · rw [if_pos a, if_pos ⟨by decide, by decide, a.1, by rw [e0]; exact a.2⟩]
    have hb : bad x1 40 = false := bad_f a.1 (by omega)
    dsimp only [Option.bind, vlet]
    rw [if_neg (by decide)]
    simp only [hb, Bool.false_eq_true, if_false, tI_nat]
  · rw [if_neg a, if_neg (fun q => a ⟨q.2.2.1, by rw [← e0]; exact q.2.2.2⟩)]
    rfl
set_option maxHeartbeats 400000 in
theorem e_setClock (x1 : Int32) (x2 : Int32) (x3 : Int32) (c_parts : Nat → Int32) (c_period : Nat → Int32) (c_onTime : Nat → Int32) (hB : PB c_parts) : (f_X3_setClock x1 x2 x3 c_parts c_period c_onTime) = some (if 0 ≤ x1.toInt ∧ x1.toInt < (c_parts 3).toInt then (upd c_period x1.toInt.toNat x2, upd c_onTime x1.toInt.toNat x3) else (c_period, c_onTime)) := by
  unfold f_X3_setClock
  rw [s_X3_has]
  have p0 := hB 3 (by decide)
  have m40 : mst 3 = 4 := rfl
  have e0 : (c_parts (3 : Int32).toInt.toNat) = c_parts 3 := by rw [show (3 : Int32).toInt.toNat = 3 from by decide]
  by_cases a : 0 ≤ x1.toInt ∧ x1.toInt < (c_parts 3).toInt
  · rw [if_pos a, if_pos ⟨by decide, by decide, a.1, by rw [e0]; exact a.2⟩]
    have hb : bad x1 4 = false := bad_f a.1 (by omega)
    dsimp only [Option.bind, vlet]
    rw [if_neg (by decide)]
    simp only [hb, Bool.false_eq_true, if_false, tI_nat]
  · rw [if_neg a, if_neg (fun q => a ⟨q.2.2.1, by rw [← e0]; exact q.2.2.2⟩)]
    rfl
set_option maxHeartbeats 400000 in
theorem mk_or : ∀ n : Nat, n < 6 → ∀ b : Nat, b < 2 ^ n → (Int32.ofNat b ||| xshl 1 (Int32.ofNat n)) = Int32.ofNat (b + 2 ^ n) := by decide +kernel
