/-! the reference's first go -/
set_option maxHeartbeats 400000 in
theorem FrM_rf (φ : Nat) (a b c d e f g : Nat → Int32) : FrM φ a b c d e f g a b c d e f g := ⟨fun _ _ => rfl, fun _ _ => ⟨rfl, rfl, rfl, rfl, rfl⟩, fun _ _ => rfl⟩
set_option maxHeartbeats 400000 in
theorem FrM_tr {φ : Nat} {a b c d e f g a1 b1 c1 d1 e1 f1 g1 a2 b2 c2 d2 e2 f2 g2 : Nat → Int32} (h : FrM φ a b c d e f g a1 b1 c1 d1 e1 f1 g1) (k : FrM φ a1 b1 c1 d1 e1 f1 g1 a2 b2 c2 d2 e2 f2 g2) : FrM φ a b c d e f g a2 b2 c2 d2 e2 f2 g2 := by
  refine ⟨fun i hi => by rw [k.1 i hi, h.1 i hi], fun i hi => ?_, fun i hi => by rw [k.2.2 i hi, h.2.2 i hi]⟩
  have p := h.2.1 i hi
  have q := k.2.1 i hi
  exact ⟨by rw [q.1, p.1], by rw [q.2.1, p.2.1], by rw [q.2.2.1, p.2.2.1], by rw [q.2.2.2.1, p.2.2.2.1], by rw [q.2.2.2.2, p.2.2.2.2]⟩
def srt (l : List TkT) : Option Nat := if isWd l 491327873401 = true then some 0 else if isWd l 7038329 = true then some 1 else if isWd l 1818324336 = true then some 2 else if isWd l 427021001579 = true then some 3 else if isWd l 431265637477 = true then some 4 else none
set_option maxHeartbeats 400000 in
theorem s_sortHere (c_at : Int32) (c_fault : Int32) (c_tKind : Nat → Int32) (c_tValue : Nat → Int64) (t : Nat → Int32) (L : Nat) (pl sz : Nat → Int32) (l : List TkT) (h : KM t L c_tKind pl sz c_tValue c_at l) (hf : ¬ c_fault = 1) : Ok (f_X11_sortHere c_at c_fault c_tKind c_tValue) (fun r => match srt l with
    | none => r = -1
    | some s => r.toInt = s ∧ s < 5 ∧ (hd l).1 = 1 ∧ pBody l = pPart s l.tail) := by
  unfold f_X11_sortHere srt
  have nw : ∀ {a b : Nat}, a ≠ b → isWd l a = true → ¬ isWd l b = true := fun hab p q => hab (by rw [← ((isWd_t _ _).mp p).2, ← ((isWd_t _ _).mp q).2])
  have pp : ∀ s, s = 1 ∨ s = 2 ∨ s = 4 → (if isNm l.tail = true then some ((s, (hd l.tail).2.1, 0, 0, 0, 0, ([] : List PinT)), l.tail.tail) else none) = pPart s l.tail := by
    intro s hs
    unfold pPart
    rw [if_neg (show ¬ s = 0 by omega), if_neg (show ¬ s = 3 by omega)]
  refine ok_eq (e_isWord _ _ _ _ _ t L pl sz l h 491327873401 (by decide) rfl) ?_
  by_cases c1 : isWd l 491327873401 = true
  · rw [i01_t hf c1, if_neg (by decide), if_pos c1]
    refine ok_some ⟨by decide, by decide, hd1 c1, ?_⟩
    unfold pBody pPart
    rw [if_neg (nw (by decide) c1), if_pos c1, if_pos (show (0 : Nat) = 0 from rfl)]
    by_cases a : isNm l.tail = true
    · rw [if_pos a, if_pos a]
      by_cases b : isNr l.tail.tail 1 20 = true
      · rw [if_pos b]
        by_cases c : isNr l.tail.tail.tail 1 20 = true
        · rw [if_pos c, if_pos ⟨b, c⟩]; rfl
        · rw [if_neg c, if_neg (fun q => c q.2)]
      · rw [if_neg b, if_neg (fun q => b q.1)]
    · rw [if_neg a, if_neg a]
  rw [i01_f c1, if_pos rfl, if_neg c1]
  refine ok_eq (e_isWord _ _ _ _ _ t L pl sz l h 7038329 (by decide) rfl) ?_
  by_cases c2 : isWd l 7038329 = true
  · rw [i01_t hf c2, if_neg (by decide), if_pos c2]
    refine ok_some ⟨by decide, by decide, hd1 c2, ?_⟩
    unfold pBody
    rw [if_neg (nw (by decide) c2), if_neg c1, if_pos c2]
    exact pp 1 (.inl rfl)
  rw [i01_f c2, if_pos rfl, if_neg c2]
  refine ok_eq (e_isWord _ _ _ _ _ t L pl sz l h 1818324336 (by decide) rfl) ?_
  by_cases c3 : isWd l 1818324336 = true
  · rw [i01_t hf c3, if_neg (by decide), if_pos c3]
    refine ok_some ⟨by decide, by decide, hd1 c3, ?_⟩
    unfold pBody
    rw [if_neg (nw (by decide) c3), if_neg c1, if_neg c2, if_pos c3]
    exact pp 2 (.inr (.inl rfl))
  rw [i01_f c3, if_pos rfl, if_neg c3]
  refine ok_eq (e_isWord _ _ _ _ _ t L pl sz l h 427021001579 (by decide) rfl) ?_
  by_cases c4 : isWd l 427021001579 = true
  · rw [i01_t hf c4, if_neg (by decide), if_pos c4]
    refine ok_some ⟨by decide, by decide, hd1 c4, ?_⟩
    unfold pBody pPart
    rw [if_neg (nw (by decide) c4), if_neg c1, if_neg c2, if_neg c3, if_neg (nw (by decide) c4), if_pos c4, if_neg (show ¬ (3 : Nat) = 0 by decide), if_pos (show (3 : Nat) = 3 from rfl)]
    by_cases a : isNm l.tail = true
    · rw [if_pos a, if_pos a]
      by_cases b : isNr l.tail.tail 2 100 = true
      · rw [if_pos b]
        by_cases c : isNr l.tail.tail.tail 1 ((hd l.tail.tail).2.1 - 1) = true
        · rw [if_pos c, if_pos ⟨b, c⟩]; rfl
        · rw [if_neg c, if_neg (fun q => c q.2)]
      · rw [if_neg b, if_neg (fun q => b q.1)]
    · rw [if_neg a, if_neg a]
  rw [i01_f c4, if_pos rfl, if_neg c4]
  refine ok_eq (e_isWord _ _ _ _ _ t L pl sz l h 431265637477 (by decide) rfl) ?_
  by_cases c5 : isWd l 431265637477 = true
  · rw [i01_t hf c5, if_neg (by decide), if_pos c5]
    refine ok_some ⟨by decide, by decide, hd1 c5, ?_⟩
    unfold pBody
    rw [if_neg (nw (by decide) c5), if_neg c1, if_neg c2, if_neg c3, if_pos c5]
    exact pp 4 (.inr (.inr rfl))
  rw [i01_f c5, if_pos rfl, if_neg c5]
  exact ok_some rfl
set_option maxHeartbeats 400000 in
theorem pBody_wire {l : List TkT} (h : srt l = none) : pBody l = if isWd l 2003399269 = true then (match pPins 4002 l.tail with
    | none => none
    | some (ps, r) => if 2 ≤ ps.length then some ((5, 0, 0, 0, 0, 0, ps), r) else none) else none := by
  unfold srt at h
  have a1 : ¬ isWd l 491327873401 = true := fun q => by rw [if_pos q] at h; cases h
  rw [if_neg a1] at h
  have a2 : ¬ isWd l 7038329 = true := fun q => by rw [if_pos q] at h; cases h
  rw [if_neg a2] at h
  have a3 : ¬ isWd l 1818324336 = true := fun q => by rw [if_pos q] at h; cases h
  rw [if_neg a3] at h
  have a4 : ¬ isWd l 427021001579 = true := fun q => by rw [if_pos q] at h; cases h
  rw [if_neg a4] at h
  have a5 : ¬ isWd l 431265637477 = true := fun q => by rw [if_pos q] at h; cases h
  unfold pBody
  rw [if_neg a1, if_neg a2, if_neg a3, if_neg a4, if_neg a5]
  by_cases w : isWd l 2003399269 = true
  · rw [if_pos w, if_pos w]
    cases pPins 4002 l.tail <;> rfl
  · rw [if_neg w, if_neg w]
set_option maxHeartbeats 400000 in
theorem DMs_wire {φ : Nat} {fault : Int32} {many nameSize names one two kinds bits : Nat → Int32} {S : List StT} {st : StT} (h : DMs φ fault many nameSize names one two kinds bits S) (hs : st.1 = 5) : DMs φ fault many nameSize names one two kinds bits (st :: S) := by
  refine ⟨h.1, ?_⟩
  have ok : okC (st :: S) = okC S := by
    show (okC S && (decide (5 ≤ st.1) || decide (cnt st.1 S < mst st.1))) = _
    rw [decide_eq_true (show 5 ≤ st.1 by omega), Bool.true_or, Bool.and_true]
  rw [ok]
  rcases h.2 with ⟨a, b, c, d⟩ | z
  · refine .inl ⟨a, b, fun s hs2 => ?_, ⟨fun q => by omega, d⟩⟩
    show _ = ((cnt s S + (if st.1 = s then 1 else 0) : Nat) : Int)
    rw [if_neg (by omega), c s hs2]; rfl
  · exact .inr z
set_option maxHeartbeats 400000 in
theorem s_parts_1 (c_fresh : Int32) (c_text : Nat → Int32) (c_tKind : Nat → Int32) (c_tPlace : Nat → Int32) (c_tSize : Nat → Int32) (c_tValue : Nat → Int64) (φ : Nat) {X : Prop} : ∀ (n : Nat) (c_at : Int32) (c_fault : Int32) (c_faultAt : Int32) (c_many : Nat → Int32) (c_nameSize : Nat → Int32) (c_one : Nat → Int32) (c_two : Nat → Int32) (c_kinds : Nat → Int32) (c_kindBits : Nat → Int32) (c_names : Nat → Int32), c_fault = 1 → 0 < n → GB c_nameSize c_kinds → Ok (f_X11_parts_42 c_fresh c_text c_tKind c_tPlace c_tSize c_tValue n c_at c_fault c_faultAt c_many c_nameSize c_one c_two c_kinds c_kindBits c_names) (fun r => FrM φ c_many c_nameSize c_one c_two c_kinds c_kindBits c_names r.2.2.2.1 r.2.2.2.2.1 r.2.2.2.2.2.1 r.2.2.2.2.2.2.1 r.2.2.2.2.2.2.2.1 r.2.2.2.2.2.2.2.2.1 r.2.2.2.2.2.2.2.2.2 ∧ GB r.2.2.2.2.1 r.2.2.2.2.2.2.2.1 ∧ r.2.1 = 1)
  | 0, c_at, c_fault, c_faultAt, c_many, c_nameSize, c_one, c_two, c_kinds, c_kindBits, c_names, h, h2, h3 => absurd h2 (Nat.lt_irrefl _)
  | n + 1, c_at, c_fault, c_faultAt, c_many, c_nameSize, c_one, c_two, c_kinds, c_kindBits, c_names, h, h2, h3 => by
    unfold f_X11_parts_42
    refine ok_eq (e_good _) ?_
    rw [if_pos h, if_pos rfl]
    exact ok_some ⟨FrM_rf _ _ _ _ _ _ _ _, h3, h⟩
set_option maxHeartbeats 400000 in
theorem s_parts_42 (c_fresh : Int32) (c_text : Nat → Int32) (c_tKind : Nat → Int32) (c_tPlace : Nat → Int32) (c_tSize : Nat → Int32) (c_tValue : Nat → Int64) (φ L : Nat) (hφ : φ ≤ 1) (hfr : c_fresh.toInt = φ) (hL : L ≤ 4000) : ∀ (n : Nat) (c_at : Int32) (c_fault : Int32) (c_faultAt : Int32) (c_many : Nat → Int32) (c_nameSize : Nat → Int32) (c_one : Nat → Int32) (c_two : Nat → Int32) (c_kinds : Nat → Int32) (c_kindBits : Nat → Int32) (c_names : Nat → Int32) (f : Nat) (l : List TkT) (S : List StT), KM c_text L c_tKind c_tPlace c_tSize c_tValue c_at l → GB c_nameSize c_kinds → DMs φ c_fault c_many c_nameSize c_names c_one c_two c_kinds c_kindBits S → l.length < f → l.length + 2 < n → Ok (f_X11_parts_42 c_fresh c_text c_tKind c_tPlace c_tSize c_tValue n c_at c_fault c_faultAt c_many c_nameSize c_one c_two c_kinds c_kindBits c_names) (fun r => FrM φ c_many c_nameSize c_one c_two c_kinds c_kindBits c_names r.2.2.2.1 r.2.2.2.2.1 r.2.2.2.2.2.1 r.2.2.2.2.2.2.1 r.2.2.2.2.2.2.2.1 r.2.2.2.2.2.2.2.2.1 r.2.2.2.2.2.2.2.2.2 ∧ GB r.2.2.2.2.1 r.2.2.2.2.2.2.2.1 ∧ match txt (pText f l) S with | none => r.2.1 = 1 | some S2 => DMs φ r.2.1 r.2.2.2.1 r.2.2.2.2.1 r.2.2.2.2.2.2.2.2.2 r.2.2.2.2.2.1 r.2.2.2.2.2.2.1 r.2.2.2.2.2.2.2.1 r.2.2.2.2.2.2.2.2.1 S2)
  | 0, c_at, c_fault, c_faultAt, c_many, c_nameSize, c_one, c_two, c_kinds, c_kindBits, c_names, f, l, S, h, hG, hD, g1, g2 => by exfalso; omega
  | n + 1, c_at, c_fault, c_faultAt, c_many, c_nameSize, c_one, c_two, c_kinds, c_kindBits, c_names, 0, l, S, h, hG, hD, g1, g2 => absurd g1 (Nat.not_lt_zero _)
  | n + 1, c_at, c_fault, c_faultAt, c_many, c_nameSize, c_one, c_two, c_kinds, c_kindBits, c_names, f + 1, l, S, h, hG, hD, g1, g2 => by
    unfold f_X11_parts_42 pText
    obtain ⟨b2, b3, b4, b5, b6⟩ := KM_hd h
    have hf1 : ¬ c_fault = 1 := fun q => by
      rcases hD.2 with ⟨-, z, -⟩ | ⟨-, z⟩
      · rw [q] at z; exact absurd z (by decide)
      · rw [q] at z; exact absurd z (by decide)
    refine ok_eq (e_good _) ?_
    rw [if_neg hf1, if_neg (by decide)]
    refine ok_bad ⟨b2, b3⟩ ?_
    rw [tI_nat]
    have k0 : c_tKind c_at.toInt.toNat = 0 ↔ (hd l).1 = 0 := by
      rw [tI_eq, b4.1, show (0 : Int32).toInt = 0 from by decide]; omega
    by_cases e : (hd l).1 = 0
    · rw [if_pos (k0.mpr e), if_pos e]
      exact ok_some ⟨FrM_rf _ _ _ _ _ _ _ _, hG, hD⟩
    rw [if_neg (fun q => e (k0.mp q)), if_neg e]
    -- behind a statement
    have bad : ∀ (c_at c_faultAt : Int32) (m2 ns2 o2 t2 k2 b2 n2 : Nat → Int32) (Y : Option (List StT)), Y = none → FrM φ c_many c_nameSize c_one c_two c_kinds c_kindBits c_names m2 ns2 o2 t2 k2 b2 n2 → GB ns2 k2 → Ok (f_X11_parts_100 (f_X11_parts_42 c_fresh c_text c_tKind c_tPlace c_tSize c_tValue n) c_fresh c_text c_tKind c_tPlace c_tSize c_tValue c_at 1 c_faultAt m2 ns2 o2 t2 k2 b2 n2) (fun r => FrM φ c_many c_nameSize c_one c_two c_kinds c_kindBits c_names r.2.2.2.1 r.2.2.2.2.1 r.2.2.2.2.2.1 r.2.2.2.2.2.2.1 r.2.2.2.2.2.2.2.1 r.2.2.2.2.2.2.2.2.1 r.2.2.2.2.2.2.2.2.2 ∧ GB r.2.2.2.2.1 r.2.2.2.2.2.2.2.1 ∧ match txt Y S with | none => r.2.1 = 1 | some S2 => DMs φ r.2.1 r.2.2.2.1 r.2.2.2.2.1 r.2.2.2.2.2.2.2.2.2 r.2.2.2.2.2.1 r.2.2.2.2.2.2.1 r.2.2.2.2.2.2.2.1 r.2.2.2.2.2.2.2.2.1 S2) := by
      intro ca cfa m2 ns2 o2 t2 k2 bb2 n2 Y hY hfr2 hg2
      subst hY
      unfold f_X11_parts_100
      refine ok_bind (s_need1 _ _ _ _ _ _ _ rfl) (fun r1 h1 => ok_mono (s_parts_1 c_fresh c_text c_tKind c_tPlace c_tSize c_tValue φ (X := True) n _ _ _ _ _ _ _ _ _ _ h1 (by omega) hg2) (fun r hr => ⟨FrM_tr hfr2 hr.1, hr.2.1, hr.2.2⟩))
    have good : ∀ (c_at c_fault c_faultAt : Int32) (m2 ns2 o2 t2 k2 b2 n2 : Nat → Int32) (st : StT) (rest : List TkT), pBody l = some (st, rest) → KM c_text L c_tKind c_tPlace c_tSize c_tValue c_at rest → FrM φ c_many c_nameSize c_one c_two c_kinds c_kindBits c_names m2 ns2 o2 t2 k2 b2 n2 → GB ns2 k2 → DMs φ c_fault m2 ns2 n2 o2 t2 k2 b2 (st :: S) → Ok (f_X11_parts_100 (f_X11_parts_42 c_fresh c_text c_tKind c_tPlace c_tSize c_tValue n) c_fresh c_text c_tKind c_tPlace c_tSize c_tValue c_at c_fault c_faultAt m2 ns2 o2 t2 k2 b2 n2) (fun r => FrM φ c_many c_nameSize c_one c_two c_kinds c_kindBits c_names r.2.2.2.1 r.2.2.2.2.1 r.2.2.2.2.2.1 r.2.2.2.2.2.2.1 r.2.2.2.2.2.2.2.1 r.2.2.2.2.2.2.2.2.1 r.2.2.2.2.2.2.2.2.2 ∧ GB r.2.2.2.2.1 r.2.2.2.2.2.2.2.1 ∧ match txt (match pStmt l with | none => none | some (s, r) => match pText f r with | none => none | some ss => some (s :: ss)) S with | none => r.2.1 = 1 | some S2 => DMs φ r.2.1 r.2.2.2.1 r.2.2.2.2.1 r.2.2.2.2.2.2.2.2.2 r.2.2.2.2.2.1 r.2.2.2.2.2.2.1 r.2.2.2.2.2.2.2.1 r.2.2.2.2.2.2.2.2.1 S2) := by
      intro ca cf cfa m2 ns2 o2 t2 k2 bb2 n2 st rest hb hk hfr2 hg2 hd2
      have hf2 : ¬ cf = 1 := fun q => by
        rcases hd2.2 with ⟨-, z, -⟩ | ⟨-, z⟩
        · rw [q] at z; exact absurd z (by decide)
        · rw [q] at z; exact absurd z (by decide)
      have hl := pBody_len hb
      unfold f_X11_parts_100 pStmt
      rw [hb]
      dsimp only
      refine ok_bind (s_need (x1 := 59) (c_at := ca) (c_fault := cf) (c_faultAt := cfa) (c_tKind := c_tKind) (c_tPlace := c_tPlace) (c_tValue := c_tValue) c_text L c_tSize rest hk hf2 (by decide)) (fun r1 h1 => ?_)
      rw [show (59 : Int32).toInt.toNat = 59 from by decide] at h1
      rcases h1 with ⟨y1, y2, y3⟩ | ⟨y1, y2⟩
      · rw [if_pos y1, y2]
        have tl := @List.length_tail TkT rest
        refine ok_mono (s_parts_42 c_fresh c_text c_tKind c_tPlace c_tSize c_tValue φ L hφ hfr hL n _ _ _ _ _ _ _ _ _ _ f rest.tail (st :: S) y3 hg2 hd2 (by omega) (by omega)) (fun r hr => ⟨FrM_tr hfr2 hr.1, hr.2.1, ?_⟩)
        have hr3 := hr.2.2
        dsimp only
        cases hp : pText f rest.tail with
        | none => rw [hp] at hr3; exact hr3
        | some ss =>
          rw [hp] at hr3
          have ee : txt (some (st :: ss)) S = txt (some ss) (st :: S) := by
            show some ((st :: ss).reverse ++ S) = some (ss.reverse ++ (st :: S))
            rw [List.reverse_cons, List.append_assoc]
            rfl
          dsimp only
          rw [ee]
          exact hr3
      · rw [y1, if_neg (by decide), y2]
        exact ok_mono (s_parts_1 c_fresh c_text c_tKind c_tPlace c_tSize c_tValue φ (X := True) n _ _ _ _ _ _ _ _ _ _ rfl (by omega) hg2) (fun r hr => ⟨FrM_tr hfr2 hr.1, hr.2.1, hr.2.2⟩)
    refine ok_bind (s_sortHere _ _ _ _ c_text L c_tPlace c_tSize l h hf1) (fun r3 h3 => ?_)
    cases hs : srt l with
    | none =>
      rw [hs] at h3
      have hw := pBody_wire hs
      rw [if_pos h3]
      refine ok_eq (e_isWord _ _ _ _ _ c_text L c_tPlace c_tSize l h 2003399269 (by decide) rfl) ?_
      by_cases w : isWd l 2003399269 = true
      · rw [i01_t hf1 w, if_neg (by decide)]
        rw [if_pos w] at hw
        refine ok_bind (s_wire _ _ _ _ _ _ c_text L c_tSize l h hf1 (hd1 w)) (fun r6 h6 => ?_)
        unfold WirM at h6
        cases hp : pPins 4002 l.tail with
        | none =>
          rw [hp] at h6 hw
          rw [h6]
          refine bad _ _ _ _ _ _ _ _ _ _ ?_ (FrM_rf _ _ _ _ _ _ _ _) hG
          unfold pStmt
          rw [hw]
        | some y =>
          obtain ⟨ps, r⟩ := y
          rw [hp] at h6 hw
          dsimp only at h6 hw
          by_cases two : 2 ≤ ps.length
          · rw [if_pos (by omega)] at h6
            rw [if_pos two] at hw
            rw [h6.1]
            exact good _ _ _ _ _ _ _ _ _ _ _ _ hw h6.2 (FrM_rf _ _ _ _ _ _ _ _) hG (DMs_wire hD rfl)
          · rw [if_neg (by omega)] at h6
            rw [if_neg two] at hw
            rw [h6]
            refine bad _ _ _ _ _ _ _ _ _ _ ?_ (FrM_rf _ _ _ _ _ _ _ _) hG
            unfold pStmt
            rw [hw]
      · rw [i01_f w, if_pos rfl]
        rw [if_neg w] at hw
        refine ok_bind (s_fail _ _ _ _ (.inr ⟨b2, b3⟩)) (fun r5 h5 => ?_)
        rw [h5]
        refine bad _ _ _ _ _ _ _ _ _ _ ?_ (FrM_rf _ _ _ _ _ _ _ _) hG
        unfold pStmt
        rw [hw]
    | some s =>
      rw [hs] at h3
      obtain ⟨y1, y2, y3, y4⟩ := h3
      rw [if_neg (fun q => by rw [q, show (-1 : Int32).toInt = -1 from by decide] at y1; omega)]
      refine ok_bind (s_part _ _ _ _ _ _ _ _ _ _ _ _ _ _ _ _ _ L φ s hφ hfr hL y2 y1 l h y3 S hG hD) (fun r7 h7 => ?_)
      obtain ⟨z1, z2, z3⟩ := h7
      cases hp : pPart s l.tail with
      | none =>
        rw [hp] at z3 y4
        have z3' : r7.2.1 = 1 := z3
        rw [z3']
        refine bad _ _ _ _ _ _ _ _ _ _ ?_ z1 z2
        unfold pStmt
        rw [y4]
      | some y =>
        obtain ⟨st, r⟩ := y
        rw [hp] at z3 y4
        exact good _ _ _ _ _ _ _ _ _ _ st r y4 z3.1 z1 z2 z3.2
