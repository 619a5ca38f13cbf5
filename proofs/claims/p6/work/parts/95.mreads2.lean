/-! what the grammar says of the numbers -/
def WF (a : StT) : Prop := (a.1 = 0 → 1 ≤ a.2.2.1 ∧ a.2.2.1 ≤ 20 ∧ 1 ≤ a.2.2.2.1 ∧ a.2.2.2.1 ≤ 20 ∧ nkd a ≤ 6 ∧ a.2.2.2.2.2.1 < 64) ∧ (a.1 = 3 → 2 ≤ a.2.2.1 ∧ a.2.2.1 ≤ 100 ∧ 1 ≤ a.2.2.2.1 ∧ a.2.2.2.1 ≤ a.2.2.1 - 1) ∧ a.1 ≤ 5
set_option maxHeartbeats 400000 in
theorem pPart_WF {s : Nat} {l rest : List TkT} {st : StT} (hs : s < 5) (h : pPart s l = some (st, rest)) : WF st := by
  unfold pPart at h
  by_cases n : isNm l = true
  · rw [if_pos n] at h
    by_cases s0 : s = 0
    · rw [if_pos s0] at h
      by_cases c : isNr l.tail 1 20 = true ∧ isNr l.tail.tail 1 20 = true
      · rw [if_pos c] at h
        injection h with h; injection h with h1 h2
        have c1 := (isNr_t _ _ _).mp c.1
        have c2 := (isNr_t _ _ _).mp c.2
        have k1 := pK_ge 6 0 0 l.tail.tail.tail
        have k2 := pK_bits 6 0 0 l.tail.tail.tail (by decide) (by decide)
        subst h1
        refine ⟨fun _ => ⟨c1.2.1, c1.2.2, c2.2.1, c2.2.2, ?_, k2⟩, fun q => absurd q (by show ¬ (0 : Nat) = 3; decide), Nat.zero_le _⟩
        show (pKinds 6 0 0 l.tail.tail.tail).1 ≤ 6
        omega
      · rw [if_neg c] at h; cases h
    · rw [if_neg s0] at h
      by_cases s3 : s = 3
      · rw [if_pos s3] at h
        by_cases c : isNr l.tail 2 100 = true ∧ isNr l.tail.tail 1 ((hd l.tail).2.1 - 1) = true
        · rw [if_pos c] at h
          injection h with h; injection h with h1 h2
          have c1 := (isNr_t _ _ _).mp c.1
          have c2 := (isNr_t _ _ _).mp c.2
          subst h1
          exact ⟨fun q => absurd q (by show ¬ (3 : Nat) = 0; decide), fun _ => ⟨c1.2.1, c1.2.2, c2.2.1, c2.2.2⟩, by show (3 : Nat) ≤ 5; decide⟩
        · rw [if_neg c] at h; cases h
      · rw [if_neg s3] at h
        injection h with h; injection h with h1 h2
        subst h1
        exact ⟨fun q => absurd q s0, fun q => absurd q s3, by show s ≤ 5; omega⟩
  · rw [if_neg n] at h; cases h
set_option maxHeartbeats 400000 in
theorem srt_part {l : List TkT} {s : Nat} (h : srt l = some s) : s < 5 ∧ pBody l = pPart s l.tail := by
  unfold srt at h
  have nw : ∀ {a b : Nat}, a ≠ b → isWd l a = true → ¬ isWd l b = true := fun hab p q => hab (by rw [← ((isWd_t _ _).mp p).2, ← ((isWd_t _ _).mp q).2])
  have pp : ∀ s, s = 1 ∨ s = 2 ∨ s = 4 → (if isNm l.tail = true then some ((s, (hd l.tail).2.1, 0, 0, 0, 0, ([] : List PinT)), l.tail.tail) else none) = pPart s l.tail := by
    intro s hs
    unfold pPart
    rw [if_neg (show ¬ s = 0 by omega), if_neg (show ¬ s = 3 by omega)]
  by_cases c1 : isWd l 491327873401 = true
  · rw [if_pos c1] at h
    injection h with h
    subst h
    refine ⟨by decide, ?_⟩
    unfold pBody pPart
    rw [if_neg (nw (by decide) c1), if_pos c1, if_pos (show (0 : Nat) = 0 from rfl)]
    by_cases a : isNm l.tail = true
    · rw [if_pos a, if_pos a]
      by_cases b : isNr l.tail.tail 1 20 = true
      · rw [if_pos b]
        by_cases c : isNr l.tail.tail.tail 1 20 = true
        · rw [if_pos c, if_pos ⟨b, c⟩]; rfl
        · rw [if_neg c, if_neg (fun q => c q.2)]
      · rw [if_neg b, if_neg (fun q => b q.1)]
    · rw [if_neg a, if_neg a]
  rw [if_neg c1] at h
  by_cases c2 : isWd l 7038329 = true
  · rw [if_pos c2] at h
    injection h with h
    subst h
    refine ⟨by decide, ?_⟩
    unfold pBody
    rw [if_neg (nw (by decide) c2), if_neg c1, if_pos c2]
    exact pp 1 (.inl rfl)
  rw [if_neg c2] at h
  by_cases c3 : isWd l 1818324336 = true
  · rw [if_pos c3] at h
    injection h with h
    subst h
    refine ⟨by decide, ?_⟩
    unfold pBody
    rw [if_neg (nw (by decide) c3), if_neg c1, if_neg c2, if_pos c3]
    exact pp 2 (.inr (.inl rfl))
  rw [if_neg c3] at h
  by_cases c4 : isWd l 427021001579 = true
  · rw [if_pos c4] at h
    injection h with h
    subst h
    refine ⟨by decide, ?_⟩
    unfold pBody pPart
    rw [if_neg (nw (by decide) c4), if_neg c1, if_neg c2, if_neg c3, if_neg (nw (by decide) c4), if_pos c4, if_neg (show ¬ (3 : Nat) = 0 by decide), if_pos (show (3 : Nat) = 3 from rfl)]
    by_cases a : isNm l.tail = true
    · rw [if_pos a, if_pos a]
      by_cases b : isNr l.tail.tail 2 100 = true
      · rw [if_pos b]
        by_cases c : isNr l.tail.tail.tail 1 ((hd l.tail.tail).2.1 - 1) = true
        · rw [if_pos c, if_pos ⟨b, c⟩]; rfl
        · rw [if_neg c, if_neg (fun q => c q.2)]
      · rw [if_neg b, if_neg (fun q => b q.1)]
    · rw [if_neg a, if_neg a]
  rw [if_neg c4] at h
  by_cases c5 : isWd l 431265637477 = true
  · rw [if_pos c5] at h
    injection h with h
    subst h
    refine ⟨by decide, ?_⟩
    unfold pBody
    rw [if_neg (nw (by decide) c5), if_neg c1, if_neg c2, if_neg c3, if_pos c5]
    exact pp 4 (.inr (.inr rfl))
  rw [if_neg c5] at h
  cases h
set_option maxHeartbeats 400000 in
theorem pBody_WF {l rest : List TkT} {st : StT} (h : pBody l = some (st, rest)) : WF st := by
  cases hs : srt l with
  | some s =>
    obtain ⟨h1, h2⟩ := srt_part hs
    rw [h2] at h
    exact pPart_WF h1 h
  | none =>
    rw [pBody_wire hs] at h
    by_cases w : isWd l 2003399269 = true
    · rw [if_pos w] at h
      cases hp : pPins 4002 l.tail with
      | none => rw [hp] at h; cases h
      | some y =>
        obtain ⟨ps, r⟩ := y
        rw [hp] at h
        dsimp only at h
        by_cases two : 2 ≤ ps.length
        · rw [if_pos two] at h
          injection h with h; injection h with h1 h2
          subst h1
          exact ⟨fun q => absurd q (by show ¬ (5 : Nat) = 0; decide), fun q => absurd q (by show ¬ (5 : Nat) = 3; decide), Nat.le_refl _⟩
        · rw [if_neg two] at h; cases h
    · rw [if_neg w] at h; cases h
set_option maxHeartbeats 400000 in
theorem pText_WF : ∀ (f : Nat) (l : List TkT) (ss : List StT), pText f l = some ss → ∀ a ∈ ss, WF a
  | 0, l, ss, h => by cases h
  | f + 1, l, ss, h => by
    unfold pText at h
    by_cases e : (hd l).1 = 0
    · rw [if_pos e] at h
      injection h with h
      subst h
      exact fun a ha => absurd ha (List.not_mem_nil)
    · rw [if_neg e] at h
      cases hq : pBody l with
      | none =>
        unfold pStmt at h
        rw [hq] at h; cases h
      | some y =>
        obtain ⟨st, rest⟩ := y
        unfold pStmt at h
        rw [hq] at h
        dsimp only at h
        by_cases sn : isSn rest 59 = true
        · rw [if_pos sn] at h
          dsimp only at h
          cases hq2 : pText f rest.tail with
          | none => rw [hq2] at h; cases h
          | some ss2 =>
            rw [hq2] at h
            injection h with h
            subst h
            intro a ha
            rcases List.mem_cons.mp ha with q | q
            · rw [q]; exact pBody_WF hq
            · exact pText_WF f rest.tail ss2 hq2 a q
        · rw [if_neg sn] at h; cases h
set_option maxHeartbeats 400000 in
theorem AT_mem (s i : Nat) (a : StT) : ∀ S : List StT, AT s i a S → a ∈ S
  | [], h => h.elim
  | b :: r, h => by
    rcases h with ⟨h1, h2, h3⟩ | h
    · rw [h3]; exact List.mem_cons_self ..
    · exact List.mem_cons_of_mem _ (AT_mem s i a r h)
set_option maxHeartbeats 400000 in
theorem PMr_full (φ : Nat) (nameSize names one two kinds bits : Nat → Int32) (s i : Nat) (a : StT) (hs : s < 5) : ∀ S : List StT, PMr φ nameSize names one two kinds bits S → AT s i a S → NMp nameSize names (116 * φ + fstS s + i) (tnm a) ∧ (s = 0 → (one (116 * φ + fstS s + i)).toInt = a.2.2.1 ∧ (two (116 * φ + fstS s + i)).toInt = a.2.2.2.1 ∧ (kinds (116 * φ + fstS s + i)).toInt = nkd a ∧ (bits (116 * φ + fstS s + i)).toInt = a.2.2.2.2.2.1) ∧ (s = 3 → (one (116 * φ + fstS s + i)).toInt = a.2.2.1 ∧ (two (116 * φ + fstS s + i)).toInt = a.2.2.2.1)
  | [], _, h => h.elim
  | b :: r, hP, h => by
    rcases h with ⟨h1, h2, h3⟩ | h
    · subst h3
      have q := hP.1 (by omega)
      rw [h1, ← h2] at q
      exact q
    · exact PMr_full φ nameSize names one two kinds bits s i a hs r hP.2 h
set_option maxHeartbeats 400000 in
theorem okS_okC : ∀ S : List StT, okS S = true → okC S = true
  | [], _ => rfl
  | a :: r, h => by
    have h' : (okS r && (decide (5 ≤ a.1) || (!inN (tnm a) r && decide (cnt a.1 r < mst a.1)))) = true := h
    rw [Bool.and_eq_true, Bool.or_eq_true, Bool.and_eq_true] at h'
    show (okC r && (decide (5 ≤ a.1) || decide (cnt a.1 r < mst a.1))) = true
    rw [Bool.and_eq_true, Bool.or_eq_true]
    exact ⟨okS_okC r h'.1, h'.2.elim .inl (fun q => .inr q.2)⟩
/-! the reference's reading -/
set_option maxHeartbeats 400000 in
theorem s_reads_29 (c_size : Int32) (c_text : Nat → Int32) (c_tokens : Int32) (c_at : Int32) (c_fault : Int32) (c_faultAt : Int32) (c_side : Int32) (c_fresh : Int32) (c_kept : Int32) (c_raceTick : Int32) (c_tKind : Nat → Int32) (c_tPlace : Nat → Int32) (c_tSize : Nat → Int32) (c_tValue : Nat → Int64) (c_many : Nat → Int32) (c_nameSize : Nat → Int32) (c_one : Nat → Int32) (c_two : Nat → Int32) (c_kinds : Nat → Int32) (c_kindBits : Nat → Int32) (c_names : Nat → Int32) (c_netOf : Nat → Int32) (c_isTold : Nat → Int32) (c_soFar : Nat → Int32) (c_state : Nat → Int32) (c_stuck : Nat → Int32) (c_dusty : Nat → Int32) (φ : Nat) (hφ : φ ≤ 1) (hfr : c_fresh.toInt = φ) (hN : c_fault = 0 → NI (954 * φ) c_netOf) (hf : 0 ≤ c_fault.toInt) : Ok (f_X11_reads_29 c_size c_text c_tokens c_at c_fault c_faultAt c_side c_fresh c_kept c_raceTick c_tKind c_tPlace c_tSize c_tValue c_many c_nameSize c_one c_two c_kinds c_kindBits c_names c_netOf c_isTold c_soFar c_state c_stuck c_dusty) (fun r => (c_fault = 0 ∧ CLP φ c_netOf c_isTold c_fresh c_many c_nameSize c_one c_two c_kinds c_kindBits c_names r.1 r.2.2.2.2.2.1 r.2.2.2.2.2.2.2.1 r.2.2.2.2.2.2.2.2.1 r.2.2.2.2.2.2.2.2.2.2.2.2.2.1 r.2.2.2.2.2.2.2.2.2.2.2.2.2.2.1 r.2.2.2.2.2.2.2.2.2.2.2.2.2.2.2.1 r.2.2.2.2.2.2.2.2.2.2.2.2.2.2.2.2.1 r.2.2.2.2.2.2.2.2.2.2.2.2.2.2.2.2.2.1 r.2.2.2.2.2.2.2.2.2.2.2.2.2.2.2.2.2.2.1 r.2.2.2.2.2.2.2.2.2.2.2.2.2.2.2.2.2.2.2.1 r.2.2.2.2.2.2.2.2.2.2.2.2.2.2.2.2.2.2.2.2.1 r.2.2.2.2.2.2.2.2.2.2.2.2.2.2.2.2.2.2.2.2.2.1 r.2.2.2.2.2.2.2.2.2.2.2.2.2.2.2.2.2.2.2.2.2.2.2.1 r.2.2.2.2.2.2.2.2.2.2.2.2.2.2.2.2.2.2.2.2.2.2.2.2.1 r.2.2.2.2.2.2.2.2.2.2.2.2.2.2.2.2.2.2.2.2.2.2.2.2.2) ∨ (¬ c_fault = 0 ∧ r = (c_fault, c_tokens, c_at, c_fault, c_faultAt, c_side, c_fresh, c_kept, c_raceTick, c_tKind, c_tPlace, c_tSize, c_tValue, c_many, c_nameSize, c_one, c_two, c_kinds, c_kindBits, c_names, c_netOf, c_isTold, c_soFar, c_state, c_stuck, c_dusty))) := by
  unfold f_X11_reads_29
  refine ok_if (fun q => ?_) (fun q => ?_)
  · rw [tI_le, show (0 : Int32).toInt = 0 from by decide] at q
    have f0 : c_fault = 0 := Int32.toInt_inj.mp (by rw [show (0 : Int32).toInt = 0 from by decide]; omega)
    exact ok_mono (s_reads_43 c_size c_text φ hφ c_netOf FU _ _ _ _ _ _ _ _ _ _ _ _ _ _ _ _ _ _ _ _ _ _ _ _ _ _ hfr (hN f0) (by decide) (by decide) (by rw [FU_eq]; decide) (fun _ _ => rfl)) (fun r hr => .inl ⟨f0, hr⟩)
  · exact ok_some (.inr ⟨fun z => q (by rw [z]; decide), rfl⟩)
set_option maxHeartbeats 400000 in
theorem s_reads (c_size : Int32) (c_tokens : Int32) (c_at : Int32) (c_fault : Int32) (c_faultAt : Int32) (c_side : Int32) (c_fresh : Int32) (c_kept : Int32) (c_raceTick : Int32) (c_text : Nat → Int32) (c_tKind : Nat → Int32) (c_tPlace : Nat → Int32) (c_tSize : Nat → Int32) (c_tValue : Nat → Int64) (c_many : Nat → Int32) (c_nameSize : Nat → Int32) (c_one : Nat → Int32) (c_two : Nat → Int32) (c_kinds : Nat → Int32) (c_kindBits : Nat → Int32) (c_names : Nat → Int32) (c_netOf : Nat → Int32) (c_isTold : Nat → Int32) (c_soFar : Nat → Int32) (c_state : Nat → Int32) (c_stuck : Nat → Int32) (c_dusty : Nat → Int32) (σ L : Nat) (hσ : σ ≤ 1) (hsd : c_side.toInt = σ) (hs : c_size.toInt = L) (hL : L ≤ 4000) (hB : BY c_text L) (hG : GB c_nameSize c_kinds) : Ok (f_X11_reads c_size c_tokens c_at c_fault c_faultAt c_side c_fresh c_kept c_raceTick c_text c_tKind c_tPlace c_tSize c_tValue c_many c_nameSize c_one c_two c_kinds c_kindBits c_names c_netOf c_isTold c_soFar c_state c_stuck c_dusty) (fun r => RdP (1 - σ) L c_side c_kept c_raceTick c_many c_nameSize c_one c_two c_kinds c_kindBits c_names c_netOf c_isTold c_state c_stuck c_dusty (getT (stmtsT c_text L)) (accT (stmtsT c_text L)) r.1 r.2.2.2.2.2.1 r.2.2.2.2.2.2.2.1 r.2.2.2.2.2.2.2.2.1 r.2.2.2.2.2.2.2.2.2.2.2.2.2.1 r.2.2.2.2.2.2.2.2.2.2.2.2.2.2.1 r.2.2.2.2.2.2.2.2.2.2.2.2.2.2.2.1 r.2.2.2.2.2.2.2.2.2.2.2.2.2.2.2.2.1 r.2.2.2.2.2.2.2.2.2.2.2.2.2.2.2.2.2.1 r.2.2.2.2.2.2.2.2.2.2.2.2.2.2.2.2.2.2.1 r.2.2.2.2.2.2.2.2.2.2.2.2.2.2.2.2.2.2.2.1 r.2.2.2.2.2.2.2.2.2.2.2.2.2.2.2.2.2.2.2.2.1 r.2.2.2.2.2.2.2.2.2.2.2.2.2.2.2.2.2.2.2.2.2.1 r.2.2.2.2.2.2.2.2.2.2.2.2.2.2.2.2.2.2.2.2.2.2.2.1 r.2.2.2.2.2.2.2.2.2.2.2.2.2.2.2.2.2.2.2.2.2.2.2.2.1 r.2.2.2.2.2.2.2.2.2.2.2.2.2.2.2.2.2.2.2.2.2.2.2.2.2) := by
  unfold f_X11_reads
  have e1 : ((1 : Int32) - c_side).toInt = ((1 - σ : Nat) : Int) := by ((try simp only [tI_lt, tI_le, tI_eq, tI_add, tI_sub, tI_mul, tI_nat, Int32.reduceToInt, Int.reduceToNat, fe_0, fe_1, fe_2, fe_3, fe_4, fe_5]) <;> (try simp (disch := omega) only [tI_bm]) <;> omega)
  have hφ : 1 - σ ≤ 1 := by omega
  refine ok_vlet (ok_bind (s_X11_lex _ _ _ _ _ _ _ L hs hL hB) (fun r2 h2 => ?_))
  obtain ⟨m1, m2, m3⟩ := h2
  have hlen : (toksT c_text L).length ≤ 4001 := by
    unfold toksT
    rw [List.length_reverse]; omega
  have km : KM c_text L r2.2.1 r2.2.2.1 r2.2.2.2.1 r2.2.2.2.2 0 (toksT c_text L) := by
    refine ⟨by decide, ?_, ?_, TKS_TG (TKS_end c_text L)⟩
    · rw [show (0 : Int32).toInt = 0 from by decide]; omega
    · rw [show (0 : Int32).toInt.toNat = 0 from by decide]
      exact MT_RM _ _ _ _ _ _ _ m3
  refine ok_bind (s_parts _ _ _ _ _ _ _ _ _ _ _ _ _ _ _ _ (1 - σ) L hφ e1 hL (toksT c_text L) km hlen hG) (fun r3 h3 => ?_)
  obtain ⟨q1, q2, q3⟩ := h3
  have est : stmtsT c_text L = txt (pText 4002 (toksT c_text L)) [] := rfl
  -- a fault that the first go found
  have bad : ∀ (r : Int32 × Int32 × Int32 × Int32 × Int32 × Int32 × Int32 × Int32 × Int32 × (Nat → Int32) × (Nat → Int32) × (Nat → Int32) × (Nat → Int64) × (Nat → Int32) × (Nat → Int32) × (Nat → Int32) × (Nat → Int32) × (Nat → Int32) × (Nat → Int32) × (Nat → Int32) × (Nat → Int32) × (Nat → Int32) × (Nat → Int32) × (Nat → Int32) × (Nat → Int32) × (Nat → Int32)) (tk a f fa fr : Int32) (a1 a2 a3 : Nat → Int32) (a4 : Nat → Int64) (no it so : Nat → Int32), ¬ accT (stmtsT c_text L) → 0 < f.toInt → FrN (1 - σ) c_netOf c_isTold no it → r = (f, tk, a, f, fa, c_side, fr, c_kept, c_raceTick, a1, a2, a3, a4, r3.2.2.2.1, r3.2.2.2.2.1, r3.2.2.2.2.2.1, r3.2.2.2.2.2.2.1, r3.2.2.2.2.2.2.2.1, r3.2.2.2.2.2.2.2.2.1, r3.2.2.2.2.2.2.2.2.2, no, it, so, c_state, c_stuck, c_dusty) → RdP (1 - σ) L c_side c_kept c_raceTick c_many c_nameSize c_one c_two c_kinds c_kindBits c_names c_netOf c_isTold c_state c_stuck c_dusty (getT (stmtsT c_text L)) (accT (stmtsT c_text L)) r.1 r.2.2.2.2.2.1 r.2.2.2.2.2.2.2.1 r.2.2.2.2.2.2.2.2.1 r.2.2.2.2.2.2.2.2.2.2.2.2.2.1 r.2.2.2.2.2.2.2.2.2.2.2.2.2.2.1 r.2.2.2.2.2.2.2.2.2.2.2.2.2.2.2.1 r.2.2.2.2.2.2.2.2.2.2.2.2.2.2.2.2.1 r.2.2.2.2.2.2.2.2.2.2.2.2.2.2.2.2.2.1 r.2.2.2.2.2.2.2.2.2.2.2.2.2.2.2.2.2.2.1 r.2.2.2.2.2.2.2.2.2.2.2.2.2.2.2.2.2.2.2.1 r.2.2.2.2.2.2.2.2.2.2.2.2.2.2.2.2.2.2.2.2.1 r.2.2.2.2.2.2.2.2.2.2.2.2.2.2.2.2.2.2.2.2.2.1 r.2.2.2.2.2.2.2.2.2.2.2.2.2.2.2.2.2.2.2.2.2.2.2.1 r.2.2.2.2.2.2.2.2.2.2.2.2.2.2.2.2.2.2.2.2.2.2.2.2.1 r.2.2.2.2.2.2.2.2.2.2.2.2.2.2.2.2.2.2.2.2.2.2.2.2.2 := by
    intro r tk a f fa fr a1 a2 a3 a4 no it so g1 g2 g3 e
    rw [e]
    exact ⟨q1, g3, q2, .inr ⟨g1, g2, rfl, rfl, rfl, rfl, rfl, rfl⟩⟩
  cases hp : pText 4002 (toksT c_text L) with
  | none =>
    rw [hp] at q3
    have f1 : r3.2.1 = 1 := q3
    have na : ¬ accT (stmtsT c_text L) := by rw [est, hp]; exact fun q => q
    rw [if_neg (by rw [f1]; decide)]
    refine ok_mono (s_reads_29 _ _ _ _ _ _ _ _ _ _ _ _ _ _ _ _ _ _ _ _ _ _ _ _ _ _ _ (1 - σ) hφ e1 (fun z => absurd z (by rw [f1]; decide)) (by rw [f1]; decide)) (fun r hr => ?_)
    rcases hr with ⟨z, -⟩ | ⟨-, z⟩
    · rw [f1] at z; exact absurd z (by decide)
    · exact bad r _ _ _ _ _ _ _ _ _ _ _ _ na (by rw [f1]; decide) (FrN_rf _ _ _) z
  | some ss =>
    rw [hp] at q3
    have q3' : DMs (1 - σ) r3.2.1 r3.2.2.2.1 r3.2.2.2.2.1 r3.2.2.2.2.2.2.2.2.2 r3.2.2.2.2.2.1 r3.2.2.2.2.2.2.1 r3.2.2.2.2.2.2.2.1 r3.2.2.2.2.2.2.2.2.1 (ss.reverse ++ []) := q3
    rw [List.append_nil] at q3'
    have est2 : stmtsT c_text L = some ss.reverse := by
      rw [est, hp]
      show some (ss.reverse ++ []) = _
      rw [List.append_nil]
    obtain ⟨d1, d2⟩ := q3'
    rcases d2 with ⟨d2, d3, d4, d5⟩ | ⟨d2, d3⟩
    · rw [if_pos d3]
      refine ok_bind (s_namesAndWires _ _ _ _ _ _ _ _ _ _ _ _ _ _ _ _ (1 - σ) ss.reverse r3.2.2.2.2.2.1 r3.2.2.2.2.2.2.1 r3.2.2.2.2.2.2.2.2.1 hφ e1 d5 q2 (fun s hs => okC_cnt s hs _ d2) L hL d4 d2 (toksT c_text L) ss km hlen d3 hp rfl) (fun r4 h4 => ?_)
      obtain ⟨n1, n2, n3⟩ := h4
      rcases n1 with ⟨n1, n4, n5⟩ | ⟨n1, n4⟩
      · refine ok_mono (s_reads_29 _ _ _ _ _ _ _ _ _ _ _ _ _ _ _ _ _ _ _ _ _ _ _ _ _ _ _ (1 - σ) hφ e1 (fun _ => n2) (by rw [n1]; decide)) (fun r hr => ?_)
        rcases hr with ⟨-, hr⟩ | ⟨z, -⟩
        · obtain ⟨a1, a2, a3, a4, a5, a6, a7, a8, a9, a10, a11, a12, a13, a14, a15, a16⟩ := hr
          refine ⟨?_, ?_, ?_, .inl ⟨?_, a10, ?_, a12, a13, a14, a15, ?_, ?_, ?_, a16⟩⟩
          · rw [a1, a2, a3, a4, a5, a6, a7]; exact q1
          · intro i hi
            rw [a8, a9 i hi]
            exact n3 i hi
          · rw [a2, a5]; exact q2
          · rw [est2]; exact ⟨n4, n5⟩
          · rw [a11]; exact e1
          · rw [a1, est2]; exact d4
          · rw [est2]; exact d2
          · rw [a2, a3, a4, a5, a6, a7, est2]; exact d5
        · exact absurd n1 z
      · have na : ¬ accT (stmtsT c_text L) := by rw [est2]; exact n4
        refine ok_mono (s_reads_29 _ _ _ _ _ _ _ _ _ _ _ _ _ _ _ _ _ _ _ _ _ _ _ _ _ _ _ (1 - σ) hφ e1 (fun z => absurd z (by rw [n1]; decide)) (by rw [n1]; decide)) (fun r hr => ?_)
        rcases hr with ⟨z, -⟩ | ⟨-, z⟩
        · rw [n1] at z; exact absurd z (by decide)
        · exact bad r _ _ _ _ _ _ _ _ _ _ _ _ na (by rw [n1]; decide) n3 z
    · have na : ¬ accT (stmtsT c_text L) := by
        rw [est2]
        intro q
        have := okS_okC _ q.1
        rw [d2] at this
        exact absurd this (by decide)
      rw [if_neg (by rw [d3]; decide)]
      refine ok_mono (s_reads_29 _ _ _ _ _ _ _ _ _ _ _ _ _ _ _ _ _ _ _ _ _ _ _ _ _ _ _ (1 - σ) hφ e1 (fun z => absurd z (by rw [d3]; decide)) (by rw [d3]; decide)) (fun r hr => ?_)
      rcases hr with ⟨z, -⟩ | ⟨-, z⟩
      · rw [d3] at z; exact absurd z (by decide)
      · exact bad r _ _ _ _ _ _ _ _ _ _ _ _ na (by rw [d3]; decide) (FrN_rf _ _ _) z
