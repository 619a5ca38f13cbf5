/-! the reference's reader, piece by piece -/
def mm (t : Nat → Int32) (L : Nat) (k p s : Int32) (v : Int64) (a : TkT) : Prop := k.toInt = a.1 ∧ (a.1 = 1 ∨ a.1 = 2 ∨ a.1 = 3 → v = Int64.ofNat a.2.1) ∧ (a.1 = 1 → s.toInt = a.2.2 ∧ 0 ≤ p.toInt ∧ p.toInt + a.2.2 ≤ L ∧ a.2.1 = pk (fun j => (t (p.toInt.toNat + j)).toInt.toNat) a.2.2 ∧ (∀ j, j < a.2.2 → 1 ≤ (t (p.toInt.toNat + j)).toInt ∧ (t (p.toInt.toNat + j)).toInt < 128))
def RM (t : Nat → Int32) (L : Nat) (kd pl sz : Nat → Int32) (vl : Nat → Int64) : Nat → List TkT → Prop
  | _, [] => True
  | i, a :: r => mm t L (kd i) (pl i) (sz i) (vl i) a ∧ RM t L kd pl sz vl (i + 1) r
set_option maxHeartbeats 400000 in
theorem RM_app (t : Nat → Int32) (L : Nat) (kd pl sz : Nat → Int32) (vl : Nat → Int64) : ∀ (i : Nat) (l : List TkT) (a : TkT), RM t L kd pl sz vl i l → mm t L (kd (i + l.length)) (pl (i + l.length)) (sz (i + l.length)) (vl (i + l.length)) a → RM t L kd pl sz vl i (l ++ [a])
  | i, [], a, _, h => ⟨h, trivial⟩
  | i, b :: l, a, h1, h2 => by
    refine ⟨h1.1, RM_app t L kd pl sz vl (i + 1) l a h1.2 ?_⟩
    rw [List.length_cons] at h2
    have e : i + 1 + l.length = i + (l.length + 1) := by omega
    rw [e]
    exact h2
set_option maxHeartbeats 400000 in
theorem MT_RM (t : Nat → Int32) (L : Nat) (kd pl sz : Nat → Int32) (vl : Nat → Int64) : ∀ (S : List TkT), MT t L kd pl sz vl S → RM t L kd pl sz vl 0 S.reverse
  | [], _ => trivial
  | a :: r, h => by
    obtain ⟨h1, h2⟩ := h
    rw [List.reverse_cons]
    refine RM_app t L kd pl sz vl 0 _ a (MT_RM t L kd pl sz vl r h2) ?_
    rw [List.length_reverse, Nat.zero_add]
    exact h1
def KM (t : Nat → Int32) (L : Nat) (kd pl sz : Nat → Int32) (vl : Nat → Int64) (at_ : Int32) (l : List TkT) : Prop := 0 ≤ at_.toInt ∧ at_.toInt + l.length ≤ 4001 ∧ RM t L kd pl sz vl at_.toInt.toNat l ∧ TG l
set_option maxHeartbeats 400000 in
theorem KM_hd {t : Nat → Int32} {L : Nat} {kd pl sz : Nat → Int32} {vl : Nat → Int64} {a : Int32} {l : List TkT} (h : KM t L kd pl sz vl a l) : 0 ≤ a.toInt ∧ a.toInt < 4001 ∧ mm t L (kd a.toInt.toNat) (pl a.toInt.toNat) (sz a.toInt.toNat) (vl a.toInt.toNat) (hd l) ∧ l = hd l :: l.tail ∧ ((TV (hd l) ∧ TG l.tail) ∨ ((hd l).1 = 0 ∧ l.tail = []) ∨ ((hd l).1 = 4 ∧ l.tail = [])) := by
  obtain ⟨h1, h2, h4, h5⟩ := h
  match l, h2, h4, h5 with
  | [], h2, h4, h5 => exact absurd h5 (fun q => q)
  | b :: r, h2, h4, h5 =>
    rw [List.length_cons] at h2
    refine ⟨h1, by omega, h4.1, rfl, ?_⟩
    rcases h5 with ⟨q1, q2⟩ | q
    · rcases q2 with q2 | ⟨q3, q2⟩
      · exact .inr (.inl ⟨by rw [q2]; rfl, q1⟩)
      · exact .inr (.inr ⟨by rw [q2]; rfl, q1⟩)
    · exact .inl q
set_option maxHeartbeats 400000 in
theorem KM_next {t : Nat → Int32} {L : Nat} {kd pl sz : Nat → Int32} {vl : Nat → Int64} {a : Int32} {l : List TkT} (h : KM t L kd pl sz vl a l) (hg : (hd l).1 = 1 ∨ (hd l).1 = 2 ∨ (hd l).1 = 3) : KM t L kd pl sz vl (a + 1) l.tail ∧ TV (hd l) ∧ (a + 1).toInt = a.toInt + 1 := by
  have hh := KM_hd h
  obtain ⟨b2, b3, b4, b5, b6⟩ := hh
  obtain ⟨h1, h2, h4, h5⟩ := h
  have e : (a + 1).toInt = a.toInt + 1 := by ((try simp only [tI_lt, tI_le, tI_eq, tI_add, tI_sub, tI_mul, tI_nat, Int32.reduceToInt, Int.reduceToNat, fe_0, fe_1, fe_2, fe_3, fe_4, fe_5]) <;> (try simp (disch := omega) only [tI_bm]) <;> omega)
  have tv : TV (hd l) ∧ TG l.tail := by
    rcases b6 with q | q | q
    · exact q
    · omega
    · omega
  rw [b5] at h4 h2
  rw [List.length_cons] at h2
  refine ⟨⟨by omega, by omega, ?_, tv.2⟩, tv.1, e⟩
  have e2 : (a + 1).toInt.toNat = a.toInt.toNat + 1 := by omega
  rw [e2]
  exact h4.2
set_option maxHeartbeats 400000 in
theorem e_good (c_fault : Int32) : f_X11_good c_fault = some (if c_fault = 1 then 0 else 1) := by
  unfold f_X11_good
  split <;> rfl
set_option maxHeartbeats 400000 in
theorem mm_v {t : Nat → Int32} {L : Nat} {k p s : Int32} {v : Int64} {l : List TkT} (h : mm t L k p s v (hd l)) (hg : (TV (hd l) ∧ TG l.tail) ∨ ((hd l).1 = 0 ∧ l.tail = []) ∨ ((hd l).1 = 4 ∧ l.tail = [])) (a : (hd l).1 = 1 ∨ (hd l).1 = 2 ∨ (hd l).1 = 3) : v = Int64.ofNat (hd l).2.1 ∧ (hd l).2.1 < 9223372036854775808 := by
  refine ⟨h.2.1 a, ?_⟩
  rcases hg with q | q | q
  · rcases q.1 with z | z | z
    · exact z.2.1
    · omega
    · have := z.2.1
      rw [isSg_t] at this
      omega
  · omega
  · omega
set_option maxHeartbeats 400000 in
theorem e_isWord (x1 : Int64) (c_at : Int32) (c_fault : Int32) (c_tKind : Nat → Int32) (c_tValue : Nat → Int64) (t : Nat → Int32) (L : Nat) (pl sz : Nat → Int32) (l : List TkT) (h : KM t L c_tKind pl sz c_tValue c_at l) (w : Nat) (hw : w < 9223372036854775808) (h1 : x1 = Int64.ofNat w) : (f_X11_isWord x1 c_at c_fault c_tKind c_tValue) = some (if ¬ c_fault = 1 ∧ isWd l w = true then 1 else 0) := by
  obtain ⟨b2, b3, b4, b5, b6⟩ := KM_hd h
  unfold f_X11_isWord
  rw [e_good]
  dsimp only [Option.bind]
  by_cases g : c_fault = 1
  · rw [if_pos g, if_pos rfl, if_neg (fun q => q.1 g)]
  · rw [if_neg g, if_neg (by decide)]
    simp only [bad_f b2 b3, Bool.false_eq_true, if_false]
    rw [tI_nat]
    by_cases a : (hd l).1 = 1
    · have mv := mm_v b4 b6 (.inl a)
      rw [if_pos (Int32.toInt_inj.mp (by rw [b4.1, a]; rfl)), mv.1, h1]
      by_cases c : (hd l).2.1 = w
      · rw [if_pos ((lgc _ _).mpr (by rw [c])), if_pos ⟨g, (isWd_t _ _).mpr ⟨a, c⟩⟩]
      · rw [if_neg (fun q => c ((L_eq mv.2 hw).mp ((lgc _ _).mp q))), if_neg (fun q => c ((isWd_t _ _).mp q.2).2)]
    · rw [if_neg (fun q => a (by have := congrArg Int32.toInt q; rw [b4.1, show (1 : Int32).toInt = 1 from by decide] at this; omega)), if_neg (fun q => a ((isWd_t _ _).mp q.2).1)]
set_option maxHeartbeats 400000 in
theorem e_isSign (x1 : Int32) (c_at : Int32) (c_fault : Int32) (c_tKind : Nat → Int32) (c_tValue : Nat → Int64) (t : Nat → Int32) (L : Nat) (pl sz : Nat → Int32) (l : List TkT) (h : KM t L c_tKind pl sz c_tValue c_at l) (h1 : 0 ≤ x1.toInt) : (f_X11_isSign x1 c_at c_fault c_tKind c_tValue) = some (if ¬ c_fault = 1 ∧ isSn l x1.toInt.toNat = true then 1 else 0) := by
  obtain ⟨b2, b3, b4, b5, b6⟩ := KM_hd h
  have rg := tI_rng x1
  unfold f_X11_isSign
  rw [e_good]
  dsimp only [Option.bind]
  by_cases g : c_fault = 1
  · rw [if_pos g, if_pos rfl, if_neg (fun q => q.1 g)]
  · rw [if_neg g, if_neg (by decide)]
    simp only [bad_f b2 b3, Bool.false_eq_true, if_false]
    rw [tI_nat]
    by_cases a : (hd l).1 = 3
    · have mv := mm_v b4 b6 (.inr (.inr a))
      rw [if_pos (Int32.toInt_inj.mp (by rw [b4.1, a]; rfl)), mv.1, I_toL h1]
      by_cases c : (hd l).2.1 = x1.toInt.toNat
      · rw [if_pos ((lgc _ _).mpr (by rw [c])), if_pos ⟨g, (isSn_t _ _).mpr ⟨a, c⟩⟩]
      · rw [if_neg (fun q => c ((L_eq mv.2 (by omega)).mp ((lgc _ _).mp q))), if_neg (fun q => c ((isSn_t _ _).mp q.2).2)]
    · rw [if_neg (fun q => a (by have := congrArg Int32.toInt q; rw [b4.1, show (3 : Int32).toInt = 3 from by decide] at this; omega)), if_neg (fun q => a ((isSn_t _ _).mp q.2).1)]
set_option maxHeartbeats 400000 in
theorem e_isTaken {v : Nat} (h : v < 9223372036854775808) : f_X11_isTaken (Int64.ofNat v) = some (if wcode v = 1 then 0 else 1) := by
  unfold f_X11_isTaken f_X11_isTaken_80
  simp only [lgc]
  have e : ∀ n : Nat, n < 2 ^ 63 → (Int64.ofNat v = Int64.ofNat n ↔ v = n) := fun n hn => L_eq h hn
  simp only [show (2003399269 : Int64) = Int64.ofNat 2003399269 from rfl, show (1886156147 : Int64) = Int64.ofNat 1886156147 from rfl, show (469920281971 : Int64) = Int64.ofNat 469920281971 from rfl, show (491327873401 : Int64) = Int64.ofNat 491327873401 from rfl, show (422826041707 : Int64) = Int64.ofNat 422826041707 from rfl, show (1835101029 : Int64) = Int64.ofNat 1835101029 from rfl, show (7038329 : Int64) = Int64.ofNat 7038329 from rfl, show (1818324336 : Int64) = Int64.ofNat 1818324336 from rfl, show (427021001579 : Int64) = Int64.ofNat 427021001579 from rfl, show (431265637477 : Int64) = Int64.ofNat 431265637477 from rfl]
  simp only [e 2003399269 (by decide), e 1886156147 (by decide), e 469920281971 (by decide), e 491327873401 (by decide), e 422826041707 (by decide), e 1835101029 (by decide), e 7038329 (by decide), e 1818324336 (by decide), e 427021001579 (by decide), e 431265637477 (by decide)]
  unfold wcode
  repeat' split
  all_goals first | rfl | (exfalso; omega)
set_option maxHeartbeats 400000 in
theorem e_isName (c_at : Int32) (c_fault : Int32) (c_tKind : Nat → Int32) (c_tValue : Nat → Int64) (t : Nat → Int32) (L : Nat) (pl sz : Nat → Int32) (l : List TkT) (h : KM t L c_tKind pl sz c_tValue c_at l) : (f_X11_isName c_at c_fault c_tKind c_tValue) = some (if ¬ c_fault = 1 ∧ isNm l = true then 1 else 0) := by
  obtain ⟨b2, b3, b4, b5, b6⟩ := KM_hd h
  unfold f_X11_isName
  rw [e_good]
  dsimp only [Option.bind]
  by_cases g : c_fault = 1
  · rw [if_pos g, if_pos rfl, if_neg (fun q => q.1 g)]
  · rw [if_neg g, if_neg (by decide)]
    simp only [bad_f b2 b3, Bool.false_eq_true, if_false]
    rw [tI_nat]
    by_cases a : (hd l).1 = 1
    · have mv := mm_v b4 b6 (.inl a)
      rw [if_pos (Int32.toInt_inj.mp (by rw [b4.1, a]; rfl)), mv.1, e_isTaken mv.2]
      dsimp only
      by_cases c : wcode (hd l).2.1 = 1
      · rw [if_pos c, if_pos rfl, if_pos ⟨g, (isNm_t _).mpr ⟨a, c⟩⟩]
      · rw [if_neg c, if_neg (by decide), if_neg (fun q => c ((isNm_t _).mp q.2).2)]
    · rw [if_neg (fun q => a (by have := congrArg Int32.toInt q; rw [b4.1, show (1 : Int32).toInt = 1 from by decide] at this; omega)), if_neg (fun q => a ((isNm_t _).mp q.2).1)]
set_option maxHeartbeats 400000 in
theorem s_fail (c_at : Int32) (c_fault : Int32) (c_faultAt : Int32) (c_tPlace : Nat → Int32) (h : c_fault = 1 ∨ 0 ≤ c_at.toInt ∧ c_at.toInt < 4001) : Ok (f_X11_fail c_at c_fault c_faultAt c_tPlace) (fun r => r.1 = 1) := by
  unfold f_X11_fail
  refine ok_eq (e_good _) ?_
  by_cases g : c_fault = 1
  · rw [if_pos g, if_pos rfl]
    exact ok_some g
  · rw [if_neg g, if_neg (by decide)]
    exact ok_bad (h.resolve_left g) (ok_vlet (ok_some rfl))
set_option maxHeartbeats 400000 in
theorem i01_t {p q : Prop} {_ : Decidable (p ∧ q)} (hp : p) (hq : q) : (if p ∧ q then (1 : Int32) else 0) = 1 := if_pos ⟨hp, hq⟩
set_option maxHeartbeats 400000 in
theorem i01_f {p q : Prop} {_ : Decidable (p ∧ q)} (hq : ¬ q) : (if p ∧ q then (1 : Int32) else 0) = 0 := if_neg (fun z => hq z.2)
set_option maxHeartbeats 400000 in
theorem s_need (x1 : Int32) (c_at : Int32) (c_fault : Int32) (c_faultAt : Int32) (c_tKind : Nat → Int32) (c_tPlace : Nat → Int32) (c_tValue : Nat → Int64) (t : Nat → Int32) (L : Nat) (sz : Nat → Int32) (l : List TkT) (h : KM t L c_tKind c_tPlace sz c_tValue c_at l) (hf : ¬ c_fault = 1) (h1 : 0 ≤ x1.toInt) : Ok (f_X11_need x1 c_at c_fault c_faultAt c_tKind c_tPlace c_tValue) (fun r => (isSn l x1.toInt.toNat = true ∧ r.2.1 = c_fault ∧ KM t L c_tKind c_tPlace sz c_tValue r.1 l.tail) ∨ (isSn l x1.toInt.toNat = false ∧ r.2.1 = 1)) := by
  unfold f_X11_need
  refine ok_eq (e_isSign _ _ _ _ _ t L c_tPlace sz l h h1) ?_
  by_cases s : isSn l x1.toInt.toNat = true
  · rw [i01_t hf s, if_neg (by decide)]
    exact ok_vlet (ok_some (.inl ⟨s, rfl, (KM_next h (.inr (.inr (hd3 s)))).1⟩))
  · have s' : isSn l x1.toInt.toNat = false := by
      cases q : isSn l x1.toInt.toNat with
      | false => rfl
      | true => exact absurd q s
    rw [i01_f s, if_pos rfl]
    exact ok_bind (s_fail _ _ _ _ (.inr ⟨(KM_hd h).1, (KM_hd h).2.1⟩)) (fun r2 h2 => ok_some (.inr ⟨s', h2⟩))
set_option maxHeartbeats 400000 in
theorem s_need1 (x1 : Int32) (c_at : Int32) (c_fault : Int32) (c_faultAt : Int32) (c_tKind : Nat → Int32) (c_tPlace : Nat → Int32) (c_tValue : Nat → Int64) (hf : c_fault = 1) : Ok (f_X11_need x1 c_at c_fault c_faultAt c_tKind c_tPlace c_tValue) (fun r => r.2.1 = 1) := by
  unfold f_X11_need f_X11_isSign
  refine ok_bind (P := fun r => r = 0) (ok_eq (e_good _) (by rw [if_pos hf, if_pos rfl]; exact ok_some rfl)) (fun r1 h1 => ?_)
  rw [if_pos h1]
  exact ok_bind (s_fail _ _ _ _ (.inl hf)) (fun r2 h2 => ok_some h2)
set_option maxHeartbeats 400000 in
theorem isWord1 (x1 : Int64) (c_at : Int32) (c_fault : Int32) (c_tKind : Nat → Int32) (c_tValue : Nat → Int64) (hf : c_fault = 1) : (f_X11_isWord x1 c_at c_fault c_tKind c_tValue) = some 0 := by
  unfold f_X11_isWord
  rw [e_good, if_pos hf]
  rfl
set_option maxHeartbeats 400000 in
theorem isSign1 (x1 : Int32) (c_at : Int32) (c_fault : Int32) (c_tKind : Nat → Int32) (c_tValue : Nat → Int64) (hf : c_fault = 1) : (f_X11_isSign x1 c_at c_fault c_tKind c_tValue) = some 0 := by
  unfold f_X11_isSign
  rw [e_good, if_pos hf]
  rfl
set_option maxHeartbeats 400000 in
theorem s_number1 (x1 : Int32) (x2 : Int32) (c_at : Int32) (c_fault : Int32) (c_faultAt : Int32) (c_tKind : Nat → Int32) (c_tPlace : Nat → Int32) (c_tValue : Nat → Int64) (hf : c_fault = 1) : Ok (f_X11_number x1 x2 c_at c_fault c_faultAt c_tKind c_tPlace c_tValue) (fun r => r.1 = x1 ∧ r.2.2.1 = 1) := by
  unfold f_X11_number f_X11_number_50
  refine ok_eq (e_good _) ?_
  rw [if_pos hf, if_pos rfl]
  exact ok_bind (s_fail _ _ _ _ (.inl hf)) (fun r2 h2 => ok_some ⟨rfl, h2⟩)
set_option maxHeartbeats 400000 in
theorem s_number (x1 : Int32) (x2 : Int32) (c_at : Int32) (c_fault : Int32) (c_faultAt : Int32) (c_tKind : Nat → Int32) (c_tPlace : Nat → Int32) (c_tValue : Nat → Int64) (t : Nat → Int32) (L : Nat) (sz : Nat → Int32) (l : List TkT) (h : KM t L c_tKind c_tPlace sz c_tValue c_at l) (hf : ¬ c_fault = 1) (lo hi : Nat) (h1 : x1.toInt = lo) (h2 : x2.toInt = hi) : Ok (f_X11_number x1 x2 c_at c_fault c_faultAt c_tKind c_tPlace c_tValue) (fun r => (isNr l lo hi = true ∧ r.1 = Int32.ofNat (hd l).2.1 ∧ r.2.2.1 = c_fault ∧ KM t L c_tKind c_tPlace sz c_tValue r.2.1 l.tail) ∨ (isNr l lo hi = false ∧ r.1 = x1 ∧ r.2.2.1 = 1)) := by
  obtain ⟨b2, b3, b4, b5, b6⟩ := KM_hd h
  unfold f_X11_number f_X11_number_50
  refine ok_eq (e_good _) ?_
  rw [if_neg hf, if_neg (by decide)]
  have no : isNr l lo hi = false → Ok (((f_X11_fail c_at c_fault c_faultAt c_tPlace)).bind fun r1 => some (x1, c_at, r1.1, r1.2)) (fun r => (isNr l lo hi = true ∧ r.1 = Int32.ofNat (hd l).2.1 ∧ r.2.2.1 = c_fault ∧ KM t L c_tKind c_tPlace sz c_tValue r.2.1 l.tail) ∨ (isNr l lo hi = false ∧ r.1 = x1 ∧ r.2.2.1 = 1)) := fun q => ok_bind (s_fail _ _ _ _ (.inr ⟨b2, b3⟩)) (fun r2 h2 => ok_some (.inr ⟨q, rfl, h2⟩))
  have nf : ∀ (P : Prop), (isNr l lo hi = true → False) → isNr l lo hi = false := fun _ k => by
    cases q : isNr l lo hi with
    | false => rfl
    | true => exact absurd q k
  refine ok_bad ⟨b2, b3⟩ ?_
  rw [tI_nat]
  by_cases a : (hd l).1 = 2
  · have mv := mm_v b4 b6 (.inr (.inl a))
    have vlt : (hd l).2.1 < 10000 := by
      rcases b6 with q | q | q
      · rcases q.1 with z | z | z <;> omega
      · omega
      · omega
    rw [if_pos (Int32.toInt_inj.mp (by rw [b4.1, a]; rfl)), mv.1]
    have e := L_ofNat (show (hd l).2.1 < 2 ^ 63 by omega)
    refine ok_bad ⟨b2, b3⟩ ?_
    by_cases c : (hd l).2.1 < lo
    · rw [if_pos (by rw [lgc_lt, e, Int32.toInt_toInt64, h1]; omega)]
      exact no (nf True (fun q => by rw [isNr_t] at q; omega))
    · rw [if_neg (by rw [lgc_lt, e, Int32.toInt_toInt64, h1]; omega)]
      refine ok_bad ⟨b2, b3⟩ ?_
      by_cases d : (hd l).2.1 ≤ hi
      · have nn := KM_next h (.inr (.inl a))
        rw [if_pos (by rw [lgc_le, e, Int32.toInt_toInt64, h2]; omega)]
        have e1 : c_at + 1 - 1 = c_at := by
          apply Int32.toInt_inj.mp
          rw [tI_sub, nn.2.2, show (1 : Int32).toInt = 1 from by decide]
          omega
        refine ok_vlet ?_
        rw [e1]
        refine ok_bad ⟨b2, b3⟩ (ok_some (.inl ⟨by rw [isNr_t]; omega, ?_, rfl, nn.1⟩))
        show (c_tValue c_at.toNatClampNeg).toInt32 = _
        rw [tI_nat, mv.1, L_toI vlt]
      · rw [if_neg (by rw [lgc_le, e, Int32.toInt_toInt64, h2]; omega)]
        exact no (nf True (fun q => by rw [isNr_t] at q; omega))
  · rw [if_neg (fun q => a (by have := congrArg Int32.toInt q; rw [b4.1, show (2 : Int32).toInt = 2 from by decide] at this; omega))]
    exact no (nf True (fun q => by rw [isNr_t] at q; omega))
/-! PINs and wires -/
def PinM (t : Nat → Int32) (L : Nat) (kd pl sz : Nat → Int32) (vl : Nat → Int64) (f0 : Int32) (o : Option (PinT × List TkT)) (at2 f2 : Int32) : Prop := match o with
  | none => f2 = 1
  | some (_, r) => f2 = f0 ∧ KM t L kd pl sz vl at2 r
set_option maxHeartbeats 400000 in
theorem s_pin (c_at : Int32) (c_fault : Int32) (c_faultAt : Int32) (c_tKind : Nat → Int32) (c_tPlace : Nat → Int32) (c_tValue : Nat → Int64) (t : Nat → Int32) (L : Nat) (sz : Nat → Int32) (l : List TkT) (h : KM t L c_tKind c_tPlace sz c_tValue c_at l) (hf : ¬ c_fault = 1) : Ok (f_X11_pin c_at c_fault c_faultAt c_tKind c_tPlace c_tValue) (fun r => PinM t L c_tKind c_tPlace sz c_tValue c_fault (pPin l) r.1 r.2.1) := by
  obtain ⟨b2, b3, b4, b5, b6⟩ := KM_hd h
  unfold f_X11_pin f_X11_pin_20 f_X11_pin_79 f_X11_pin_116 pPin
  refine ok_eq (e_isWord _ _ _ _ _ t L c_tPlace sz l h 1886156147 (by decide) rfl) ?_
  by_cases c1 : isWd l 1886156147 = true
  · rw [i01_t hf c1, if_neg (by decide), if_pos c1]
    exact ok_vlet (ok_some ⟨rfl, (KM_next h (.inl (hd1 c1))).1⟩)
  rw [i01_f c1, if_pos rfl, if_neg c1]
  refine ok_eq (e_isWord _ _ _ _ _ t L c_tPlace sz l h 469920281971 (by decide) rfl) ?_
  by_cases c2 : isWd l 469920281971 = true
  · rw [i01_t hf c2, if_neg (by decide), if_pos c2]
    exact ok_vlet (ok_some ⟨rfl, (KM_next h (.inl (hd1 c2))).1⟩)
  rw [i01_f c2, if_pos rfl, if_neg c2]
  refine ok_eq (e_isName _ _ _ _ t L c_tPlace sz l h) ?_
  by_cases c3 : isNm l = true
  · rw [i01_t hf c3, if_neg (by decide), if_pos c3]
    have n1 := (KM_next h (.inl ((isNm_t l).mp c3).1)).1
    refine ok_vlet (ok_bind (s_need (x1 := 46) (c_at := c_at + 1) (c_fault := c_fault) (c_faultAt := c_faultAt) (c_tKind := c_tKind) (c_tPlace := c_tPlace) (c_tValue := c_tValue) t L sz l.tail n1 hf (by decide)) (fun r5 h5 => ?_))
    rcases h5 with ⟨g1, g2, g3⟩ | ⟨g1, g2⟩
    · have g1' : isSn l.tail 46 = true := g1
      rw [if_pos g1', g2]
      unfold pEnd
      refine ok_eq (e_isWord _ _ _ _ _ t L c_tPlace sz l.tail.tail g3 112 (by decide) rfl) ?_
      by_cases c4 : isWd l.tail.tail 112 = true
      · rw [i01_t hf c4, if_neg (by decide), if_pos c4]
        exact ok_vlet (ok_some ⟨rfl, (KM_next g3 (.inl (hd1 c4))).1⟩)
      rw [i01_f c4, if_pos rfl, if_neg c4]
      refine ok_eq (e_isWord _ _ _ _ _ t L c_tPlace sz l.tail.tail g3 110 (by decide) rfl) ?_
      by_cases c5 : isWd l.tail.tail 110 = true
      · rw [i01_t hf c5, if_neg (by decide), if_pos c5]
        exact ok_vlet (ok_some ⟨rfl, (KM_next g3 (.inl (hd1 c5))).1⟩)
      rw [i01_f c5, if_pos rfl, if_neg c5]
      refine ok_bind (s_number (x1 := 1) (x2 := 6) (c_at := r5.1) (c_fault := c_fault) (c_faultAt := r5.2.2) (c_tKind := c_tKind) (c_tPlace := c_tPlace) (c_tValue := c_tValue) t L sz l.tail.tail g3 hf 1 6 (by decide) (by decide)) (fun r8 h8 => ?_)
      rcases h8 with ⟨k1, k2, k3, k4⟩ | ⟨k1, k2, k3⟩
      · rw [if_pos k1, k3]
        refine ok_eq (e_isSign _ _ _ _ _ t L c_tPlace sz l.tail.tail.tail k4 (by decide)) ?_
        rw [show (43 : Int32).toInt.toNat = 43 from by decide]
        by_cases c6 : isSn l.tail.tail.tail 43 = true
        · rw [i01_t hf c6, if_neg (by decide), if_pos c6]
          exact ok_vlet (ok_some ⟨rfl, (KM_next k4 (.inr (.inr (hd3 c6)))).1⟩)
        rw [i01_f c6, if_pos rfl, if_neg c6]
        refine ok_eq (e_isSign _ _ _ _ _ t L c_tPlace sz l.tail.tail.tail k4 (by decide)) ?_
        rw [show (45 : Int32).toInt.toNat = 45 from by decide]
        by_cases c7 : isSn l.tail.tail.tail 45 = true
        · rw [i01_t hf c7, if_neg (by decide), if_pos c7]
          exact ok_vlet (ok_some ⟨rfl, (KM_next k4 (.inr (.inr (hd3 c7)))).1⟩)
        rw [i01_f c7, if_pos rfl, if_neg c7]
        exact ok_some ⟨rfl, k4⟩
      · rw [k1, if_neg (by decide), k3]
        refine ok_eq (isSign1 _ _ _ _ _ rfl) ?_
        rw [if_pos rfl]
        refine ok_eq (isSign1 _ _ _ _ _ rfl) ?_
        rw [if_pos rfl]
        exact ok_some (show _ = (1 : Int32) from rfl)
    · have g1' : isSn l.tail 46 = false := g1
      rw [g1', if_neg (by decide), g2]
      refine ok_eq (isWord1 _ _ _ _ _ rfl) ?_
      rw [if_pos rfl]
      refine ok_eq (isWord1 _ _ _ _ _ rfl) ?_
      rw [if_pos rfl]
      refine ok_bind (s_number1 (x1 := 1) (x2 := 6) (c_at := r5.1) (c_fault := 1) (c_faultAt := r5.2.2) (c_tKind := c_tKind) (c_tPlace := c_tPlace) (c_tValue := c_tValue) rfl) (fun r8 h8 => ?_)
      rw [h8.2]
      refine ok_eq (isSign1 _ _ _ _ _ rfl) ?_
      rw [if_pos rfl]
      refine ok_eq (isSign1 _ _ _ _ _ rfl) ?_
      rw [if_pos rfl]
      exact ok_some (show _ = (1 : Int32) from rfl)
  · rw [i01_f c3, if_pos rfl, if_neg c3]
    exact ok_bind (s_fail _ _ _ _ (.inr ⟨b2, b3⟩)) (fun r2 h2 => ok_some h2)
set_option maxHeartbeats 400000 in
theorem pPin_sn {l : List TkT} {c : Nat} (h : isSn l c = true) : pPin l = none := by
  have a := hd3 h
  unfold pPin
  rw [if_neg (fun q => by have := hd1 q; omega), if_neg (fun q => by have := hd1 q; omega), if_neg (fun q => by have := ((isNm_t l).mp q).1; omega)]
def WirM (t : Nat → Int32) (L : Nat) (kd pl sz : Nat → Int32) (vl : Nat → Int64) (f0 : Int32) (m : Nat) (o : Option (List PinT × List TkT)) (at2 f2 : Int32) : Prop := match o with
  | none => f2 = 1
  | some (ps, r) => if 2 ≤ m + ps.length then f2 = f0 ∧ KM t L kd pl sz vl at2 r else f2 = 1
set_option maxHeartbeats 400000 in
theorem s_wire1 (c_tKind : Nat → Int32) (c_tPlace : Nat → Int32) (c_tValue : Nat → Int64) : ∀ (n : Nat) (x1 : Int32) (c_at : Int32) (c_fault : Int32) (c_faultAt : Int32), c_fault = 1 → 0 < n → Ok (f_X11_wire_12 c_tKind c_tPlace c_tValue n x1 c_at c_fault c_faultAt) (fun r => r.2.1 = 1)
  | 0, x1, c_at, c_fault, c_faultAt, h, h2 => absurd h2 (Nat.lt_irrefl _)
  | n + 1, x1, c_at, c_fault, c_faultAt, h, h2 => by
    unfold f_X11_wire_12
    refine ok_eq (e_good _) ?_
    rw [if_pos h, if_pos rfl]
    exact ok_some h
set_option maxHeartbeats 400000 in
theorem s_wire_12 (c_tKind : Nat → Int32) (c_tPlace : Nat → Int32) (c_tValue : Nat → Int64) (t : Nat → Int32) (L : Nat) (sz : Nat → Int32) : ∀ (n : Nat) (x1 : Int32) (c_at : Int32) (c_fault : Int32) (c_faultAt : Int32) (f m : Nat) (l : List TkT), KM t L c_tKind c_tPlace sz c_tValue c_at l → ¬ c_fault = 1 → x1.toInt = m → m + l.length ≤ 5000 → l.length < f → 10000 < m + n → Ok (f_X11_wire_12 c_tKind c_tPlace c_tValue n x1 c_at c_fault c_faultAt) (fun r => WirM t L c_tKind c_tPlace sz c_tValue c_fault m (pPins f l) r.1 r.2.1)
  | 0, x1, c_at, c_fault, c_faultAt, f, m, l, h, hf, g1, g2, g3, g4 => by exfalso; omega
  | n + 1, x1, c_at, c_fault, c_faultAt, 0, m, l, h, hf, g1, g2, g3, g4 => absurd g3 (Nat.not_lt_zero _)
  | n + 1, x1, c_at, c_fault, c_faultAt, f + 1, m, l, h, hf, g1, g2, g3, g4 => by
    unfold f_X11_wire_12 f_X11_wire_33 pPins
    have e1 : (x1 + 1).toInt = x1.toInt + 1 := by ((try simp only [tI_lt, tI_le, tI_eq, tI_add, tI_sub, tI_mul, tI_nat, Int32.reduceToInt, Int.reduceToNat, fe_0, fe_1, fe_2, fe_3, fe_4, fe_5]) <;> (try simp (disch := omega) only [tI_bm]) <;> omega)
    refine ok_eq (e_good _) ?_
    rw [if_neg hf, if_neg (by decide)]
    have go : (isSn l 59 = true → m < 2) → Ok (((f_X11_pin c_at c_fault c_faultAt c_tKind c_tPlace c_tValue)).bind fun r1 => vlet (x1 + 1) fun t2 => (f_X11_wire_12 c_tKind c_tPlace c_tValue n t2 r1.1 r1.2.1 r1.2.2)) (fun r => WirM t L c_tKind c_tPlace sz c_tValue c_fault m (if isSn l 59 = true then some ([], l) else match pPin l with | none => none | some (p, r) => match pPins f r with | none => none | some (ps, r2) => some (p :: ps, r2)) r.1 r.2.1) := by
      intro hsn
      refine ok_bind (s_pin _ _ _ _ _ _ t L sz l h hf) (fun r1 h1 => ok_vlet ?_)
      by_cases s : isSn l 59 = true
      · rw [if_pos s]
        rw [pPin_sn s] at h1
        refine ok_mono (s_wire1 c_tKind c_tPlace c_tValue n _ _ _ _ h1 (by omega)) (fun r hr => ?_)
        show (if 2 ≤ m + ([] : List PinT).length then _ else r.2.1 = 1)
        have := hsn s
        rw [if_neg (by show ¬ 2 ≤ m + 0; omega)]
        exact hr
      · rw [if_neg s]
        cases hp : pPin l with
        | none =>
          rw [hp] at h1
          exact s_wire1 c_tKind c_tPlace c_tValue n _ _ _ _ h1 (by omega)
        | some y =>
          obtain ⟨p, rr⟩ := y
          rw [hp] at h1
          obtain ⟨z1, z2⟩ := h1
          have ll := pPin_len hp
          rw [z1]
          refine ok_mono (s_wire_12 c_tKind c_tPlace c_tValue t L sz n _ _ _ _ f (m + 1) rr z2 hf (by omega) (by omega) (by omega) (by omega)) (fun r hr => ?_)
          unfold WirM at hr ⊢
          dsimp only
          cases hq : pPins f rr with
          | none => rw [hq] at hr; exact hr
          | some y2 =>
            obtain ⟨ps, r3⟩ := y2
            rw [hq] at hr
            dsimp only at hr ⊢
            rw [List.length_cons, show m + (ps.length + 1) = m + 1 + ps.length by omega]
            exact hr
    by_cases a : x1 < 2
    · rw [if_pos a]
      rw [tI_lt, show (2 : Int32).toInt = 2 from by decide] at a
      exact go (fun _ => by omega)
    · rw [if_neg a]
      rw [tI_lt, show (2 : Int32).toInt = 2 from by decide] at a
      refine ok_eq (e_isSign _ _ _ _ _ t L c_tPlace sz l h (by decide)) ?_
      rw [show (59 : Int32).toInt.toNat = 59 from by decide]
      by_cases s : isSn l 59 = true
      · rw [i01_t hf s, if_neg (by decide), if_pos s]
        refine ok_some ?_
        show (if 2 ≤ m + ([] : List PinT).length then _ else _)
        rw [if_pos (by show 2 ≤ m + 0; omega)]
        exact ⟨rfl, h⟩
      · rw [i01_f s, if_pos rfl]
        exact go (fun q => absurd q s)
set_option maxHeartbeats 400000 in
theorem s_wire (c_at : Int32) (c_fault : Int32) (c_faultAt : Int32) (c_tKind : Nat → Int32) (c_tPlace : Nat → Int32) (c_tValue : Nat → Int64) (t : Nat → Int32) (L : Nat) (sz : Nat → Int32) (l : List TkT) (h : KM t L c_tKind c_tPlace sz c_tValue c_at l) (hf : ¬ c_fault = 1) (hw : (hd l).1 = 1) : Ok (f_X11_wire c_at c_fault c_faultAt c_tKind c_tPlace c_tValue) (fun r => WirM t L c_tKind c_tPlace sz c_tValue c_fault 0 (pPins 4002 l.tail) r.1 r.2.1) := by
  unfold f_X11_wire
  have n1 := (KM_next h (.inl hw)).1
  have ln := n1.2.1
  have l0 := n1.1
  exact ok_vlet (s_wire_12 c_tKind c_tPlace c_tValue t L sz FU 0 _ _ _ 4002 0 l.tail n1 hf (by decide) (by omega) (by omega) (by rw [FU_eq]; decide))
