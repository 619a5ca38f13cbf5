/-! the grammar both keep to -/
abbrev PinT : Type := Nat × Nat
def hd (l : List TkT) : TkT := match l with
  | [] => (4, 0, 0)
  | t :: _ => t
def isWd (l : List TkT) (v : Nat) : Bool := decide ((hd l).1 = 1) && decide ((hd l).2.1 = v)
def isSn (l : List TkT) (c : Nat) : Bool := decide ((hd l).1 = 3) && decide ((hd l).2.1 = c)
def isNm (l : List TkT) : Bool := decide ((hd l).1 = 1) && decide (wcode (hd l).2.1 = 1)
def isNr (l : List TkT) (lo hi : Nat) : Bool := decide ((hd l).1 = 2) && (decide (lo ≤ (hd l).2.1) && decide ((hd l).2.1 ≤ hi))
def pEnd (v : Nat) (l : List TkT) : Option (PinT × List TkT) :=
  if isWd l 112 = true then some ((v, 0), l.tail)
  else if isWd l 110 = true then some ((v, 1), l.tail)
  else if isNr l 1 6 = true then
    (if isSn l.tail 43 = true then some ((v, 3 * (hd l).2.1), l.tail.tail)
     else if isSn l.tail 45 = true then some ((v, 3 * (hd l).2.1 + 1), l.tail.tail)
     else some ((v, 3 * (hd l).2.1 - 1), l.tail))
  else none
def pPin (l : List TkT) : Option (PinT × List TkT) :=
  if isWd l 1886156147 = true then some ((0, 0), l.tail)
  else if isWd l 469920281971 = true then some ((0, 1), l.tail)
  else if isNm l = true then (if isSn l.tail 46 = true then pEnd (hd l).2.1 l.tail.tail else none)
  else none
def pPins : Nat → List TkT → Option (List PinT × List TkT)
  | 0, _ => none
  | f + 1, l => if isSn l 59 = true then some ([], l) else match pPin l with
    | none => none
    | some (p, r) => match pPins f r with
      | none => none
      | some (ps, r2) => some (p :: ps, r2)
def pKinds : Nat → Nat → Nat → List TkT → Nat × Nat × List TkT
  | 0, n, b, l => (n, b, l)
  | f + 1, n, b, l => if isWd l 422826041707 = true then pKinds f (n + 1) b l.tail else if isWd l 1835101029 = true then pKinds f (n + 1) (b + 2 ^ n) l.tail else (n, b, l)
/-! a statement: tag (0 to 4 a part of that sort, 5 a wire), name, two numbers, kinds, makes, pins -/
abbrev StT : Type := Nat × Nat × Nat × Nat × Nat × Nat × List PinT
def pBody (l : List TkT) : Option (StT × List TkT) :=
  if isWd l 2003399269 = true then (match pPins 4002 l.tail with
    | none => none
    | some (ps, r) => if 2 ≤ ps.length then some ((5, 0, 0, 0, 0, 0, ps), r) else none)
  else if isWd l 491327873401 = true then (if isNm l.tail = true then (if isNr l.tail.tail 1 20 = true then (if isNr l.tail.tail.tail 1 20 = true then
      some ((0, (hd l.tail).2.1, (hd l.tail.tail).2.1, (hd l.tail.tail.tail).2.1, (pKinds 6 0 0 l.tail.tail.tail.tail).1, (pKinds 6 0 0 l.tail.tail.tail.tail).2.1, []), (pKinds 6 0 0 l.tail.tail.tail.tail).2.2) else none) else none) else none)
  else if isWd l 7038329 = true then (if isNm l.tail = true then some ((1, (hd l.tail).2.1, 0, 0, 0, 0, []), l.tail.tail) else none)
  else if isWd l 1818324336 = true then (if isNm l.tail = true then some ((2, (hd l.tail).2.1, 0, 0, 0, 0, []), l.tail.tail) else none)
  else if isWd l 431265637477 = true then (if isNm l.tail = true then some ((4, (hd l.tail).2.1, 0, 0, 0, 0, []), l.tail.tail) else none)
  else if isWd l 427021001579 = true then (if isNm l.tail = true then (if isNr l.tail.tail 2 100 = true then (if isNr l.tail.tail.tail 1 ((hd l.tail.tail).2.1 - 1) = true then
      some ((3, (hd l.tail).2.1, (hd l.tail.tail).2.1, (hd l.tail.tail.tail).2.1, 0, 0, []), l.tail.tail.tail.tail) else none) else none) else none)
  else none
def pStmt (l : List TkT) : Option (StT × List TkT) := match pBody l with
  | none => none
  | some (s, r) => if isSn r 59 = true then some (s, r.tail) else none
def pText : Nat → List TkT → Option (List StT)
  | 0, _ => none
  | f + 1, l => if (hd l).1 = 0 then some [] else match pStmt l with
    | none => none
    | some (s, r) => match pText f r with
      | none => none
      | some ss => some (s :: ss)
/-! the tokens in their order, good but for the last -/
def TG : List TkT → Prop
  | [] => False
  | t :: r => (r = [] ∧ (t = (0, 0, 0) ∨ ∃ q, t = (4, 0, q))) ∨ (TV t ∧ TG r)
set_option maxHeartbeats 400000 in
theorem TG_app : ∀ (l : List TkT) (e : TkT), (∀ t ∈ l, TV t) → (e = (0, 0, 0) ∨ ∃ q, e = (4, 0, q)) → TG (l ++ [e])
  | [], e, _, h => .inl ⟨rfl, h⟩
  | t :: r, e, h, he => .inr ⟨h t (List.mem_cons_self ..), TG_app r e (fun t ht => h t (List.mem_cons_of_mem _ ht)) he⟩
set_option maxHeartbeats 400000 in
theorem TKS_TG {S : List TkT} {k : Nat} (h : TKS S k) : TG S.reverse := by
  obtain ⟨e, r, h1, h2, h3, h4⟩ := h
  rw [h1, List.reverse_cons]
  exact TG_app _ _ (fun t ht => h3 t (List.mem_reverse.mp ht)) h2
set_option maxHeartbeats 400000 in
theorem wt_app : ∀ (a b : List TkT), wt (a ++ b) = wt a + wt b
  | [], b => by show wt b = 0 + wt b; omega
  | t :: a, b => by
    show t.2.2 + wt (a ++ b) = t.2.2 + wt a + wt b
    rw [wt_app a b]; omega
set_option maxHeartbeats 400000 in
theorem wt_rev : ∀ (a : List TkT), wt a.reverse = wt a
  | [] => rfl
  | t :: a => by
    rw [List.reverse_cons, wt_app, wt_rev a]
    show wt a + (t.2.2 + 0) = t.2.2 + wt a
    omega
def wtg : List TkT → Nat
  | [] => 0
  | t :: r => (if t.1 = 4 then 0 else t.2.2) + wtg r
set_option maxHeartbeats 400000 in
theorem wtg_le : ∀ (a : List TkT), wtg a ≤ wt a
  | [] => Nat.le_refl _
  | t :: a => by
    have := wtg_le a
    show (if t.1 = 4 then 0 else t.2.2) + wtg a ≤ t.2.2 + wt a
    split <;> omega
set_option maxHeartbeats 400000 in
theorem wtg_app : ∀ (a b : List TkT), wtg (a ++ b) = wtg a + wtg b
  | [], b => by show wtg b = 0 + wtg b; omega
  | t :: a, b => by
    show _ + wtg (a ++ b) = _ + wtg a + wtg b
    rw [wtg_app a b]; omega
set_option maxHeartbeats 400000 in
theorem TKS_wt {S : List TkT} {k : Nat} (h : TKS S k) : wtg S.reverse ≤ k := by
  obtain ⟨e, r, h1, h2, h3, h4⟩ := h
  rw [h1, List.reverse_cons, wtg_app]
  have a := wtg_le r.reverse
  rw [wt_rev] at a
  have : wtg [e] = 0 := by
    rcases h2 with q | ⟨q, q2⟩
    · rw [q]; rfl
    · rw [q2]; rfl
  omega
/-! the class's arrays at an index and the tokens from there on -/
def xm (k : Int32) (v : Int64) (t : TkT) : Prop := (t.1 = 1 ∧ k.toInt = wcode t.2.1 ∧ v = Int64.ofNat t.2.1) ∨ (t.1 = 2 ∧ k = 2 ∧ v = Int64.ofNat t.2.1) ∨ (t.1 = 3 ∧ k.toInt = t.2.1 ∧ isSg t.2.1 = true) ∨ (t.1 = 4 ∧ k = 4) ∨ (t.1 = 0 ∧ k = 3)
def RX (kd : Nat → Int32) (vl : Nat → Int64) : Nat → List TkT → Prop
  | _, [] => True
  | i, t :: r => xm (kd i) (vl i) t ∧ RX kd vl (i + 1) r
set_option maxHeartbeats 400000 in
theorem RX_app (kd : Nat → Int32) (vl : Nat → Int64) : ∀ (i : Nat) (l : List TkT) (t : TkT), RX kd vl i l → xm (kd (i + l.length)) (vl (i + l.length)) t → RX kd vl i (l ++ [t])
  | i, [], t, _, h => ⟨h, trivial⟩
  | i, a :: l, t, h1, h2 => by
    refine ⟨h1.1, RX_app kd vl (i + 1) l t h1.2 ?_⟩
    rw [List.length_cons] at h2
    have e : i + 1 + l.length = i + (l.length + 1) := by omega
    rw [e]
    exact h2
set_option maxHeartbeats 400000 in
theorem XT_RX (kd : Nat → Int32) (vl : Nat → Int64) : ∀ (S : List TkT), XT wcode kd vl S → RX kd vl 0 S.reverse
  | [], _ => trivial
  | t :: r, h => by
    obtain ⟨h1, h2⟩ := h
    rw [List.reverse_cons]
    refine RX_app kd vl 0 _ t (XT_RX kd vl r h2) ?_
    rw [List.length_reverse, Nat.zero_add]
    exact h1
def KX (size : Int32) (kd : Nat → Int32) (vl : Nat → Int64) (at_ : Int32) (l : List TkT) : Prop := 0 ≤ at_.toInt ∧ at_.toInt + l.length ≤ size.toInt ∧ size.toInt ≤ 4001 ∧ RX kd vl at_.toInt.toNat l ∧ TG l
set_option maxHeartbeats 400000 in
theorem KX_hd {size : Int32} {kd : Nat → Int32} {vl : Nat → Int64} {a : Int32} {l : List TkT} (h : KX size kd vl a l) : a.toInt < size.toInt ∧ 0 ≤ a.toInt ∧ a.toInt < 4001 ∧ xm (kd a.toInt.toNat) (vl a.toInt.toNat) (hd l) ∧ l = hd l :: l.tail ∧ ((TV (hd l) ∧ TG l.tail) ∨ ((hd l).1 = 0 ∧ l.tail = []) ∨ ((hd l).1 = 4 ∧ l.tail = [])) := by
  obtain ⟨h1, h2, h3, h4, h5⟩ := h
  match l, h2, h4, h5 with
  | [], h2, h4, h5 => exact absurd h5 (fun q => q)
  | t :: r, h2, h4, h5 =>
    rw [List.length_cons] at h2
    refine ⟨by omega, h1, by omega, h4.1, rfl, ?_⟩
    rcases h5 with ⟨q1, q2⟩ | q
    · rcases q2 with q2 | ⟨q3, q2⟩
      · exact .inr (.inl ⟨by rw [q2]; rfl, q1⟩)
      · exact .inr (.inr ⟨by rw [q2]; rfl, q1⟩)
    · exact .inl q
set_option maxHeartbeats 400000 in
theorem KX_next {size : Int32} {kd : Nat → Int32} {vl : Nat → Int64} {a : Int32} {l : List TkT} (h : KX size kd vl a l) (hg : (hd l).1 = 1 ∨ (hd l).1 = 2 ∨ (hd l).1 = 3) : KX size kd vl (a + 1) l.tail ∧ wtg l.tail + (hd l).2.2 = wtg l ∧ TV (hd l) ∧ (a + 1).toInt = a.toInt + 1 := by
  have hh := KX_hd h
  obtain ⟨b1, b2, b3, b4, b5, b6⟩ := hh
  obtain ⟨h1, h2, h3, h4, h5⟩ := h
  have e : (a + 1).toInt = a.toInt + 1 := by ((try simp only [tI_lt, tI_le, tI_eq, tI_add, tI_sub, tI_mul, tI_nat, Int32.reduceToInt, Int.reduceToNat, fe_0, fe_1, fe_2, fe_3, fe_4, fe_5]) <;> (try simp (disch := omega) only [tI_bm]) <;> omega)
  have tv : TV (hd l) ∧ TG l.tail := by
    rcases b6 with q | q | q
    · exact q
    · omega
    · omega
  rw [b5] at h4 h2
  rw [List.length_cons] at h2
  refine ⟨⟨by omega, by omega, h3, ?_, tv.2⟩, ?_, tv.1, e⟩
  · have e2 : (a + 1).toInt.toNat = a.toInt.toNat + 1 := by omega
    rw [e2]
    exact h4.2
  · have : wtg l = wtg (hd l :: l.tail) := by rw [← b5]
    rw [this]
    show _ = (if (hd l).1 = 4 then 0 else (hd l).2.2) + wtg l.tail
    rw [if_neg (by omega)]
    omega
