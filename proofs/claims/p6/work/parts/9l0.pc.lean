/-! level 2: what an answer is, where there is one -/
def Pc {α : Type} (o : Option α) (Q : α → Prop) : Prop := ∀ r, o = some r → Q r
set_option maxHeartbeats 400000 in
theorem pc_some {α : Type} {a : α} {Q : α → Prop} (h : Q a) : Pc (some a) Q := fun r e => by injection e with e; rw [← e]; exact h
set_option maxHeartbeats 400000 in
theorem pc_none {α : Type} {Q : α → Prop} : Pc (none : Option α) Q := fun r e => by cases e
set_option maxHeartbeats 400000 in
theorem pc_mono {α : Type} {o : Option α} {P Q : α → Prop} (h : Pc o P) (k : ∀ r, P r → Q r) : Pc o Q := fun r e => k r (h r e)
set_option maxHeartbeats 400000 in
theorem pc_bind {α β : Type} {o : Option α} {P : α → Prop} {f : α → Option β} {Q : β → Prop} (h : Pc o P) (k : ∀ r, P r → Pc (f r) Q) : Pc (o.bind f) Q := by
  intro r e
  cases ho : o with
  | none => rw [ho] at e; cases e
  | some a =>
    rw [ho] at e
    exact k a (h a ho) r e
set_option maxHeartbeats 400000 in
theorem pc_any {α β : Type} {o : Option α} {f : α → Option β} {Q : β → Prop} (k : ∀ r, o = some r → Pc (f r) Q) : Pc (o.bind f) Q := pc_bind (P := fun r => o = some r) (fun _ e => e) k
set_option maxHeartbeats 400000 in
theorem pc_vlet {α β : Type} {e : α} {k : α → Option β} {Q : β → Prop} (h : Pc (k e) Q) : Pc (vlet e k) Q := h
set_option maxHeartbeats 400000 in
theorem pc_if {α : Type} {c : Prop} {_ : Decidable c} {a b : Option α} {Q : α → Prop} (h1 : c → Pc a Q) (h2 : ¬ c → Pc b Q) : Pc (if c then a else b) Q := by
  by_cases h : c
  · rw [if_pos h]; exact h1 h
  · rw [if_neg h]; exact h2 h
set_option maxHeartbeats 400000 in
theorem bad_n {i : Int32} {n : Nat} (h : ¬ bad i n = true) : 0 ≤ i.toInt ∧ i.toInt < n := by
  unfold bad at h
  rw [Bool.or_eq_true, decide_eq_true_eq, decide_eq_true_eq, tI_lt, l_0, tI_nat] at h
  omega
set_option maxHeartbeats 400000 in
theorem pc_bad {α : Type} {i : Int32} {n : Nat} {a : Option α} {Q : α → Prop} (h : 0 ≤ i.toInt ∧ i.toInt < n → Pc a Q) : Pc (if bad i n = true then none else a) Q := pc_if (fun _ => pc_none) (fun q => h (bad_n q))
set_option maxHeartbeats 400000 in
theorem pc_ok {α : Type} {o : Option α} {Q : α → Prop} (h : Ok o Q) : Pc o Q := by
  obtain ⟨a, e, q⟩ := h
  intro r e2
  have : some a = some r := e.symm.trans e2
  injection this with this
  rw [← this]; exact q
set_option maxHeartbeats 400000 in
theorem pc_eq {α β : Type} {o : Option α} {a : α} {f : α → Option β} {Q : β → Prop} (e : o = some a) (k : Pc (f a) Q) : Pc (o.bind f) Q := by rw [e]; exact k
set_option maxHeartbeats 400000 in
theorem pc_and {α : Type} {o : Option α} {P Q : α → Prop} (h : Pc o P) (k : Pc o Q) : Pc o (fun r => P r ∧ Q r) := fun r e => ⟨h r e, k r e⟩
set_option maxHeartbeats 400000 in
theorem ok_pc {α : Type} {o : Option α} {P Q : α → Prop} (h : Ok o P) (k : Pc o Q) : Ok o (fun r => P r ∧ Q r) := by
  obtain ⟨a, e, p⟩ := h
  exact ⟨a, e, p, k a e⟩
/-! the least set that holds a start and is closed -/
abbrev PL : Type := List (Nat × Nat)
def CLS (st : Nat) (EQ : Nat → Nat → Prop) (JL DL : PL) (T : Nat → Prop) : Prop := T st ∧ (∀ e f, EQ e f → T e → T f) ∧ (∀ p ∈ JL, (T p.1 → T p.2) ∧ (T p.2 → T p.1)) ∧ ∀ p ∈ DL, T p.1 → T p.2
def LST (st : Nat) (EQ : Nat → Nat → Prop) (JL DL : PL) (ex : Nat → Prop) (T : Nat → Prop) : Prop := CLS st EQ JL DL T ∧ ∀ T', CLS st EQ JL DL T' → ∀ e, ex e → T e → T' e
def rvL (DL : PL) : PL := DL.map (fun p => (p.2, p.1))
def conE (mk : Bool) (p : Int) (mid : Nat) : PL := (if p = 0 ∨ (p = 1 ∧ mk = true) then [(mid, mid + 2)] else []) ++ (if p = 2 ∨ (p = 1 ∧ mk = true) then [(mid, mid + 1)] else [])
def accC (ef : Nat → Nat → PL) (r : Nat) : Nat → PL
  | 0 => []
  | c + 1 => ef r c ++ accC ef r c
def accR (ef : Nat → Nat → PL) (nk : Nat → Nat) : Nat → PL
  | 0 => []
  | r + 1 => accC ef r (nk r) ++ accR ef nk r
def accF (g : Nat → Bool) (b : Nat) : Nat → PL
  | 0 => []
  | k + 1 => (if g k = true then [(b + 2 * k, b + 2 * k + 1)] else []) ++ accF g b k
set_option maxHeartbeats 400000 in
theorem conE_len (mk : Bool) (p : Int) (mid : Nat) : (conE mk p mid).length ≤ 2 := by
  unfold conE
  rw [List.length_append]
  have h1 : (if p = 2 ∨ (p = 1 ∧ mk = true) then [(mid, mid + 1)] else ([] : PL)).length ≤ 1 := by
    split <;> simp
  have h2 : (if p = 0 ∨ (p = 1 ∧ mk = true) then [(mid, mid + 2)] else ([] : PL)).length ≤ 1 := by
    split <;> simp
  omega
set_option maxHeartbeats 400000 in
theorem accC_len (ef : Nat → Nat → PL) (r : Nat) (h : ∀ c, (ef r c).length ≤ 2) : ∀ c, (accC ef r c).length ≤ 2 * c
  | 0 => Nat.le_refl _
  | c + 1 => by
    have := accC_len ef r h c
    have := h c
    unfold accC
    rw [List.length_append]; omega
set_option maxHeartbeats 400000 in
theorem accR_len (ef : Nat → Nat → PL) (nk : Nat → Nat) (h : ∀ r c, (ef r c).length ≤ 2) (h6 : ∀ r, nk r ≤ 6) : ∀ r, (accR ef nk r).length ≤ 12 * r
  | 0 => Nat.le_refl _
  | r + 1 => by
    have := accR_len ef nk h h6 r
    have := accC_len ef r (h r) (nk r)
    have := h6 r
    unfold accR
    rw [List.length_append]; omega
set_option maxHeartbeats 400000 in
theorem accF_len (g : Nat → Bool) (b : Nat) : ∀ k, (accF g b k).length ≤ k
  | 0 => Nat.le_refl _
  | k + 1 => by
    have := accF_len g b k
    unfold accF
    rw [List.length_append]
    have : (if g k = true then [(b + 2 * k, b + 2 * k + 1)] else ([] : PL)).length ≤ 1 := by
      split <;> simp
    omega
set_option maxHeartbeats 400000 in
theorem accC_cg (e1 e2 : Nat → Nat → PL) (r : Nat) : ∀ c, (∀ k, k < c → e2 r k = e1 r k) → accC e2 r c = accC e1 r c
  | 0, _ => rfl
  | c + 1, h => by
    unfold accC
    rw [h c (by omega), accC_cg e1 e2 r c (fun k hk => h k (by omega))]
set_option maxHeartbeats 400000 in
theorem accR_cg (e1 e2 : Nat → Nat → PL) (n1 n2 : Nat → Nat) : ∀ R, (∀ r, r < R → n2 r = n1 r ∧ ∀ c, c < n1 r → e2 r c = e1 r c) → accR e2 n2 R = accR e1 n1 R
  | 0, _ => rfl
  | r + 1, h => by
    unfold accR
    have := h r (by omega)
    rw [this.1, accC_cg e1 e2 r (n1 r) this.2, accR_cg e1 e2 n1 n2 r (fun k hk => h k (by omega))]
set_option maxHeartbeats 400000 in
theorem accF_cg (g1 g2 : Nat → Bool) (b : Nat) : ∀ k, (∀ i, i < k → g2 i = g1 i) → accF g2 b k = accF g1 b k
  | 0, _ => rfl
  | k + 1, h => by
    unfold accF
    rw [h k (by omega), accF_cg g1 g2 b k (fun i hi => h i (by omega))]
/-! all PINs of the lists -/
def inPL (P : Nat → Prop) (L : PL) : Prop := ∀ p ∈ L, P p.1 ∧ P p.2
set_option maxHeartbeats 400000 in
theorem inPL_app {P : Nat → Prop} {a b : PL} (h : inPL P a) (k : inPL P b) : inPL P (a ++ b) := fun p hp => (List.mem_append.mp hp).elim (h p) (k p)
/-! least sets agree -/
set_option maxHeartbeats 400000 in
theorem LST_un {st : Nat} {EQ : Nat → Nat → Prop} {JL DL : PL} {ex T1 T2 : Nat → Prop} (h1 : LST st EQ JL DL ex T1) (h2 : LST st EQ JL DL ex T2) (e : Nat) (he : ex e) : T1 e ↔ T2 e := ⟨h1.2 T2 h2.1 e he, h2.2 T1 h1.1 e he⟩
