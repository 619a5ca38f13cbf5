/-! a TICK as a relation between states of the reference -/
def Q345 (a b : Nat → Int32) : Prop := ∀ i, i < 345 → a i = b i
def STP (S : List StT) (σ : Nat) (one two bits stuck dusty netOf : Nat → Int32) (g w : Nat → Bool) (s s2 : Nat → Int32) : Prop := ∃ E : Nat → Bool, (∀ r, r < cnt 0 S → (E r = true ↔ ENS S (nuM σ netOf) (JLT S σ one two bits stuck dusty (tk1 s)) r)) ∧ TQP (cnt 0 S) (nkS S) E g w (fun i => one (116 * σ + i)) (fun i => two (116 * σ + i)) (tk1 s) s2
set_option maxHeartbeats 400000 in
theorem JLT_cg {S : List StT} {σ : Nat} {one two bits stuck dusty s t : Nat → Int32} (b0 : cnt 0 S ≤ 40) (b1 : cnt 1 S ≤ 24) (hk : ∀ r, nkS S r ≤ 6) (h : Q345 s t) : JLT S σ one two bits stuck dusty (tk1 s) = JLT S σ one two bits stuck dusty (tk1 t) := by
  have e : ∀ i, i < 345 → tk1 s i = tk1 t i := fun i hi => by
    unfold tk1
    rw [upd_at, upd_at, h i hi, h 344 (by decide)]
  unfold JLT
  have e1 : accF (onMB σ one two (tk1 s)) 898 (cnt 3 S) = accF (onMB σ one two (tk1 t)) 898 (cnt 3 S) := accF_cg _ _ _ _ (fun i hi => by
    unfold onMB
    rw [e 344 (by decide)])
  have e2 : accF (keyMB (tk1 s)) 802 (cnt 1 S) = accF (keyMB (tk1 t)) 802 (cnt 1 S) := accF_cg _ _ _ _ (fun k hk => by
    unfold keyMB
    rw [e _ (by omega)])
  have e3 : accR (efM σ bits stuck dusty (tk1 s)) (nkS S) (cnt 0 S) = accR (efM σ bits stuck dusty (tk1 t)) (nkS S) (cnt 0 S) := accR_cg _ _ _ _ _ (fun r hr => ⟨rfl, fun c hc => by
    have h6 := hk r
    unfold efM
    rw [e _ (by omega)]⟩)
  rw [e1, e2, e3]
set_option maxHeartbeats 400000 in
theorem TQP_at {R : Nat} {nk : Nat → Nat} {E E2 g w : Nat → Bool} {tp td s t s2 t2 : Nat → Int32} (hE : ∀ r, r < R → E r = E2 r) (h1 : TQP R nk E g w tp td (tk1 s) s2) (h2 : TQP R nk E2 g w tp td (tk1 t) t2) (h : Q345 s t) : Q345 s2 t2 := by
  have e : ∀ i, i < 345 → tk1 s i = tk1 t i := fun i hi => by
    unfold tk1
    rw [upd_at, upd_at, h i hi, h 344 (by decide)]
  have mb : ∀ i, i < 40 → mB (tk1 s) i = mB (tk1 t) i := fun i hi => by unfold mB; rw [e i (by omega)]
  obtain ⟨a1, a2, a3, a4⟩ := h1
  obtain ⟨b1, b2, b3, b4⟩ := h2
  intro i hi
  by_cases z : i < 40
  · rw [a1 i z, b1 i z]
    by_cases y : i < R
    · rw [if_pos y, if_pos y, hE i y, mb i z, e _ (by omega)]
    · rw [if_neg y, if_neg y, e i hi]
  · by_cases y : i < 80
    · have x := a2 (i - 40) (by omega)
      have v := b2 (i - 40) (by omega)
      rw [show 40 + (i - 40) = i by omega] at x v
      rw [x, v]
      by_cases u : i - 40 < R
      · rw [if_pos u, if_pos u, hE _ u, mb _ (by omega), e i hi]
      · rw [if_neg u, if_neg u, e i hi]
    · by_cases u : i < 320
      · have x := a3 ((i - 80) / 6) ((i - 80) % 6) (by omega) (Nat.mod_lt _ (by decide))
        have v := b3 ((i - 80) / 6) ((i - 80) % 6) (by omega) (Nat.mod_lt _ (by decide))
        rw [show 80 + 6 * ((i - 80) / 6) + (i - 80) % 6 = i by omega] at x v
        rw [x, v]
        by_cases q : (i - 80) / 6 < R ∧ (i - 80) % 6 < nk ((i - 80) / 6)
        · rw [if_pos q, if_pos q, hE _ q.1, mb _ (by omega), e (40 + (i - 80) / 6) (by omega), e i hi]
        · rw [if_neg q, if_neg q, e i hi]
      · rw [a4 i (by omega), b4 i (by omega), e i hi]
set_option maxHeartbeats 400000 in
theorem STP_det {S : List StT} {σ : Nat} (one two bits stuck dusty netOf : Nat → Int32) {g w : Nat → Bool} {s t s2 t2 : Nat → Int32} (b0 : cnt 0 S ≤ 40) (b1 : cnt 1 S ≤ 24) (hk : ∀ r, nkS S r ≤ 6) (h1 : STP S σ one two bits stuck dusty netOf g w s s2) (h2 : STP S σ one two bits stuck dusty netOf g w t t2) (h : Q345 s t) : Q345 s2 t2 := by
  obtain ⟨E, e1, q1⟩ := h1
  obtain ⟨E2, e2, q2⟩ := h2
  refine TQP_at (fun r hr => ?_) q1 q2 h
  have a := e1 r hr
  have b := e2 r hr
  rw [JLT_cg b0 b1 hk h] at a
  exact Bool.eq_iff_iff.mpr (a.trans b.symm)
/-! so many TICKS, by an order -/
def gO (L : List Nat) (d r : Nat) : Bool := decide (L[d]? = some r)
def wO (L : List Nat) (d r : Nat) : Bool := decide (r ∈ L.drop (d + 1))
def RUN (S : List StT) (σ : Nat) (one two bits stuck dusty netOf : Nat → Int32) (L : List Nat) : Nat → (Nat → Int32) → (Nat → Int32) → Prop
  | 0, s, s2 => Q345 s s2
  | d + 1, s, s2 => ∃ m, RUN S σ one two bits stuck dusty netOf L d s m ∧ STP S σ one two bits stuck dusty netOf (gO L d) (wO L d) m s2
set_option maxHeartbeats 400000 in
theorem RUN_det {S : List StT} {σ : Nat} (one two bits stuck dusty netOf : Nat → Int32) {L : List Nat} (b0 : cnt 0 S ≤ 40) (b1 : cnt 1 S ≤ 24) (hk : ∀ r, nkS S r ≤ 6) : ∀ (d : Nat) {s t s2 t2 : Nat → Int32}, RUN S σ one two bits stuck dusty netOf L d s s2 → RUN S σ one two bits stuck dusty netOf L d t t2 → Q345 s t → Q345 s2 t2
  | 0, s, t, s2, t2, h1, h2, h => fun i hi => by rw [← h1 i hi, ← h2 i hi]; exact h i hi
  | d + 1, s, t, s2, t2, h1, h2, h => by
    obtain ⟨m1, a1, c1⟩ := h1
    obtain ⟨m2, a2, c2⟩ := h2
    exact STP_det one two bits stuck dusty netOf b0 b1 hk c1 c2 (RUN_det one two bits stuck dusty netOf b0 b1 hk d a1 a2 h)
def OEQ (a b : Nat → Int32) : Prop := ∀ i, i < 40 → mB a i = mB b i
set_option maxHeartbeats 400000 in
theorem OEQ_q {a b : Nat → Int32} (h : Q345 a b) : OEQ a b := fun i hi => by
  unfold mB
  rw [h i (by omega)]
/-! orders of a list: the class's way, and the reference's -/
def sqX {α : Type} : Nat → List α → Nat → List α
  | 0, _, _ => []
  | n + 1, l, o => match l[o % l.length]? with
    | none => []
    | some x => x :: sqX n (l.eraseIdx (o % l.length)) (o / l.length)
def fct : Nat → Nat
  | 0 => 1
  | n + 1 => (n + 1) * fct n
def sqM {α : Type} : Nat → List α → Nat → List α
  | 0, _, _ => []
  | n + 1, l, p => match l[p / fct n]? with
    | none => []
    | some x => x :: sqM n (l.eraseIdx (p / fct n)) (p % fct n)
set_option maxHeartbeats 400000 in
theorem er_map {α β : Type} (f : α → β) : ∀ (l : List α) (k : Nat), (l.map f).eraseIdx k = (l.eraseIdx k).map f
  | [], _ => rfl
  | x :: t, 0 => rfl
  | x :: t, k + 1 => by
    show f x :: (t.map f).eraseIdx k = f x :: (t.eraseIdx k).map f
    rw [er_map f t k]
set_option maxHeartbeats 400000 in
theorem sqX_map {α β : Type} (f : α → β) : ∀ (n : Nat) (l : List α) (o : Nat), sqX n (l.map f) o = (sqX n l o).map f
  | 0, _, _ => rfl
  | n + 1, l, o => by
    unfold sqX
    rw [List.length_map, List.getElem?_map]
    cases h : l[o % l.length]? with
    | none => rfl
    | some x =>
      show f x :: sqX n ((l.map f).eraseIdx (o % l.length)) (o / l.length) = f x :: (sqX n (l.eraseIdx (o % l.length)) (o / l.length)).map f
      rw [← sqX_map f n, er_map]
set_option maxHeartbeats 400000 in
theorem sqM_map {α β : Type} (f : α → β) : ∀ (n : Nat) (l : List α) (o : Nat), sqM n (l.map f) o = (sqM n l o).map f
  | 0, _, _ => rfl
  | n + 1, l, o => by
    unfold sqM
    rw [List.getElem?_map]
    cases h : l[o / fct n]? with
    | none => rfl
    | some x =>
      show f x :: sqM n ((l.map f).eraseIdx (o / fct n)) (o % fct n) = f x :: (sqM n (l.eraseIdx (o / fct n)) (o % fct n)).map f
      rw [← sqM_map f n, er_map]
set_option maxHeartbeats 400000 in
theorem sq_tab : ∀ n, n < 5 → (∀ o, o < fct n → ∃ p, p < fct n ∧ sqX n (List.range n) o = sqM n (List.range n) p) ∧ ∀ p, p < fct n → ∃ o, o < fct n ∧ sqM n (List.range n) p = sqX n (List.range n) o := by decide +kernel
set_option maxHeartbeats 400000 in
theorem range_map (l : List Nat) : (List.range l.length).map (fun k => l.getD k 0) = l := by
  apply List.ext_getElem?
  intro i
  rw [List.getElem?_map]
  by_cases h : i < l.length
  · rw [List.getElem?_range h, List.getElem?_eq_getElem h]
    show some (l.getD i 0) = _
    rw [List.getD_eq_getElem?_getD, List.getElem?_eq_getElem h]
    rfl
  · rw [List.getElem?_eq_none (by rw [List.length_range]; omega), List.getElem?_eq_none (by omega)]
    rfl
set_option maxHeartbeats 400000 in
theorem sq_same (l : List Nat) (h : l.length < 5) : (∀ o, o < fct l.length → ∃ p, p < fct l.length ∧ sqX l.length l o = sqM l.length l p) ∧ ∀ p, p < fct l.length → ∃ o, o < fct l.length ∧ sqM l.length l p = sqX l.length l o := by
  obtain ⟨t1, t2⟩ := sq_tab l.length h
  have ex : ∀ o, sqX l.length l o = (sqX l.length (List.range l.length) o).map (fun k => l.getD k 0) := fun o => by rw [← sqX_map, range_map]
  have em : ∀ o, sqM l.length l o = (sqM l.length (List.range l.length) o).map (fun k => l.getD k 0) := fun o => by rw [← sqM_map, range_map]
  refine ⟨fun o ho => ?_, fun p hp => ?_⟩
  · obtain ⟨p, hp, e⟩ := t1 o ho
    exact ⟨p, hp, by rw [ex, em, e]⟩
  · obtain ⟨o, ho, e⟩ := t2 p hp
    exact ⟨o, ho, by rw [ex, em, e]⟩
/-! an order holds what the list holds, each once -/
set_option maxHeartbeats 400000 in
theorem mem_erase {α : Type} (l : List α) (k : Nat) (x : α) (h : l[k]? = some x) (y : α) : y ∈ l ↔ y = x ∨ y ∈ l.eraseIdx k := by
  have hk : k < l.length := by
    rcases Nat.lt_or_ge k l.length with q | q
    · exact q
    · rw [List.getElem?_eq_none q] at h; cases h
  have hx : l[k] = x := by
    rw [List.getElem?_eq_getElem hk] at h
    injection h
  have e : l = l.take k ++ x :: l.drop (k + 1) := by
    rw [← hx, ← List.drop_eq_getElem_cons hk, List.take_append_drop]
  have e2 : l.eraseIdx k = l.take k ++ l.drop (k + 1) := List.eraseIdx_eq_take_drop_succ ..
  rw [e2]
  conv => lhs; rw [e]
  rw [List.mem_append, List.mem_append, List.mem_cons]
  constructor
  · rintro (a | a | a)
    · exact .inr (.inl a)
    · exact .inl a
    · exact .inr (.inr a)
  · rintro (a | a | a)
    · exact .inr (.inl a)
    · exact .inl a
    · exact .inr (.inr a)
set_option maxHeartbeats 400000 in
theorem sqX_ok {α : Type} : ∀ (n : Nat) (l : List α) (o : Nat), l.length = n → (sqX n l o).length = n ∧ ∀ y, y ∈ sqX n l o ↔ y ∈ l
  | 0, l, o, h => by
    have : l = [] := List.length_eq_zero_iff.mp h
    subst this
    exact ⟨rfl, fun y => Iff.rfl⟩
  | n + 1, l, o, h => by
    have hk : o % l.length < l.length := Nat.mod_lt _ (by omega)
    have e : l[o % l.length]? = some l[o % l.length] := List.getElem?_eq_getElem hk
    obtain ⟨i1, i2⟩ := sqX_ok n (l.eraseIdx (o % l.length)) (o / l.length) (by rw [List.length_eraseIdx_of_lt hk]; omega)
    unfold sqX
    rw [e]
    refine ⟨?_, fun y => ?_⟩
    · show (_ :: _).length = _
      rw [List.length_cons, i1]
    · show y ∈ _ :: _ ↔ _
      rw [List.mem_cons, i2 y, mem_erase l _ _ e y]
set_option maxHeartbeats 400000 in
theorem sqM_ok {α : Type} : ∀ (n : Nat) (l : List α) (p : Nat), l.length = n → p < fct n → (sqM n l p).length = n ∧ ∀ y, y ∈ sqM n l p ↔ y ∈ l
  | 0, l, o, h, _ => by
    have : l = [] := List.length_eq_zero_iff.mp h
    subst this
    exact ⟨rfl, fun y => Iff.rfl⟩
  | n + 1, l, p, h, hp => by
    have f0 : 0 < fct n := by
      rcases Nat.eq_zero_or_pos (fct n) with z | z
      · unfold fct at hp
        rw [z] at hp
        omega
      · exact z
    have hk : p / fct n < l.length := by
      rw [h]
      exact Nat.div_lt_of_lt_mul (by rw [Nat.mul_comm]; exact hp)
    have e : l[p / fct n]? = some l[p / fct n] := List.getElem?_eq_getElem hk
    obtain ⟨i1, i2⟩ := sqM_ok n (l.eraseIdx (p / fct n)) (p % fct n) (by rw [List.length_eraseIdx_of_lt hk]; omega) (Nat.mod_lt _ f0)
    unfold sqM
    rw [e]
    refine ⟨?_, fun y => ?_⟩
    · show (_ :: _).length = _
      rw [List.length_cons, i1]
    · show y ∈ _ :: _ ↔ _
      rw [List.mem_cons, i2 y, mem_erase l _ _ e y]
/-! those of a set, by numbers rising -/
def lst (D : Nat → Bool) : Nat → List Nat
  | 0 => []
  | n + 1 => if D n = true then lst D n ++ [n] else lst D n
set_option maxHeartbeats 400000 in
theorem lst_s (D : Nat → Bool) (n : Nat) : lst D (n + 1) = if D n = true then lst D n ++ [n] else lst D n := rfl
set_option maxHeartbeats 400000 in
theorem lst_len (D : Nat → Bool) : ∀ n, (lst D n).length = cntF D n
  | 0 => rfl
  | n + 1 => by
    rw [cntF_s]
    unfold lst
    by_cases z : D n = true
    · rw [if_pos z, if_pos z, List.length_append, lst_len D n]
      rfl
    · rw [if_neg z, if_neg z, lst_len D n]
      rfl
set_option maxHeartbeats 400000 in
theorem lst_mem (D : Nat → Bool) (r : Nat) : ∀ n, r ∈ lst D n ↔ r < n ∧ D r = true
  | 0 => by
    show r ∈ [] ↔ _
    exact ⟨fun q => absurd q List.not_mem_nil, fun q => absurd q.1 (Nat.not_lt_zero _)⟩
  | n + 1 => by
    unfold lst
    have ih := lst_mem D r n
    by_cases z : D n = true
    · rw [if_pos z, List.mem_append, ih, List.mem_singleton]
      constructor
      · rintro (⟨a, b⟩ | a)
        · exact ⟨by omega, b⟩
        · rw [a]; exact ⟨by omega, z⟩
      · rintro ⟨a, b⟩
        by_cases y : r = n
        · exact .inr y
        · exact .inl ⟨by omega, b⟩
    · rw [if_neg z, ih]
      constructor
      · rintro ⟨a, b⟩; exact ⟨by omega, b⟩
      · rintro ⟨a, b⟩
        refine ⟨?_, b⟩
        rcases Nat.lt_or_ge r n with q | q
        · exact q
        · have : r = n := by omega
          rw [this] at b; exact absurd b z
set_option maxHeartbeats 400000 in
theorem lst_cg {D E : Nat → Bool} : ∀ n, (∀ i, i < n → D i = E i) → lst D n = lst E n
  | 0, _ => rfl
  | n + 1, h => by
    unfold lst
    rw [lst_cg n (fun i hi => h i (by omega)), h n (by omega)]
set_option maxHeartbeats 400000 in
theorem lst_hi {D : Nat → Bool} {m : Nat} : ∀ n, m ≤ n → (∀ i, m ≤ i → i < n → D i = false) → lst D n = lst D m
  | 0, h, _ => by
    have : m = 0 := by omega
    rw [this]
  | n + 1, h, hf => by
    by_cases z : m = n + 1
    · rw [z]
    · rw [lst_s, if_neg (by rw [hf n (by omega) (by omega)]; decide)]
      exact lst_hi n (by omega) (fun i h1 h2 => hf i h1 (by omega))
/-! the k-th of them -/
set_option maxHeartbeats 400000 in
theorem lst_at (D : Nat → Bool) (r : Nat) (hD : D r = true) : ∀ n, r < n → (lst D n)[cntF D r]? = some r
  | 0, h => absurd h (Nat.not_lt_zero _)
  | n + 1, h => by
    unfold lst
    by_cases y : r = n
    · subst y
      rw [if_pos hD, List.getElem?_append_right (by rw [lst_len]; exact Nat.le_refl _), lst_len, Nat.sub_self]
      rfl
    · have ih := lst_at D r hD n (by omega)
      by_cases z : D n = true
      · rw [if_pos z]
        have lt : cntF D r < (lst D n).length := by
          rcases Nat.lt_or_ge (cntF D r) (lst D n).length with q | q
          · exact q
          · rw [List.getElem?_eq_none q] at ih; cases ih
        rw [List.getElem?_append_left lt]
        exact ih
      · rw [if_neg z]; exact ih
set_option maxHeartbeats 400000 in
theorem cntF_mono (p : Nat → Bool) (a : Nat) : ∀ k, cntF p a ≤ cntF p (a + k)
  | 0 => Nat.le_refl _
  | k + 1 => by
    have := cntF_mono p a k
    rw [← Nat.add_assoc]
    show _ ≤ cntF p (a + k) + _
    omega
set_option maxHeartbeats 400000 in
theorem cntF_str (p : Nat → Bool) (a b : Nat) (h : a < b) (ha : p a = true) : cntF p a < cntF p b := by
  have := cntF_mono p (a + 1) (b - (a + 1))
  rw [show a + 1 + (b - (a + 1)) = b by omega] at this
  have e : cntF p (a + 1) = cntF p a + 1 := by
    show cntF p a + (if p a = true then 1 else 0) = _
    rw [if_pos ha]
  omega
set_option maxHeartbeats 400000 in
theorem lst_inj {D : Nat → Bool} {n k r : Nat} (h : (lst D n)[k]? = some r) : r < n ∧ D r = true ∧ cntF D r = k := by
  have m := (lst_mem D r n).mp (List.mem_of_getElem? h)
  refine ⟨m.1, m.2, ?_⟩
  have lk : k < (lst D n).length := by
    rcases Nat.lt_or_ge k (lst D n).length with q | q
    · exact q
    · rw [List.getElem?_eq_none q] at h; cases h
  have gen : ∀ n k r, (lst D n)[k]? = some r → cntF D r = k := by
    intro n
    induction n with
    | zero => intro k r q; cases q
    | succ n ih =>
      intro k r q
      unfold lst at q
      by_cases z : D n = true
      · rw [if_pos z] at q
        by_cases y : k < (lst D n).length
        · rw [List.getElem?_append_left y] at q
          exact ih k r q
        · rw [List.getElem?_append_right (by omega)] at q
          have e0 : k - (lst D n).length = 0 := by
            rcases Nat.eq_zero_or_pos (k - (lst D n).length) with v | v
            · exact v
            · rw [List.getElem?_eq_none (by rw [List.length_singleton]; omega)] at q; cases q
          rw [e0] at q
          have er : n = r := by injection q
          rw [← er, ← lst_len]
          omega
      · rw [if_neg z] at q
        exact ih k r q
  exact gen n k r h
