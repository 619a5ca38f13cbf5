/-! what wires join: sorts of ends, and two of them that agree -/
abbrev EnT : Type := Nat → Nat → Nat
def WCq (en : EnT) (Q : List QnT) (T : Nat → Prop) : Prop := ∀ q ∈ Q, ∀ p ∈ Q, q.2.2 = p.2.2 → T (en q.1 q.2.1) → T (en p.1 p.2.1)
def PRT (en : EnT) (Q : List QnT) (g : Nat → Nat) : Prop := (∀ q ∈ Q, ∀ p ∈ Q, q.2.2 = p.2.2 → g (en q.1 q.2.1) = g (en p.1 p.2.1)) ∧ ∀ T : Nat → Prop, WCq en Q T → ∀ e f, e < 954 → f < 954 → g e = g f → T e → T f
def MRG (g g2 : Nat → Nat) (a b : Nat) : Prop := ∀ x y, x < 954 → y < 954 → (g2 x = g2 y ↔ (g x = g y ∨ (g x = g a ∧ g y = g b) ∨ (g x = g b ∧ g y = g a)))
set_option maxHeartbeats 400000 in
theorem MRG_id (g : Nat → Nat) (a : Nat) : MRG g g a a := fun x y _ _ => by omega
set_option maxHeartbeats 400000 in
theorem MRG_if {g g2 : Nat → Nat} {a b : Nat} (h : ∀ y, y < 954 → g2 y = if g y = g a then g b else g y) : MRG g g2 a b := fun x y hx hy => by
  rw [h x hx, h y hy]
  by_cases p : g x = g a <;> by_cases q : g y = g a
  · rw [if_pos p, if_pos q]; omega
  · rw [if_pos p, if_neg q]; omega
  · rw [if_neg p, if_pos q]; omega
  · rw [if_neg p, if_neg q]; omega
set_option maxHeartbeats 400000 in
theorem MRG_mM {g g2 : Nat → Nat} {a b M m : Nat} (hM : (g a = M ∧ g b = m) ∨ (g a = m ∧ g b = M)) (h : ∀ y, y < 954 → g2 y = if g y = M then m else g y) : MRG g g2 a b := fun x y hx hy => by
  rw [h x hx, h y hy]
  by_cases p : g x = M <;> by_cases q : g y = M
  · rw [if_pos p, if_pos q]; omega
  · rw [if_pos p, if_neg q]; omega
  · rw [if_neg p, if_pos q]; omega
  · rw [if_neg p, if_neg q]; omega
set_option maxHeartbeats 400000 in
theorem PRT_step {en : EnT} {Q : List QnT} {g g2 : Nat → Nat} (q : QnT) (a : Nat) (h : PRT en Q g) (ha : a < 954) (hb : en q.1 q.2.1 < 954) (hQ : ∀ p ∈ Q, en p.1 p.2.1 < 954) (m : MRG g g2 a (en q.1 q.2.1)) (h1 : ∀ p ∈ Q, p.2.2 = q.2.2 → g (en p.1 p.2.1) = g a) (h2 : ∀ T, WCq en (q :: Q) T → (T a → T (en q.1 q.2.1)) ∧ (T (en q.1 q.2.1) → T a)) : PRT en (q :: Q) g2 := by
  obtain ⟨o1, o2⟩ := h
  refine ⟨fun x hx y hy e => ?_, fun T hT e f he hf hg ht => ?_⟩
  · have lt : ∀ x ∈ q :: Q, en x.1 x.2.1 < 954 := fun x hx => by
      rcases List.mem_cons.mp hx with z | z
      · rw [z]; exact hb
      · exact hQ x z
    refine (m _ _ (lt x hx) (lt y hy)).mpr ?_
    rcases List.mem_cons.mp hx with z | z
    · rcases List.mem_cons.mp hy with w | w
      · rw [z, w]; exact .inl rfl
      · rw [z] at e ⊢
        exact .inr (.inr ⟨rfl, h1 y w e.symm⟩)
    · rcases List.mem_cons.mp hy with w | w
      · rw [w] at e ⊢
        exact .inr (.inl ⟨h1 x z e, rfl⟩)
      · exact .inl (o1 x z y w e)
  · have k := o2 T (fun x hx y hy => hT x (List.mem_cons_of_mem _ hx) y (List.mem_cons_of_mem _ hy))
    obtain ⟨t1, t2⟩ := h2 T hT
    rcases (m e f he hf).mp hg with z | ⟨z1, z2⟩ | ⟨z1, z2⟩
    · exact k e f he hf z ht
    · exact k _ f hb hf z2.symm (t1 (k e a he ha z1 ht))
    · exact k a f ha hf z2.symm (t2 (k e _ he hb z1 ht))
set_option maxHeartbeats 400000 in
theorem PRT_un {en : EnT} {Q : List QnT} {g1 g2 : Nat → Nat} (h1 : PRT en Q g1) (h2 : PRT en Q g2) (e f : Nat) (he : e < 954) (hf : f < 954) : g1 e = g1 f ↔ g2 e = g2 f := by
  constructor
  · intro h
    exact h1.2 (fun x => g2 e = g2 x) (fun q hq p hp w t => t.trans (h2.1 q hq p hp w)) e f he hf h rfl
  · intro h
    exact h2.2 (fun x => g1 e = g1 x) (fun q hq p hp w t => t.trans (h1.1 q hq p hp w)) e f he hf h rfl
set_option maxHeartbeats 400000 in
theorem PRT_0 (en : EnT) (g : Nat → Nat) (h : ∀ e f, e < 954 → f < 954 → g e = g f → e = f) : PRT en [] g := ⟨fun q hq => absurd hq (List.not_mem_nil), fun T _ e f he hf hg ht => h e f he hf hg ▸ ht⟩
def TLD (en : EnT) (Q : List QnT) (e : Nat) : Prop := ∃ q ∈ Q, en q.1 q.2.1 = e
/-! an end that no wire tells is joined to none -/
set_option maxHeartbeats 400000 in
theorem PRT_told {en : EnT} {Q : List QnT} {g : Nat → Nat} (h : PRT en Q g) (e f : Nat) (he : e < 954) (hf : f < 954) (hg : g e = g f) : e = f ∨ (TLD en Q e ∧ TLD en Q f) := by
  have one : ∀ x y, x < 954 → y < 954 → g x = g y → ¬ TLD en Q x → y = x := fun x y hx hy hxy hn => h.2 (fun z => z = x) (fun q hq p hp w t => absurd ⟨q, hq, t⟩ hn) x y hx hy hxy rfl
  by_cases a : TLD en Q e
  · by_cases b : TLD en Q f
    · exact .inr ⟨a, b⟩
    · exact .inl (one f e hf he hg.symm b)
  · exact .inl (one e f he hf hg a).symm
/-! the ends numbered anew -/
set_option maxHeartbeats 400000 in
theorem PRT_turn {en : EnT} {Q : List QnT} {g : Nat → Nat} (hQ : ∀ q ∈ Q, en q.1 q.2.1 < 954) (h : PRT (fun v c => (en v c + 952) % 954) Q g) : PRT en Q (fun e => g ((e + 952) % 954)) := by
  refine ⟨fun q hq p hp w => h.1 q hq p hp w, fun T hT e f he hf hg ht => ?_⟩
  have := h.2 (fun x => T ((x + 2) % 954)) (fun q hq p hp w t => ?_) ((e + 952) % 954) ((f + 952) % 954) (Nat.mod_lt _ (by decide)) (Nat.mod_lt _ (by decide)) hg ?_
  · rw [show ((f + 952) % 954 + 2) % 954 = f by omega] at this
    exact this
  · have q9 := hQ q hq
    have p9 := hQ p hp
    have t' : T (((en q.1 q.2.1 + 952) % 954 + 2) % 954) := t
    rw [show ((en q.1 q.2.1 + 952) % 954 + 2) % 954 = en q.1 q.2.1 by omega] at t'
    show T (((en p.1 p.2.1 + 952) % 954 + 2) % 954)
    rw [show ((en p.1 p.2.1 + 952) % 954 + 2) % 954 = en p.1 p.2.1 by omega]
    exact hT q hq p hp w t'
  · show T (((e + 952) % 954 + 2) % 954)
    rw [show ((e + 952) % 954 + 2) % 954 = e by omega]
    exact ht
/-! the PINs in the order of their wires -/
def SRTq : List QnT → Prop
  | [] => True
  | q :: r => (∀ p ∈ r, p.2.2 ≤ q.2.2) ∧ SRTq r
set_option maxHeartbeats 400000 in
theorem SRT_blk (w : Nat) : ∀ (B Q : List QnT), (∀ q ∈ B, q.2.2 = w) → (∀ q ∈ Q, q.2.2 ≤ w) → SRTq Q → SRTq (B ++ Q)
  | [], _, _, _, h => h
  | b :: B, Q, hB, hQ, h => by
    refine ⟨fun p hp => ?_, SRT_blk w B Q (fun q hq => hB q (List.mem_cons_of_mem _ hq)) hQ h⟩
    rw [hB b (List.mem_cons_self ..)]
    rcases List.mem_append.mp hp with z | z
    · exact Nat.le_of_eq (hB p (List.mem_cons_of_mem _ z))
    · exact hQ p z
set_option maxHeartbeats 400000 in
theorem pnsW_w {w : Nat} {ps : List PinT} {q : QnT} (h : q ∈ pnsW w ps) : q.2.2 = w ∧ ∃ p ∈ ps, q.1 = p.1 ∧ q.2.1 = p.2 := by
  unfold pnsW at h
  obtain ⟨p, m1, m2⟩ := List.mem_map.mp (List.mem_reverse.mp h)
  rw [← m2]
  exact ⟨rfl, p, m1, rfl, rfl⟩
set_option maxHeartbeats 400000 in
theorem SRT_pns : ∀ S : List StT, SRTq (pnsOf S) ∧ ∀ q ∈ pnsOf S, q.2.2 ≤ cnt 5 S + 1
  | [] => ⟨trivial, fun q hq => absurd hq (List.not_mem_nil)⟩
  | a :: r => by
    obtain ⟨h1, h2⟩ := SRT_pns r
    have c : cnt 5 r ≤ cnt 5 (a :: r) := Nat.le_add_right _ _
    refine ⟨SRT_blk (cnt 5 r + 1) _ _ (fun q hq => (pnsW_w hq).1) h2 h1, fun q hq => ?_⟩
    rcases List.mem_append.mp (show q ∈ pnsW (cnt 5 r + 1) a.2.2.2.2.2.2 ++ pnsOf r from hq) with z | z
    · rw [(pnsW_w z).1]; omega
    · have := h2 q z; omega
set_option maxHeartbeats 400000 in
theorem SRT_suf : ∀ (A R : List QnT), SRTq (A ++ R) → SRTq R
  | [], _, h => h
  | _ :: A, R, h => SRT_suf A R h.2
def EXq (en : EnT) (pe pw : Nat → Int32) : List QnT → Prop
  | [] => True
  | q :: r => ((pe r.length).toInt = en q.1 q.2.1 ∧ (pw r.length).toInt = q.2.2) ∧ EXq en pe pw r
set_option maxHeartbeats 400000 in
theorem EXq_suf (en : EnT) (pe pw : Nat → Int32) : ∀ (A R : List QnT), EXq en pe pw (A ++ R) → EXq en pe pw R
  | [], _, h => h
  | _ :: A, R, h => EXq_suf en pe pw A R h.2
set_option maxHeartbeats 400000 in
theorem EXq_of (en : EnT) (pe pw : Nat → Int32) : ∀ Q : List QnT, (∀ i q, QA i q Q → (pe i).toInt = en q.1 q.2.1 ∧ (pw i).toInt = q.2.2) → EXq en pe pw Q
  | [], _ => trivial
  | q :: r, h => ⟨h r.length q (.inl ⟨rfl, rfl⟩), EXq_of en pe pw r (fun i q hq => h i q (.inr hq))⟩
/-! the end that a PIN tells, in the numbers of the reference -/
def ixS (v : Nat) : List StT → Nat
  | [] => 0
  | a :: r => if a.1 < 5 ∧ tnm a = v then cnt a.1 r else ixS v r
def enS (S : List StT) (v c : Nat) : Nat := if v = 0 then c else match lk v S with
  | none => 0
  | some a => if a.1 = 0 then 2 + 20 * ixS v S + c else feM a.1 + 2 * ixS v S + (if c = 5 then 1 else 0)
def enX (S : List StT) : EnT := fun v c => (enS S v c + 952) % 954
set_option maxHeartbeats 400000 in
theorem AT_ix (s i : Nat) (a : StT) (hs : s < 5) : ∀ S : List StT, okS S = true → AT s i a S → ixS (tnm a) S = i
  | [], _, h => absurd h (fun q => q)
  | b :: r, hk, h => by
    have hk' : (okS r && (decide (5 ≤ b.1) || (!inN (tnm b) r && decide (cnt b.1 r < mst b.1)))) = true := hk
    rw [Bool.and_eq_true, Bool.or_eq_true, Bool.and_eq_true, decide_eq_true_eq] at hk'
    unfold ixS
    rcases h with ⟨h1, h2, h3⟩ | h
    · rw [h3, if_pos ⟨by omega, rfl⟩, h1, h2]
    · by_cases e : b.1 < 5 ∧ tnm b = tnm a
      · exfalso
        have hn := AT_inN s i a hs r h
        rw [e.2, hn] at hk'
        rcases hk'.2 with q | q
        · omega
        · exact absurd q.1 (by decide)
      · rw [if_neg e]
        exact AT_ix s i a hs r hk'.1 h
def nkS : List StT → Nat → Nat
  | [], _ => 0
  | a :: r, i => if a.1 = 0 ∧ i = cnt 0 r then nkd a else nkS r i
set_option maxHeartbeats 400000 in
theorem nkS_at (i : Nat) (a : StT) : ∀ S : List StT, AT 0 i a S → nkS S i = nkd a
  | [], h => absurd h (fun q => q)
  | b :: r, h => by
    unfold nkS
    rcases h with ⟨h1, h2, h3⟩ | h
    · rw [if_pos ⟨h1, h2⟩, h3]
    · have := (AT_in 0 i a r h).2
      rw [if_neg (fun q => by omega)]
      exact nkS_at i a r h
def exS (S : List StT) : Nat → Prop := exN (cnt 0 S) (cnt 1 S) (cnt 2 S) (cnt 3 S) (cnt 4 S) (nkS S)
set_option maxHeartbeats 400000 in
theorem exN_lt {R K L C D : Nat} {nk : Nat → Nat} (h0 : R ≤ 40) (h1 : K ≤ 24) (h2 : L ≤ 24) (h3 : C ≤ 4) (h4 : D ≤ 24) (h6 : ∀ r, nk r ≤ 6) (e : Nat) (h : exN R K L C D nk e) : e < 954 := by
  rcases h with h | ⟨r, k, a, b, c⟩ | ⟨i, k, a, b, c⟩ | ⟨i, k, a, b, c⟩ | ⟨i, k, a, b, c⟩ | ⟨i, k, a, b, c⟩
  · omega
  · have := h6 r; omega
  · omega
  · omega
  · omega
  · omega
/-! a PIN that is well told tells an end that is there -/
set_option maxHeartbeats 400000 in
theorem enS_ex {S : List StT} {v c : Nat} (hok : okS S = true) (h : okPin S v c = true) : exS S (enS S v c) := by
  unfold okPin at h
  unfold enS
  by_cases v0 : v = 0
  · rw [if_pos v0] at h ⊢
    rw [decide_eq_true_eq] at h
    exact .inl (by omega)
  · rw [if_neg v0] at h ⊢
    cases q : lk v S with
    | none => rw [q] at h; cases h
    | some a =>
      rw [q] at h
      dsimp only at h ⊢
      obtain ⟨a1, a2, i, a3⟩ := lk_AT v S a q
      have hi := AT_in _ _ _ S a3
      have ei := AT_ix _ _ _ a1 S hok a3
      rw [a2] at ei
      rw [ei]
      by_cases z : a.1 = 0
      · rw [if_pos z] at h ⊢
        rw [decide_eq_true_eq] at h
        rw [z] at a3 hi
        have := nkS_at i a S a3
        exact .inr (.inl ⟨i, c, hi.2, by omega, rfl⟩)
      · rw [if_neg z] at h ⊢
        have hk : (if c = 5 then 1 else 0 : Nat) < 2 := by split <;> omega
        have hi2 := hi.2
        generalize (if c = 5 then 1 else 0 : Nat) = k at hk
        have : a.1 = 1 ∨ a.1 = 2 ∨ a.1 = 3 ∨ a.1 = 4 := by omega
        rcases this with w | w | w | w <;> rw [w] at hi2 ⊢
        · exact .inr (.inr (.inl ⟨i, k, hi2, hk, rfl⟩))
        · exact .inr (.inr (.inr (.inl ⟨i, k, hi2, hk, rfl⟩)))
        · exact .inr (.inr (.inr (.inr (.inl ⟨i, k, hi2, hk, rfl⟩))))
        · exact .inr (.inr (.inr (.inr (.inr ⟨i, k, hi2, hk, rfl⟩))))
