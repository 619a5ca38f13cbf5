/-! what holds of both states between two calls -/
def TP (taped : Int32) (tape : Nat → Int32) : Prop := 0 ≤ taped.toInt ∧ taped.toInt ≤ 4000 ∧ BYA tape
def DR (places dcont : Nat → Int32) : Prop := PA places ∧ CB dcont
def IX (S : List StT) (toldNets : Int32) (parts : Nat → Int32) (names : Nat → Nat → Int64) (pick drop cont makes per on_ : Nat → Int32) : Prop := GS (-1) (-1) parts names cont S ∧ NX pick drop cont makes per on_ S ∧ (0 ≤ toldNets.toInt ∧ toldNets.toInt ≤ 954) ∧ ∀ a ∈ S, WF a
def IM (S : List StT) (σ : Nat) (side : Int32) (many nameSize one two kinds bits names netOf : Nat → Int32) : Prop := MI σ side many one kinds netOf ∧ GB nameSize kinds ∧ (∀ s : Nat, s < 5 → (many (5 * σ + s)).toInt = cnt s S) ∧ okC S = true ∧ PMr σ nameSize names one two kinds bits S
def RIv (due order : Nat → Int32) (raceMany : Int32) : Prop := DI due ∧ OI order ∧ raceMany.toInt ≤ 4
set_option maxHeartbeats 400000 in
theorem IX_N {S : List StT} {toldNets : Int32} {parts : Nat → Int32} {names : Nat → Nat → Int64} {pick drop cont makes per on_ : Nat → Int32} (h : IX S toldNets parts names pick drop cont makes per on_) : NS parts cont := h.1.2.1
set_option maxHeartbeats 400000 in
theorem NMp_cg {a1 a2 b1 b2 : Nat → Int32} {p v : Nat} (ha : a2 p = a1 p) (hb : ∀ j, j < 8 → b2 (8 * p + j) = b1 (8 * p + j)) (h : NMp a1 b1 p v) : NMp a2 b2 p v := by
  obtain ⟨n, x1, x2, x3, x4⟩ := h
  refine ⟨n, x1, by rw [ha]; exact x2, ?_, fun j hj => by rw [hb j (by omega)]; exact x4 j hj⟩
  rw [x3]
  exact pk_cg _ _ _ (fun j hj => by rw [hb j (by omega)])
set_option maxHeartbeats 400000 in
theorem PMr_fr (σ : Nat) (a1 a2 b1 b2 c1 c2 d1 d2 e1 e2 f1 f2 : Nat → Int32) (h1 : ∀ i, 116 * σ ≤ i → i < 116 * σ + 116 → a2 i = a1 i ∧ c2 i = c1 i ∧ d2 i = d1 i ∧ e2 i = e1 i ∧ f2 i = f1 i) (h2 : ∀ i, 928 * σ ≤ i → i < 928 * σ + 928 → b2 i = b1 i) : ∀ S : List StT, okC S = true → PMr σ a1 b1 c1 d1 e1 f1 S → PMr σ a2 b2 c2 d2 e2 f2 S
  | [], _, _ => trivial
  | st :: r, ho, hx => by
    obtain ⟨o1, o2⟩ := okC_tl ho
    refine ⟨fun q => ?_, PMr_fr σ a1 a2 b1 b2 c1 c2 d1 d2 e1 e2 f1 f2 h1 h2 r o1 hx.2⟩
    obtain ⟨x1, x2, x3⟩ := hx.1 q
    have hf : fstS st.1 + mst st.1 ≤ 116 := by unfold fstS mst; (repeat' split) <;> omega
    have hp : 116 * σ + fstS st.1 + cnt st.1 r < 116 * σ + 116 := by omega
    obtain ⟨y1, y2, y3, y4, y5⟩ := h1 _ (by omega) hp
    refine ⟨NMp_cg y1 (fun j hj => h2 _ (by omega) (by omega)) x1, fun z => by rw [y2, y3, y4, y5]; exact x2 z, fun z => by rw [y2, y3]; exact x3 z⟩
set_option maxHeartbeats 400000 in
theorem MI_of {φ : Nat} {side : Int32} {many nameSize one kinds netOf : Nat → Int32} (hφ : φ ≤ 1) (hs : side.toInt = φ) (hm : ∀ s : Nat, s < 5 → 0 ≤ (many (5 * φ + s)).toInt ∧ (many (5 * φ + s)).toInt ≤ mst s) (hG : GB nameSize kinds) (hc : ∀ c : Nat, (c : Int) < (many (5 * φ + 3)).toInt → 0 < (one (116 * φ + 88 + c)).toInt) (hN : ∀ e : Nat, e < 954 → 0 ≤ (netOf (954 * φ + e)).toInt ∧ (netOf (954 * φ + e)).toInt < 954) : MI φ side many one kinds netOf := by
  have m0 := hm 0 (by decide)
  have m1 := hm 1 (by decide)
  have m2 := hm 2 (by decide)
  have m3 := hm 3 (by decide)
  have m4 := hm 4 (by decide)
  have e0 : mst 0 = 40 := rfl
  have e1 : mst 1 = 24 := rfl
  have e2 : mst 2 = 24 := rfl
  have e3 : mst 3 = 4 := rfl
  have e4 : mst 4 = 24 := rfl
  exact ⟨hs, hφ, by omega, by omega, by omega, by omega, by omega, fun i hi => (hG i hi).2, hc, hN⟩
set_option maxHeartbeats 400000 in
theorem IM_rd {φ L : Nat} {side kept raceTick : Int32} {many nameSize one two kinds bits names netOf isTold state stuck dusty : Nat → Int32} {S : List StT} {acc : Prop} {ret side2 kept2 raceTick2 : Int32} {many2 nameSize2 one2 two2 kinds2 bits2 names2 netOf2 isTold2 state2 stuck2 dusty2 : Nat → Int32} (hφ : φ ≤ 1) (h : RdP φ L side kept raceTick many nameSize one two kinds bits names netOf isTold state stuck dusty S acc ret side2 kept2 raceTick2 many2 nameSize2 one2 two2 kinds2 bits2 names2 netOf2 isTold2 state2 stuck2 dusty2) (ha : acc) (hW : ∀ a ∈ S, WF a) : IM S φ side2 many2 nameSize2 one2 two2 kinds2 bits2 names2 netOf2 ∧ kept2 = 0 := by
  obtain ⟨h1, h2, h3, h4⟩ := h
  rcases h4 with ⟨-, -, a1, a2, -, -, -, a3, a4, a5, a6⟩ | ⟨q, -⟩
  · refine ⟨⟨MI_of hφ a1 (fun s hs => ?_) h3 (fun c hc => ?_) (fun e he => ?_), h3, a3, a4, a5⟩, a2⟩
    · rw [a3 s hs]
      have := okC_cnt s hs S a4
      omega
    · rw [a3 3 (by decide)] at hc
      obtain ⟨a, hat⟩ := AT_ex 3 S c (by omega)
      have pf := (PMr_full φ nameSize2 names2 one2 two2 kinds2 bits2 3 c a (by decide) S a5 hat).2.2 rfl
      have wf := (hW a (AT_mem 3 c a S hat)).2.1 ((AT_in 3 c a S hat).1)
      have e : (one2 (116 * φ + 88 + c)).toInt = a.2.2.1 := pf.1
      omega
    · have := a6 e he
      omega
  · exact absurd ha q
set_option maxHeartbeats 400000 in
theorem IM_fr {σ φ L : Nat} {side kept raceTick : Int32} {many nameSize one two kinds bits names netOf isTold state stuck dusty : Nat → Int32} {S S2 : List StT} {acc : Prop} {ret side2 kept2 raceTick2 : Int32} {many2 nameSize2 one2 two2 kinds2 bits2 names2 netOf2 isTold2 state2 stuck2 dusty2 : Nat → Int32} (hφ : φ = 1 - σ) (hσ : σ ≤ 1) (h : RdP φ L side kept raceTick many nameSize one two kinds bits names netOf isTold state stuck dusty S2 acc ret side2 kept2 raceTick2 many2 nameSize2 one2 two2 kinds2 bits2 names2 netOf2 isTold2 state2 stuck2 dusty2) (ha : ¬ acc) (hM : IM S σ side many nameSize one two kinds bits names netOf) : IM S σ side2 many2 nameSize2 one2 two2 kinds2 bits2 names2 netOf2 ∧ kept2 = kept ∧ ¬ ret = 0 ∧ raceTick2 = raceTick := by
  obtain ⟨h1, h2, h3, h4⟩ := h
  obtain ⟨f1, f2, f3⟩ := h1
  obtain ⟨i1, i2, i3, i4, i5⟩ := hM
  rcases h4 with ⟨q, -⟩ | ⟨-, r0, a1, a2, a3, -⟩
  · exact absurd q ha
  · have g1 : ∀ s : Nat, s < 5 → many2 (5 * σ + s) = many (5 * σ + s) := fun s hs => f1 _ (by omega)
    have g2 : ∀ i, 116 * σ ≤ i → i < 116 * σ + 116 → nameSize2 i = nameSize i ∧ one2 i = one i ∧ two2 i = two i ∧ kinds2 i = kinds i ∧ bits2 i = bits i := fun i h1 h2 => f2 i (by omega)
    have g3 : ∀ i, 928 * σ ≤ i → i < 928 * σ + 928 → names2 i = names i := fun i h1 h2 => f3 i (by omega)
    have g4 : ∀ e : Nat, e < 954 → netOf2 (954 * σ + e) = netOf (954 * σ + e) := fun e he => (h2 _ (by omega)).1
    obtain ⟨j1, j2, m0, m1, m2, m3, m4, j3, j4, j5⟩ := i1
    refine ⟨⟨⟨by rw [a1]; exact j1, j2, by rw [g1 0 (by decide)]; exact m0, by rw [g1 1 (by decide)]; exact m1, by rw [g1 2 (by decide)]; exact m2, by rw [g1 3 (by decide)]; exact m3, by rw [g1 4 (by decide)]; exact m4, fun i hi => (h3 i hi).2, fun c hc => ?_, fun e he => by rw [g4 e he]; exact j5 e he⟩, h3, fun s hs => by rw [g1 s hs]; exact i3 s hs, i4, PMr_fr σ _ _ _ _ _ _ _ _ _ _ _ _ g2 g3 S i4 i5⟩, a2, fun q => by rw [q] at r0; exact absurd r0 (by decide), a3⟩
    rw [g1 3 (by decide)] at hc
    rw [(g2 (116 * σ + 88 + c) (by omega) (by omega)).2.1]
    exact j4 c hc
set_option maxHeartbeats 400000 in
theorem acc_S {o : Option (List StT)} (h : accT o) : ∃ S, o = some S := by
  cases o with
  | none => exact absurd h (fun q => q)
  | some S => exact ⟨S, rfl⟩
set_option maxHeartbeats 400000 in
theorem stmts_WF (t : Nat → Int32) (L : Nat) : ∀ a ∈ getT (stmtsT t L), WF a := by
  unfold stmtsT
  cases h : pText 4002 (toksT t L) with
  | none => exact fun a ha => absurd ha (List.not_mem_nil)
  | some ss =>
    intro a ha
    have ha' : a ∈ ss.reverse ++ [] := ha
    rw [List.append_nil] at ha'
    exact pText_WF _ _ _ h a (List.mem_reverse.mp ha')
set_option maxHeartbeats 400000 in
theorem stmtsL_WF (l : List Nat) : ∀ a ∈ getT (stmtsL l), WF a := by
  unfold stmtsL
  cases h : pText 4002 (lend (lrun l ([], 0, 0, 0))).reverse with
  | none => exact fun a ha => absurd ha (List.not_mem_nil)
  | some ss =>
    intro a ha
    have ha' : a ∈ ss.reverse ++ [] := ha
    rw [List.append_nil] at ha'
    exact pText_WF _ _ _ h a (List.mem_reverse.mp ha')
set_option maxHeartbeats 400000 in
theorem hop2 {α β : Type} {o1 : Option α} {o2 : Option β} {P : α → Prop} {Q : β → Prop} {R : α → β → Prop} (h1 : Ok o1 P) (h2 : Ok o2 Q) (k : ∀ a b, P a → Q b → R a b) : ∃ a b, o1 = some a ∧ o2 = some b ∧ R a b := by
  obtain ⟨a, e1, p⟩ := h1
  obtain ⟨b, e2, q⟩ := h2
  exact ⟨a, b, e1, e2, k a b p q⟩
set_option maxHeartbeats 400000 in
theorem ok_T {α : Type} {o : Option α} {P : α → Prop} (h : Ok o P) : Ok o (fun _ => True) := ok_mono h (fun _ _ => trivial)
/-! the same contacts -/
set_option maxHeartbeats 400000 in
theorem IXM_P {S : List StT} {σ : Nat} {toldNets side : Int32} {parts pick drop cont makes per on_ many nameSize one two kinds bits nm netOf : Nat → Int32} {names : Nat → Nat → Int64} (hX : IX S toldNets parts names pick drop cont makes per on_) (hM : IM S σ side many nameSize one two kinds bits nm netOf) (s : Nat) (hs : s < 5) : (parts s).toInt = (many (5 * σ + s)).toInt := by
  rw [hX.1.2.2.2.1 s hs, hM.2.2.1 s hs]
set_option maxHeartbeats 400000 in
theorem IXM_C {S : List StT} {σ : Nat} {toldNets side : Int32} {parts pick drop cont makes per on_ many nameSize one two kinds bits nm netOf : Nat → Int32} {names : Nat → Nat → Int64} (hX : IX S toldNets parts names pick drop cont makes per on_) (hM : IM S σ side many nameSize one two kinds bits nm netOf) (r : Nat) (hr : r < cnt 0 S) : (cont r).toInt = (kinds (116 * σ + r)).toInt := by
  obtain ⟨a, ha⟩ := AT_ex 0 S r hr
  have e1 := hX.1.2.2.2.2.2 r a ha
  have e2 := ((PMr_full σ nameSize nm one two kinds bits 0 r a (by decide) S hM.2.2.2.2 ha).2.1 rfl).2.2.1
  have e3 : (kinds (116 * σ + r)).toInt = nkd a := e2
  rw [e1, e3]
set_option maxHeartbeats 400000 in
theorem IXM_hC {S : List StT} {σ : Nat} {toldNets side : Int32} {parts pick drop cont makes per on_ many nameSize one two kinds bits nm netOf : Nat → Int32} {names : Nat → Nat → Int64} (hX : IX S toldNets parts names pick drop cont makes per on_) (hM : IM S σ side many nameSize one two kinds bits nm netOf) (x1 x2 : Int32) : hasC x1 x2 parts cont ↔ mC σ x1 x2 many kinds := by
  have p0 := IXM_P hX hM 0 (by decide)
  have c0 := hM.2.2.1 0 (by decide)
  unfold hasC mC mP
  constructor
  · rintro ⟨h1, h2, h3, h4⟩
    have := IXM_C hX hM x1.toInt.toNat (by omega)
    exact ⟨⟨h1, by omega⟩, h3, by omega⟩
  · rintro ⟨⟨h1, h2⟩, h3, h4⟩
    have := IXM_C hX hM x1.toInt.toNat (by omega)
    exact ⟨h1, by omega, h3, by omega⟩
