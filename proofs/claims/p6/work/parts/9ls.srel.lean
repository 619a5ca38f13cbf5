/-! the same netlist and the same state on both sides -/
def NLR (S : List StT) (σ : Nat) (pick drop cont makes per on_ one two kinds bits : Nat → Int32) : Prop := (∀ r, r < cnt 0 S → pick r = one (116 * σ + r) ∧ drop r = two (116 * σ + r) ∧ makes r = bits (116 * σ + r) ∧ (cont r).toInt = nkS S r ∧ (kinds (116 * σ + r)).toInt = nkS S r ∧ 1 ≤ (pick r).toInt ∧ (pick r).toInt ≤ 20 ∧ 1 ≤ (drop r).toInt ∧ (drop r).toInt ≤ 20) ∧ (∀ c, c < cnt 3 S → per c = one (116 * σ + 88 + c) ∧ on_ c = two (116 * σ + 88 + c)) ∧ (∀ r, nkS S r ≤ 6) ∧ (∀ r, cnt 0 S ≤ r → nkS S r = 0)
set_option maxHeartbeats 400000 in
theorem AT_NX3 (pick drop cont makes per on_ : Nat → Int32) (i : Nat) (a : StT) : ∀ S : List StT, NX pick drop cont makes per on_ S → AT 3 i a S → (per i).toInt = a.2.2.1 ∧ (on_ i).toInt = a.2.2.2.1
  | [], _, h => absurd h (fun q => q)
  | b :: r, hp, h => by
    rcases h with ⟨h1, h2, h3⟩ | h
    · rw [h3, h2]
      exact hp.1.2 h1
    · exact AT_NX3 pick drop cont makes per on_ i a r hp.2 h
set_option maxHeartbeats 400000 in
theorem nkS_hi (S : List StT) (r : Nat) (h : cnt 0 S ≤ r) : nkS S r = 0 := by
  rcases nkS_or r S with q | ⟨a, q1, -⟩
  · exact q
  · have := (AT_in 0 r a S q1).2; omega
set_option maxHeartbeats 400000 in
theorem IXM_NLR {S : List StT} {σ : Nat} {toldNets side : Int32} {parts pick drop cont makes per on_ many nameSize one two kinds bits nm netOf : Nat → Int32} {names : Nat → Nat → Int64} (hX : IX S toldNets parts names pick drop cont makes per on_) (hM : IM S σ side many nameSize one two kinds bits nm netOf) : NLR S σ pick drop cont makes per on_ one two kinds bits := by
  obtain ⟨x1, x2, x3, x4⟩ := hX
  obtain ⟨k1, k2, -⟩ := GS_nk x1
  refine ⟨fun r hr => ?_, fun c hc => ?_, k1, nkS_hi S⟩
  · obtain ⟨a, ha⟩ := AT_ex 0 S r hr
    have ax := AT_NX _ _ _ _ _ _ r a S x2 ha
    have am := (PMr_full σ nameSize nm one two kinds bits 0 r a (by decide) S hM.2.2.2.2 ha).2.1 rfl
    have wf := (x4 a (AT_mem 0 r a S ha)).1 ((AT_in 0 r a S ha).1)
    have nk := nkS_at r a S ha
    obtain ⟨m1, m2, m3, m4⟩ := am
    have e0 : 116 * σ + fstS 0 + r = 116 * σ + r := rfl
    rw [e0] at m1 m2 m3 m4
    refine ⟨Int32.toInt_inj.mp (by omega), Int32.toInt_inj.mp (by omega), Int32.toInt_inj.mp (by omega), by omega, by omega, by omega, by omega, by omega, by omega⟩
  · obtain ⟨a, ha⟩ := AT_ex 3 S c hc
    have ax := AT_NX3 _ _ _ _ _ _ c a S x2 ha
    obtain ⟨m1, m2⟩ := (PMr_full σ nameSize nm one two kinds bits 3 c a (by decide) S hM.2.2.2.2 ha).2.2 rfl
    have e0 : 116 * σ + fstS 3 + c = 116 * σ + 88 + c := rfl
    rw [e0] at m1 m2
    exact ⟨Int32.toInt_inj.mp (by omega), Int32.toInt_inj.mp (by omega)⟩
def SR (nk : Nat → Nat) (picked : Int64) (keys time : Int32) (counts positions state : Nat → Int32) : Prop := (∀ i, i < 40 → (state i = 0 ∨ state i = 1) ∧ btL picked i = mB state i) ∧ (∀ i, 40 ≤ i → btL picked i = false) ∧ (∀ k, k < 24 → kt keys k = decide (state (320 + k) = 1)) ∧ time = state 344 ∧ (∀ i, i < 40 → counts i = state (40 + i)) ∧ (∀ r d, r < 40 → d < 6 → state (80 + 6 * r + d) = if d < nk r then positions r else 0) ∧ ∀ r, r < 40 → nk r = 0 → positions r = 0
def WR (stuckX dustyX stuckM dustyM : Nat → Int32) : Prop := ∀ i, i < 240 → stuckX i = stuckM i ∧ (dustyX i = 0 ↔ dustyM i = 0)
set_option maxHeartbeats 400000 in
theorem JL_eq {S : List StT} {σ : Nat} {pick drop cont makes per on_ one two kinds bits : Nat → Int32} (hN : NLR S σ pick drop cont makes per on_ one two kinds bits) (b0 : cnt 0 S ≤ 40) (b1 : cnt 1 S ≤ 24) {picked : Int64} {keys time : Int32} {counts positions state : Nat → Int32} (hS : SR (nkS S) picked keys time counts positions state) {stuckX dustyX stuckM dustyM : Nat → Int32} (hW : WR stuckX dustyX stuckM dustyM) (t : Int32) (s2 : Nat → Int32) (ht : t = s2 344) (hs2 : ∀ i, i < 344 → s2 i = state i) : accF (fun i => isOnB (per i) (on_ i) t) 898 (cnt 3 S) ++ (accF (keyB keys) 802 (cnt 1 S) ++ accR (efX makes stuckX dustyX positions) (nkS S) (cnt 0 S)) = accF (onMB σ one two s2) 898 (cnt 3 S) ++ (accF (keyMB s2) 802 (cnt 1 S) ++ accR (efM σ bits stuckM dustyM s2) (nkS S) (cnt 0 S)) := by
  obtain ⟨n1, n2, n3, n4⟩ := hN
  obtain ⟨s1, -, sk, -, -, sp, -⟩ := hS
  have e1 : accF (fun i => isOnB (per i) (on_ i) t) 898 (cnt 3 S) = accF (onMB σ one two s2) 898 (cnt 3 S) := accF_cg _ _ _ _ (fun i hi => by
    unfold onMB
    rw [(n2 i hi).1, (n2 i hi).2, ht])
  have e2 : accF (keyB keys) 802 (cnt 1 S) = accF (keyMB s2) 802 (cnt 1 S) := accF_cg _ _ _ _ (fun k hk => by
    unfold keyMB
    rw [keyB_kt keys k (by omega), sk k (by omega), hs2 _ (by omega)])
  have e3 : accR (efX makes stuckX dustyX positions) (nkS S) (cnt 0 S) = accR (efM σ bits stuckM dustyM s2) (nkS S) (cnt 0 S) := accR_cg _ _ _ _ _ (fun r hr => ⟨rfl, fun c hc => by
    have h6 := n3 r
    obtain ⟨w1, w2⟩ := hW (6 * r + c) (by omega)
    unfold efX efM
    have cd : cntd stuckX (positions r) (6 * r + c) = cntd stuckM (s2 (80 + 6 * r + c)) (6 * r + c) := by
      unfold cntd
      rw [w1, hs2 _ (by omega), sp r c (by omega) (by omega), if_pos hc]
    rw [(n1 r hr).2.2.1, cd]
    by_cases z : dustyM (6 * r + c) = 0
    · rw [if_pos z, if_pos (w2.mpr z)]
    · rw [if_neg z, if_neg (fun q => z (w2.mp q))]⟩)
  rw [e1, e2, e3]
/-! the counting -/
def CIV (R : Nat) (tp td : Nat → Int32) (p : Nat → Bool) (c : Nat → Int32) : Prop := ∀ r, r < R → 0 ≤ (c r).toInt ∧ (c r).toInt < (if p r = true then td r else tp r).toInt
set_option maxHeartbeats 400000 in
theorem stp_ci (g w E p : Bool) (c tp td : Int32) (h : 0 ≤ c.toInt ∧ c.toInt < (if p = true then td else tp).toInt) (h1 : 1 ≤ tp.toInt ∧ tp.toInt ≤ 20) (h2 : 1 ≤ td.toInt ∧ td.toInt ≤ 20) : 0 ≤ (stp g w E p c tp td).2.toInt ∧ (stp g w E p c tp td).2.toInt < (if (stp g w E p c tp td).1 = true then td else tp).toInt := by
  have z : ∀ b : Bool, 0 ≤ (0 : Int32).toInt ∧ (0 : Int32).toInt < (if b = true then td else tp).toInt := fun b => by
    rw [l_0]
    split <;> omega
  unfold stp
  by_cases a : g = true
  · rw [if_pos a]; exact z _
  rw [if_neg a]
  by_cases b : w = true
  · rw [if_pos b]; exact h
  rw [if_neg b]
  by_cases e : E = p
  · rw [if_pos e]; exact z _
  rw [if_neg e]
  by_cases t : c + 1 = (if p = true then td else tp)
  · rw [if_pos t]; exact z _
  · rw [if_neg t]
    have t2 : (c + 1).toInt ≠ (if p = true then td else tp).toInt := fun q => t (Int32.toInt_inj.mp q)
    have b20 : (if p = true then td else tp).toInt ≤ 20 := by split <;> omega
    have ec : (c + 1).toInt = c.toInt + 1 := by
      generalize (if p = true then td else tp) = v at *
      ((try simp only [tI_lt, tI_le, tI_eq, tI_add, tI_sub, tI_mul, tI_nat, Int32.reduceToInt, Int.reduceToNat, fe_0, fe_1, fe_2, fe_3, fe_4, fe_5]) <;> (try simp (disch := omega) only [tI_bm]) <;> omega)
    show 0 ≤ (c + 1).toInt ∧ (c + 1).toInt < (if p = true then td else tp).toInt
    omega
/-! one TICK on both sides -/
set_option maxHeartbeats 400000 in
theorem SR_step {R : Nat} {nk : Nat → Nat} (hR : R ≤ 40) (hnk : ∀ r, R ≤ r → nk r = 0) {E g w : Nat → Bool} {tp td tpM tdM : Nat → Int32} (ht : ∀ r, r < R → tp r = tpM r ∧ td r = tdM r) {picked p2 : Int64} {keys time : Int32} {counts positions state c2 po2 s2 : Nat → Int32} (hS : SR nk picked keys time counts positions state) (hX : SXP R nk E g w tp td picked counts positions R p2 c2 po2) (hM : TQP R nk E g w tpM tdM (tk1 state) s2) : SR nk p2 keys (time + 1) c2 po2 s2 := by
  obtain ⟨s1, s1b, sk, stm, sc, sp, sz⟩ := hS
  obtain ⟨x1, x2, x3⟩ := hX
  obtain ⟨m1, m2, m3, m4⟩ := hM
  have tk : ∀ i, i ≠ 344 → tk1 state i = state i := fun i hi => by unfold tk1; rw [upd_at, if_neg hi]
  have mb : ∀ i, i < 40 → mB (tk1 state) i = mB state i := fun i hi => by unfold mB; rw [tk i (by omega)]
  have est : ∀ i, i < R → stp (g i) (w i) (E i) (mB (tk1 state) i) (tk1 state (40 + i)) (tpM i) (tdM i) = stp (g i) (w i) (E i) (btL picked i) (counts i) (tp i) (td i) := fun i hi => by
    rw [mb i (by omega), tk _ (by omega), ← (s1 i (by omega)).2, ← sc i (by omega), (ht i hi).1, (ht i hi).2]
  refine ⟨fun i hi => ?_, fun i hi => ?_, fun k hk => ?_, ?_, fun i hi => ?_, fun r d hr hd => ?_, fun r hr hz => ?_⟩
  · have a := m1 i hi
    rw [x1 i]
    by_cases z : i < R
    · rw [if_pos z] at a ⊢
      rw [est i z] at a
      refine ⟨?_, (mB_b2 a).symm⟩
      rw [a]
      unfold b2
      split
      · exact .inr rfl
      · exact .inl rfl
    · rw [if_neg z] at a ⊢
      rw [tk i (by omega)] at a
      refine ⟨by rw [a]; exact (s1 i hi).1, ?_⟩
      unfold mB
      rw [a]
      exact (s1 i hi).2
  · rw [x1 i, if_neg (by omega)]; exact s1b i hi
  · rw [m4 _ (by omega), tk _ (by omega)]; exact sk k hk
  · rw [m4 344 (by decide), stm]
    unfold tk1
    rw [upd_at, if_pos rfl]
  · rw [m2 i hi, x2 i hi]
    by_cases z : i < R
    · rw [if_pos z, if_pos z, est i z]
    · rw [if_neg z, if_neg z, tk _ (by omega)]; exact sc i hi
  · rw [m3 r d hr hd, x3 r hr, tk (80 + 6 * r + d) (by omega), sp r d hr hd]
    by_cases z : r < R ∧ d < nk r
    · rw [if_pos z, if_pos z.2, if_pos z.2, if_pos ⟨z.1, by omega⟩, est r z.1]
    · rw [if_neg z]
      by_cases y : d < nk r
      · have : ¬ r < R := fun q => z ⟨q, y⟩
        have := hnk r (by omega)
        omega
      · rw [if_neg y, if_neg y]
  · rw [x3 r hr, if_neg (by omega)]
    exact sz r hr hz
