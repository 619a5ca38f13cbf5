/-! the class's nets numbered -/
def cnN (p : Nat → Int32) : Nat → Nat
  | 0 => 0
  | k + 1 => cnN p k + (if p k = -1 then 0 else 1)
set_option maxHeartbeats 400000 in
theorem cnN_le (p : Nat → Int32) : ∀ k, cnN p k ≤ k
  | 0 => Nat.le_refl _
  | k + 1 => by
    have := cnN_le p k
    unfold cnN
    split <;> omega
set_option maxHeartbeats 400000 in
theorem cnN_mono (p p2 : Nat → Int32) : ∀ k, (∀ e, e < k → p e ≠ -1 → p2 e ≠ -1) → cnN p k ≤ cnN p2 k
  | 0, _ => Nat.le_refl _
  | k + 1, h => by
    have := cnN_mono p p2 k (fun e he => h e (by omega))
    unfold cnN
    by_cases z : p k = -1
    · rw [if_pos z]; split <;> omega
    · rw [if_neg z, if_neg (h k (by omega) z)]; omega
set_option maxHeartbeats 400000 in
theorem cnN_lt (p p2 : Nat → Int32) (a : Nat) (h1 : p a = -1) (h2 : p2 a ≠ -1) : ∀ k, (∀ e, e < k → p e ≠ -1 → p2 e ≠ -1) → a < k → cnN p k + 1 ≤ cnN p2 k
  | 0, _, ha => absurd ha (Nat.not_lt_zero _)
  | k + 1, h, ha => by
    unfold cnN
    by_cases z : a = k
    · subst z
      have := cnN_mono p p2 a (fun e he => h e (by omega))
      rw [if_pos h1, if_neg h2]; omega
    · have := cnN_lt p p2 a h1 h2 k (fun e he => h e (by omega)) (by omega)
      by_cases y : p k = -1
      · rw [if_pos y]; split <;> omega
      · rw [if_neg y, if_neg (h k (by omega) y)]; omega
/-! the told nets numbered, as far as k -/
def NNI (told : Nat → Int32) (g : Nat → Nat) (k N : Nat) (netOf : Nat → Int32) : Prop := (∀ e, e < 954 → netOf e = -1 ∨ (0 ≤ (netOf e).toInt ∧ (netOf e).toInt < N ∧ told e = 1 ∧ netOf (g e) = netOf e)) ∧ (∀ e f, e < 954 → f < 954 → netOf e ≠ -1 → netOf f ≠ -1 → netOf e = netOf f → g e = g f) ∧ (∀ e, e < k → e < 954 → told e = 1 → netOf e ≠ -1) ∧ N ≤ cnN netOf 954 ∧ ∀ u, u < N → ∃ e, e < 954 ∧ (netOf e).toInt = u
set_option maxHeartbeats 400000 in
theorem NNI_step {told : Nat → Int32} {g : Nat → Nat} {N N2 : Nat} {netOf n2 : Nat → Int32} (x h : Nat) (v : Int32) (hI : NNI told g x N netOf) (hx : x < 954) (hh : h < 954) (gx : g x = h) (gi : g h = h) (tx : told x = 1) (th : told h = 1) (hg : ∀ e, e < 954 → g e < 954 ∧ g (g e) = g e) (hv : (netOf h = -1 ∧ v.toInt = N ∧ N2 = N + 1) ∨ (netOf h ≠ -1 ∧ v = netOf h ∧ N2 = N)) (h2 : ∀ e, e < 954 → n2 e = if e = x ∨ e = h then v else netOf e) : NNI told g (x + 1) N2 n2 := by
  obtain ⟨i1, i2, i3, i4, i5⟩ := hI
  have hN : N ≤ N2 := by omega
  have vr : 0 ≤ v.toInt ∧ v.toInt < N2 := by
    rcases hv with ⟨a, b, c⟩ | ⟨a, b, c⟩
    · omega
    · rcases i1 h hh with w | w
      · exact absurd w a
      · rw [b, c]; exact ⟨w.1, w.2.1⟩
  have vn : v ≠ -1 := fun q => by rw [q, l_m1] at vr; omega
  -- a number that stands is one of the roots' own
  have old : ∀ e, e < 954 → ¬ (e = x ∨ e = h) → netOf e ≠ -1 → netOf e = v → g e = h := by
    intro e he hn hne hev
    rcases hv with ⟨a, b, c⟩ | ⟨a, b, c⟩
    · rcases i1 e he with w | w
      · exact absurd w hne
      · rw [hev] at w; omega
    · exact (i2 e h he hh hne a (hev.trans b)).trans gi
  have gg : ∀ e, (e = x ∨ e = h) → g e = h := fun e he => by
    rcases he with z | z
    · rw [z]; exact gx
    · rw [z]; exact gi
  refine ⟨fun e he => ?_, fun e f he hf ne nf ef => ?_, fun e hk he ht => ?_, ?_, fun u hu => ?_⟩
  · have g1 := hg e he
    rw [h2 e he]
    by_cases z : e = x ∨ e = h
    · rw [if_pos z]
      refine .inr ⟨vr.1, vr.2, ?_, ?_⟩
      · rcases z with z | z
        · rw [z]; exact tx
        · rw [z]; exact th
      · rw [gg e z, h2 h hh, if_pos (.inr rfl)]
    · rw [if_neg z]
      rcases i1 e he with w | ⟨w1, w2, w3, w4⟩
      · exact .inl w
      · refine .inr ⟨w1, by omega, w3, ?_⟩
        rw [h2 _ g1.1]
        by_cases y : g e = x ∨ g e = h
        · rw [if_pos y]
          have gh : g e = h := by rw [← g1.2]; exact gg _ y
          rcases hv with ⟨a, b, c⟩ | ⟨a, b, c⟩
          · rw [gh, a] at w4; rw [← w4, l_m1] at w1; omega
          · rw [b, ← gh]; exact w4
        · rw [if_neg y]; exact w4
  · rw [h2 e he] at ne ef
    rw [h2 f hf] at nf ef
    by_cases z : e = x ∨ e = h
    · rw [if_pos z] at ef
      by_cases y : f = x ∨ f = h
      · rw [gg e z, gg f y]
      · rw [if_neg y] at ef nf
        rw [gg e z, old f hf y nf ef.symm]
    · rw [if_neg z] at ef ne
      by_cases y : f = x ∨ f = h
      · rw [if_pos y] at ef
        rw [gg f y, old e he z ne ef]
      · rw [if_neg y] at ef nf
        exact i2 e f he hf ne nf ef
  · rw [h2 e he]
    by_cases z : e = x ∨ e = h
    · rw [if_pos z]; exact vn
    · rw [if_neg z]; exact i3 e (by omega) he ht
  · have up : ∀ e, e < 954 → netOf e ≠ -1 → n2 e ≠ -1 := fun e he hn => by
      rw [h2 e he]
      split
      · exact vn
      · exact hn
    rcases hv with ⟨a, b, c⟩ | ⟨a, b, c⟩
    · have := cnN_lt netOf n2 h a (by rw [h2 h hh, if_pos (.inr rfl)]; exact vn) 954 up hh
      omega
    · have := cnN_mono netOf n2 954 up
      omega
  · by_cases z : u < N
    · obtain ⟨e, e1, e2⟩ := i5 u z
      have en : netOf e ≠ -1 := fun q => by rw [q, l_m1] at e2; omega
      by_cases y : e = x ∨ e = h
      · rcases hv with ⟨a, b, c⟩ | ⟨a, b, c⟩
        · exfalso
          rcases y with w | w
          · rcases i1 e e1 with q | q
            · exact en q
            · rw [w, gx, a, ← w] at q; exact en q.2.2.2.symm
          · rw [w] at en; exact en a
        · refine ⟨h, hh, ?_⟩
          rw [h2 h hh, if_pos (.inr rfl), b]
          rcases y with w | w
          · rcases i1 e e1 with q | q
            · exact absurd q en
            · have := q.2.2.2
              rw [w, gx] at this
              rw [this, ← w]; exact e2
          · rw [← w]; exact e2
      · exact ⟨e, e1, by rw [h2 e e1, if_neg y]; exact e2⟩
    · rcases hv with ⟨a, b, c⟩ | ⟨a, b, c⟩
      · exact ⟨h, hh, by rw [h2 h hh, if_pos (.inr rfl)]; omega⟩
      · omega
/-! what is numbered behind the told ones -/
def UNI (T N : Nat) (o p : Nat → Int32) : Prop := (∀ e, e < 954 → o e ≠ -1 → p e = o e) ∧ (∀ e, e < 954 → p e = -1 ∨ (0 ≤ (p e).toInt ∧ (p e).toInt < N)) ∧ (∀ e, e < 954 → o e = -1 → p e ≠ -1 → T ≤ (p e).toInt) ∧ (∀ e f, e < 954 → f < 954 → o e = -1 → p e ≠ -1 → p e = p f → e = f) ∧ N ≤ cnN p 954 ∧ T ≤ N
set_option maxHeartbeats 400000 in
theorem UNI_step {T N : Nat} {o p : Nat → Int32} (e0 : Nat) (v : Int32) (h : UNI T N o p) (ho : ∀ e, e < 954 → o e = -1 ∨ (0 ≤ (o e).toInt ∧ (o e).toInt < T)) (he0 : e0 < 954) (hv : v.toInt = N) (h0 : p e0 = -1) : UNI T (N + 1) o (upd p e0 v) := by
  obtain ⟨i1, i2, i3, i4, i5, i6⟩ := h
  have oe : o e0 = -1 := by
    rcases Classical.em (o e0 = -1) with q | q
    · exact q
    · rw [i1 e0 he0 q] at h0; exact h0
  have vn : v ≠ -1 := fun q => by rw [q, l_m1] at hv; omega
  refine ⟨fun e he hn => ?_, fun e he => ?_, fun e he hn hp => ?_, fun e f he hf hn hp hpf => ?_, ?_, by omega⟩
  · rw [upd_at, if_neg (fun z => by rw [z] at hn; exact hn oe)]
    exact i1 e he hn
  · rw [upd_at]
    by_cases z : e = e0
    · rw [if_pos z]; exact .inr ⟨by omega, by omega⟩
    · rw [if_neg z]
      rcases i2 e he with w | w
      · exact .inl w
      · exact .inr ⟨w.1, by omega⟩
  · rw [upd_at] at hp ⊢
    by_cases z : e = e0
    · rw [if_pos z]; omega
    · rw [if_neg z] at hp ⊢; exact i3 e he hn hp
  · rw [upd_at] at hp hpf
    rw [upd_at] at hpf
    by_cases z : e = e0
    · rw [if_pos z] at hpf
      by_cases y : f = e0
      · rw [z, y]
      · rw [if_neg y] at hpf
        exfalso
        rcases i2 f hf with w | w
        · rw [w] at hpf; exact vn hpf
        · rw [← hpf] at w; omega
    · rw [if_neg z] at hp hpf
      by_cases y : f = e0
      · rw [if_pos y] at hpf
        exfalso
        rcases i2 e he with w | w
        · exact hp w
        · rw [hpf] at w; omega
      · rw [if_neg y] at hpf
        exact i4 e f he hf hn hp hpf
  · have := cnN_lt p (upd p e0 v) e0 h0 (by rw [upd_at, if_pos rfl]; exact vn) 954 (fun e he hn => by
      rw [upd_at]
      split
      · exact vn
      · exact hn) he0
    omega
def UNP (T : Nat) (o p0 : Nat → Int32) (V : Nat → Prop) (r : Int32 × (Nat → Int32)) : Prop := (∃ N : Nat, r.1.toInt = N ∧ UNI T N o r.2) ∧ (∀ e, e < 954 → p0 e ≠ -1 → r.2 e ≠ -1) ∧ ∀ e, V e → e < 954 → r.2 e ≠ -1
set_option maxHeartbeats 400000 in
theorem x_nu_2 (c_parts : Nat → Int32) (c_contacts : Nat → Int32) (hN : NS c_parts c_contacts) (T : Nat) (o : Nat → Int32) (ho : ∀ e, e < 954 → o e = -1 ∨ (0 ≤ (o e).toInt ∧ (o e).toInt < T)) (s i K : Nat) (hh : (s < 5 ∧ (i : Int) < (c_parts s).toInt) ∨ (s = 5 ∧ i = 0)) (hK : (K : Int) = if s = 0 then 2 + 3 * (c_contacts i).toInt else 2) (p0 : Nat → Int32) : ∀ (n : Nat) (x1 : Int32) (x2 : Int32) (x3 : Int32) (c_nets : Int32) (c_netOf : Nat → Int32) (k N : Nat), x1.toInt = s → x2.toInt = i → x3.toInt = k → k ≤ 20 → c_nets.toInt = N → UNI T N o c_netOf → (∀ e, e < 954 → p0 e ≠ -1 → c_netOf e ≠ -1) → (∀ j, j < k → j < K → cEnd s i j < 954 → c_netOf (cEnd s i j) ≠ -1) → Pc (f_X3_numberUntold_2 c_parts c_contacts n x1 x2 x3 c_nets c_netOf) (UNP T o p0 (fun e => ∃ j, j < K ∧ e = cEnd s i j))
  | 0, x1, x2, x3, c_nets, c_netOf, k, N, h1, h2, h3, h4, h5, hU, hp, hV => pc_none
  | n + 1, x1, x2, x3, c_nets, c_netOf, k, N, h1, h2, h3, h4, h5, hU, hp, hV => by
    unfold f_X3_numberUntold_2 f_X3_numberUntold_52
    have hN9 := hN
    obtain ⟨n0, n1, n2, n3, n4, n5⟩ := hN9
    have i40 : i < 40 := by
      rcases hh with ⟨a, b⟩ | ⟨a, b⟩
      · have := NS_le hN s a; omega
      · omega
    have K20 : K ≤ 20 := by
      by_cases z : s = 0
      · rw [if_pos z] at hK
        have := n5 i i40; omega
      · rw [if_neg z] at hK; omega
    have s5 : s ≤ 5 := by omega
    refine pc_if (fun a => pc_some ⟨⟨N, h5, hU⟩, hp, fun e he hlt => ?_⟩) (fun a => ?_)
    · rw [tI_le, l_20] at a
      obtain ⟨j, j1, j2⟩ := he
      rw [j2]
      exact hV j (by omega) j1 (by rw [← j2]; exact hlt)
    rw [tI_le, l_20] at a
    have e3 : (x3 + 1).toInt = ((k + 1 : Nat) : Int) := by ((try simp only [tI_lt, tI_le, tI_eq, tI_add, tI_sub, tI_mul, tI_nat, Int32.reduceToInt, Int.reduceToNat, fe_0, fe_1, fe_2, fe_3, fe_4, fe_5]) <;> (try simp (disch := omega) only [tI_bm]) <;> omega)
    have hasp : hasP x1 x2 c_parts ∨ x1 = 5 ∧ x2 = 0 := by
      rcases hh with ⟨a1, b1⟩ | ⟨a1, b1⟩
      · refine .inl ⟨by omega, by omega, by omega, ?_⟩
        rw [show x1.toInt.toNat = s by omega, h2]; exact b1
      · exact .inr ⟨Int32.toInt_inj.mp (by rw [h1, a1]; rfl), Int32.toInt_inj.mp (by rw [h2, b1]; rfl)⟩
    refine pc_bind (pc_and (pc_ok (e_endAt _ _ _ _ _ hN hasp)) (x_endAt _ _ _ _ _ s i k h1 h2 h3 s5 i40 (by omega))) (fun r1 hr => ?_)
    obtain ⟨q1, q2⟩ := hr
    have ci : c_contacts x2.toInt.toNat = c_contacts i := by rw [show x2.toInt.toNat = i by omega]
    rw [ci] at q1
    have eK : (if x1 = 0 then 2 + 3 * (c_contacts i).toInt else 2 : Int) = K := by
      rw [hK]
      by_cases z : s = 0
      · rw [if_pos z, if_pos (Int32.toInt_inj.mp (by rw [h1, z]; rfl))]
      · rw [if_neg z, if_neg (fun q => z (by rw [q, l_0] at h1; omega))]
    rw [eK] at q1
    have on : ∀ (N2 : Nat) (c_nets : Int32) (c_netOf : Nat → Int32), c_nets.toInt = N2 → UNI T N2 o c_netOf → (∀ e, e < 954 → p0 e ≠ -1 → c_netOf e ≠ -1) → (∀ j, j < k + 1 → j < K → cEnd s i j < 954 → c_netOf (cEnd s i j) ≠ -1) → Pc (f_X3_numberUntold_2 c_parts c_contacts n x1 x2 (x3 + 1) c_nets c_netOf) (UNP T o p0 (fun e => ∃ j, j < K ∧ e = cEnd s i j)) := fun N2 cn co g1 g2 g3 g4 => x_nu_2 c_parts c_contacts hN T o ho s i K hh hK p0 n x1 x2 (x3 + 1) cn co (k + 1) N2 h1 h2 e3 (by omega) g1 g2 g3 g4
    refine pc_if (fun b => pc_vlet (on N _ _ h5 hU hp (fun j j1 j2 j3 => ?_))) (fun b => pc_bad (fun bb => ?_))
    · by_cases z : j = k
      · exfalso
        rcases q1 with ⟨w1, w2, w3, -⟩ | ⟨w1, -⟩
        · rw [b, l_m1] at w3; omega
        · exact w1 ⟨by omega, by omega⟩
      · exact hV j (by omega) j2 j3
    · have hr := q2.resolve_left b
      have er : r1.toNatClampNeg = cEnd s i k := by rw [tI_nat]; omega
      have lt : cEnd s i k < 954 := by omega
      rw [er]
      refine pc_if (fun z => pc_vlet (pc_bad (fun _ => pc_vlet (pc_vlet ?_)))) (fun z => pc_vlet (on N _ _ h5 hU hp (fun j j1 j2 j3 => ?_)))
      · have hle : N ≤ 954 := Nat.le_trans hU.2.2.2.2.1 (cnN_le _ _)
        have vn : c_nets ≠ -1 := fun q => by rw [q, l_m1] at h5; omega
        refine on (N + 1) _ _ (by ((try simp only [tI_lt, tI_le, tI_eq, tI_add, tI_sub, tI_mul, tI_nat, Int32.reduceToInt, Int.reduceToNat, fe_0, fe_1, fe_2, fe_3, fe_4, fe_5]) <;> (try simp (disch := omega) only [tI_bm]) <;> omega)) (UNI_step (cEnd s i k) c_nets hU ho lt h5 z) (fun e he hn => ?_) (fun j j1 j2 j3 => ?_)
        · rw [upd_at]
          split
          · exact vn
          · exact hp e he hn
        · rw [upd_at]
          by_cases y : cEnd s i j = cEnd s i k
          · rw [if_pos y]; exact vn
          · rw [if_neg y]
            exact hV j (by have : j ≠ k := fun w => y (by rw [w]); omega) j2 j3
      · by_cases y : j = k
        · rw [y]; exact z
        · exact hV j (by omega) j2 j3
set_option maxHeartbeats 400000 in
theorem x_nu (x1 : Int32) (x2 : Int32) (c_nets : Int32) (c_parts : Nat → Int32) (c_contacts : Nat → Int32) (c_netOf : Nat → Int32) (hN : NS c_parts c_contacts) (T : Nat) (o : Nat → Int32) (ho : ∀ e, e < 954 → o e = -1 ∨ (0 ≤ (o e).toInt ∧ (o e).toInt < T)) (s i K N : Nat) (hh : (s < 5 ∧ (i : Int) < (c_parts s).toInt) ∨ (s = 5 ∧ i = 0)) (hK : (K : Int) = if s = 0 then 2 + 3 * (c_contacts i).toInt else 2) (h1 : x1.toInt = s) (h2 : x2.toInt = i) (h5 : c_nets.toInt = N) (hU : UNI T N o c_netOf) : Pc (f_X3_numberUntold x1 x2 c_nets c_parts c_contacts c_netOf) (UNP T o c_netOf (fun e => ∃ j, j < K ∧ e = cEnd s i j)) := by
  unfold f_X3_numberUntold
  exact x_nu_2 c_parts c_contacts hN T o ho s i K hh hK c_netOf FU x1 x2 0 c_nets c_netOf 0 N h1 h2 (by decide) (by decide) h5 hU (fun _ _ z => z) (fun j hj => absurd hj (Nat.not_lt_zero _))
def KKn (contacts : Nat → Int32) (s i : Nat) : Nat := if s = 0 then 2 + 3 * (contacts i).toInt.toNat else 2
set_option maxHeartbeats 400000 in
theorem KKn_eq {parts contacts : Nat → Int32} (hN : NS parts contacts) (s i : Nat) (hi : i < 40) : (KKn contacts s i : Int) = if s = 0 then 2 + 3 * (contacts i).toInt else 2 := by
  have := hN.2.2.2.2.2 i hi
  unfold KKn
  split <;> omega
/-! the ends of all parts ahead of part i of sort s -/
def VIS (parts contacts : Nat → Int32) (s i : Nat) (e : Nat) : Prop := ∃ t u j, t < 5 ∧ (t < s ∨ (t = s ∧ u < i)) ∧ (u : Int) < (parts t).toInt ∧ j < KKn contacts t u ∧ e = cEnd t u j
set_option maxHeartbeats 400000 in
theorem x_nn_91 (k84 : Int32 → Int32 → Int32 → (Nat → Int32) → (Nat → Int32) → Option (Int32 × Int32 × (Nat → Int32) × (Nat → Int32))) (c_parts : Nat → Int32) (c_contacts : Nat → Int32) (c_told : Nat → Int32) (hN : NS c_parts c_contacts) (T : Nat) (o : Nat → Int32) (ho : ∀ e, e < 954 → o e = -1 ∨ (0 ≤ (o e).toInt ∧ (o e).toInt < T)) (s : Nat) (hs : s < 5) (x1 c_toldNets : Int32) (h1 : x1.toInt = s) (p0 : Nat → Int32) (J : Nat → Int32) {Q} (hk : ∀ (N : Nat) (cn : Int32) (co : Nat → Int32), cn.toInt = N → UNI T N o co → (∀ e, VIS c_parts c_contacts (s + 1) 0 e → e < 954 → co e ≠ -1) → Pc (k84 (x1 + 1) c_toldNets cn J co) Q) : ∀ (n : Nat) (x2 c_nets : Int32) (c_netOf : Nat → Int32) (i N : Nat), x2.toInt = i → (i : Int) ≤ (c_parts s).toInt → c_nets.toInt = N → UNI T N o c_netOf → (∀ e, VIS c_parts c_contacts s i e → e < 954 → c_netOf e ≠ -1) → Pc (f_X3_numberNets_91 k84 c_parts c_contacts c_told n x1 x2 c_toldNets c_nets J c_netOf) Q
  | 0, x2, c_nets, c_netOf, i, N, h2, h3, h5, hU, hV => pc_none
  | n + 1, x2, c_nets, c_netOf, i, N, h2, h3, h5, hU, hV => by
    unfold f_X3_numberNets_91
    have pb := NS_le hN s hs
    have e1 : x1.toNatClampNeg = s := by rw [tI_nat]; omega
    rw [e1]
    refine pc_bad (fun _ => pc_if (fun a => pc_vlet (hk N _ _ h5 hU (fun e he hlt => hV e ?_ hlt))) (fun a => ?_))
    · rw [tI_le] at a
      obtain ⟨t, u, j, t1, t2, t3, t4, t5⟩ := he
      refine ⟨t, u, j, t1, ?_, t3, t4, t5⟩
      by_cases z : t = s
      · subst z; exact .inr ⟨rfl, by omega⟩
      · exact .inl (by omega)
    · rw [tI_le] at a
      refine pc_bind (x_nu _ _ _ _ _ _ hN T o ho s i (KKn c_contacts s i) N (.inl ⟨hs, by omega⟩) (KKn_eq hN s i (by omega)) h1 h2 h5 hU) (fun r3 h3' => pc_vlet ?_)
      obtain ⟨⟨N2, m1, m2⟩, m3, m4⟩ := h3'
      refine x_nn_91 k84 c_parts c_contacts c_told hN T o ho s hs x1 c_toldNets h1 p0 J hk n _ _ _ (i + 1) N2 (by ((try simp only [tI_lt, tI_le, tI_eq, tI_add, tI_sub, tI_mul, tI_nat, Int32.reduceToInt, Int.reduceToNat, fe_0, fe_1, fe_2, fe_3, fe_4, fe_5]) <;> (try simp (disch := omega) only [tI_bm]) <;> omega)) (by omega) m1 m2 (fun e he hlt => ?_)
      obtain ⟨t, u, j, t1, t2, t3, t4, t5⟩ := he
      by_cases z : t = s ∧ u = i
      · obtain ⟨z1, z2⟩ := z
        subst z1 z2
        exact m4 e ⟨j, t4, t5⟩ hlt
      · exact m3 e hlt (hV e ⟨t, u, j, t1, by omega, t3, t4, t5⟩ hlt)
def UNE (parts contacts : Nat → Int32) (T : Nat) (o : Nat → Int32) (toldNets : Int32) (J : Nat → Int32) (r : Int32 × Int32 × (Nat → Int32) × (Nat → Int32)) : Prop := r.1 = toldNets ∧ r.2.2.1 = J ∧ (∃ N : Nat, r.2.1.toInt = N ∧ UNI T N o r.2.2.2) ∧ ∀ e, (VIS parts contacts 5 0 e ∨ e = 952 ∨ e = 953) → e < 954 → r.2.2.2 e ≠ -1
set_option maxHeartbeats 400000 in
theorem x_nn_84 (c_parts : Nat → Int32) (c_contacts : Nat → Int32) (c_told : Nat → Int32) (hN : NS c_parts c_contacts) (T : Nat) (o : Nat → Int32) (ho : ∀ e, e < 954 → o e = -1 ∨ (0 ≤ (o e).toInt ∧ (o e).toInt < T)) (J : Nat → Int32) (tn : Int32) : ∀ (n : Nat) (x1 : Int32) (c_toldNets : Int32) (c_nets : Int32) (c_joined : Nat → Int32) (c_netOf : Nat → Int32) (s N : Nat), x1.toInt = s → s ≤ 5 → c_toldNets = tn → c_joined = J → c_nets.toInt = N → UNI T N o c_netOf → (∀ e, VIS c_parts c_contacts s 0 e → e < 954 → c_netOf e ≠ -1) → Pc (f_X3_numberNets_84 c_parts c_contacts c_told n x1 c_toldNets c_nets c_joined c_netOf) (UNE c_parts c_contacts T o tn J)
  | 0, x1, c_toldNets, c_nets, c_joined, c_netOf, s, N, h1, h2, e1, e2, h5, hU, hV => pc_none
  | n + 1, x1, c_toldNets, c_nets, c_joined, c_netOf, s, N, h1, h2, e1, e2, h5, hU, hV => by
    unfold f_X3_numberNets_84
    subst e1 e2
    refine pc_if (fun a => ?_) (fun a => ?_)
    · rw [tI_le, l_5] at a
      have s5 : s = 5 := by omega
      subst s5
      refine pc_bind (x_nu (x1 := 5) (x2 := 0) (c_nets := c_nets) (c_parts := c_parts) (c_contacts := c_contacts) (c_netOf := c_netOf) hN T o ho 5 0 2 N (.inr ⟨rfl, rfl⟩) (by rw [if_neg (by decide)]; rfl) (by decide) (by decide) h5 hU) (fun r3 h3 => pc_some ?_)
      obtain ⟨m1, m3, m4⟩ := h3
      refine ⟨rfl, rfl, m1, fun e he hlt => ?_⟩
      rcases he with w | w | w
      · exact m3 e hlt (hV e w hlt)
      · exact m4 e ⟨0, by decide, by rw [w]; rfl⟩ hlt
      · exact m4 e ⟨1, by decide, by rw [w]; rfl⟩ hlt
    · rw [tI_le, l_5] at a
      have pb := NS_le hN s (by omega)
      refine x_nn_91 (f_X3_numberNets_84 c_parts c_contacts c_told n) c_parts c_contacts c_told hN T o ho s (by omega) x1 c_toldNets h1 c_netOf c_joined (fun N2 cn co g1 g2 g3 => ?_) FU 0 c_nets c_netOf 0 N (by decide) (by omega) h5 hU hV
      exact x_nn_84 c_parts c_contacts c_told hN T o ho c_joined c_toldNets n _ _ _ _ _ (s + 1) N2 (by ((try simp only [tI_lt, tI_le, tI_eq, tI_add, tI_sub, tI_mul, tI_nat, Int32.reduceToInt, Int.reduceToNat, fe_0, fe_1, fe_2, fe_3, fe_4, fe_5]) <;> (try simp (disch := omega) only [tI_bm]) <;> omega)) (by omega) rfl rfl g1 g2 g3
/-! what numbering leaves -/
def NBE (parts contacts : Nat → Int32) (en : EnT) (Q : List QnT) (g : Nat → Nat) (r : Int32 × Int32 × (Nat → Int32) × (Nat → Int32)) : Prop := ∃ (T N : Nat) (o : Nat → Int32), r.1.toInt = T ∧ r.2.1.toInt = N ∧ UNI T N o r.2.2.2 ∧ (∀ e, (VIS parts contacts 5 0 e ∨ e = 952 ∨ e = 953) → e < 954 → r.2.2.2 e ≠ -1) ∧ (∀ e, e < 954 → o e = -1 ∨ (0 ≤ (o e).toInt ∧ (o e).toInt < T)) ∧ (∀ e, e < 954 → (o e ≠ -1 ↔ TLD en Q e)) ∧ (∀ e f, e < 954 → f < 954 → TLD en Q e → TLD en Q f → (o e = o f ↔ g e = g f)) ∧ ∀ u, u < T → ∃ e, e < 954 ∧ (o e).toInt = u
set_option maxHeartbeats 400000 in
theorem x_nn_7 (c_parts : Nat → Int32) (c_contacts : Nat → Int32) (c_told : Nat → Int32) (hN : NS c_parts c_contacts) (en : EnT) (Q : List QnT) (g : Nat → Nat) (hg : ∀ e, e < 954 → g e < 954 ∧ g (g e) = g e) (hP : PRT en Q g) (hT : TLA en Q c_told) : ∀ (n : Nat) (x1 : Int32) (c_toldNets : Int32) (c_nets : Int32) (c_joined : Nat → Int32) (c_netOf : Nat → Int32) (k N : Nat), x1.toInt = k → k ≤ 954 → c_nets.toInt = N → FS c_joined → (∀ y, y < 954 → rho (jn c_joined) y = g y) → NNI c_told g k N c_netOf → Pc (f_X3_numberNets_7 c_parts c_contacts c_told n x1 c_toldNets c_nets c_joined c_netOf) (NBE c_parts c_contacts en Q g)
  | 0, x1, c_toldNets, c_nets, c_joined, c_netOf, k, N, h1, h2, h5, hF, hr, hI => pc_none
  | n + 1, x1, c_toldNets, c_nets, c_joined, c_netOf, k, N, h1, h2, h5, hF, hr, hI => by
    unfold f_X3_numberNets_7
    have hle : N ≤ 954 := Nat.le_trans hI.2.2.2.1 (cnN_le _ _)
    refine pc_if (fun a => ?_) (fun a => ?_)
    · rw [tI_le, l_954] at a
      obtain ⟨i1, i2, i3, i4, i5⟩ := hI
      have ho : ∀ e, e < 954 → c_netOf e = -1 ∨ (0 ≤ (c_netOf e).toInt ∧ (c_netOf e).toInt < N) := fun e he => by
        rcases i1 e he with w | w
        · exact .inl w
        · exact .inr ⟨w.1, w.2.1⟩
      have tl : ∀ e, e < 954 → (c_netOf e ≠ -1 ↔ TLD en Q e) := fun e he => by
        rcases hT e he with ⟨t1, t2⟩ | ⟨t1, t2⟩
        · exact ⟨fun _ => t2, fun _ => i3 e (by omega) he t1⟩
        · refine ⟨fun w => ?_, fun w => absurd w t2⟩
          rcases i1 e he with q | q
          · exact absurd q w
          · rw [t1] at q; exact absurd q.2.2.1 (by decide)
      refine pc_mono (x_nn_84 c_parts c_contacts c_told hN N c_netOf ho c_joined c_nets FU 0 c_nets c_nets c_joined c_netOf 0 N (by decide) (by decide) rfl rfl h5 ⟨fun _ _ _ => rfl, ho, fun e _ z w => absurd z w, fun e f _ _ z w _ => absurd z w, i4, Nat.le_refl _⟩ (fun e he => ?_)) (fun r hr9 => ?_)
      · obtain ⟨t, u, j, t1, t2, -⟩ := he
        omega
      · obtain ⟨r1, r2, ⟨N2, r3, r4⟩, r5⟩ := hr9
        refine ⟨N, N2, c_netOf, by rw [r1]; exact h5, r3, r4, r5, ho, tl, fun e f he hf te tf => ⟨fun w => i2 e f he hf ((tl e he).mpr te) ((tl f hf).mpr tf) w, fun w => ?_⟩, i5⟩
        rcases i1 e he with q | q
        · exact absurd q ((tl e he).mpr te)
        · rcases i1 f hf with q2 | q2
          · exact absurd q2 ((tl f hf).mpr tf)
          · rw [← q.2.2.2, ← q2.2.2.2, w]
    rw [tI_le, l_954] at a
    have e1 : (x1 + 1).toInt = ((k + 1 : Nat) : Int) := by ((try simp only [tI_lt, tI_le, tI_eq, tI_add, tI_sub, tI_mul, tI_nat, Int32.reduceToInt, Int.reduceToNat, fe_0, fe_1, fe_2, fe_3, fe_4, fe_5]) <;> (try simp (disch := omega) only [tI_bm]) <;> omega)
    have ei : x1.toNatClampNeg = k := by rw [tI_nat]; omega
    have k9 : k < 954 := by omega
    rw [ei]
    unfold f_X3_numberNets_56 f_X3_numberNets_68
    refine pc_bad (fun _ => pc_if (fun z => pc_vlet ?_) (fun z => ?_))
    · refine x_nn_7 c_parts c_contacts c_told hN en Q g hg hP hT n _ _ _ _ _ (k + 1) N e1 (by omega) h5 hF hr ?_
      obtain ⟨i1, i2, i3, i4, i5⟩ := hI
      refine ⟨i1, i2, fun e he hlt ht => ?_, i4, i5⟩
      by_cases w : e = k
      · rw [w, z] at ht; exact absurd ht (by decide)
      · exact i3 e (by omega) hlt ht
    · have tk : c_told k = 1 := by
        rcases hT k k9 with w | w
        · exact w.1
        · exact absurd w.1 z
      refine pc_bind (x_headOf _ _ k h1 k9 hF) (fun r2 q2 => ?_)
      obtain ⟨p1, p2, p3⟩ := q2
      rw [hr k k9] at p1
      have gk := hg k k9
      have e2 : r2.1.toNatClampNeg = g k := by rw [tI_nat]; omega
      have th : c_told (g k) = 1 := by
        rcases PRT_told hP k (g k) k9 gk.1 gk.2.symm with w | w
        · rw [← w]; exact tk
        · rcases hT (g k) gk.1 with v | v
          · exact v.1
          · exact absurd w.2 v.2
      have on : ∀ (N2 : Nat) (cn : Int32) (co : Nat → Int32), cn.toInt = N2 → NNI c_told g (k + 1) N2 co → Pc (f_X3_numberNets_7 c_parts c_contacts c_told n (x1 + 1) c_toldNets cn r2.2 co) (NBE c_parts c_contacts en Q g) := fun N2 cn co g1 g2 => x_nn_7 c_parts c_contacts c_told hN en Q g hg hP hT n _ _ _ _ _ (k + 1) N2 e1 (by omega) g1 p2 (fun y hy => by rw [p3 y hy]; exact hr y hy) g2
      rw [e2]
      refine pc_bad (fun _ => pc_if (fun y => pc_vlet (pc_bad (fun _ => pc_vlet (pc_bad (fun _ => pc_vlet (pc_bad (fun _ => pc_vlet (pc_vlet ?_)))))))) (fun y => pc_bad (fun _ => pc_vlet (pc_bad (fun _ => pc_vlet (pc_vlet ?_))))))
      · refine on (N + 1) _ _ (by ((try simp only [tI_lt, tI_le, tI_eq, tI_add, tI_sub, tI_mul, tI_nat, Int32.reduceToInt, Int.reduceToNat, fe_0, fe_1, fe_2, fe_3, fe_4, fe_5]) <;> (try simp (disch := omega) only [tI_bm]) <;> omega)) (NNI_step k (g k) c_nets hI k9 gk.1 rfl gk.2 tk th hg (.inl ⟨y, h5, rfl⟩) (fun e he => ?_))
        rw [ei, upd_at, upd_at, upd_at, if_pos rfl]
        by_cases w1 : e = k
        · rw [if_pos w1, if_pos (.inl w1)]
        · rw [if_neg w1]
          by_cases w2 : e = g k
          · rw [if_pos w2, if_pos (.inr w2)]
          · rw [if_neg w2, if_neg (fun w => w.elim w1 w2)]
      · refine on N _ _ h5 (NNI_step k (g k) (c_netOf (g k)) hI k9 gk.1 rfl gk.2 tk th hg (.inr ⟨y, rfl, rfl⟩) (fun e he => ?_))
        rw [ei, upd_at]
        by_cases w1 : e = k
        · rw [if_pos w1, if_pos (.inl w1)]
        · rw [if_neg w1]
          by_cases w2 : e = g k
          · rw [if_pos (.inr w2), w2]
          · rw [if_neg (fun w => w.elim w1 w2)]
set_option maxHeartbeats 400000 in
theorem x_numberNets (c_toldNets : Int32) (c_nets : Int32) (c_parts : Nat → Int32) (c_contacts : Nat → Int32) (c_told : Nat → Int32) (c_joined : Nat → Int32) (c_netOf : Nat → Int32) (hN : NS c_parts c_contacts) (en : EnT) (Q : List QnT) (hF : FS c_joined) (hP : PRT en Q (rho (jn c_joined))) (hT : TLA en Q c_told) (h0 : ∀ e, e < 954 → c_netOf e = -1) : Pc (f_X3_numberNets c_toldNets c_nets c_parts c_contacts c_told c_joined c_netOf) (NBE c_parts c_contacts en Q (rho (jn c_joined))) := by
  unfold f_X3_numberNets
  have hg : ∀ e, e < 954 → rho (jn c_joined) e < 954 ∧ rho (jn c_joined) (rho (jn c_joined) e) = rho (jn c_joined) e := fun e he => by
    obtain ⟨-, h, H⟩ := hF
    exact ⟨(rho_fix H e he).1, rho_id H e he⟩
  exact x_nn_7 c_parts c_contacts c_told hN en Q _ hg hP hT FU 0 c_toldNets 0 c_joined c_netOf 0 0 (by decide) (by decide) (by decide) hF (fun _ _ => rfl) ⟨fun e he => .inl (h0 e he), fun e f he _ ne => absurd (h0 e he) ne, fun e he => absurd he (Nat.not_lt_zero _), Nat.zero_le _, fun u hu => absurd hu (Nat.not_lt_zero _)⟩
