/-! level 2: the class's ways -/
def li (src : Nat → Nat) (u : Nat) : Nat → Int
  | 0 => -1
  | k + 1 => if src k = u then (k : Int) else li src u k
set_option maxHeartbeats 400000 in
theorem li_lt (src : Nat → Nat) (u : Nat) : ∀ k, -1 ≤ li src u k ∧ li src u k < k
  | 0 => by unfold li; omega
  | k + 1 => by
    have := li_lt src u k
    unfold li
    split <;> omega
set_option maxHeartbeats 400000 in
theorem li_cg (s1 s2 : Nat → Nat) (u : Nat) : ∀ k, (∀ j, j < k → s2 j = s1 j) → li s2 u k = li s1 u k
  | 0, _ => rfl
  | k + 1, h => by
    unfold li
    rw [h k (by omega), li_cg s1 s2 u k (fun j hj => h j (by omega))]
/-! the last link out of u ahead of k is one out of u, and none lies between -/
set_option maxHeartbeats 400000 in
theorem li_at (src : Nat → Nat) (u : Nat) : ∀ k, ∀ i : Nat, li src u k = i → src i = u ∧ i < k ∧ ∀ j, i < j → j < k → src j ≠ u
  | 0, i, h => by unfold li at h; omega
  | k + 1, i, h => by
    unfold li at h
    by_cases e : src k = u
    · rw [if_pos e] at h
      have : i = k := by omega
      subst this
      exact ⟨e, by omega, fun j h1 h2 => by omega⟩
    · rw [if_neg e] at h
      obtain ⟨h1, h2, h3⟩ := li_at src u k i h
      refine ⟨h1, by omega, fun j h4 h5 => ?_⟩
      by_cases z : j = k
      · rw [z]; exact e
      · exact h3 j h4 (by omega)
set_option maxHeartbeats 400000 in
theorem li_none (src : Nat → Nat) (u : Nat) : ∀ k, li src u k = -1 → ∀ j, j < k → src j ≠ u
  | 0, _, j, hj => absurd hj (Nat.not_lt_zero _)
  | k + 1, h, j, hj => by
    unfold li at h
    by_cases e : src k = u
    · rw [if_pos e] at h; omega
    · rw [if_neg e] at h
      by_cases z : j = k
      · rw [z]; exact e
      · exact li_none src u k h j (by omega)
/-! the links laid: n nets, m links; link i goes from src i to dst i and lets lt i pass -/
def WG (n m : Nat) (src dst : Nat → Nat) (lt : Nat → Int32) (nets links : Int32) (fl nl ld lets : Nat → Int32) : Prop := nets.toInt = n ∧ n ≤ 954 ∧ links.toInt = m ∧ m ≤ 1200 ∧ (∀ u, u < n → (fl u).toInt = li src u m) ∧ (∀ i, i < m → (nl i).toInt = li src (src i) i ∧ (ld i).toInt = dst i ∧ lets i = lt i ∧ src i < n ∧ dst i < n)
set_option maxHeartbeats 400000 in
theorem WG_WI {n m : Nat} {src dst : Nat → Nat} {lt : Nat → Int32} {nets links : Int32} {fl nl ld lets : Nat → Int32} (h : WG n m src dst lt nets links fl nl ld lets) : WI nets links fl nl ld := by
  obtain ⟨h1, h2, h3, h4, h5, h6⟩ := h
  refine ⟨by omega, by omega, by omega, by omega, fun i hi => ?_, fun i hi => ?_⟩
  · rw [h5 i (by omega), h3]
    exact li_lt src i m
  · obtain ⟨a, b, c, d, e⟩ := h6 i (by omega)
    have := li_lt src (src i) i
    refine ⟨by omega, by omega, by omega, by omega⟩
def up2 (f : Nat → Nat) (m a b : Nat) (i : Nat) : Nat := if i = m then a else if i = m + 1 then b else f i
def up2i (f : Nat → Int32) (m : Nat) (a b : Int32) (i : Nat) : Int32 := if i = m then a else if i = m + 1 then b else f i
set_option maxHeartbeats 400000 in
theorem g_join {n m : Nat} {src dst : Nat → Nat} {lt : Nat → Int32} (a b : Nat) (x1 : Int32) (x2 : Int32) (x3 : Int32) (x4 : Int32) (c_nets : Int32) (c_links : Int32) (c_firstLink : Nat → Int32) (c_nextLink : Nat → Int32) (c_leadsTo : Nat → Int32) (c_lets : Nat → Int32) (h : WG n m src dst lt c_nets c_links c_firstLink c_nextLink c_leadsTo c_lets) (ha : x1.toInt = a) (hb : x2.toInt = b) (an : a < n) (bn : b < n) (hm : m ≤ 1198) : Ok (f_X8_join x1 x2 x3 x4 c_nets c_links c_firstLink c_nextLink c_leadsTo c_lets) (fun r => (a = b ∧ WG n m src dst lt c_nets r.1 r.2.1 r.2.2.1 r.2.2.2.1 r.2.2.2.2) ∨ (a ≠ b ∧ WG n (m + 2) (up2 src m a b) (up2 dst m b a) (up2i lt m x3 x4) c_nets r.1 r.2.1 r.2.2.1 r.2.2.2.1 r.2.2.2.2)) := by
  unfold f_X8_join
  have hh := h
  obtain ⟨h1, h2, h3, h4, h5, h6⟩ := hh
  rw [if_neg (by rw [tI_lt, l_0]; omega), if_neg (by rw [tI_le]; omega), if_neg (by rw [tI_lt, l_0]; omega), if_neg (by rw [tI_le]; omega)]
  refine ok_if (fun e => ok_some (.inl ⟨by have := congrArg Int32.toInt e; omega, h⟩)) (fun e => ?_)
  have ab : a ≠ b := fun q => e (Int32.toInt_inj.mp (by omega))
  rw [if_pos (by rw [tI_le, l_1198]; omega)]
  have l1 : (c_links + 1).toInt = c_links.toInt + 1 := by ((try simp only [tI_lt, tI_le, tI_eq, tI_add, tI_sub, tI_mul, tI_nat, Int32.reduceToInt, Int.reduceToNat, fe_0, fe_1, fe_2, fe_3, fe_4, fe_5]) <;> (try simp (disch := omega) only [tI_bm]) <;> omega)
  have l2 : (c_links + 2).toInt = c_links.toInt + 2 := by ((try simp only [tI_lt, tI_le, tI_eq, tI_add, tI_sub, tI_mul, tI_nat, Int32.reduceToInt, Int.reduceToNat, fe_0, fe_1, fe_2, fe_3, fe_4, fe_5]) <;> (try simp (disch := omega) only [tI_bm]) <;> omega)
  have b0 : 0 ≤ c_links.toInt ∧ c_links.toInt < (1200 : Nat) := by omega
  have b1 : 0 ≤ (c_links + 1).toInt ∧ (c_links + 1).toInt < (1200 : Nat) := by omega
  have b2 : 0 ≤ x1.toInt ∧ x1.toInt < (954 : Nat) := by omega
  have b3 : 0 ≤ x2.toInt ∧ x2.toInt < (954 : Nat) := by omega
  repeat first | with_reducible refine ok_bad b0 ?_ | with_reducible refine ok_bad b1 ?_ | with_reducible refine ok_bad b2 ?_ | with_reducible refine ok_bad b3 ?_ | with_reducible refine ok_vlet ?_
  refine ok_some (.inr ⟨ab, ?_⟩)
  have i0 : c_links.toNatClampNeg = m := by rw [tI_nat]; omega
  have i1 : (c_links + 1).toNatClampNeg = m + 1 := by rw [tI_nat]; omega
  have ia : x1.toNatClampNeg = a := by rw [tI_nat]; omega
  have ib : x2.toNatClampNeg = b := by rw [tI_nat]; omega
  dsimp only
  rw [i0, i1, ia, ib]
  have hs : ∀ j, j < m → up2 src m a b j = src j := fun j hj => by unfold up2; rw [if_neg (by omega), if_neg (by omega)]
  have sm : up2 src m a b m = a := by unfold up2; rw [if_pos rfl]
  have sm1 : up2 src m a b (m + 1) = b := by unfold up2; rw [if_neg (by omega), if_pos rfl]
  refine ⟨h1, h2, by rw [l2]; omega, by omega, fun u hu => ?_, fun i hi => ?_⟩
  · have e1 : li (up2 src m a b) u (m + 2) = if b = u then ((m + 1 : Nat) : Int) else if a = u then (m : Int) else li src u m := by
      show (if up2 src m a b (m + 1) = u then ((m + 1 : Nat) : Int) else (if up2 src m a b m = u then (m : Int) else li (up2 src m a b) u m)) = _
      rw [sm, sm1, li_cg src _ u m hs]
    rw [e1, upd_at, upd_at]
    by_cases z1 : u = b
    · rw [if_pos z1, if_pos z1.symm]; omega
    · rw [if_neg z1, if_neg (fun q : b = u => z1 q.symm)]
      by_cases z2 : u = a
      · rw [if_pos z2, if_pos z2.symm]; omega
      · rw [if_neg z2, if_neg (fun q : a = u => z2 q.symm)]; exact h5 u hu
  · by_cases z0 : i = m
    · subst z0
      rw [sm, li_cg src _ a i hs]
      refine ⟨?_, ?_, ?_, an, ?_⟩
      · rw [upd_at, if_neg (by omega), upd_at, if_pos rfl]; exact h5 a an
      · rw [upd_at, if_neg (by omega), upd_at, if_pos rfl]
        unfold up2; rw [if_pos rfl]; exact hb
      · rw [upd_at, if_neg (by omega), upd_at, if_pos rfl]
        unfold up2i; rw [if_pos rfl]
      · unfold up2; rw [if_pos rfl]; exact bn
    · by_cases z1 : i = m + 1
      · subst z1
        have e1 : li (up2 src m a b) b (m + 1) = li src b m := by
          show (if up2 src m a b m = b then (m : Int) else li (up2 src m a b) b m) = _
          rw [sm, if_neg ab, li_cg src _ b m hs]
        rw [sm1, e1]
        refine ⟨?_, ?_, ?_, bn, ?_⟩
        · rw [upd_at, if_pos rfl, upd_at, if_neg (fun q => ab q.symm)]; exact h5 b bn
        · rw [upd_at, if_pos rfl]
          unfold up2; rw [if_neg (by omega), if_pos rfl]; exact ha
        · rw [upd_at, if_pos rfl]
          unfold up2i; rw [if_neg (by omega), if_pos rfl]
        · unfold up2; rw [if_neg (by omega), if_pos rfl]; exact an
      · have him : i < m := by omega
        obtain ⟨g1, g2, g3, g4, g5⟩ := h6 i him
        rw [hs i him, li_cg src _ (src i) i (fun j hj => hs j (by omega))]
        refine ⟨?_, ?_, ?_, g4, ?_⟩
        · rw [upd_at, if_neg z1, upd_at, if_neg z0]; exact g1
        · rw [upd_at, if_neg z1, upd_at, if_neg z0]
          unfold up2; rw [if_neg z0, if_neg z1]; exact g2
        · rw [upd_at, if_neg z1, upd_at, if_neg z0]
          unfold up2i; rw [if_neg z0, if_neg z1]; exact g3
        · unfold up2; rw [if_neg z0, if_neg z1]; exact g5
/-! spreading: what is reached -/
def mk2 (p : Nat → Int32) (w : Int32) (e : Nat) : Prop := ¬ p e &&& w = 0
def cpw (p : Nat → Int32) (w : Int32) : Nat → Nat
  | 0 => 0
  | k + 1 => cpw p w k + (if p k &&& w = 0 then 0 else 1)
set_option maxHeartbeats 400000 in
theorem cpw_le (p : Nat → Int32) (w : Int32) : ∀ k, cpw p w k ≤ k
  | 0 => Nat.le_refl _
  | k + 1 => by
    have := cpw_le p w k
    unfold cpw
    split <;> omega
set_option maxHeartbeats 400000 in
theorem cpw_lt (p : Nat → Int32) (w : Int32) (e : Nat) (h : p e &&& w = 0) : ∀ k, e < k → cpw p w k < k
  | 0, hk => absurd hk (Nat.not_lt_zero _)
  | k + 1, hk => by
    unfold cpw
    by_cases z : e = k
    · subst z
      rw [if_pos h]
      have := cpw_le p w e
      omega
    · have := cpw_lt p w e h k (by omega)
      split <;> omega
set_option maxHeartbeats 400000 in
theorem cpw_up (p : Nat → Int32) (w : Int32) (e : Nat) (v : Int32) (h : p e &&& w = 0) (hv : ¬ v &&& w = 0) : ∀ k, cpw (upd p e v) w k = cpw p w k + (if e < k then 1 else 0)
  | 0 => rfl
  | k + 1 => by
    show cpw (upd p e v) w k + (if upd p e v k &&& w = 0 then 0 else 1) = cpw p w k + (if p k &&& w = 0 then 0 else 1) + (if e < k + 1 then 1 else 0)
    rw [cpw_up p w e v h hv k, upd_at]
    by_cases z : k = e
    · subst z
      rw [if_pos rfl, if_neg hv, if_pos h, if_neg (by omega), if_pos (by omega)]
    · rw [if_neg z]
      by_cases y : e < k
      · rw [if_pos y, if_pos (show e < k + 1 by omega)]; omega
      · rw [if_neg y, if_neg (show ¬ e < k + 1 by omega)]; omega
/-! the marks: p marked by w on top of p0 -/
def PW (n : Nat) (p0 : Nat → Int32) (w : Int32) (p : Nat → Int32) : Prop := ∀ e, e < n → p0 e &&& w = 0 ∧ ¬ (p0 e ||| w) &&& w = 0 ∧ (p e = p0 e ∨ p e = p0 e ||| w)
def SPI (n m : Nat) (src dst : Nat → Nat) (lt : Nat → Int32) (p0 : Nat → Int32) (w : Int32) (fr : Nat) (found : Int32) (p r : Nat → Int32) : Prop := PW n p0 w p ∧ (fr < n ∧ mk2 p w fr) ∧ (∀ j : Nat, (j : Int) < found.toInt → 0 ≤ (r j).toInt ∧ (r j).toInt < n ∧ mk2 p w (r j).toInt.toNat) ∧ (∀ e, e < n → mk2 p w e → ∃ j : Nat, (j : Int) < found.toInt ∧ (r j).toInt = e) ∧ found.toInt = cpw p w n ∧ (∀ T : Nat → Prop, T fr → (∀ i, i < m → ¬ lt i &&& w = 0 → T (src i) → T (dst i)) → ∀ e, e < n → mk2 p w e → T e)
/-! all links out of u from k on are gone over -/
def DNE (m : Nat) (src dst : Nat → Nat) (lt : Nat → Int32) (w : Int32) (p : Nat → Int32) (u : Nat) (k : Int) : Prop := ∀ j : Nat, k < j → j < m → src j = u → ¬ lt j &&& w = 0 → mk2 p w (dst j)
set_option maxHeartbeats 400000 in
theorem g_spread_67 (k35 : Int32 → Int32 → Int32 → (Nat → Int32) → (Nat → Int32) → Option ((Nat → Int32) × (Nat → Int32))) (c_nets : Int32) (c_links : Int32) (c_firstLink : Nat → Int32) (c_nextLink : Nat → Int32) (c_leadsTo : Nat → Int32) (c_lets : Nat → Int32) {nn m : Nat} {src dst : Nat → Nat} {lt : Nat → Int32} (hW : WG nn m src dst lt c_nets c_links c_firstLink c_nextLink c_leadsTo c_lets) (p0 : Nat → Int32) (fr u : Nat) (w y : Int32) {Q : (Nat → Int32) × (Nat → Int32) → Prop} (lo : Int) (r0 : Nat → Int32) (dn : Nat → Prop)
    (hk : ∀ (x3 : Int32) (p r : Nat → Int32), SPI nn m src dst lt p0 w fr x3 p r → lo ≤ x3.toInt → (∀ j : Nat, (j : Int) < lo → r j = r0 j) → DNE m src dst lt w p u (-1) → (∀ v, dn v → DNE m src dst lt w p v (-1)) → Ok (k35 w x3 (y + 1) p r) Q) : ∀ (n : Nat) (x2 : Int32) (x3 : Int32) (x4 : Int32) (x5 : Int32) (x6 : Int32) (c_powers : Nat → Int32) (c_reached : Nat → Int32), x2 = w → x4 = y → SPI nn m src dst lt p0 w fr x3 c_powers c_reached → lo ≤ x3.toInt → (∀ j : Nat, (j : Int) < lo → c_reached j = r0 j) → u < nn ∧ mk2 c_powers w u → (x5.toInt = -1 ∨ (0 ≤ x5.toInt ∧ x5.toInt < m ∧ src x5.toInt.toNat = u)) → 0 ≤ x6.toInt → x6.toInt ≤ 1300 → x5.toInt < m - x6.toInt → 1300 < x6.toInt + n → DNE m src dst lt w c_powers u x5.toInt → (∀ v, dn v → DNE m src dst lt w c_powers v (-1)) → Ok (f_X8_spread_67 k35 c_nets c_links c_firstLink c_nextLink c_leadsTo c_lets n x2 x3 x4 x5 x6 c_powers c_reached) Q
  | 0, x2, x3, x4, x5, x6, c_powers, c_reached, e2, e4, hS, h0, hr, hu, h5, h6, h61, h7, h8, hD, hV => by exfalso; omega
  | n + 1, x2, x3, x4, x5, x6, c_powers, c_reached, e2, e4, hS, h0, hr, hu, h5, h6, h61, h7, h8, hD, hV => by
    unfold f_X8_spread_67 f_X8_spread_160
    subst e2 e4
    have hh := hW
    obtain ⟨g1, g2, g3, g4, g5, g6⟩ := hh
    have fin : x5.toInt = -1 → Ok (k35 x2 x3 (x4 + 1) c_powers c_reached) Q := fun z => hk x3 c_powers c_reached hS h0 hr (by rw [← z]; exact hD) hV
    refine ok_if (fun a1 => ok_vlet (fin (by rw [tI_le] at a1; omega))) (fun a1 => ok_if (fun a2 => ok_vlet (fin (by rw [a2]; decide))) (fun a2 => ?_))
    rw [tI_le] at a1
    have h5' : 0 ≤ x5.toInt ∧ x5.toInt < m ∧ src x5.toInt.toNat = u := h5.resolve_left (fun q => a2 (Int32.toInt_inj.mp (by rw [q]; decide)))
    obtain ⟨i1, i2, i3⟩ := h5'
    generalize hi : x5.toInt.toNat = i at *
    have hx5 : x5.toInt = i := by omega
    obtain ⟨w1, w2, w3, w4, w5⟩ := g6 i (by omega)
    rw [i3] at w1
    have e6 : (x6 + 1).toInt = x6.toInt + 1 := by ((try simp only [tI_lt, tI_le, tI_eq, tI_add, tI_sub, tI_mul, tI_nat, Int32.reduceToInt, Int.reduceToNat, fe_0, fe_1, fe_2, fe_3, fe_4, fe_5]) <;> (try simp (disch := omega) only [tI_bm]) <;> omega)
    have li1 := li_lt src u i
    have b5 : 0 ≤ x5.toInt ∧ x5.toInt < (1200 : Nat) := by omega
    -- on to the next link
    have go : ∀ (x3 : Int32) (p r : Nat → Int32), SPI nn m src dst lt p0 x2 fr x3 p r → lo ≤ x3.toInt → (∀ j : Nat, (j : Int) < lo → r j = r0 j) → (¬ lt i &&& x2 = 0 → mk2 p x2 (dst i)) → (∀ e, mk2 c_powers x2 e → mk2 p x2 e) → Ok (f_X8_spread_145 k35 (f_X8_spread_67 k35 c_nets c_links c_firstLink c_nextLink c_leadsTo c_lets n) c_nets c_links c_firstLink c_nextLink c_leadsTo c_lets x2 x3 x4 x5 x6 p r) Q := by
      intro x3 p r hS2 hlo hr2 hm hmono
      unfold f_X8_spread_145
      refine ok_bad b5 (ok_vlet (ok_vlet ?_))
      rw [tI_nat, hi]
      refine g_spread_67 k35 c_nets c_links c_firstLink c_nextLink c_leadsTo c_lets hW p0 fr u x2 x4 lo r0 dn hk n _ _ _ _ _ _ _ rfl rfl hS2 hlo hr2 ⟨hu.1, hmono u hu.2⟩ ?_ (by omega) (by omega) (by omega) (by omega) ?_ (fun v hv j h1 h2 h3 h4 => hmono _ (hV v hv j h1 h2 h3 h4))
      · by_cases z : li src u i = -1
        · exact .inl (by rw [w1, z])
        · have hz := li_at src u i (li src u i).toNat (by omega)
          exact .inr ⟨by omega, by omega, by rw [w1]; exact hz.1⟩
      · intro j h1 h2 h3 h4
        rw [w1] at h1
        by_cases z1 : j = i
        · rw [z1] at h4 ⊢; exact hm h4
        · by_cases z2 : j < i
          · exfalso
            by_cases z : li src u i = -1
            · exact li_none src u i z j z2 h3
            · have hz := li_at src u i (li src u i).toNat (by omega)
              exact hz.2.2 j (by omega) z2 h3
          · exact hmono _ (hD j (by omega) h2 h3 h4)
    have hb : (c_leadsTo i).toInt = dst i := w2
    have bt : 0 ≤ (c_leadsTo i).toInt ∧ (c_leadsTo i).toInt < (954 : Nat) := by omega
    refine ok_bad b5 (ok_vlet ?_)
    rw [tI_nat, hi]
    refine ok_bad b5 ?_
    rw [w3]
    refine ok_if (fun a3 => go _ _ _ hS h0 hr (fun q => absurd a3 q) (fun _ z => z)) (fun a3 => ?_)
    refine ok_bad bt ?_
    have it : (c_leadsTo i).toNatClampNeg = dst i := by rw [tI_nat, hb]; omega
    rw [it]
    refine ok_if (fun a4 => ?_) (fun a4 => go _ _ _ hS h0 hr (fun _ => a4) (fun _ z => z))
    obtain ⟨s1, s0, s2, s3, s4, s5⟩ := hS
    have hlt := cpw_lt c_powers x2 (dst i) a4 nn w5
    refine ok_if (fun a5 => ?_) (fun a5 => ?_)
    · rw [tI_le] at a5
      exfalso; omega
    rw [tI_le] at a5
    have hp0 := s1 (dst i) w5
    have pe : c_powers (dst i) = p0 (dst i) := by
      rcases hp0.2.2 with q | q
      · exact q
      · rw [q] at a4; exact absurd a4 hp0.2.1
    have nv : ¬ (c_powers (dst i) ||| x2) &&& x2 = 0 := by rw [pe]; exact hp0.2.1
    have e3 : (x3 + 1).toInt = x3.toInt + 1 := by
      have := cpw_le c_powers x2 nn
      ((try simp only [tI_lt, tI_le, tI_eq, tI_add, tI_sub, tI_mul, tI_nat, Int32.reduceToInt, Int.reduceToNat, fe_0, fe_1, fe_2, fe_3, fe_4, fe_5]) <;> (try simp (disch := omega) only [tI_bm]) <;> omega)
    have i3' : x3.toNatClampNeg = x3.toInt.toNat := rfl
    refine ok_bad bt (ok_vlet (ok_bad bt (ok_vlet (ok_bad (by omega) (ok_vlet (ok_vlet ?_))))))
    rw [i3']
    have mono : ∀ e, mk2 c_powers x2 e → mk2 (upd c_powers (dst i) (c_powers (dst i) ||| x2)) x2 e := by
      intro e he
      unfold mk2 at he ⊢
      rw [upd_at]
      by_cases z : e = dst i
      · rw [if_pos z]; exact nv
      · rw [if_neg z]; exact he
    refine go _ _ _ ⟨fun e he => ?_, ⟨s0.1, mono fr s0.2⟩, fun j hj => ?_, fun e he hm => ?_, ?_, fun T hT hc e he hm => ?_⟩ (by omega) (fun j hj => ?_) (fun _ => ?_) mono
    · obtain ⟨q1, q2, q3⟩ := s1 e he
      refine ⟨q1, q2, ?_⟩
      rw [upd_at]
      by_cases z : e = dst i
      · rw [if_pos z, z, pe]; exact .inr rfl
      · rw [if_neg z]; exact q3
    · rw [upd_at]
      by_cases z : j = x3.toInt.toNat
      · rw [if_pos z]
        refine ⟨bt.1, by omega, ?_⟩
        rw [hb]
        unfold mk2
        rw [show ((dst i : Nat) : Int).toNat = dst i from rfl, upd_at, if_pos rfl]
        exact nv
      · rw [if_neg z]
        have := s2 j (by omega)
        exact ⟨this.1, this.2.1, mono _ this.2.2⟩
    · by_cases z : e = dst i
      · refine ⟨x3.toInt.toNat, by omega, ?_⟩
        rw [upd_at, if_pos rfl, z]; exact hb
      · unfold mk2 at hm
        rw [upd_at, if_neg z] at hm
        obtain ⟨j, j1, j2⟩ := s3 e he hm
        refine ⟨j, by omega, ?_⟩
        rw [upd_at, if_neg (by omega)]; exact j2
    · rw [e3, cpw_up c_powers x2 (dst i) _ a4 nv nn, if_pos w5, s4]
      omega
    · by_cases z : e = dst i
      · rw [z]
        refine hc i (by omega) a3 ?_
        rw [i3]
        exact s5 T hT hc u hu.1 hu.2
      · unfold mk2 at hm
        rw [upd_at, if_neg z] at hm
        exact s5 T hT hc e he hm
    · rw [upd_at, if_neg (by omega)]
      exact hr j hj
    · unfold mk2
      rw [upd_at, if_pos rfl]
      exact nv
set_option maxHeartbeats 400000 in
theorem g_spread_35 (c_nets : Int32) (c_links : Int32) (c_firstLink : Nat → Int32) (c_nextLink : Nat → Int32) (c_leadsTo : Nat → Int32) (c_lets : Nat → Int32) {nn m : Nat} {src dst : Nat → Nat} {lt : Nat → Int32} (hW : WG nn m src dst lt c_nets c_links c_firstLink c_nextLink c_leadsTo c_lets) (p0 : Nat → Int32) (fr : Nat) (w : Int32) : ∀ (n : Nat) (x2 : Int32) (x3 : Int32) (x4 : Int32) (c_powers : Nat → Int32) (c_reached : Nat → Int32), x2 = w → SPI nn m src dst lt p0 w fr x3 c_powers c_reached → 0 ≤ x4.toInt → x4.toInt ≤ x3.toInt → nn < x4.toInt + n → (∀ j : Nat, (j : Int) < x4.toInt → DNE m src dst lt w c_powers (c_reached j).toInt.toNat (-1)) → Ok (f_X8_spread_35 c_nets c_links c_firstLink c_nextLink c_leadsTo c_lets n x2 x3 x4 c_powers c_reached) (fun r => PW nn p0 w r.1 ∧ (∀ i, i < m → ¬ lt i &&& w = 0 → mk2 r.1 w (src i) → mk2 r.1 w (dst i)) ∧ (∀ T : Nat → Prop, T fr → (∀ i, i < m → ¬ lt i &&& w = 0 → T (src i) → T (dst i)) → ∀ e, e < nn → mk2 r.1 w e → T e) ∧ mk2 r.1 w fr)
  | 0, x2, x3, x4, c_powers, c_reached, e, hS, h1, h2, h3, hD => by
    have := cpw_le c_powers w nn
    have := hS.2.2.2.2.1
    exfalso; omega
  | n + 1, x2, x3, x4, c_powers, c_reached, e, hS, h1, h2, h3, hD => by
    unfold f_X8_spread_35
    subst e
    have hh := hW
    obtain ⟨g1, g2, g3, g4, g5, g6⟩ := hh
    have hle := cpw_le c_powers x2 nn
    have hS' := hS
    obtain ⟨s1, s0, s2, s3, s4, s5⟩ := hS'
    have done : x3.toInt ≤ x4.toInt → Ok (some (c_powers, c_reached)) (fun r => PW nn p0 x2 r.1 ∧ (∀ i, i < m → ¬ lt i &&& x2 = 0 → mk2 r.1 x2 (src i) → mk2 r.1 x2 (dst i)) ∧ (∀ T : Nat → Prop, T fr → (∀ i, i < m → ¬ lt i &&& x2 = 0 → T (src i) → T (dst i)) → ∀ e, e < nn → mk2 r.1 x2 e → T e) ∧ mk2 r.1 x2 fr) := by
      intro hx
      refine ok_some ⟨s1, fun i hi hl hm => ?_, s5, s0.2⟩
      obtain ⟨w1, w2, w3, w4, w5⟩ := g6 i hi
      obtain ⟨j, j1, j2⟩ := s3 (src i) w4 hm
      have hd := hD j (by omega)
      rw [j2] at hd
      exact hd i (by omega) hi rfl hl
    refine ok_if (fun a => done (by rw [tI_le] at a; exact a)) (fun a => ?_)
    rw [tI_le] at a
    refine ok_if (fun b => done (by rw [tI_le] at b; omega)) (fun b => ?_)
    obtain ⟨c1, c2, c3⟩ := s2 x4.toInt.toNat (by omega)
    refine ok_bad (by omega) ?_
    rw [tI_nat]
    refine ok_bad (by omega) (ok_vlet ?_)
    rw [tI_nat]
    have lf := g5 (c_reached x4.toInt.toNat).toInt.toNat (by omega)
    have ll := li_lt src (c_reached x4.toInt.toNat).toInt.toNat m
    refine g_spread_67 _ c_nets c_links c_firstLink c_nextLink c_leadsTo c_lets hW p0 fr (c_reached x4.toInt.toNat).toInt.toNat x2 x4 x3.toInt c_reached (fun v => ∃ j : Nat, (j : Int) < x4.toInt ∧ (c_reached j).toInt.toNat = v) (fun x3' p r hS2 hlo hr2 hd1 hd2 => ?_) FU x2 x3 x4 _ 0 c_powers c_reached rfl rfl hS (Int.le_refl _) (fun _ _ => rfl) ⟨by omega, c3⟩ ?_ (by decide) (by decide) (by rw [lf, l_0]; omega) (by rw [FU_eq]; decide) ?_ ?_
    · have e4 : (x4 + 1).toInt = x4.toInt + 1 := by ((try simp only [tI_lt, tI_le, tI_eq, tI_add, tI_sub, tI_mul, tI_nat, Int32.reduceToInt, Int.reduceToNat, fe_0, fe_1, fe_2, fe_3, fe_4, fe_5]) <;> (try simp (disch := omega) only [tI_bm]) <;> omega)
      refine g_spread_35 c_nets c_links c_firstLink c_nextLink c_leadsTo c_lets hW p0 fr x2 n x2 x3' (x4 + 1) p r rfl hS2 (by omega) (by omega) (by omega) (fun j hj => ?_)
      by_cases z : j = x4.toInt.toNat
      · rw [z, hr2 _ (by omega)]; exact hd1
      · rw [hr2 j (by omega)]; exact hd2 _ ⟨j, by omega, rfl⟩
    · rw [lf]
      by_cases z : li src (c_reached x4.toInt.toNat).toInt.toNat m = -1
      · exact .inl z
      · have hz := li_at src (c_reached x4.toInt.toNat).toInt.toNat m (li src (c_reached x4.toInt.toNat).toInt.toNat m).toNat (by omega)
        exact .inr ⟨by omega, by omega, hz.1⟩
    · intro j h1' h2' h3' h4'
      rw [lf] at h1'
      exfalso
      by_cases z : li src (c_reached x4.toInt.toNat).toInt.toNat m = -1
      · exact li_none src _ m z j h2' h3'
      · have hz := li_at src (c_reached x4.toInt.toNat).toInt.toNat m (li src (c_reached x4.toInt.toNat).toInt.toNat m).toNat (by omega)
        exact hz.2.2 j (by omega) h2' h3'
    · rintro v ⟨j, j1, j2⟩
      rw [← j2]; exact hD j j1
set_option maxHeartbeats 400000 in
theorem cpw_0 (p : Nat → Int32) (w : Int32) : ∀ k, (∀ e, e < k → p e &&& w = 0) → cpw p w k = 0
  | 0, _ => rfl
  | k + 1, h => by
    show cpw p w k + (if p k &&& w = 0 then 0 else 1) = 0
    rw [cpw_0 p w k (fun e he => h e (by omega)), if_pos (h k (by omega))]
/-! what spreading leaves: the least set that holds the start and is closed under the links that let w pass -/
set_option maxHeartbeats 400000 in
theorem g_spread (x1 : Int32) (x2 : Int32) (c_nets : Int32) (c_links : Int32) (c_firstLink : Nat → Int32) (c_nextLink : Nat → Int32) (c_leadsTo : Nat → Int32) (c_lets : Nat → Int32) (c_powers : Nat → Int32) (c_reached : Nat → Int32) {nn m : Nat} {src dst : Nat → Nat} {lt : Nat → Int32} (hW : WG nn m src dst lt c_nets c_links c_firstLink c_nextLink c_leadsTo c_lets) (fr : Nat) (h1 : x1.toInt = fr) (h2 : fr < nn) (hp : ∀ e, e < nn → c_powers e &&& x2 = 0 ∧ ¬ (c_powers e ||| x2) &&& x2 = 0) : Ok (f_X8_spread x1 x2 c_nets c_links c_firstLink c_nextLink c_leadsTo c_lets c_powers c_reached) (fun r => PW nn c_powers x2 r.1 ∧ (∀ i, i < m → ¬ lt i &&& x2 = 0 → mk2 r.1 x2 (src i) → mk2 r.1 x2 (dst i)) ∧ (∀ T : Nat → Prop, T fr → (∀ i, i < m → ¬ lt i &&& x2 = 0 → T (src i) → T (dst i)) → ∀ e, e < nn → mk2 r.1 x2 e → T e) ∧ mk2 r.1 x2 fr) := by
  unfold f_X8_spread
  have hh := hW
  obtain ⟨g1, g2, g3, g4, g5, g6⟩ := hh
  rw [if_neg (by rw [tI_lt, l_0]; omega), if_pos (by rw [tI_lt]; omega)]
  have b1 : 0 ≤ x1.toInt ∧ x1.toInt < (954 : Nat) := by omega
  refine ok_bad b1 (ok_vlet (ok_bad b1 (ok_vlet (ok_bad (by decide) (ok_vlet ?_)))))
  have ei : x1.toNatClampNeg = fr := by rw [tI_nat]; omega
  rw [ei, show (0 : Int32).toNatClampNeg = 0 from by decide]
  have hf := hp fr h2
  have z0 : cpw c_powers x2 nn = 0 := cpw_0 _ _ _ (fun e he => (hp e he).1)
  refine g_spread_35 c_nets c_links c_firstLink c_nextLink c_leadsTo c_lets hW c_powers fr x2 FU x2 1 0 _ _ rfl ⟨fun e he => ?_, ⟨h2, ?_⟩, fun j hj => ?_, fun e he hm => ?_, ?_, fun T hT hc e he hm => ?_⟩ (by decide) (by decide) (by rw [FU_eq, l_0]; omega) (fun j hj => by rw [l_0] at hj; omega)
  · refine ⟨(hp e he).1, (hp e he).2, ?_⟩
    rw [upd_at]
    by_cases z : e = fr
    · rw [if_pos z, z]; exact .inr rfl
    · rw [if_neg z]; exact .inl rfl
  · unfold mk2
    rw [upd_at, if_pos rfl]
    exact hf.2
  · rw [l_1] at hj
    have : j = 0 := by omega
    rw [this, upd_at, if_pos rfl]
    refine ⟨by omega, by omega, ?_⟩
    rw [h1]
    unfold mk2
    rw [show ((fr : Nat) : Int).toNat = fr from rfl, upd_at, if_pos rfl]
    exact hf.2
  · unfold mk2 at hm
    rw [upd_at] at hm
    by_cases z : e = fr
    · exact ⟨0, by decide, by rw [upd_at, if_pos rfl, z]; exact h1⟩
    · rw [if_neg z] at hm
      exact absurd (hp e he).1 hm
  · rw [cpw_up c_powers x2 fr _ hf.1 hf.2 nn, z0, if_pos h2]
    decide
  · unfold mk2 at hm
    rw [upd_at] at hm
    by_cases z : e = fr
    · rw [z]; exact hT
    · rw [if_neg z] at hm
      exact absurd (hp e he).1 hm
