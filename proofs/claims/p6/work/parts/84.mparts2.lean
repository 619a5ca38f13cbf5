set_option maxHeartbeats 400000 in
theorem s_parts_17 (c_fresh : Int32) (c_text : Nat → Int32) (c_tKind : Nat → Int32) (c_tPlace : Nat → Int32) (c_tSize : Nat → Int32) (c_tValue : Nat → Int64) (φ L : Nat) (hφ : φ ≤ 1) (hfr : c_fresh.toInt = φ) (hL : L ≤ 4000) (l : List TkT) (S0 : List StT) (f : Nat) (hS0 : S0 = []) (h : KM c_text L c_tKind c_tPlace c_tSize c_tValue 0 l) (hl : l.length < f) (hl2 : l.length ≤ 4001) : ∀ (n : Nat) (x1 : Int32) (c_at : Int32) (c_fault : Int32) (c_faultAt : Int32) (c_many : Nat → Int32) (c_nameSize : Nat → Int32) (c_one : Nat → Int32) (c_two : Nat → Int32) (c_kinds : Nat → Int32) (c_kindBits : Nat → Int32) (c_names : Nat → Int32), c_at = 0 → c_fault = 0 → GB c_nameSize c_kinds → 0 ≤ x1.toInt → x1.toInt ≤ 5 → 10 < x1.toInt + n → (∀ s : Nat, (s : Int) < x1.toInt → c_many (5 * φ + s) = 0) → Ok (f_X11_parts_17 c_fresh c_text c_tKind c_tPlace c_tSize c_tValue n x1 c_at c_fault c_faultAt c_many c_nameSize c_one c_two c_kinds c_kindBits c_names) (fun r => FrM φ c_many c_nameSize c_one c_two c_kinds c_kindBits c_names r.2.2.2.1 r.2.2.2.2.1 r.2.2.2.2.2.1 r.2.2.2.2.2.2.1 r.2.2.2.2.2.2.2.1 r.2.2.2.2.2.2.2.2.1 r.2.2.2.2.2.2.2.2.2 ∧ GB r.2.2.2.2.1 r.2.2.2.2.2.2.2.1 ∧ match txt (pText f l) S0 with | none => r.2.1 = 1 | some S2 => DMs φ r.2.1 r.2.2.2.1 r.2.2.2.2.1 r.2.2.2.2.2.2.2.2.2 r.2.2.2.2.2.1 r.2.2.2.2.2.2.1 r.2.2.2.2.2.2.2.1 r.2.2.2.2.2.2.2.2.1 S2)
  | 0, x1, c_at, c_fault, c_faultAt, c_many, c_nameSize, c_one, c_two, c_kinds, c_kindBits, c_names, k1, k2, hG, h1, h2, h3, h4 => by exfalso; omega
  | n + 1, x1, c_at, c_fault, c_faultAt, c_many, c_nameSize, c_one, c_two, c_kinds, c_kindBits, c_names, k1, k2, hG, h1, h2, h3, h4 => by
    unfold f_X11_parts_17
    refine ok_if (fun a => ?_) (fun a => ?_)
    · rw [tI_le, show (5 : Int32).toInt = 5 from by decide] at a
      subst k1
      subst k2
      refine s_parts_42 c_fresh c_text c_tKind c_tPlace c_tSize c_tValue φ L hφ hfr hL FU _ _ _ _ _ _ _ _ _ _ f l S0 h hG ?_ hl (by rw [FU_eq]; omega)
      subst hS0
      refine ⟨fun s hs => ?_, .inl ⟨rfl, rfl, fun s hs => ?_, trivial⟩⟩
      · rw [h4 s (by omega), show (0 : Int32).toInt = 0 from by decide]; omega
      · rw [h4 s (by omega)]; show (0 : Int32).toInt = ((0 : Nat) : Int); decide
    · rw [tI_le, show (5 : Int32).toInt = 5 from by decide] at a
      have e5 : (5 * c_fresh + x1).toInt = 5 * φ + x1.toInt := by ((try simp only [tI_lt, tI_le, tI_eq, tI_add, tI_sub, tI_mul, tI_nat, Int32.reduceToInt, Int.reduceToNat, fe_0, fe_1, fe_2, fe_3, fe_4, fe_5]) <;> (try simp (disch := omega) only [tI_bm]) <;> omega)
      have e1 : (x1 + 1).toInt = x1.toInt + 1 := by ((try simp only [tI_lt, tI_le, tI_eq, tI_add, tI_sub, tI_mul, tI_nat, Int32.reduceToInt, Int.reduceToNat, fe_0, fe_1, fe_2, fe_3, fe_4, fe_5]) <;> (try simp (disch := omega) only [tI_bm]) <;> omega)
      refine ok_bad (by omega) (ok_vlet (ok_vlet ?_))
      have i5 : (5 * c_fresh + x1).toNatClampNeg = 5 * φ + x1.toInt.toNat := by rw [tI_nat, e5]; omega
      rw [i5]
      refine ok_mono (s_parts_17 c_fresh c_text c_tKind c_tPlace c_tSize c_tValue φ L hφ hfr hL l S0 f hS0 h hl hl2 n _ _ _ _ _ _ _ _ _ _ _ k1 k2 hG (by omega) (by omega) (by omega) (fun s hs => ?_)) (fun r hr => ⟨FrM_tr ⟨fun i hi => ?_, fun i hi => ⟨rfl, rfl, rfl, rfl, rfl⟩, fun _ _ => rfl⟩ hr.1, hr.2⟩)
      · rw [upd_at]
        by_cases z : 5 * φ + s = 5 * φ + x1.toInt.toNat
        · rw [if_pos z]
        · rw [if_neg z]; exact h4 s (by omega)
      · rw [upd_at, if_neg (by omega)]
set_option maxHeartbeats 400000 in
theorem s_parts (c_at : Int32) (c_fault : Int32) (c_faultAt : Int32) (c_fresh : Int32) (c_text : Nat → Int32) (c_tKind : Nat → Int32) (c_tPlace : Nat → Int32) (c_tSize : Nat → Int32) (c_tValue : Nat → Int64) (c_many : Nat → Int32) (c_nameSize : Nat → Int32) (c_one : Nat → Int32) (c_two : Nat → Int32) (c_kinds : Nat → Int32) (c_kindBits : Nat → Int32) (c_names : Nat → Int32) (φ L : Nat) (hφ : φ ≤ 1) (hfr : c_fresh.toInt = φ) (hL : L ≤ 4000) (l : List TkT) (h : KM c_text L c_tKind c_tPlace c_tSize c_tValue 0 l) (hl : l.length ≤ 4001) (hG : GB c_nameSize c_kinds) : Ok (f_X11_parts c_at c_fault c_faultAt c_fresh c_text c_tKind c_tPlace c_tSize c_tValue c_many c_nameSize c_one c_two c_kinds c_kindBits c_names) (fun r => FrM φ c_many c_nameSize c_one c_two c_kinds c_kindBits c_names r.2.2.2.1 r.2.2.2.2.1 r.2.2.2.2.2.1 r.2.2.2.2.2.2.1 r.2.2.2.2.2.2.2.1 r.2.2.2.2.2.2.2.2.1 r.2.2.2.2.2.2.2.2.2 ∧ GB r.2.2.2.2.1 r.2.2.2.2.2.2.2.1 ∧ match txt (pText 4002 l) [] with | none => r.2.1 = 1 | some S2 => DMs φ r.2.1 r.2.2.2.1 r.2.2.2.2.1 r.2.2.2.2.2.2.2.2.2 r.2.2.2.2.2.1 r.2.2.2.2.2.2.1 r.2.2.2.2.2.2.2.1 r.2.2.2.2.2.2.2.2.1 S2) := by
  unfold f_X11_parts
  exact s_parts_17 c_fresh c_text c_tKind c_tPlace c_tSize c_tValue φ L hφ hfr hL l [] 4002 rfl h (by omega) hl FU _ _ _ _ _ _ _ _ _ _ _ rfl rfl hG (by decide) (by decide) (by rw [FU_eq]; decide) (fun s hs => by rw [show (0 : Int32).toInt = 0 from by decide] at hs; omega)
/-! names alike -/
set_option maxHeartbeats 400000 in
theorem pk_inj (f g : Nat → Nat) : ∀ (n m : Nat), (∀ j, j < n → 1 ≤ f j ∧ f j < 256) → (∀ j, j < m → 1 ≤ g j ∧ g j < 256) → pk f n = pk g m → n = m ∧ ∀ j, j < n → f j = g j
  | 0, 0, _, _, _ => ⟨rfl, fun j h => absurd h (Nat.not_lt_zero _)⟩
  | 0, m + 1, _, hg, h => by
    have h' : 0 = pk g m * 256 + g m := h
    have := hg m (by omega)
    omega
  | n + 1, 0, hf, _, h => by
    have h' : pk f n * 256 + f n = 0 := h
    have := hf n (by omega)
    omega
  | n + 1, m + 1, hf, hg, h => by
    have h' : pk f n * 256 + f n = pk g m * 256 + g m := h
    have a := hf n (by omega)
    have b := hg m (by omega)
    have e1 : f n = g m := by omega
    have e2 : pk f n = pk g m := by omega
    obtain ⟨k1, k2⟩ := pk_inj f g n m (fun j hj => hf j (by omega)) (fun j hj => hg j (by omega)) e2
    refine ⟨by omega, fun j hj => ?_⟩
    by_cases z : j < n
    · exact k2 j z
    · have : j = n := by omega
      rw [this, e1, k1]
set_option maxHeartbeats 400000 in
theorem s_alike_24 (c_text : Nat → Int32) (c_tPlace : Nat → Int32) (c_tSize : Nat → Int32) (c_nameSize : Nat → Int32) (c_names : Nat → Int32) (L p n m pl : Nat) (hL : L ≤ 4000) (hp : p < 232) (hm : m ≤ 8) (k : Nat) (hk : k < 4001) (h1 : (c_tSize k).toInt = m) (h2 : (c_tPlace k).toInt = pl) (h3 : pl + m ≤ L) : ∀ (fu : Nat) (x1 x2 x3 x4 : Int32), x1.toInt = p → x2.toInt = k → (x3 = 0 ∨ x3 = 1) → 0 ≤ x4.toInt → x4.toInt ≤ m → 20 < x4.toInt + fu → Ok (f_X11_isAlike_24 c_text c_tPlace c_tSize c_nameSize c_names fu x1 x2 x3 x4) (fun r => (r = 1 ∧ x3 = 1 ∧ ∀ j, x4.toInt ≤ (j : Nat) → j < m → c_names (8 * p + j) = c_text (pl + j)) ∨ (r = 0 ∧ ¬ (x3 = 1 ∧ ∀ j, x4.toInt ≤ (j : Nat) → j < m → c_names (8 * p + j) = c_text (pl + j))))
  | 0, x1, x2, x3, x4, g1, g2, g3, g4, g5, g6 => by exfalso; omega
  | fu + 1, x1, x2, x3, x4, g1, g2, g3, g4, g5, g6 => by
    unfold f_X11_isAlike_24 f_X11_isAlike_73
    have hb : 0 ≤ x2.toInt ∧ x2.toInt < (4001 : Nat) := by omega
    have ek : x2.toNatClampNeg = k := by rw [tI_nat]; omega
    have isb : isB x3 = true := by rcases g3 with e | e <;> subst e <;> decide
    refine ok_bad hb ?_
    rw [ek]
    refine ok_if (fun a => ?_) (fun a => ?_)
    · rw [tI_le, h1] at a
      rw [if_pos isb]
      refine ok_some ?_
      rcases g3 with e | e
      · exact .inr ⟨e, fun q => by rw [e] at q; exact absurd q.1 (by decide)⟩
      · exact .inl ⟨e, e, fun j j1 j2 => by omega⟩
    rw [tI_le, h1] at a
    refine ok_if (fun z => ?_) (fun z => ?_)
    · rw [if_pos isb]
      exact ok_some (.inr ⟨z, fun q => by rw [z] at q; exact absurd q.1 (by decide)⟩)
    have x31 : x3 = 1 := g3.resolve_left z
    have e8 : (8 * x1 + x4).toInt = 8 * p + x4.toInt := by ((try simp only [tI_lt, tI_le, tI_eq, tI_add, tI_sub, tI_mul, tI_nat, Int32.reduceToInt, Int.reduceToNat, fe_0, fe_1, fe_2, fe_3, fe_4, fe_5]) <;> (try simp (disch := omega) only [tI_bm]) <;> omega)
    have ep : (c_tPlace k + x4).toInt = pl + x4.toInt := by
      generalize c_tPlace k = w at h2
      ((try simp only [tI_lt, tI_le, tI_eq, tI_add, tI_sub, tI_mul, tI_nat, Int32.reduceToInt, Int.reduceToNat, fe_0, fe_1, fe_2, fe_3, fe_4, fe_5]) <;> (try simp (disch := omega) only [tI_bm]) <;> omega)
    have e4 : (x4 + 1).toInt = x4.toInt + 1 := by ((try simp only [tI_lt, tI_le, tI_eq, tI_add, tI_sub, tI_mul, tI_nat, Int32.reduceToInt, Int.reduceToNat, fe_0, fe_1, fe_2, fe_3, fe_4, fe_5]) <;> (try simp (disch := omega) only [tI_bm]) <;> omega)
    have i8 : (8 * x1 + x4).toNatClampNeg = 8 * p + x4.toInt.toNat := by rw [tI_nat, e8]; omega
    have ip : (c_tPlace k + x4).toNatClampNeg = pl + x4.toInt.toNat := by rw [tI_nat, ep]; omega
    refine ok_bad (by omega) (ok_bad hb (ok_bad (by omega) ?_))
    rw [i8, ip]
    refine ok_if (fun c => ok_vlet ?_) (fun c => ok_vlet ?_)
    · refine ok_mono (s_alike_24 c_text c_tPlace c_tSize c_nameSize c_names L p n m pl hL hp hm k hk h1 h2 h3 fu x1 x2 1 (x4 + 1) g1 g2 (.inr rfl) (by omega) (by omega) (by omega)) (fun r hr => ?_)
      rcases hr with ⟨q1, q2, q3⟩ | ⟨q1, q2⟩
      · refine .inl ⟨q1, x31, fun j j1 j2 => ?_⟩
        by_cases w : j = x4.toInt.toNat
        · rw [w]; exact c
        · exact q3 j (by omega) j2
      · exact .inr ⟨q1, fun q => q2 ⟨rfl, fun j j1 j2 => q.2 j (by omega) j2⟩⟩
    · refine ok_mono (s_alike_24 c_text c_tPlace c_tSize c_nameSize c_names L p n m pl hL hp hm k hk h1 h2 h3 fu x1 x2 0 (x4 + 1) g1 g2 (.inl rfl) (by omega) (by omega) (by omega)) (fun r hr => ?_)
      have no : ¬ (x3 = 1 ∧ ∀ j, x4.toInt ≤ (j : Nat) → j < m → c_names (8 * p + j) = c_text (pl + j)) := fun q => c (q.2 x4.toInt.toNat (by omega) (by omega))
      rcases hr with ⟨q1, q2, q3⟩ | ⟨q1, q2⟩
      · exact absurd q2 (by decide)
      · exact .inr ⟨q1, no⟩
/-! a part's name against a token's -/
set_option maxHeartbeats 400000 in
theorem s_isAlike (x1 : Int32) (x2 : Int32) (c_text : Nat → Int32) (c_tPlace : Nat → Int32) (c_tSize : Nat → Int32) (c_nameSize : Nat → Int32) (c_names : Nat → Int32) (L p v : Nat) (hL : L ≤ 4000) (hp : p < 232) (hx1 : x1.toInt = p) (hx2 : 0 ≤ x2.toInt ∧ x2.toInt < 4001) (hN : NMp c_nameSize c_names p v) (a : TkT) (ha : a.1 = 1) (h8 : a.2.2 ≤ 8) (hm : (c_tSize x2.toInt.toNat).toInt = a.2.2 ∧ 0 ≤ (c_tPlace x2.toInt.toNat).toInt ∧ (c_tPlace x2.toInt.toNat).toInt + a.2.2 ≤ L ∧ a.2.1 = pk (fun j => (c_text ((c_tPlace x2.toInt.toNat).toInt.toNat + j)).toInt.toNat) a.2.2 ∧ (∀ j, j < a.2.2 → 1 ≤ (c_text ((c_tPlace x2.toInt.toNat).toInt.toNat + j)).toInt ∧ (c_text ((c_tPlace x2.toInt.toNat).toInt.toNat + j)).toInt < 128)) : Ok (f_X11_isAlike x1 x2 c_text c_tPlace c_tSize c_nameSize c_names) (fun r => (r = 1 ∧ v = a.2.1) ∨ (r = 0 ∧ v ≠ a.2.1)) := by
  obtain ⟨n, n1, n2, n3, n4⟩ := hN
  obtain ⟨m1, m2, m3, m4, m5⟩ := hm
  have key : v = a.2.1 ↔ (n = a.2.2 ∧ ∀ j, j < a.2.2 → c_names (8 * p + j) = c_text ((c_tPlace x2.toInt.toNat).toInt.toNat + j)) := by
    constructor
    · intro q
      rw [n3, m4] at q
      obtain ⟨k1, k2⟩ := pk_inj _ _ n a.2.2 (fun j hj => by have := n4 j hj; show 1 ≤ (c_names (8 * p + j)).toInt.toNat ∧ (c_names (8 * p + j)).toInt.toNat < 256; omega) (fun j hj => by have := m5 j hj; show 1 ≤ (c_text ((c_tPlace x2.toInt.toNat).toInt.toNat + j)).toInt.toNat ∧ (c_text ((c_tPlace x2.toInt.toNat).toInt.toNat + j)).toInt.toNat < 256; omega) q
      refine ⟨k1, fun j hj => ?_⟩
      have w := k2 j (by omega)
      have w1 := n4 j (by omega)
      have w2 := m5 j hj
      have w' : (c_names (8 * p + j)).toInt.toNat = (c_text ((c_tPlace x2.toInt.toNat).toInt.toNat + j)).toInt.toNat := w
      exact Int32.toInt_inj.mp (by omega)
    · intro q
      rw [n3, m4, q.1]
      exact pk_cg _ _ _ (fun j hj => by rw [q.2 j hj])
  unfold f_X11_isAlike f_X11_isAlike_20
  refine ok_bad (by omega) (ok_bad hx2 ?_)
  have en : x1.toNatClampNeg = p := by rw [tI_nat]; omega
  rw [en, tI_nat]
  have go : ∀ y0 : Int32, (y0 = 1 ∧ n = a.2.2 ∨ y0 = 0 ∧ n ≠ a.2.2) → Ok (f_X11_isAlike_24 c_text c_tPlace c_tSize c_nameSize c_names FU x1 x2 y0 (0 : Int32)) (fun r => (r = 1 ∧ v = a.2.1) ∨ (r = 0 ∧ v ≠ a.2.1)) := by
    intro y0 hy
    refine ok_mono (s_alike_24 c_text c_tPlace c_tSize c_nameSize c_names L p 0 a.2.2 (c_tPlace x2.toInt.toNat).toInt.toNat hL hp h8 x2.toInt.toNat (by omega) m1 (by omega) (by omega) FU x1 x2 y0 0 hx1 (by omega) (by rcases hy with q | q; exact .inr q.1; exact .inl q.1) (by decide) (by rw [show (0 : Int32).toInt = 0 from by decide]; omega) (by rw [FU_eq]; decide)) (fun r hr => ?_)
    rw [show (0 : Int32).toInt = 0 from by decide] at hr
    rcases hr with ⟨q1, q2, q3⟩ | ⟨q1, q2⟩
    · refine .inl ⟨q1, key.mpr ⟨?_, fun j hj => q3 j (by omega) hj⟩⟩
      rcases hy with z | z
      · exact z.2
      · rw [z.1] at q2; exact absurd q2 (by decide)
    · refine .inr ⟨q1, fun q => q2 ⟨?_, fun j _ hj => (key.mp q).2 j hj⟩⟩
      rcases hy with z | z
      · exact z.1
      · exact absurd (key.mp q).1 z.2
  have e : c_nameSize p = c_tSize x2.toInt.toNat ↔ n = a.2.2 := by rw [tI_eq, n2, m1]; omega
  exact ok_if (fun z => go 1 (.inl ⟨rfl, e.mp z⟩)) (fun z => go 0 (.inr ⟨rfl, fun q => z (e.mpr q)⟩))
