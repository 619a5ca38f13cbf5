/-! a name told twice: one sort -/
set_option maxHeartbeats 400000 in
theorem s_toldPart_22 (k14 : Int32 → Int32 → Int32 → Int32 → Int32 → Int32 → (Nat → Int32) → Option (Int32 × Int32 × Int32 × (Nat → Int32))) (c_fresh : Int32) (c_text : Nat → Int32) (c_tPlace : Nat → Int32) (c_tSize : Nat → Int32) (c_nameSize : Nat → Int32) (c_names : Nat → Int32) (φ s m : Nat) (A : Nat → Prop) (E : Prop) (a : Int32) (so : Nat → Int32) (hφ : φ ≤ 1) (hfr : c_fresh.toInt = φ) (hs : s < 5) (hm : m ≤ 40) (hmn : (so s).toInt = m)
  (hA : ∀ (i : Nat) (y : Int32), i < m → y.toInt = 116 * φ + fstS s + i → Ok (f_X11_isAlike y a c_text c_tPlace c_tSize c_nameSize c_names) (fun r => (r = 1 ∧ A i) ∨ (r = 0 ∧ ¬ A i))) {Q : Int32 × Int32 × Int32 × (Nat → Int32) → Prop} (w f g : Int32)
  (hk : ∀ r t : Int32, t.toInt = s + 1 → ((r = 1 ∧ (E ∨ ∃ j, j < m ∧ A j)) ∨ (r = 0 ∧ ¬ (E ∨ ∃ j, j < m ∧ A j))) → Ok (k14 w r t a f g so) Q) : ∀ (n : Nat) (x1 : Int32) (x2 : Int32) (x3 : Int32) (x4 : Int32) (c_at : Int32) (c_fault : Int32) (c_faultAt : Int32) (c_soFar : Nat → Int32) (i : Nat), x1 = w → x3.toInt = s → c_at = a → c_fault = f → c_faultAt = g → c_soFar = so → x4.toInt = i → i ≤ m → m - i < n → ((x2 = 1 ∧ (E ∨ ∃ j, j < i ∧ A j)) ∨ (x2 = 0 ∧ ¬ (E ∨ ∃ j, j < i ∧ A j))) → Ok (f_X11_toldPart_22 k14 c_fresh c_text c_tPlace c_tSize c_nameSize c_names n x1 x2 x3 x4 c_at c_fault c_faultAt c_soFar) Q
  | 0, x1, x2, x3, x4, c_at, c_fault, c_faultAt, c_soFar, i, e1, h3, e2, e3, e4, e5, h1, h2, hn, h4 => by exfalso; omega
  | n + 1, x1, x2, x3, x4, c_at, c_fault, c_faultAt, c_soFar, i, e1, h3, e2, e3, e4, e5, h1, h2, hn, h4 => by
    unfold f_X11_toldPart_22
    subst e1 e2 e3 e4 e5
    have hf : fstS s ≤ 92 := by unfold fstS; (repeat' split) <;> omega
    have en : x3.toNatClampNeg = s := by rw [tI_nat]; omega
    refine ok_bad (by omega) ?_
    rw [en]
    refine ok_if (fun q => ?_) (fun q => ?_)
    · rw [tI_le] at q
      have : i = m := by omega
      subst this
      unfold f_X11_toldPart_67
      exact ok_vlet (hk x2 _ (by ((try simp only [tI_lt, tI_le, tI_eq, tI_add, tI_sub, tI_mul, tI_nat, Int32.reduceToInt, Int.reduceToNat, fe_0, fe_1, fe_2, fe_3, fe_4, fe_5]) <;> (try simp (disch := omega) only [tI_bm]) <;> omega)) h4)
    · rw [tI_le] at q
      have hlt : i < m := by omega
      refine ok_if (fun z => ?_) (fun z => ?_)
      · obtain ⟨fo, q3, q4⟩ := s_first x3 s h3 hs
        rw [q3]
        refine ok_bind (P := fun r => r = fo) (ok_some rfl) (fun r hr => ?_)
        subst hr
        refine ok_bind (hA i _ hlt (by ((try simp only [tI_lt, tI_le, tI_eq, tI_add, tI_sub, tI_mul, tI_nat, Int32.reduceToInt, Int.reduceToNat, fe_0, fe_1, fe_2, fe_3, fe_4, fe_5]) <;> (try simp (disch := omega) only [tI_bm]) <;> omega))) (fun r hr => ?_)
        have h0 : ¬ (E ∨ ∃ j, j < i ∧ A j) := by
          rcases h4 with y | y
          · rw [y.1] at z; exact absurd z (by decide)
          · exact y.2
        refine ok_vlet (s_toldPart_22 k14 c_fresh c_text c_tPlace c_tSize c_nameSize c_names φ s m A E c_at c_soFar hφ hfr hs hm hmn hA x1 c_fault c_faultAt hk n x1 r x3 (x4 + 1) c_at c_fault c_faultAt c_soFar (i + 1) rfl h3 rfl rfl rfl rfl (by ((try simp only [tI_lt, tI_le, tI_eq, tI_add, tI_sub, tI_mul, tI_nat, Int32.reduceToInt, Int.reduceToNat, fe_0, fe_1, fe_2, fe_3, fe_4, fe_5]) <;> (try simp (disch := omega) only [tI_bm]) <;> omega)) (by omega) (by omega) ?_)
        rcases hr with ⟨z1, z2⟩ | ⟨z1, z2⟩
        · exact .inl ⟨z1, .inr ⟨i, by omega, z2⟩⟩
        · refine .inr ⟨z1, fun y => h0 ?_⟩
          rcases y with y | ⟨j, y1, y2⟩
          · exact .inl y
          · refine .inr ⟨j, ?_, y2⟩
            have : j ≠ i := fun ej => z2 (ej ▸ y2)
            omega
      · unfold f_X11_toldPart_67
        refine ok_vlet (hk x2 _ (by ((try simp only [tI_lt, tI_le, tI_eq, tI_add, tI_sub, tI_mul, tI_nat, Int32.reduceToInt, Int.reduceToNat, fe_0, fe_1, fe_2, fe_3, fe_4, fe_5]) <;> (try simp (disch := omega) only [tI_bm]) <;> omega)) (.inl ?_))
        rcases h4 with y | y
        · refine ⟨y.1, ?_⟩
          rcases y.2 with y | ⟨j, y1, y2⟩
          · exact .inl y
          · exact .inr ⟨j, by omega, y2⟩
        · exact absurd y.1 z
/-! a name told twice, over the five sorts -/
set_option maxHeartbeats 400000 in
theorem s_toldPart_14 (c_fresh : Int32) (c_text : Nat → Int32) (c_tPlace : Nat → Int32) (c_tSize : Nat → Int32) (c_nameSize : Nat → Int32) (c_names : Nat → Int32) (φ : Nat) (m : Nat → Nat) (A : Nat → Nat → Prop) (w a f g : Int32) (so : Nat → Int32) (hφ : φ ≤ 1) (hfr : c_fresh.toInt = φ) (hm : ∀ s, s < 5 → m s ≤ 40) (hmn : ∀ s, s < 5 → (so s).toInt = m s)
  (hA : ∀ (s i : Nat) (y : Int32), s < 5 → i < m s → y.toInt = 116 * φ + fstS s + i → Ok (f_X11_isAlike y a c_text c_tPlace c_tSize c_nameSize c_names) (fun r => (r = 1 ∧ A s i) ∨ (r = 0 ∧ ¬ A s i))) {Q : Int32 × Int32 × Int32 × (Nat → Int32) → Prop}
  (hk : ∀ r : Int32, ((r = 1 ∧ ∃ t j, t < 5 ∧ j < m t ∧ A t j) ∨ (r = 0 ∧ ¬ ∃ t j, t < 5 ∧ j < m t ∧ A t j)) → Ok (if r = 0 then (f_X11_toldPart_85 c_fresh c_text c_tPlace c_tSize c_nameSize c_names w a f g so) else ((f_X11_names a f g c_tPlace).bind fun r1 => (f_X11_toldPart_85 c_fresh c_text c_tPlace c_tSize c_nameSize c_names w a r1.1 r1.2 so))) Q) : ∀ (n : Nat) (x1 : Int32) (x2 : Int32) (x3 : Int32) (c_at : Int32) (c_fault : Int32) (c_faultAt : Int32) (c_soFar : Nat → Int32) (s : Nat), x1 = w → c_at = a → c_fault = f → c_faultAt = g → c_soFar = so → x3.toInt = s → s ≤ 5 → 6 - s ≤ n → ((x2 = 1 ∧ ∃ t j, t < s ∧ j < m t ∧ A t j) ∨ (x2 = 0 ∧ ¬ ∃ t j, t < s ∧ j < m t ∧ A t j)) → Ok (f_X11_toldPart_14 c_fresh c_text c_tPlace c_tSize c_nameSize c_names n x1 x2 x3 c_at c_fault c_faultAt c_soFar) Q
  | 0, x1, x2, x3, c_at, c_fault, c_faultAt, c_soFar, s, e1, e2, e3, e4, e5, h3, h1, hn, h4 => by exfalso; omega
  | n + 1, x1, x2, x3, c_at, c_fault, c_faultAt, c_soFar, s, e1, e2, e3, e4, e5, h3, h1, hn, h4 => by
    unfold f_X11_toldPart_14
    subst e1 e2 e3 e4 e5
    refine ok_if (fun q => ?_) (fun q => ?_)
    · rw [tI_le, show (5 : Int32).toInt = 5 from by decide] at q
      have : s = 5 := by omega
      subst this
      exact hk x2 h4
    · rw [tI_le, show (5 : Int32).toInt = 5 from by decide] at q
      have hs : s < 5 := by omega
      have hn' : 6 - (s + 1) ≤ n := by clear h4; omega
      have hs' : s + 1 ≤ 5 := hs
      refine s_toldPart_22 _ c_fresh c_text c_tPlace c_tSize c_nameSize c_names φ s (m s) (A s) (∃ t j, t < s ∧ j < m t ∧ A t j) c_at c_soFar hφ hfr hs (hm s hs) (hmn s hs) (fun i y hi hy => hA s i y hs hi hy) x1 c_fault c_faultAt (fun r t ht hr => ?_) FU x1 x2 x3 0 c_at c_fault c_faultAt c_soFar 0 rfl h3 rfl rfl rfl rfl (by decide) (Nat.zero_le _) (by rw [FU_eq]; have := hm s hs; omega) ?_
      · refine s_toldPart_14 c_fresh c_text c_tPlace c_tSize c_nameSize c_names φ m A x1 c_at c_fault c_faultAt c_soFar hφ hfr hm hmn hA hk n x1 r t c_at c_fault c_faultAt c_soFar (s + 1) rfl rfl rfl rfl rfl (by rw [ht]; rfl) hs' hn' ?_
        have e : ((∃ t j, t < s ∧ j < m t ∧ A t j) ∨ ∃ j, j < m s ∧ A s j) ↔ ∃ t j, t < s + 1 ∧ j < m t ∧ A t j := by
          constructor
          · rintro (⟨t, j, y1, y2, y3⟩ | ⟨j, y2, y3⟩)
            · exact ⟨t, j, by omega, y2, y3⟩
            · exact ⟨s, j, by omega, y2, y3⟩
          · rintro ⟨t, j, y1, y2, y3⟩
            by_cases et : t = s
            · subst et; exact .inr ⟨j, y2, y3⟩
            · exact .inl ⟨t, j, by omega, y2, y3⟩
        rw [← e]; exact hr
      · have e : ((∃ t j, t < s ∧ j < m t ∧ A t j) ∨ ∃ j, j < 0 ∧ A s j) ↔ ∃ t j, t < s ∧ j < m t ∧ A t j := ⟨fun y => y.elim id (fun ⟨j, y, _⟩ => absurd y (Nat.not_lt_zero _)), .inl⟩
        rw [e]; exact h4
/-! a name told twice: what toldPart leaves -/
set_option maxHeartbeats 400000 in
theorem s_toldPart (x1 : Int32) (c_at : Int32) (c_fault : Int32) (c_faultAt : Int32) (c_fresh : Int32) (c_text : Nat → Int32) (c_tPlace : Nat → Int32) (c_tSize : Nat → Int32) (c_nameSize : Nat → Int32) (c_names : Nat → Int32) (c_soFar : Nat → Int32) (φ s : Nat) (m : Nat → Nat) (A : Nat → Nat → Prop) (hφ : φ ≤ 1) (hfr : c_fresh.toInt = φ) (hs : s < 5) (hx : x1.toInt = s) (hat : 0 ≤ c_at.toInt ∧ c_at.toInt < 4000) (hm : ∀ s, s < 5 → m s ≤ 40) (hmn : ∀ s, s < 5 → (c_soFar s).toInt = m s)
  (hA : ∀ (s i : Nat) (y : Int32), s < 5 → i < m s → y.toInt = 116 * φ + fstS s + i → Ok (f_X11_isAlike y (c_at + 1) c_text c_tPlace c_tSize c_nameSize c_names) (fun r => (r = 1 ∧ A s i) ∨ (r = 0 ∧ ¬ A s i))) : Ok (f_X11_toldPart x1 c_at c_fault c_faultAt c_fresh c_text c_tPlace c_tSize c_nameSize c_names c_soFar) (fun r => r.1 = c_at + 1 ∧ (((∃ t j, t < 5 ∧ j < m t ∧ A t j) ∧ r.2.1 = 3) ∨ ((¬ ∃ t j, t < 5 ∧ j < m t ∧ A t j) ∧ r.2.1 = c_fault)) ∧ ∀ t, t < 5 → (r.2.2.2 t).toInt = if t = s then m s + 1 else m t) := by
  unfold f_X11_toldPart
  have h1 : (c_at + 1).toInt = c_at.toInt + 1 := by ((try simp only [tI_lt, tI_le, tI_eq, tI_add, tI_sub, tI_mul, tI_nat, Int32.reduceToInt, Int.reduceToNat, fe_0, fe_1, fe_2, fe_3, fe_4, fe_5]) <;> (try simp (disch := omega) only [tI_bm]) <;> omega)
  have en : x1.toNatClampNeg = s := by rw [tI_nat]; omega
  have hup : ∀ t, t < 5 → (upd c_soFar s (c_soFar s + 1) t).toInt = if t = s then m s + 1 else m t := by
    intro t ht
    unfold upd
    have q := hmn s hs
    have q2 := hm s hs
    by_cases e : t = s
    · simp only [if_pos e]; ((try simp only [tI_lt, tI_le, tI_eq, tI_add, tI_sub, tI_mul, tI_nat, Int32.reduceToInt, Int.reduceToNat, fe_0, fe_1, fe_2, fe_3, fe_4, fe_5]) <;> (try simp (disch := omega) only [tI_bm]) <;> omega)
    · simp only [if_neg e]; rw [hmn t ht]
  have fin : ∀ (f g : Int32), Ok (f_X11_toldPart_85 c_fresh c_text c_tPlace c_tSize c_nameSize c_names x1 (c_at + 1) f g c_soFar) (fun r => r.1 = c_at + 1 ∧ r.2.1 = f ∧ ∀ t, t < 5 → (r.2.2.2 t).toInt = if t = s then m s + 1 else m t) := by
    intro f g
    unfold f_X11_toldPart_85
    refine ok_bad (by omega) (ok_vlet (ok_bad (by omega) (ok_vlet ?_)))
    rw [en]
    exact ok_some ⟨rfl, rfl, hup⟩
  refine ok_vlet (s_toldPart_14 c_fresh c_text c_tPlace c_tSize c_nameSize c_names φ m A x1 (c_at + 1) c_fault c_faultAt c_soFar hφ hfr hm hmn hA (fun r hr => ?_) FU x1 0 0 (c_at + 1) c_fault c_faultAt c_soFar 0 rfl rfl rfl rfl rfl (by decide) (by omega) (by rw [FU_eq]; decide) (.inr ⟨rfl, fun ⟨t, j, y, _⟩ => absurd y (Nat.not_lt_zero _)⟩))
  rcases hr with ⟨z1, z2⟩ | ⟨z1, z2⟩
  · rw [if_neg (by rw [z1]; decide)]
    unfold f_X11_names
    refine ok_bind (P := fun q => q.1 = 3) (ok_bad (by omega) (ok_vlet (ok_some rfl))) (fun q hq => ok_mono (fin q.1 q.2) (fun r h => ⟨h.1, .inl ⟨z2, h.2.1.trans hq⟩, h.2.2⟩))
  · rw [if_pos z1]
    exact ok_mono (fin c_fault c_faultAt) (fun r h => ⟨h.1, .inr ⟨z2, h.2.1⟩, h.2.2⟩)
