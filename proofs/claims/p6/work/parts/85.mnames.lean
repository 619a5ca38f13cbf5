/-! a name looked up, one sort -/
set_option maxHeartbeats 400000 in
theorem s_named_9 (k2 : Int32 → Int32 → Option (Int32)) (c_fresh : Int32) (c_text : Nat → Int32) (c_tPlace : Nat → Int32) (c_tSize : Nat → Int32) (c_many : Nat → Int32) (c_nameSize : Nat → Int32) (c_names : Nat → Int32) (φ s m : Nat) (A : Nat → Prop) (w : Int32) (hφ : φ ≤ 1) (hfr : c_fresh.toInt = φ) (hs : s < 5) (hm : m ≤ 40) (hmn : (c_many (5 * φ + s)).toInt = m)
  (hA : ∀ (i : Nat) (y : Int32), i < m → y.toInt = 116 * φ + fstS s + i → Ok (f_X11_isAlike y w c_text c_tPlace c_tSize c_nameSize c_names) (fun r => (r = 1 ∧ A i) ∨ (r = 0 ∧ ¬ A i))) {Q : Int32 → Prop}
  (hQ : ∀ (i : Nat) (y : Int32), i < m → A i → (∀ j, j < i → ¬ A j) → y.toInt = fstS s + i → Q y)
  (hk : (∀ j, j < m → ¬ A j) → ∀ t : Int32, t.toInt = s + 1 → Ok (k2 w t) Q) : ∀ (n : Nat) (x1 : Int32) (x2 : Int32) (x3 : Int32) (i : Nat), x1 = w → x2.toInt = s → x3.toInt = i → i ≤ m → m - i < n → (∀ j, j < i → ¬ A j) → Ok (f_X11_named_9 k2 c_fresh c_text c_tPlace c_tSize c_many c_nameSize c_names n x1 x2 x3) Q
  | 0, x1, x2, x3, i, e1, hx2, h1, h2, h3, h4 => by exfalso; omega
  | n + 1, x1, x2, x3, i, e1, hx2, h1, h2, h3, h4 => by
    unfold f_X11_named_9
    have hi : (5 * c_fresh + x2).toInt = 5 * φ + s := by ((try simp only [tI_lt, tI_le, tI_eq, tI_add, tI_sub, tI_mul, tI_nat, Int32.reduceToInt, Int.reduceToNat, fe_0, fe_1, fe_2, fe_3, fe_4, fe_5]) <;> (try simp (disch := omega) only [tI_bm]) <;> omega)
    have hf : fstS s ≤ 92 := by unfold fstS; (repeat' split) <;> omega
    refine ok_bad (by omega) ?_
    rw [show (5 * c_fresh + x2).toNatClampNeg = 5 * φ + s from by rw [tI_nat]; omega]
    refine ok_if (fun q => ?_) (fun q => ?_)
    · rw [tI_le] at q
      have : i = m := by omega
      rw [e1]
      exact ok_vlet (hk (fun j hj => h4 j (by omega)) _ (by ((try simp only [tI_lt, tI_le, tI_eq, tI_add, tI_sub, tI_mul, tI_nat, Int32.reduceToInt, Int.reduceToNat, fe_0, fe_1, fe_2, fe_3, fe_4, fe_5]) <;> (try simp (disch := omega) only [tI_bm]) <;> omega)))
    · rw [tI_le] at q
      have hlt : i < m := by omega
      obtain ⟨fo, q3, q4⟩ := s_first x2 s hx2 hs
      rw [q3]
      refine ok_bind (P := fun r => r = fo) (ok_some rfl) (fun r hr => ?_)
      subst hr
      rw [e1]
      refine ok_bind (hA i _ hlt (by ((try simp only [tI_lt, tI_le, tI_eq, tI_add, tI_sub, tI_mul, tI_nat, Int32.reduceToInt, Int.reduceToNat, fe_0, fe_1, fe_2, fe_3, fe_4, fe_5]) <;> (try simp (disch := omega) only [tI_bm]) <;> omega))) (fun r hr => ?_)
      rcases hr with ⟨z1, z2⟩ | ⟨z1, z2⟩
      · rw [if_neg (by rw [z1]; decide)]
        exact ok_some (hQ i _ hlt z2 h4 (by ((try simp only [tI_lt, tI_le, tI_eq, tI_add, tI_sub, tI_mul, tI_nat, Int32.reduceToInt, Int.reduceToNat, fe_0, fe_1, fe_2, fe_3, fe_4, fe_5]) <;> (try simp (disch := omega) only [tI_bm]) <;> omega)))
      · rw [if_pos z1]
        refine ok_vlet (s_named_9 k2 c_fresh c_text c_tPlace c_tSize c_many c_nameSize c_names φ s m A w hφ hfr hs hm hmn hA hQ hk n w x2 (x3 + 1) (i + 1) rfl hx2 (by ((try simp only [tI_lt, tI_le, tI_eq, tI_add, tI_sub, tI_mul, tI_nat, Int32.reduceToInt, Int.reduceToNat, fe_0, fe_1, fe_2, fe_3, fe_4, fe_5]) <;> (try simp (disch := omega) only [tI_bm]) <;> omega)) (by omega) (by omega) (fun j hj => ?_))
        by_cases ej : j = i
        · rw [ej]; exact z2
        · exact h4 j (by omega)
/-! a name looked up over the five sorts -/
set_option maxHeartbeats 400000 in
theorem s_named_2 (c_fresh : Int32) (c_text : Nat → Int32) (c_tPlace : Nat → Int32) (c_tSize : Nat → Int32) (c_many : Nat → Int32) (c_nameSize : Nat → Int32) (c_names : Nat → Int32) (φ : Nat) (m : Nat → Nat) (A : Nat → Nat → Prop) (w : Int32) (hφ : φ ≤ 1) (hfr : c_fresh.toInt = φ) (hm : ∀ s, s < 5 → m s ≤ 40) (hmn : ∀ s, s < 5 → (c_many (5 * φ + s)).toInt = m s)
  (hA : ∀ (s i : Nat) (y : Int32), s < 5 → i < m s → y.toInt = 116 * φ + fstS s + i → Ok (f_X11_isAlike y w c_text c_tPlace c_tSize c_nameSize c_names) (fun r => (r = 1 ∧ A s i) ∨ (r = 0 ∧ ¬ A s i))) : ∀ (n : Nat) (x1 : Int32) (x2 : Int32) (s : Nat), x1 = w → x2.toInt = s → s ≤ 5 → 6 - s ≤ n → (∀ t j, t < s → j < m t → ¬ A t j) → Ok (f_X11_named_2 c_fresh c_text c_tPlace c_tSize c_many c_nameSize c_names n x1 x2) (fun r => (∃ s i, s < 5 ∧ i < m s ∧ A s i ∧ (∀ t j, t < s → j < m t → ¬ A t j) ∧ (∀ j, j < i → ¬ A s j) ∧ r.toInt = fstS s + i) ∨ (r = -1 ∧ ∀ t j, t < 5 → j < m t → ¬ A t j))
  | 0, x1, x2, s, e1, hx2, h1, h2, h4 => by exfalso; omega
  | n + 1, x1, x2, s, e1, hx2, h1, h2, h4 => by
    unfold f_X11_named_2
    refine ok_if (fun q => ?_) (fun q => ?_)
    · rw [tI_le, show (5 : Int32).toInt = 5 from by decide] at q
      exact ok_some (.inr ⟨rfl, fun t j ht hj => h4 t j (by omega) hj⟩)
    · rw [tI_le, show (5 : Int32).toInt = 5 from by decide] at q
      have hs : s < 5 := by omega
      refine s_named_9 _ c_fresh c_text c_tPlace c_tSize c_many c_nameSize c_names φ s (m s) (A s) w hφ hfr hs (hm s hs) (hmn s hs) (fun i y hi hy => hA s i y hs hi hy) (fun i y hi z z2 hy => .inl ⟨s, i, hs, hi, z, h4, z2, hy⟩) (fun z t ht => ?_) FU x1 x2 0 0 e1 hx2 (by decide) (Nat.zero_le _) (by rw [FU_eq]; have := hm s hs; omega) (fun j hj => absurd hj (Nat.not_lt_zero _))
      refine s_named_2 c_fresh c_text c_tPlace c_tSize c_many c_nameSize c_names φ m A w hφ hfr hm hmn hA n w t (s + 1) rfl (by omega) (by omega) (by omega) (fun t' j h5 h6 => ?_)
      by_cases et : t' = s
      · rw [et] at h6 ⊢; exact z j h6
      · exact h4 t' j (by omega) h6
set_option maxHeartbeats 400000 in
theorem s_named (x1 : Int32) (c_fresh : Int32) (c_text : Nat → Int32) (c_tPlace : Nat → Int32) (c_tSize : Nat → Int32) (c_many : Nat → Int32) (c_nameSize : Nat → Int32) (c_names : Nat → Int32) (φ : Nat) (m : Nat → Nat) (A : Nat → Nat → Prop) (hφ : φ ≤ 1) (hfr : c_fresh.toInt = φ) (hm : ∀ s, s < 5 → m s ≤ 40) (hmn : ∀ s, s < 5 → (c_many (5 * φ + s)).toInt = m s)
  (hA : ∀ (s i : Nat) (y : Int32), s < 5 → i < m s → y.toInt = 116 * φ + fstS s + i → Ok (f_X11_isAlike y x1 c_text c_tPlace c_tSize c_nameSize c_names) (fun r => (r = 1 ∧ A s i) ∨ (r = 0 ∧ ¬ A s i))) : Ok (f_X11_named x1 c_fresh c_text c_tPlace c_tSize c_many c_nameSize c_names) (fun r => (∃ s i, s < 5 ∧ i < m s ∧ A s i ∧ (∀ t j, t < s → j < m t → ¬ A t j) ∧ (∀ j, j < i → ¬ A s j) ∧ r.toInt = fstS s + i) ∨ (r = -1 ∧ ∀ t j, t < 5 → j < m t → ¬ A t j)) := by
  unfold f_X11_named
  exact s_named_2 c_fresh c_text c_tPlace c_tSize c_many c_nameSize c_names φ m A x1 hφ hfr hm hmn hA FU x1 0 0 rfl (by decide) (by omega) (by rw [FU_eq]; decide) (fun t j ht => absurd ht (Nat.not_lt_zero _))
