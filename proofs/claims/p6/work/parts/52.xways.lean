/-! the class: ways, settling, a tick: they end within the domain -/
def WI (nets links : Int32) (fl nl lt : Nat → Int32) : Prop := 0 ≤ nets.toInt ∧ nets.toInt ≤ 954 ∧ 0 ≤ links.toInt ∧ links.toInt ≤ 1200 ∧ (∀ i : Nat, (i : Int) < nets.toInt → -1 ≤ (fl i).toInt ∧ (fl i).toInt < links.toInt) ∧ (∀ i : Nat, (i : Int) < links.toInt → -1 ≤ (nl i).toInt ∧ (nl i).toInt < links.toInt ∧ 0 ≤ (lt i).toInt ∧ (lt i).toInt < nets.toInt)
set_option maxHeartbeats 400000 in
theorem s_X8_begin_22 : ∀ (n : Nat) (x2 : Int32) (c_nets : Int32) (c_links : Int32) (c_firstLink : Nat → Int32) (c_powers : Nat → Int32), 0 ≤ x2.toInt → x2.toInt ≤ c_nets.toInt → c_nets.toInt ≤ 954 → 1000 ≤ x2.toInt + n → (∀ i : Nat, (i : Int) < x2.toInt → (c_firstLink i).toInt = -1) → Ok (f_X8_begin_22 n x2 c_nets c_links c_firstLink c_powers) (fun r => r.1 = c_nets ∧ r.2.1 = c_links ∧ (∀ i : Nat, (i : Int) < c_nets.toInt → (r.2.2.1 i).toInt = -1))
  | 0, x2, c_nets, c_links, c_firstLink, c_powers, h1, h2, h4, h5, h7 => by exfalso; omega
  | n + 1, x2, c_nets, c_links, c_firstLink, c_powers, h1, h2, h4, h5, h7 => by
    unfold f_X8_begin_22
    refine ok_if (fun hc => ?_) (fun hc => ?_)
    · exact ok_some ⟨rfl, rfl, fun i hi => h7 i (by ((try simp only [tI_lt, tI_le, tI_eq, tI_add, tI_sub, tI_mul, tI_nat, Int32.reduceToInt, Int.reduceToNat, fe_0, fe_1, fe_2, fe_3, fe_4, fe_5] at *) <;> (try simp (disch := omega) only [tI_bm]) <;> (first | omega | ((try simp (disch := omega) only [tI_bm] at *) <;> omega))))⟩
    · refine ok_bad (by ((try simp only [tI_lt, tI_le, tI_eq, tI_add, tI_sub, tI_mul, tI_nat, Int32.reduceToInt, Int.reduceToNat, fe_0, fe_1, fe_2, fe_3, fe_4, fe_5] at *) <;> (try simp (disch := omega) only [tI_bm]) <;> (first | omega | ((try simp (disch := omega) only [tI_bm] at *) <;> omega)))) (ok_vlet (ok_bad (by ((try simp only [tI_lt, tI_le, tI_eq, tI_add, tI_sub, tI_mul, tI_nat, Int32.reduceToInt, Int.reduceToNat, fe_0, fe_1, fe_2, fe_3, fe_4, fe_5] at *) <;> (try simp (disch := omega) only [tI_bm]) <;> (first | omega | ((try simp (disch := omega) only [tI_bm] at *) <;> omega)))) (ok_vlet (ok_vlet ?_))))
      refine s_X8_begin_22 n _ _ _ _ _ ?_ ?_ h4 ?_ ?_
      · ((try simp only [tI_lt, tI_le, tI_eq, tI_add, tI_sub, tI_mul, tI_nat, Int32.reduceToInt, Int.reduceToNat, fe_0, fe_1, fe_2, fe_3, fe_4, fe_5] at *) <;> (try simp (disch := omega) only [tI_bm]) <;> (first | omega | ((try simp (disch := omega) only [tI_bm] at *) <;> omega)))
      · ((try simp only [tI_lt, tI_le, tI_eq, tI_add, tI_sub, tI_mul, tI_nat, Int32.reduceToInt, Int.reduceToNat, fe_0, fe_1, fe_2, fe_3, fe_4, fe_5] at *) <;> (try simp (disch := omega) only [tI_bm]) <;> (first | omega | ((try simp (disch := omega) only [tI_bm] at *) <;> omega)))
      · ((try simp only [tI_lt, tI_le, tI_eq, tI_add, tI_sub, tI_mul, tI_nat, Int32.reduceToInt, Int.reduceToNat, fe_0, fe_1, fe_2, fe_3, fe_4, fe_5] at *) <;> (try simp (disch := omega) only [tI_bm]) <;> (first | omega | ((try simp (disch := omega) only [tI_bm] at *) <;> omega)))
      · intro i hi
        have := h7 i
        simp only [upd_at]
        split <;> ((try simp only [tI_lt, tI_le, tI_eq, tI_add, tI_sub, tI_mul, tI_nat, Int32.reduceToInt, Int.reduceToNat, fe_0, fe_1, fe_2, fe_3, fe_4, fe_5] at *) <;> (try simp (disch := omega) only [tI_bm]) <;> (first | omega | ((try simp (disch := omega) only [tI_bm] at *) <;> omega)))
set_option maxHeartbeats 400000 in
theorem s_X8_begin (x1 : Int32) (c_nets : Int32) (c_links : Int32) (c_firstLink : Nat → Int32) (c_powers : Nat → Int32) : Ok (f_X8_begin x1 c_nets c_links c_firstLink c_powers) (fun r => 0 ≤ r.1.toInt ∧ r.1.toInt ≤ 954 ∧ r.2.1 = 0 ∧ (∀ i : Nat, (i : Int) < r.1.toInt → (r.2.2.1 i).toInt = -1)) := by
  unfold f_X8_begin
  refine ok_vlet ?_
  have hx : 0 ≤ (xmax (0 : Int32) (xmin x1 (954 : Int32))).toInt ∧ (xmax (0 : Int32) (xmin x1 (954 : Int32))).toInt ≤ 954 := by
    unfold xmax xmin
    repeat' split
    all_goals ((try simp only [tI_lt, tI_le, tI_eq, tI_add, tI_sub, tI_mul, tI_nat, Int32.reduceToInt, Int.reduceToNat, fe_0, fe_1, fe_2, fe_3, fe_4, fe_5] at *) <;> (try simp (disch := omega) only [tI_bm]) <;> (first | omega | ((try simp (disch := omega) only [tI_bm] at *) <;> omega)))
  generalize xmax (0 : Int32) (xmin x1 (954 : Int32)) = t1 at hx
  refine ok_mono (s_X8_begin_22 FU 0 t1 0 c_firstLink c_powers (by ((try simp only [tI_lt, tI_le, tI_eq, tI_add, tI_sub, tI_mul, tI_nat, Int32.reduceToInt, Int.reduceToNat, fe_0, fe_1, fe_2, fe_3, fe_4, fe_5] at *) <;> (try simp (disch := omega) only [tI_bm]) <;> (first | omega | ((try simp (disch := omega) only [tI_bm] at *) <;> omega)))) (by ((try simp only [tI_lt, tI_le, tI_eq, tI_add, tI_sub, tI_mul, tI_nat, Int32.reduceToInt, Int.reduceToNat, fe_0, fe_1, fe_2, fe_3, fe_4, fe_5] at *) <;> (try simp (disch := omega) only [tI_bm]) <;> (first | omega | ((try simp (disch := omega) only [tI_bm] at *) <;> omega)))) hx.2 (by rw [FU_eq]; ((try simp only [tI_lt, tI_le, tI_eq, tI_add, tI_sub, tI_mul, tI_nat, Int32.reduceToInt, Int.reduceToNat, fe_0, fe_1, fe_2, fe_3, fe_4, fe_5] at *) <;> (try simp (disch := omega) only [tI_bm]) <;> (first | omega | ((try simp (disch := omega) only [tI_bm] at *) <;> omega)))) (fun i hi => by exfalso; ((try simp only [tI_lt, tI_le, tI_eq, tI_add, tI_sub, tI_mul, tI_nat, Int32.reduceToInt, Int.reduceToNat, fe_0, fe_1, fe_2, fe_3, fe_4, fe_5] at *) <;> (try simp (disch := omega) only [tI_bm]) <;> (first | omega | ((try simp (disch := omega) only [tI_bm] at *) <;> omega))))) (fun r hr => ?_)
  obtain ⟨e1, e2, e3⟩ := hr
  rw [e1]
  exact ⟨hx.1, hx.2, e2, e3⟩
set_option maxHeartbeats 400000 in
theorem s_X8_join (x1 : Int32) (x2 : Int32) (x3 : Int32) (x4 : Int32) (c_nets : Int32) (c_links : Int32) (c_firstLink : Nat → Int32) (c_nextLink : Nat → Int32) (c_leadsTo : Nat → Int32) (c_lets : Nat → Int32) (h : WI c_nets c_links c_firstLink c_nextLink c_leadsTo) : Ok (f_X8_join x1 x2 x3 x4 c_nets c_links c_firstLink c_nextLink c_leadsTo c_lets) (fun r => WI c_nets r.1 r.2.1 r.2.2.1 r.2.2.2.1) := by
  unfold f_X8_join
  have hh := h
  obtain ⟨h1, h2, h3, h4, h5, h6⟩ := hh
  refine ok_if (fun a1 => ok_some h) (fun a1 => ?_)
  refine ok_if (fun a2 => ok_some h) (fun a2 => ?_)
  refine ok_if (fun a3 => ok_some h) (fun a3 => ?_)
  refine ok_if (fun a4 => ok_some h) (fun a4 => ?_)
  refine ok_if (fun a5 => ok_some h) (fun a5 => ?_)
  refine ok_if (fun a6 => ?_) (fun a6 => ok_some h)
  simp only [tI_lt, tI_le, tI_eq, tI_add, tI_sub, tI_mul, tI_nat, Int32.reduceToInt, Int.reduceToNat, fe_0, fe_1, fe_2, fe_3, fe_4, fe_5] at a1 a2 a3 a4 a5 a6
  have l1 : (c_links + 1).toInt = c_links.toInt + 1 := by ((try simp only [tI_lt, tI_le, tI_eq, tI_add, tI_sub, tI_mul, tI_nat, Int32.reduceToInt, Int.reduceToNat, fe_0, fe_1, fe_2, fe_3, fe_4, fe_5]) <;> (try simp (disch := omega) only [tI_bm]) <;> omega)
  have l2 : (c_links + 2).toInt = c_links.toInt + 2 := by ((try simp only [tI_lt, tI_le, tI_eq, tI_add, tI_sub, tI_mul, tI_nat, Int32.reduceToInt, Int.reduceToNat, fe_0, fe_1, fe_2, fe_3, fe_4, fe_5]) <;> (try simp (disch := omega) only [tI_bm]) <;> omega)
  have b0 : 0 ≤ c_links.toInt ∧ c_links.toInt < (1200 : Nat) := by omega
  have b1 : 0 ≤ (c_links + 1).toInt ∧ (c_links + 1).toInt < (1200 : Nat) := by omega
  have b2 : 0 ≤ x1.toInt ∧ x1.toInt < (954 : Nat) := by omega
  have b3 : 0 ≤ x2.toInt ∧ x2.toInt < (954 : Nat) := by omega
  repeat first | with_reducible refine ok_bad b0 ?_ | with_reducible refine ok_bad b1 ?_ | with_reducible refine ok_bad b2 ?_ | with_reducible refine ok_bad b3 ?_ | with_reducible refine ok_vlet ?_
  refine ok_some ?_
  have d1 := h5 x1.toInt.toNat (by omega)
  have d2 := h5 x2.toInt.toNat (by omega)
  dsimp only
  simp only [tI_nat, l1]
  refine ⟨h1, h2, by omega, by omega, fun i hi => ?_, fun i hi => ?_⟩
  · have d3 := h5 i hi
    simp only [upd_at]
    repeat' split
    all_goals omega
  · have d3 := h6 i
    simp only [upd_at]
    repeat' split
    all_goals omega
def RI (nets found : Int32) (r : Nat → Int32) : Prop := 1 ≤ found.toInt ∧ found.toInt ≤ nets.toInt ∧ ∀ j : Nat, (j : Int) < found.toInt → 0 ≤ (r j).toInt ∧ (r j).toInt < nets.toInt
set_option maxHeartbeats 400000 in
theorem s_X8_spread_67 (k35 : Int32 → Int32 → Int32 → (Nat → Int32) → (Nat → Int32) → Option ((Nat → Int32) × (Nat → Int32))) (c_nets : Int32) (c_links : Int32) (c_firstLink : Nat → Int32) (c_nextLink : Nat → Int32) (c_leadsTo : Nat → Int32) (c_lets : Nat → Int32) (x2 : Int32) (x4 : Int32) (h : WI c_nets c_links c_firstLink c_nextLink c_leadsTo) {Q : (Nat → Int32) × (Nat → Int32) → Prop} (lo : Int) (hk : ∀ (x3 : Int32) (p r : Nat → Int32), lo ≤ x3.toInt → RI c_nets x3 r → Ok (k35 x2 x3 (x4 + 1) p r) Q) : ∀ (n : Nat) (x3 x5 x6 : Int32) (c_powers c_reached : Nat → Int32), lo ≤ x3.toInt → 0 ≤ x6.toInt → x6.toInt ≤ c_links.toInt → c_links.toInt < x6.toInt + n → RI c_nets x3 c_reached → -1 ≤ x5.toInt → x5.toInt < c_links.toInt → Ok (f_X8_spread_67 k35 c_nets c_links c_firstLink c_nextLink c_leadsTo c_lets n x2 x3 x4 x5 x6 c_powers c_reached) Q
  | 0, x3, x5, x6, c_powers, c_reached, h0, h1, h2, h3, h4, h5, h6 => by exfalso; omega
  | n + 1, x3, x5, x6, c_powers, c_reached, h0, h1, h2, h3, h4, h5, h6 => by
    unfold f_X8_spread_67 f_X8_spread_145 f_X8_spread_160
    have hh := h
    obtain ⟨g1, g2, g3, g4, g5, g6⟩ := hh
    refine ok_if (fun a1 => ok_vlet (hk _ _ _ h0 h4)) (fun a1 => ?_)
    refine ok_if (fun a2 => ok_vlet (hk _ _ _ h0 h4)) (fun a2 => ?_)
    have b1 := g6 x5.toInt.toNat (by ((try simp only [tI_lt, tI_le, tI_eq, tI_add, tI_sub, tI_mul, tI_nat, Int32.reduceToInt, Int.reduceToNat, fe_0, fe_1, fe_2, fe_3, fe_4, fe_5] at *) <;> (try simp (disch := omega) only [tI_bm]) <;> (first | omega | ((try simp (disch := omega) only [tI_bm] at *) <;> omega))))
    have b2 : 0 ≤ x5.toInt := by ((try simp only [tI_lt, tI_le, tI_eq, tI_add, tI_sub, tI_mul, tI_nat, Int32.reduceToInt, Int.reduceToNat, fe_0, fe_1, fe_2, fe_3, fe_4, fe_5] at *) <;> (try simp (disch := omega) only [tI_bm]) <;> (first | omega | ((try simp (disch := omega) only [tI_bm] at *) <;> omega)))
    have go : ∀ (x3 : Int32) (c_powers c_reached : Nat → Int32), lo ≤ x3.toInt → RI c_nets x3 c_reached → Ok (if bad x5 1200 = true then none else vlet (c_nextLink x5.toNatClampNeg) fun t2 => vlet (x6 + 1) fun t3 => (f_X8_spread_67 k35 c_nets c_links c_firstLink c_nextLink c_leadsTo c_lets n x2 x3 x4 t2 t3 c_powers c_reached)) Q := by
      intro x3 c_powers c_reached h0 hR
      refine ok_bad (by ((try simp only [tI_lt, tI_le, tI_eq, tI_add, tI_sub, tI_mul, tI_nat, Int32.reduceToInt, Int.reduceToNat, fe_0, fe_1, fe_2, fe_3, fe_4, fe_5] at *) <;> (try simp (disch := omega) only [tI_bm]) <;> (first | omega | ((try simp (disch := omega) only [tI_bm] at *) <;> omega)))) (ok_vlet (ok_vlet ?_))
      refine s_X8_spread_67 k35 c_nets c_links c_firstLink c_nextLink c_leadsTo c_lets x2 x4 h lo hk n _ _ _ _ _ h0 ?_ ?_ ?_ hR ?_ ?_
      · ((try simp only [tI_lt, tI_le, tI_eq, tI_add, tI_sub, tI_mul, tI_nat, Int32.reduceToInt, Int.reduceToNat, fe_0, fe_1, fe_2, fe_3, fe_4, fe_5] at *) <;> (try simp (disch := omega) only [tI_bm]) <;> (first | omega | ((try simp (disch := omega) only [tI_bm] at *) <;> omega)))
      · ((try simp only [tI_lt, tI_le, tI_eq, tI_add, tI_sub, tI_mul, tI_nat, Int32.reduceToInt, Int.reduceToNat, fe_0, fe_1, fe_2, fe_3, fe_4, fe_5] at *) <;> (try simp (disch := omega) only [tI_bm]) <;> (first | omega | ((try simp (disch := omega) only [tI_bm] at *) <;> omega)))
      · ((try simp only [tI_lt, tI_le, tI_eq, tI_add, tI_sub, tI_mul, tI_nat, Int32.reduceToInt, Int.reduceToNat, fe_0, fe_1, fe_2, fe_3, fe_4, fe_5] at *) <;> (try simp (disch := omega) only [tI_bm]) <;> (first | omega | ((try simp (disch := omega) only [tI_bm] at *) <;> omega)))
      · rw [tI_nat]; omega
      · rw [tI_nat]; omega
    refine ok_bad (by ((try simp only [tI_lt, tI_le, tI_eq, tI_add, tI_sub, tI_mul, tI_nat, Int32.reduceToInt, Int.reduceToNat, fe_0, fe_1, fe_2, fe_3, fe_4, fe_5] at *) <;> (try simp (disch := omega) only [tI_bm]) <;> (first | omega | ((try simp (disch := omega) only [tI_bm] at *) <;> omega)))) (ok_vlet (ok_bad (by ((try simp only [tI_lt, tI_le, tI_eq, tI_add, tI_sub, tI_mul, tI_nat, Int32.reduceToInt, Int.reduceToNat, fe_0, fe_1, fe_2, fe_3, fe_4, fe_5] at *) <;> (try simp (disch := omega) only [tI_bm]) <;> (first | omega | ((try simp (disch := omega) only [tI_bm] at *) <;> omega)))) ?_))
    refine ok_if (fun _ => go _ _ _ h0 h4) (fun _ => ?_)
    refine ok_bad (by rw [tI_nat]; omega) ?_
    refine ok_if (fun _ => ?_) (fun _ => go _ _ _ h0 h4)
    refine ok_if (fun _ => go _ _ _ h0 h4) (fun a5 => ?_)
    obtain ⟨r1, r2, r3⟩ := h4
    refine ok_bad (by rw [tI_nat]; omega) (ok_vlet (ok_bad (by rw [tI_nat]; omega) (ok_vlet (ok_bad (by ((try simp only [tI_lt, tI_le, tI_eq, tI_add, tI_sub, tI_mul, tI_nat, Int32.reduceToInt, Int.reduceToNat, fe_0, fe_1, fe_2, fe_3, fe_4, fe_5] at *) <;> (try simp (disch := omega) only [tI_bm]) <;> (first | omega | ((try simp (disch := omega) only [tI_bm] at *) <;> omega)))) (ok_vlet (ok_vlet ?_))))))
    refine go _ _ _ (by ((try simp only [tI_lt, tI_le, tI_eq, tI_add, tI_sub, tI_mul, tI_nat, Int32.reduceToInt, Int.reduceToNat, fe_0, fe_1, fe_2, fe_3, fe_4, fe_5] at *) <;> (try simp (disch := omega) only [tI_bm]) <;> (first | omega | ((try simp (disch := omega) only [tI_bm] at *) <;> omega)))) ⟨by ((try simp only [tI_lt, tI_le, tI_eq, tI_add, tI_sub, tI_mul, tI_nat, Int32.reduceToInt, Int.reduceToNat, fe_0, fe_1, fe_2, fe_3, fe_4, fe_5] at *) <;> (try simp (disch := omega) only [tI_bm]) <;> (first | omega | ((try simp (disch := omega) only [tI_bm] at *) <;> omega))), by ((try simp only [tI_lt, tI_le, tI_eq, tI_add, tI_sub, tI_mul, tI_nat, Int32.reduceToInt, Int.reduceToNat, fe_0, fe_1, fe_2, fe_3, fe_4, fe_5] at *) <;> (try simp (disch := omega) only [tI_bm]) <;> (first | omega | ((try simp (disch := omega) only [tI_bm] at *) <;> omega))), fun j hj => ?_⟩
    have r4 := r3 j
    simp only [upd_at, tI_nat]
    split <;> ((try simp only [tI_lt, tI_le, tI_eq, tI_add, tI_sub, tI_mul, tI_nat, Int32.reduceToInt, Int.reduceToNat, fe_0, fe_1, fe_2, fe_3, fe_4, fe_5] at *) <;> (try simp (disch := omega) only [tI_bm]) <;> (first | omega | ((try simp (disch := omega) only [tI_bm] at *) <;> omega)))
set_option maxHeartbeats 400000 in
theorem s_X8_spread_35 (c_nets : Int32) (c_links : Int32) (c_firstLink : Nat → Int32) (c_nextLink : Nat → Int32) (c_leadsTo : Nat → Int32) (c_lets : Nat → Int32) (x2 : Int32) (h : WI c_nets c_links c_firstLink c_nextLink c_leadsTo) : ∀ (n : Nat) (x3 x4 : Int32) (c_powers c_reached : Nat → Int32), 0 ≤ x4.toInt → x4.toInt ≤ x3.toInt → c_nets.toInt < x4.toInt + n → RI c_nets x3 c_reached → Ok (f_X8_spread_35 c_nets c_links c_firstLink c_nextLink c_leadsTo c_lets n x2 x3 x4 c_powers c_reached) (fun _ => True)
  | 0, x3, x4, c_powers, c_reached, h1, h2, h3, h4 => by obtain ⟨r1, r2, r3⟩ := h4; exfalso; omega
  | n + 1, x3, x4, c_powers, c_reached, h1, h2, h3, h4 => by
    unfold f_X8_spread_35
    have hh := h
    obtain ⟨g1, g2, g3, g4, g5, g6⟩ := hh
    have h4' := h4
    obtain ⟨r1, r2, r3⟩ := h4'
    refine ok_if (fun a1 => ok_some trivial) (fun a1 => ?_)
    refine ok_if (fun a2 => ok_some trivial) (fun a2 => ?_)
    have b1 := r3 x4.toInt.toNat (by ((try simp only [tI_lt, tI_le, tI_eq, tI_add, tI_sub, tI_mul, tI_nat, Int32.reduceToInt, Int.reduceToNat, fe_0, fe_1, fe_2, fe_3, fe_4, fe_5] at *) <;> (try simp (disch := omega) only [tI_bm]) <;> (first | omega | ((try simp (disch := omega) only [tI_bm] at *) <;> omega))))
    have b2 := g5 (c_reached x4.toInt.toNat).toInt.toNat (by omega)
    refine ok_bad (by ((try simp only [tI_lt, tI_le, tI_eq, tI_add, tI_sub, tI_mul, tI_nat, Int32.reduceToInt, Int.reduceToNat, fe_0, fe_1, fe_2, fe_3, fe_4, fe_5] at *) <;> (try simp (disch := omega) only [tI_bm]) <;> (first | omega | ((try simp (disch := omega) only [tI_bm] at *) <;> omega)))) (ok_bad (by rw [tI_nat]; omega) (ok_vlet ?_))
    refine s_X8_spread_67 _ c_nets c_links c_firstLink c_nextLink c_leadsTo c_lets x2 x4 h x3.toInt ?_ FU _ _ _ _ _ (Int.le_refl _) (by ((try simp only [tI_lt, tI_le, tI_eq, tI_add, tI_sub, tI_mul, tI_nat, Int32.reduceToInt, Int.reduceToNat, fe_0, fe_1, fe_2, fe_3, fe_4, fe_5] at *) <;> (try simp (disch := omega) only [tI_bm]) <;> (first | omega | ((try simp (disch := omega) only [tI_bm] at *) <;> omega)))) (by ((try simp only [tI_lt, tI_le, tI_eq, tI_add, tI_sub, tI_mul, tI_nat, Int32.reduceToInt, Int.reduceToNat, fe_0, fe_1, fe_2, fe_3, fe_4, fe_5] at *) <;> (try simp (disch := omega) only [tI_bm]) <;> (first | omega | ((try simp (disch := omega) only [tI_bm] at *) <;> omega)))) (by rw [FU_eq]; ((try simp only [tI_lt, tI_le, tI_eq, tI_add, tI_sub, tI_mul, tI_nat, Int32.reduceToInt, Int.reduceToNat, fe_0, fe_1, fe_2, fe_3, fe_4, fe_5] at *) <;> (try simp (disch := omega) only [tI_bm]) <;> (first | omega | ((try simp (disch := omega) only [tI_bm] at *) <;> omega)))) h4 ?_ ?_
    · intro x3' p r hlo hR
      have hR' := hR
      obtain ⟨q1, q2, q3⟩ := hR'
      refine s_X8_spread_35 c_nets c_links c_firstLink c_nextLink c_leadsTo c_lets x2 h n _ _ _ _ ?_ ?_ ?_ hR
      all_goals ((try simp only [tI_lt, tI_le, tI_eq, tI_add, tI_sub, tI_mul, tI_nat, Int32.reduceToInt, Int.reduceToNat, fe_0, fe_1, fe_2, fe_3, fe_4, fe_5] at *) <;> (try simp (disch := omega) only [tI_bm]) <;> (first | omega | ((try simp (disch := omega) only [tI_bm] at *) <;> omega)))
    · rw [tI_nat, tI_nat]; omega
    · rw [tI_nat, tI_nat]; omega
set_option maxHeartbeats 400000 in
theorem s_X8_spread (x1 : Int32) (x2 : Int32) (c_nets : Int32) (c_links : Int32) (c_firstLink : Nat → Int32) (c_nextLink : Nat → Int32) (c_leadsTo : Nat → Int32) (c_lets : Nat → Int32) (c_powers : Nat → Int32) (c_reached : Nat → Int32) (h : WI c_nets c_links c_firstLink c_nextLink c_leadsTo) : Ok (f_X8_spread x1 x2 c_nets c_links c_firstLink c_nextLink c_leadsTo c_lets c_powers c_reached) (fun _ => True) := by
  unfold f_X8_spread
  have hh := h
  obtain ⟨g1, g2, g3, g4, g5, g6⟩ := hh
  refine ok_if (fun a1 => ok_some trivial) (fun a1 => ?_)
  refine ok_if (fun a2 => ?_) (fun a2 => ok_some trivial)
  refine ok_bad (by ((try simp only [tI_lt, tI_le, tI_eq, tI_add, tI_sub, tI_mul, tI_nat, Int32.reduceToInt, Int.reduceToNat, fe_0, fe_1, fe_2, fe_3, fe_4, fe_5] at *) <;> (try simp (disch := omega) only [tI_bm]) <;> (first | omega | ((try simp (disch := omega) only [tI_bm] at *) <;> omega)))) (ok_vlet (ok_bad (by ((try simp only [tI_lt, tI_le, tI_eq, tI_add, tI_sub, tI_mul, tI_nat, Int32.reduceToInt, Int.reduceToNat, fe_0, fe_1, fe_2, fe_3, fe_4, fe_5] at *) <;> (try simp (disch := omega) only [tI_bm]) <;> (first | omega | ((try simp (disch := omega) only [tI_bm] at *) <;> omega)))) (ok_vlet (ok_bad (by ((try simp only [tI_lt, tI_le, tI_eq, tI_add, tI_sub, tI_mul, tI_nat, Int32.reduceToInt, Int.reduceToNat, fe_0, fe_1, fe_2, fe_3, fe_4, fe_5] at *) <;> (try simp (disch := omega) only [tI_bm]) <;> (first | omega | ((try simp (disch := omega) only [tI_bm] at *) <;> omega)))) (ok_vlet ?_)))))
  refine s_X8_spread_35 c_nets c_links c_firstLink c_nextLink c_leadsTo c_lets x2 h FU _ _ _ _ (by ((try simp only [tI_lt, tI_le, tI_eq, tI_add, tI_sub, tI_mul, tI_nat, Int32.reduceToInt, Int.reduceToNat, fe_0, fe_1, fe_2, fe_3, fe_4, fe_5] at *) <;> (try simp (disch := omega) only [tI_bm]) <;> (first | omega | ((try simp (disch := omega) only [tI_bm] at *) <;> omega)))) (by ((try simp only [tI_lt, tI_le, tI_eq, tI_add, tI_sub, tI_mul, tI_nat, Int32.reduceToInt, Int.reduceToNat, fe_0, fe_1, fe_2, fe_3, fe_4, fe_5] at *) <;> (try simp (disch := omega) only [tI_bm]) <;> (first | omega | ((try simp (disch := omega) only [tI_bm] at *) <;> omega)))) (by rw [FU_eq]; ((try simp only [tI_lt, tI_le, tI_eq, tI_add, tI_sub, tI_mul, tI_nat, Int32.reduceToInt, Int.reduceToNat, fe_0, fe_1, fe_2, fe_3, fe_4, fe_5] at *) <;> (try simp (disch := omega) only [tI_bm]) <;> (first | omega | ((try simp (disch := omega) only [tI_bm] at *) <;> omega)))) ⟨by ((try simp only [tI_lt, tI_le, tI_eq, tI_add, tI_sub, tI_mul, tI_nat, Int32.reduceToInt, Int.reduceToNat, fe_0, fe_1, fe_2, fe_3, fe_4, fe_5] at *) <;> (try simp (disch := omega) only [tI_bm]) <;> (first | omega | ((try simp (disch := omega) only [tI_bm] at *) <;> omega))), by ((try simp only [tI_lt, tI_le, tI_eq, tI_add, tI_sub, tI_mul, tI_nat, Int32.reduceToInt, Int.reduceToNat, fe_0, fe_1, fe_2, fe_3, fe_4, fe_5] at *) <;> (try simp (disch := omega) only [tI_bm]) <;> (first | omega | ((try simp (disch := omega) only [tI_bm] at *) <;> omega))), fun j hj => ?_⟩
  simp only [upd_at, tI_nat]
  split <;> ((try simp only [tI_lt, tI_le, tI_eq, tI_add, tI_sub, tI_mul, tI_nat, Int32.reduceToInt, Int.reduceToNat, fe_0, fe_1, fe_2, fe_3, fe_4, fe_5] at *) <;> (try simp (disch := omega) only [tI_bm]) <;> (first | omega | ((try simp (disch := omega) only [tI_bm] at *) <;> omega)))
set_option maxHeartbeats 400000 in
theorem s_X8_at (x1 : Int32) (c_nets : Int32) (c_powers : Nat → Int32) (h2 : c_nets.toInt ≤ 954) : Ok (f_X8_at x1 c_nets c_powers) (fun _ => True) := by
  unfold f_X8_at f_X8_at_12
  refine ok_if (fun a1 => ok_some trivial) (fun a1 => ?_)
  refine ok_if (fun a2 => ?_) (fun a2 => ok_some trivial)
  exact ok_bad (by ((try simp only [tI_lt, tI_le, tI_eq, tI_add, tI_sub, tI_mul, tI_nat, Int32.reduceToInt, Int.reduceToNat, fe_0, fe_1, fe_2, fe_3, fe_4, fe_5] at *) <;> (try simp (disch := omega) only [tI_bm]) <;> (first | omega | ((try simp (disch := omega) only [tI_bm] at *) <;> omega)))) (ok_some trivial)
