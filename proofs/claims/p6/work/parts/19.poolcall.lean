
/-! calls that take one State of the pool -/
theorem va_nd_iff : ∀ l : List Nat, va_nd l = true ↔ l.Nodup
  | [] => by simp [va_nd]
  | a :: l => by simp [va_nd, va_nd_iff l]
theorem pool_nd {is1 : List Nat} {L : Nat} (j : Nat) (h : va_nd is1 = true) (hb : is1.all (fun i => decide (i < L)) = true) : va_nd (is1 ++ [L + 3 * j, L + 3 * j + 1, L + 3 * j + 2]) = true := by
  rw [va_nd_iff] at h ⊢
  rw [List.nodup_append]
  refine ⟨h, by simp, fun a ha b hb2 => ?_⟩
  have h1 : a < L := of_decide_eq_true (List.all_eq_true.mp hb a ha)
  simp only [List.mem_cons, List.not_mem_nil, or_false] at hb2
  omega
theorem pool_hc {G : Gx} {sa ca pa : Nat → Nat} {pk : Nat → Int64} {ky tm : Nat → Int32} {cn po : Nat → Nat → Int32} {X wc1 : va_W} {is1 : List Nat} {L j : Nat} (hX : X.length = L) (hb : is1.all (fun i => decide (i < L)) = true) (h1 : is1.map (fun i => X[i]?) = wc1.map some) (hj : j < 100) : (is1 ++ [L + 3 * j, L + 3 * j + 1, L + 3 * j + 2]).map (fun i => (X ++ hpool G sa ca pa pk ky tm cn po 100)[i]?) = (wc1 ++ [(sa j, eO 5 [.long (pk j), .ref (ca j), .ref (pa j), .int (ky j), .int (tm j)]), (ca j, eI G 40 (cn j)), (pa j, eI G 40 (po j))]).map some := by
  rw [List.map_append, List.map_append, vmap_app L hX hb h1]
  obtain ⟨g1, g2, g3⟩ := hpool_get G sa ca pa pk ky tm cn po 100 j hj
  have e1 : (X ++ hpool G sa ca pa pk ky tm cn po 100)[L + 3 * j]? = (hpool G sa ca pa pk ky tm cn po 100)[3 * j]? := by rw [List.getElem?_append_right (by omega)]; congr 1; omega
  have e2 : (X ++ hpool G sa ca pa pk ky tm cn po 100)[L + 3 * j + 1]? = (hpool G sa ca pa pk ky tm cn po 100)[3 * j + 1]? := by rw [List.getElem?_append_right (by omega)]; congr 1; omega
  have e3 : (X ++ hpool G sa ca pa pk ky tm cn po 100)[L + 3 * j + 2]? = (hpool G sa ca pa pk ky tm cn po 100)[3 * j + 2]? := by rw [List.getElem?_append_right (by omega)]; congr 1; omega
  simp only [List.map_cons, List.map_nil, e1, e2, e3, g1, g2, g3]
theorem pool_nd2 {is1 : List Nat} {L : Nat} (j : Nat) (h : va_nd is1 = true) (hb : is1.all (fun i => decide (i < L)) = true) : va_nd ([L + 3 * j, L + 3 * j + 1, L + 3 * j + 2] ++ is1) = true := by
  rw [va_nd_iff] at h ⊢
  rw [List.nodup_append]
  refine ⟨by simp, h, fun a ha b hb2 => ?_⟩
  have h1 : b < L := of_decide_eq_true (List.all_eq_true.mp hb b hb2)
  simp only [List.mem_cons, List.not_mem_nil, or_false] at ha
  omega
theorem pool_hc2 {G : Gx} {sa ca pa : Nat → Nat} {pk : Nat → Int64} {ky tm : Nat → Int32} {cn po : Nat → Nat → Int32} {X wc1 : va_W} {is1 : List Nat} {L j : Nat} (hX : X.length = L) (hb : is1.all (fun i => decide (i < L)) = true) (h1 : is1.map (fun i => X[i]?) = wc1.map some) (hj : j < 100) : ([L + 3 * j, L + 3 * j + 1, L + 3 * j + 2] ++ is1).map (fun i => (X ++ hpool G sa ca pa pk ky tm cn po 100)[i]?) = ([(sa j, eO 5 [.long (pk j), .ref (ca j), .ref (pa j), .int (ky j), .int (tm j)]), (ca j, eI G 40 (cn j)), (pa j, eI G 40 (po j))] ++ wc1).map some := by
  have h := pool_hc (G := G) (sa := sa) (ca := ca) (pa := pa) (pk := pk) (ky := ky) (tm := tm) (cn := cn) (po := po) hX hb h1 hj
  rw [List.map_append, List.map_append, vmap_app L hX hb h1] at h ⊢
  rw [List.append_cancel_left_eq] at h
  rw [h]
theorem vpick_skip {j : Nat} : ∀ (is1 is2 : List Nat) (q1 q2 : va_W) (w : Nat × va_E), j ∉ is1 → is1.length = q1.length → vpick j (is1 ++ is2) (q1 ++ q2) w = vpick j is2 q2 w
  | [], is2, [], q2, w, _, _ => rfl
  | [], _, _ :: _, _, _, _, h => by simp at h
  | _ :: _, _, [], _, _, _, h => by simp at h
  | i :: is1, is2, q :: q1, q2, w, h, hl => by
    simp only [List.mem_cons, not_or] at h
    have hb : Nat.beq i j = false := by
      cases hh : Nat.beq i j with
      | false => rfl
      | true => exact absurd (Nat.eq_of_beq_eq_true hh).symm h.1
    have hv : vpick j ((i :: is1) ++ is2) ((q :: q1) ++ q2) w = vpick j (is1 ++ is2) (q1 ++ q2) w := by simp [vpick, hb]
    rw [hv, vpick_skip is1 is2 q1 q2 w h.2 (by simpa using hl)]
theorem beq_ne {a b : Nat} (h : a ≠ b) : Nat.beq a b = false := by
  cases hh : Nat.beq a b with
  | false => rfl
  | true => exact absurd (Nat.eq_of_beq_eq_true hh) h
theorem vpick3 {a : Nat} {q0 q1 q2 w : Nat × va_E} (i : Nat) : vpick i [a, a + 1, a + 2] [q0, q1, q2] w = if i = a then q0 else if i = a + 1 then q1 else if i = a + 2 then q2 else w := by
  by_cases h0 : i = a
  · subst h0; simp [vpick]
  · by_cases h1 : i = a + 1
    · subst h1; simp [vpick, beq_ne (show a ≠ a + 1 by omega)]
    · by_cases h2 : i = a + 2
      · subst h2; simp [vpick, beq_ne (show a ≠ a + 2 by omega), beq_ne (show a + 1 ≠ a + 2 by omega)]
      · rw [vpick_no _ _ _ (by simp only [List.mem_cons, List.not_mem_nil, or_false]; omega), if_neg h0, if_neg h1, if_neg h2]
theorem vrep_congr {is is2 : List Nat} {qs qs2 : va_W} : ∀ (P : va_W) (j : Nat), (∀ i w, j ≤ i → vpick i is qs w = vpick i is2 qs2 w) → vrep is qs j P = vrep is2 qs2 j P
  | [], _, _ => rfl
  | w :: P, j, h => by rw [vrep, vrep, h j w (Nat.le_refl j), vrep_congr P (j + 1) (fun i w hi => h i w (by omega))]
theorem pool_rep {G : Gx} {sa ca pa : Nat → Nat} {pk : Nat → Int64} {ky tm : Nat → Int32} {cn po : Nat → Nat → Int32} {L j : Nat} {pk9 : Int64} {ky9 tm9 : Int32} {cn9 po9 : Nat → Int32} : ∀ n, vrep [L + 3 * j, L + 3 * j + 1, L + 3 * j + 2] [(sa j, eO 5 [.long pk9, .ref (ca j), .ref (pa j), .int ky9, .int tm9]), (ca j, eI G 40 cn9), (pa j, eI G 40 po9)] L (hpool G sa ca pa pk ky tm cn po n) = hpool G sa ca pa (va_up pk j pk9) (va_up ky j ky9) (va_up tm j tm9) (va_up cn j cn9) (va_up po j po9) n
  | 0 => by rw [hpool, hpool]; rfl
  | n + 1 => by
    rw [hpool, hpool, vrep_app, hpool_len, pool_rep n]
    refine congrArg (hpool G sa ca pa (va_up pk j pk9) (va_up ky j ky9) (va_up tm j tm9) (va_up cn j cn9) (va_up po j po9) n ++ ·) ?_
    simp only [vrep, vpick3]
    by_cases e : n = j
    · subst e
      simp [va_up]
      try omega
    · simp only [va_up, if_neg e]
      rw [if_neg (by omega), if_neg (by omega), if_neg (by omega), if_neg (by omega), if_neg (by omega), if_neg (by omega), if_neg (by omega), if_neg (by omega), if_neg (by omega)]
theorem pool_set {G : Gx} {sa ca pa : Nat → Nat} {pk : Nat → Int64} {ky tm : Nat → Int32} {cn po : Nat → Nat → Int32} {X X2 wc2 : va_W} {is1 : List Nat} {L j : Nat} {pk9 : Int64} {ky9 tm9 : Int32} {cn9 po9 : Nat → Int32} (hX : X.length = L) (hb : is1.all (fun i => decide (i < L)) = true) (hl : is1.length = wc2.length) (h2 : vset X is1 wc2 = X2) : vset (X ++ hpool G sa ca pa pk ky tm cn po 100) (is1 ++ [L + 3 * j, L + 3 * j + 1, L + 3 * j + 2]) (wc2 ++ [(sa j, eO 5 [.long pk9, .ref (ca j), .ref (pa j), .int ky9, .int tm9]), (ca j, eI G 40 cn9), (pa j, eI G 40 po9)]) = X2 ++ hpool G sa ca pa (va_up pk j pk9) (va_up ky j ky9) (va_up tm j tm9) (va_up cn j cn9) (va_up po j po9) 100 := by
  have hlt : ∀ i ∈ is1, i < L := fun i hi => of_decide_eq_true (List.all_eq_true.mp hb i hi)
  unfold vset at h2 ⊢
  rw [vrep_app, Nat.zero_add, hX]
  have e1 : vrep (is1 ++ [L + 3 * j, L + 3 * j + 1, L + 3 * j + 2]) (wc2 ++ [(sa j, eO 5 [.long pk9, .ref (ca j), .ref (pa j), .int ky9, .int tm9]), (ca j, eI G 40 cn9), (pa j, eI G 40 po9)]) 0 X = X2 := by
    rw [← h2]
    have key : ∀ (Y : va_W) (a : Nat), a + Y.length = L → vrep (is1 ++ [L + 3 * j, L + 3 * j + 1, L + 3 * j + 2]) (wc2 ++ [(sa j, eO 5 [.long pk9, .ref (ca j), .ref (pa j), .int ky9, .int tm9]), (ca j, eI G 40 cn9), (pa j, eI G 40 po9)]) a Y = vrep is1 wc2 a Y := by
      intro Y
      induction Y with
      | nil => intro a _; rfl
      | cons y Y ih =>
        intro a ha
        simp only [List.length_cons] at ha
        rw [vrep, vrep, ih (a + 1) (by omega)]
        refine congrArg (· :: _) ?_
        have gen : ∀ (is1 : List Nat) (q1 : va_W), is1.length = q1.length → vpick a (is1 ++ [L + 3 * j, L + 3 * j + 1, L + 3 * j + 2]) (q1 ++ [(sa j, eO 5 [.long pk9, .ref (ca j), .ref (pa j), .int ky9, .int tm9]), (ca j, eI G 40 cn9), (pa j, eI G 40 po9)]) y = vpick a is1 q1 y := by
          intro is1
          induction is1 with
          | nil =>
            intro q1 hq
            cases q1 with
            | nil =>
              show vpick a [L + 3 * j, L + 3 * j + 1, L + 3 * j + 2] [(sa j, eO 5 [.long pk9, .ref (ca j), .ref (pa j), .int ky9, .int tm9]), (ca j, eI G 40 cn9), (pa j, eI G 40 po9)] y = _
              rw [vpick_no _ _ _ (by simp only [List.mem_cons, List.not_mem_nil, or_false]; omega)]
              simp [vpick]
            | cons _ _ => simp at hq
          | cons i is1 ih2 =>
            intro q1 hq
            cases q1 with
            | nil => simp at hq
            | cons q q1 =>
              simp only [List.cons_append, vpick]
              cases Nat.beq i a with
              | true => rfl
              | false => exact ih2 q1 (by simpa using hq)
        exact gen is1 wc2 hl
    exact key X 0 (by omega)
  rw [e1]
  refine congrArg (X2 ++ ·) ?_
  rw [← pool_rep 100]
  refine vrep_congr _ _ (fun i w hi => ?_)
  exact vpick_skip is1 _ wc2 _ w (fun hm => by have := hlt i hm; omega) hl
theorem vset_same {ws wc : va_W} {is : List Nat} (hc : is.map (fun i => ws[i]?) = wc.map some) : vset ws is wc = ws := by
  have hl : is.length = wc.length := by have := congrArg List.length hc; simpa using this
  apply List.ext_getElem?
  intro j
  rw [vset, vrep_get, Nat.zero_add]
  cases hw : ws[j]? with
  | none => rfl
  | some w =>
    show some (vpick j is wc w) = some w
    rcases vpick_at j is wc w hl with ⟨k, h1, h2⟩ | ⟨h1, h2⟩
    · have e1 : (is.map (fun i => ws[i]?))[k]? = some (some w) := by rw [List.getElem?_map, h1]; simp [hw]
      rw [hc, List.getElem?_map, h2] at e1
      exact Option.some.inj e1
    · rw [h2]
theorem pool_ref {sa : Nat → Nat} {i : Int32} : (fun i => some (sa i) : Nat → Option Nat) i.toNatClampNeg = some (sa i.toNatClampNeg) := rfl
