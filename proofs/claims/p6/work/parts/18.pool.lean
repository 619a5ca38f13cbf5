/-! the history's pool of 100 States, at the end of a world -/
def hpool (G : Gx) (sa ca pa : Nat → Nat) (pk : Nat → Int64) (ky tm : Nat → Int32) (cn po : Nat → Nat → Int32) : Nat → va_W
  | 0 => []
  | n + 1 => hpool G sa ca pa pk ky tm cn po n ++ [(sa n, eO 5 [.long (pk n), .ref (ca n), .ref (pa n), .int (ky n), .int (tm n)]), (ca n, eI G 40 (cn n)), (pa n, eI G 40 (po n))]
termination_by n => n
theorem hpool_len (G : Gx) (sa ca pa : Nat → Nat) (pk : Nat → Int64) (ky tm : Nat → Int32) (cn po : Nat → Nat → Int32) : ∀ n, (hpool G sa ca pa pk ky tm cn po n).length = 3 * n
  | 0 => by rw [hpool]; rfl
  | n + 1 => by rw [hpool, List.length_append, hpool_len G sa ca pa pk ky tm cn po n]; simp; omega
theorem hpool_get (G : Gx) (sa ca pa : Nat → Nat) (pk : Nat → Int64) (ky tm : Nat → Int32) (cn po : Nat → Nat → Int32) : ∀ n i, i < n →
    (hpool G sa ca pa pk ky tm cn po n)[3 * i]? = some (sa i, eO 5 [.long (pk i), .ref (ca i), .ref (pa i), .int (ky i), .int (tm i)]) ∧
    (hpool G sa ca pa pk ky tm cn po n)[3 * i + 1]? = some (ca i, eI G 40 (cn i)) ∧ (hpool G sa ca pa pk ky tm cn po n)[3 * i + 2]? = some (pa i, eI G 40 (po i))
  | 0, i, h => absurd h (Nat.not_lt_zero i)
  | n + 1, i, h => by
    have hl := hpool_len G sa ca pa pk ky tm cn po n
    rw [hpool]
    by_cases e : i = n
    · subst e
      refine ⟨?_, ?_, ?_⟩
      · rw [List.getElem?_append_right (by omega), hl, Nat.sub_self]; rfl
      · rw [List.getElem?_append_right (by omega), hl, Nat.add_sub_cancel_left]; rfl
      · rw [List.getElem?_append_right (by omega), hl, Nat.add_sub_cancel_left]; rfl
    · have ih := hpool_get G sa ca pa pk ky tm cn po n i (by omega)
      refine ⟨?_, ?_, ?_⟩
      · rw [List.getElem?_append_left (by omega)]; exact ih.1
      · rw [List.getElem?_append_left (by omega)]; exact ih.2.1
      · rw [List.getElem?_append_left (by omega)]; exact ih.2.2
theorem hpool_congr (G : Gx) {sa ca pa sa' ca' pa' : Nat → Nat} {pk pk' : Nat → Int64} {ky tm ky' tm' : Nat → Int32} {cn po cn' po' : Nat → Nat → Int32} : ∀ n, (∀ j, j < n → sa j = sa' j ∧ ca j = ca' j ∧ pa j = pa' j ∧ pk j = pk' j ∧ ky j = ky' j ∧ tm j = tm' j ∧ cn j = cn' j ∧ po j = po' j) → hpool G sa ca pa pk ky tm cn po n = hpool G sa' ca' pa' pk' ky' tm' cn' po' n
  | 0, _ => by rw [hpool, hpool]
  | n + 1, h => by
    obtain ⟨h1, h2, h3, h4, h5, h6, h7, h8⟩ := h n (Nat.lt_succ_self n)
    rw [hpool, hpool, hpool_congr G n (fun j hj => h j (Nat.lt_succ_of_lt hj)), h1, h2, h3, h4, h5, h6, h7, h8]
theorem vrep_app (is : List Nat) (qs : va_W) : ∀ (X P : va_W) (j : Nat), vrep is qs j (X ++ P) = vrep is qs j X ++ vrep is qs (j + X.length) P
  | [], P, j => by simp [vrep]
  | x :: X, P, j => by
    simp only [List.cons_append, vrep, List.length_cons]
    rw [vrep_app is qs X P (j + 1), show j + 1 + X.length = j + (X.length + 1) by omega]
theorem vpick_no {j : Nat} : ∀ (is : List Nat) (qs : va_W) (w : Nat × va_E), j ∉ is → vpick j is qs w = w
  | [], _, w, _ => by simp [vpick]
  | _ :: _, [], w, _ => by simp [vpick]
  | i :: is, q :: qs, w, h => by
    simp only [List.mem_cons, not_or] at h
    have hb : Nat.beq i j = false := by
      cases hh : Nat.beq i j with
      | false => rfl
      | true => exact absurd (Nat.eq_of_beq_eq_true hh).symm h.1
    have hv : vpick j (i :: is) (q :: qs) w = vpick j is qs w := by simp [vpick, hb]
    rw [hv, vpick_no is qs w h.2]
theorem vrep_no (is : List Nat) (qs : va_W) : ∀ (P : va_W) (j : Nat), (∀ i ∈ is, i < j) → vrep is qs j P = P
  | [], j, _ => rfl
  | w :: P, j, h => by
    rw [vrep, vrep_no is qs P (j + 1) (fun i hi => Nat.lt_succ_of_lt (h i hi)), vpick_no is qs w (fun hj => Nat.lt_irrefl j (h j hj))]
theorem vset_app {X P X2 : va_W} {is : List Nat} {qs : va_W} (N : Nat) (hX : X.length = N) (hb : is.all (fun i => decide (i < N)) = true) (h : vset X is qs = X2) : vset (X ++ P) is qs = X2 ++ P := by
  have hlt : ∀ i ∈ is, i < X.length := fun i hi => by
    have := List.all_eq_true.mp hb i hi
    rw [hX]; exact of_decide_eq_true this
  unfold vset at h ⊢
  rw [vrep_app, h, Nat.zero_add, vrep_no is qs P X.length hlt]
theorem vmap_app {X P wc : va_W} {is : List Nat} (N : Nat) (hX : X.length = N) (hb : is.all (fun i => decide (i < N)) = true) (h : is.map (fun i => X[i]?) = wc.map some) : is.map (fun i => (X ++ P)[i]?) = wc.map some := by
  rw [← h]
  refine List.map_congr_left (fun i hi => ?_)
  have := List.all_eq_true.mp hb i hi
  exact List.getElem?_append_left (by rw [hX]; exact of_decide_eq_true this)
theorem vset_last (A : va_W) (x y : Nat × va_E) : vset (A ++ [x]) [A.length] [y] = A ++ [y] := by
  have hA : ∀ (B : va_W) (j : Nat), j + B.length = A.length → vrep [A.length] [y] j B = B := by
    intro B
    induction B with
    | nil => intro j _; rfl
    | cons b B ih =>
      intro j hj
      simp only [List.length_cons] at hj
      rw [vrep, ih (j + 1) (by omega), vpick_no _ _ _ (by simp only [List.mem_singleton]; omega)]
  unfold vset
  rw [vrep_app, Nat.zero_add, hA A 0 (by omega)]
  simp [vrep, vpick]
theorem vG_swap {G : Gx} {C : Cx} {k n pc : Nat} {lv : List (Nat × Value)} {st : List Value} {X P Y Z : va_W} (h : X ++ Y = Z) (K : vG G C k n pc lv st (Z ++ P)) : vG G C k n pc lv st ((X ++ P) ++ Y) :=
  vG_via (fun _ hp => by rw [← h]; exact hp.swap) (fun _ hd => by rw [← h]; exact hd.swap) K
