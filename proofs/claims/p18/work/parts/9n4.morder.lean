/-! orders on the reference's side -/
def DST : List Nat → Prop
  | [] => True
  | x :: l => x ∉ l ∧ DST l
set_option maxHeartbeats 400000 in
theorem DST_erase : ∀ (l : List Nat) (k x : Nat), DST l → l[k]? = some x → x ∉ l.eraseIdx k ∧ DST (l.eraseIdx k)
  | [], k, x, _, h => by cases h
  | y :: t, 0, x, hd, h => by
    have e : y = x := by injection h
    subst e
    exact hd
  | y :: t, k + 1, x, hd, h => by
    have h' : t[k]? = some x := h
    obtain ⟨a, b⟩ := DST_erase t k x hd.2 h'
    have xt : x ∈ t := List.mem_of_getElem? h'
    refine ⟨fun q => ?_, fun q => hd.1 (List.mem_of_mem_eraseIdx q), b⟩
    rcases List.mem_cons.mp q with w | w
    · rw [w] at xt; exact hd.1 xt
    · exact a w
set_option maxHeartbeats 400000 in
theorem DST_inj : ∀ (l : List Nat) (k i x : Nat), DST l → l[k]? = some x → l[i]? = some x → k = i
  | [], k, i, x, _, h, _ => by cases h
  | y :: t, 0, 0, x, hd, h, g => rfl
  | y :: t, 0, i + 1, x, hd, h, g => by
    have e : y = x := by injection h
    have g' : t[i]? = some x := g
    rw [← e] at g'
    exact absurd (List.mem_of_getElem? g') hd.1
  | y :: t, k + 1, 0, x, hd, h, g => by
    have e : y = x := by injection g
    have h' : t[k]? = some x := h
    rw [← e] at h'
    exact absurd (List.mem_of_getElem? h') hd.1
  | y :: t, k + 1, i + 1, x, hd, h, g => by
    have := DST_inj t k i x hd.2 h g
    omega
set_option maxHeartbeats 400000 in
theorem DST_snoc : ∀ (l : List Nat) (x : Nat), DST l → x ∉ l → DST (l ++ [x])
  | [], x, _, _ => ⟨List.not_mem_nil, trivial⟩
  | y :: t, x, h, n => by
    refine ⟨fun q => ?_, DST_snoc t x h.2 (fun q => n (List.mem_cons_of_mem _ q))⟩
    rcases List.mem_append.mp q with w | w
    · exact h.1 w
    · exact n (by rw [List.mem_singleton.mp w]; exact List.mem_cons_self ..)
set_option maxHeartbeats 400000 in
theorem DST_lst (D : Nat → Bool) : ∀ n, DST (lst D n)
  | 0 => trivial
  | n + 1 => by
    unfold lst
    by_cases z : D n = true
    · rw [if_pos z]
      exact DST_snoc _ _ (DST_lst D n) (fun q => by have := ((lst_mem D n n).mp q).1; omega)
    · rw [if_neg z]; exact DST_lst D n
set_option maxHeartbeats 400000 in
theorem sqM_s {α : Type} (n : Nat) (l : List α) (p : Nat) (x : α) (h : l[p / fct n]? = some x) : sqM (n + 1) l p = x :: sqM n (l.eraseIdx (p / fct n)) (p % fct n) := by
  show (match l[p / fct n]? with
    | none => []
    | some x => x :: sqM n (l.eraseIdx (p / fct n)) (p % fct n)) = _
  rw [h]
set_option maxHeartbeats 400000 in
theorem fct_pos (n : Nat) : 0 < fct n := by
  induction n with
  | zero => decide
  | succ n ih => exact Nat.mul_pos (Nat.succ_pos n) ih
set_option maxHeartbeats 400000 in
theorem sqM_DST : ∀ (n : Nat) (l : List Nat) (p : Nat), DST l → l.length = n → p < fct n → DST (sqM n l p)
  | 0, l, p, _, _, _ => trivial
  | n + 1, l, p, hd, h, hp => by
    have hk : p / fct n < l.length := by
      rw [h]
      exact Nat.div_lt_of_lt_mul (by rw [Nat.mul_comm]; exact hp)
    have e : l[p / fct n]? = some l[p / fct n] := List.getElem?_eq_getElem hk
    have d := DST_erase l _ _ hd e
    have el : (l.eraseIdx (p / fct n)).length = n := by rw [List.length_eraseIdx_of_lt hk]; omega
    rw [sqM_s n l p _ e]
    exact ⟨fun q => d.1 (((sqM_ok n _ _ el (Nat.mod_lt _ (fct_pos n))).2 _).mp q), sqM_DST n _ _ d.2 el (Nat.mod_lt _ (fct_pos n))⟩
set_option maxHeartbeats 400000 in
theorem lst_all {D : Nat → Bool} : ∀ n, (∀ k, k < n → D k = true) → lst D n = List.range n
  | 0, _ => rfl
  | n + 1, h => by
    unfold lst
    rw [if_pos (h n (by omega)), lst_all n (fun k hk => h k (by omega)), List.range_succ]
set_option maxHeartbeats 400000 in
theorem getD_of {l : List Nat} {k x : Nat} (h : l[k]? = some x) : l.getD k 0 = x := by
  rw [List.getD_eq_getElem?_getD, h]
  rfl
set_option maxHeartbeats 400000 in
theorem getD_at {l : List Nat} {k : Nat} (h : k < l.length) : l[k]? = some (l.getD k 0) := by
  rw [List.getD_eq_getElem?_getD, List.getElem?_eq_getElem h]
  rfl
/-! the reference arranges them -/
def uZ (u : Nat → Int32) (k : Nat) : Bool := decide (u k = 0)
set_option maxHeartbeats 400000 in
theorem m_arr_76 (k28 : Int32 → Int32 → Int32 → (Nat → Int32) → (Nat → Int32) → Option ((Nat → Int32) × (Nat → Int32))) (c_due : Nat → Int32) (n9 j : Nat) (u0 : Nat → Int32) (hj : j < cntF (uZ u0) n9) (h4 : n9 ≤ 4) {Q} : ∀ (n : Nat) (x2 : Int32) (x3 : Int32) (x4 : Int32) (x6 : Int32) (x7 : Int32) (c_order : Nat → Int32) (c_used : Nat → Int32) (v : Nat), c_used = u0 → x7.toInt = v → v ≤ n9 → 0 ≤ x6.toInt → x6.toInt + cntF (uZ u0) v = j → (∀ q, q < n9 → (lst (uZ u0) n9)[j]? = some q → Pc (k28 x2 x3 (x4 + 1) (upd c_order x4.toNatClampNeg (c_due q)) (upd u0 q 1)) Q) → Pc (f_X11_arrange_76 k28 c_due n x2 x3 x4 x6 x7 c_order c_used) Q
  | 0, x2, x3, x4, x6, x7, c_order, c_used, v, e0, h1, h2, h3, h5, hk => pc_none
  | n + 1, x2, x3, x4, x6, x7, c_order, c_used, v, e0, h1, h2, h3, h5, hk => by
    unfold f_X11_arrange_76 f_X11_arrange_91 f_X11_arrange_104
    subst e0
    have vn : v < n9 := by
      rcases Nat.lt_or_ge v n9 with q | q
      · exact q
      · have : v = n9 := by omega
        rw [this] at h5
        omega
    have ev : x7.toNatClampNeg = v := by rw [tI_nat]; omega
    have e7 : (x7 + 1).toInt = ((v + 1 : Nat) : Int) := by ((try simp only [tI_lt, tI_le, tI_eq, tI_add, tI_sub, tI_mul, tI_nat, Int32.reduceToInt, Int.reduceToNat, fe_0, fe_1, fe_2, fe_3, fe_4, fe_5]) <;> (try simp (disch := omega) only [tI_bm]) <;> omega)
    have cs := cntF_s (uZ c_used) v
    refine pc_bad (fun _ => ?_)
    rw [ev]
    have skip : ¬ c_used v = 0 → Pc (f_X11_arrange_76 k28 c_due n x2 x3 x4 x6 (x7 + 1) c_order c_used) Q := fun z => by
      rw [if_neg (show ¬ uZ c_used v = true from fun w => z (of_decide_eq_true w))] at cs
      exact m_arr_76 k28 c_due n9 j c_used hj h4 n _ _ _ _ _ _ _ (v + 1) rfl e7 (by omega) h3 (by rw [cs]; exact h5) hk
    refine pc_if (fun z => pc_if (fun y => ?_) (fun y => ?_)) (fun z => pc_bad (fun _ => pc_if (fun w => absurd w z) (fun _ => pc_vlet (skip z))))
    · rw [tI_le, l_0] at y
      refine pc_bad (fun _ => pc_vlet (pc_bad (fun _ => pc_vlet (pc_bad (fun _ => pc_vlet (pc_vlet ?_))))))
      rw [nar1]
      have at9 := lst_at (uZ c_used) v (decide_eq_true z) n9 vn
      rw [show cntF (uZ c_used) v = j by omega] at at9
      exact hk v vn at9
    · rw [tI_le, l_0] at y
      rw [if_pos (show uZ c_used v = true from decide_eq_true z)] at cs
      have f6 : (0 : Int) ≤ x6.toInt - 1 := by omega
      have f8 : x6.toInt - 1 + ((cntF (uZ c_used) (v + 1) : Nat) : Int) = j := by
        rw [cs]
        omega
      have f7 : v + 1 ≤ n9 := vn
      have e6 : (x6 + -1).toInt = x6.toInt - 1 := by
        have := tI_rng x6
        ((try simp only [tI_lt, tI_le, tI_eq, tI_add, tI_sub, tI_mul, tI_nat, Int32.reduceToInt, Int.reduceToNat, fe_0, fe_1, fe_2, fe_3, fe_4, fe_5]) <;> (try simp (disch := omega) only [tI_bm]) <;> omega)
      rw [← e6] at f6 f8
      refine pc_bad (fun _ => pc_if (fun _ => pc_vlet (pc_vlet ?_)) (fun w => absurd z w))
      exact m_arr_76 k28 c_due n9 j c_used hj h4 n _ _ _ _ _ _ _ (v + 1) rfl e7 f7 f6 f8 hk
set_option maxHeartbeats 400000 in
theorem m_arr_28 (c_due : Nat → Int32) (n9 : Nat) (h4 : n9 ≤ 4) (dl : List Nat) (hdl : ∀ k, k < n9 → (c_due k).toInt = dl.getD k 0) (L : List Nat) (hL : L.length = n9) : ∀ (n : Nat) (x2 : Int32) (x3 : Int32) (x4 : Int32) (c_order : Nat → Int32) (c_used : Nat → Int32) (i p : Nat), x2.toInt = n9 → x3.toInt = p → x4.toInt = i → i ≤ n9 → p < fct (n9 - i) → (lst (uZ c_used) n9).length = n9 - i → L.drop i = (sqM (n9 - i) (lst (uZ c_used) n9) p).map (fun k => dl.getD k 0) → (∀ k, k < i → (c_order k).toInt = L.getD k 0) → Pc (f_X11_arrange_28 c_due n x2 x3 x4 c_order c_used) (fun r => ∀ k, k < n9 → (r.1 k).toInt = L.getD k 0)
  | 0, x2, x3, x4, c_order, c_used, i, p, h1, h2, h3, h5, h6, h7, h8, h9 => pc_none
  | n + 1, x2, x3, x4, c_order, c_used, i, p, h1, h2, h3, h5, h6, h7, h8, h9 => by
    unfold f_X11_arrange_28
    refine pc_if (fun a => pc_some (fun k hk => h9 k ?_)) (fun a => ?_)
    · rw [tI_le] at a; omega
    rw [tI_le] at a
    obtain ⟨j, ej⟩ : ∃ j, n9 - i = j + 1 := ⟨n9 - i - 1, by omega⟩
    have e4 : (x4 + 1).toInt = ((i + 1 : Nat) : Int) := by ((try simp only [tI_lt, tI_le, tI_eq, tI_add, tI_sub, tI_mul, tI_nat, Int32.reduceToInt, Int.reduceToNat, fe_0, fe_1, fe_2, fe_3, fe_4, fe_5]) <;> (try simp (disch := omega) only [tI_bm]) <;> omega)
    have es : (x2 - x4).toInt = ((j + 1 : Nat) : Int) := by
      have : (x2 - x4).toInt = x2.toInt - x4.toInt := by ((try simp only [tI_lt, tI_le, tI_eq, tI_add, tI_sub, tI_mul, tI_nat, Int32.reduceToInt, Int.reduceToNat, fe_0, fe_1, fe_2, fe_3, fe_4, fe_5]) <;> (try simp (disch := omega) only [tI_bm]) <;> omega)
      omega
    have ei : x4.toNatClampNeg = i := by rw [tI_nat]; omega
    have go : ∀ y0 : Int32, y0.toInt = fct j → Pc (f_X11_arrange_60 (f_X11_arrange_28 c_due n) c_due x2 x3 x4 y0 c_order c_used) (fun r => ∀ k, k < n9 → (r.1 k).toInt = L.getD k 0) := by
      intro y0 hy
      have fp := fct_pos j
      unfold f_X11_arrange_60
      have ed : (x3 / y0).toInt = ((p / fct j : Nat) : Int) := by
        rw [tI_div (by omega) (by omega), h2, hy]
        exact (Int.natCast_ediv _ _).symm
      have em : (xrem x3 y0).toInt = ((p % fct j : Nat) : Int) := by
        rw [tI_rem (by omega) (by omega), h2, hy]
        exact (Int.natCast_emod _ _).symm
      rw [ej] at h6
      have hj : p / fct j < j + 1 := Nat.div_lt_of_lt_mul (by rw [Nat.mul_comm]; exact h6)
      refine pc_if (fun _ => pc_none) (fun _ => pc_vlet (pc_if (fun _ => pc_none) (fun _ => pc_vlet ?_)))
      refine m_arr_76 (f_X11_arrange_28 c_due n) c_due n9 (p / fct j) c_used (by rw [← lst_len, h7, ej]; exact hj) h4 FU _ _ _ _ _ _ _ 0 rfl (by decide) (Nat.zero_le _) (by rw [ed]; exact Int.natCast_nonneg _) (by rw [ed]; show ((p / fct j : Nat) : Int) + ((0 : Nat) : Int) = _; omega) (fun q hq hqa => ?_)
      have le := lst_erase (uZ c_used) q n9 _ hqa
      have l2 : lst (uZ (upd c_used q 1)) n9 = (lst (uZ c_used) n9).eraseIdx (p / fct j) := by
        rw [← le]
        refine lst_cg n9 (fun k hk => ?_)
        unfold uZ
        rw [upd_at]
        by_cases z : k = q
        · rw [if_pos z, decide_eq_true z, decide_eq_false (by decide), Bool.not_true, Bool.and_false]
        · rw [if_neg z, decide_eq_false z, Bool.not_false, Bool.and_true]
      have sq := sqM_s j (lst (uZ c_used) n9) p q hqa
      rw [ej, sq] at h8
      have h8' : L.drop i = dl.getD q 0 :: (sqM j ((lst (uZ c_used) n9).eraseIdx (p / fct j)) (p % fct j)).map (fun k => dl.getD k 0) := h8
      have nd : n9 - (i + 1) = j := by omega
      have dr : L.drop (i + 1) = (sqM j ((lst (uZ c_used) n9).eraseIdx (p / fct j)) (p % fct j)).map (fun k => dl.getD k 0) := by
        rw [← List.drop_drop, h8']
        rfl
      have ld : L[i]? = some (dl.getD q 0) := by
        have := congrArg (fun z => z[0]?) h8'
        rw [List.getElem?_drop] at this
        exact this
      refine m_arr_28 c_due n9 h4 dl hdl L hL n _ _ _ _ _ (i + 1) (p % fct j) h1 em e4 (by omega) (by rw [nd]; exact Nat.mod_lt _ fp) (by rw [nd, l2, List.length_eraseIdx_of_lt (by rw [h7, ej]; exact hj), h7]; omega) (by rw [nd, l2, dr]) (fun k hk => ?_)
      rw [ei, upd_at]
      by_cases z : k = i
      · rw [if_pos z, hdl q hq, z, getD_of ld]
      · rw [if_neg z]; exact h9 k (by omega)
    have j3 : j ≤ 3 := by omega
    refine pc_if (fun z => ?_) (fun z => pc_if (fun y => ?_) (fun y => ?_))
    · have : j = 3 := by rw [z] at es; have : (4 : Int) = ((j + 1 : Nat) : Int) := es; omega
      exact go 6 (by rw [this]; decide)
    · have : j = 2 := by rw [y] at es; have : (3 : Int) = ((j + 1 : Nat) : Int) := es; omega
      exact go 2 (by rw [this]; decide)
    · have n3 : j ≠ 3 := fun w => z (Int32.toInt_inj.mp (by rw [es, w]; decide))
      have n2 : j ≠ 2 := fun w => y (Int32.toInt_inj.mp (by rw [es, w]; decide))
      have : j = 0 ∨ j = 1 := by omega
      rcases this with w | w <;> exact go 1 (by rw [w]; decide)
set_option maxHeartbeats 400000 in
theorem m_arr_5 (c_due : Nat → Int32) (n9 p : Nat) (h4 : n9 ≤ 4) (dl : List Nat) (hdn : dl.length = n9) (hdl : ∀ k, k < n9 → (c_due k).toInt = dl.getD k 0) (hp : p < fct n9) : ∀ (n : Nat) (x2 : Int32) (x3 : Int32) (x4 : Int32) (c_order : Nat → Int32) (c_used : Nat → Int32) (i : Nat), x2.toInt = n9 → x3.toInt = p → x4.toInt = i → i ≤ n9 → (∀ k, k < i → c_used k = 0) → Pc (f_X11_arrange_5 c_due n x2 x3 x4 c_order c_used) (fun r => ∀ k, k < n9 → (r.1 k).toInt = (sqM n9 dl p).getD k 0)
  | 0, x2, x3, x4, c_order, c_used, i, h1, h2, h3, h5, h6 => pc_none
  | n + 1, x2, x3, x4, c_order, c_used, i, h1, h2, h3, h5, h6 => by
    unfold f_X11_arrange_5
    refine pc_if (fun a => ?_) (fun a => ?_)
    · rw [tI_le] at a
      have : i = n9 := by omega
      subst this
      have al : lst (uZ c_used) i = List.range i := lst_all i (fun k hk => decide_eq_true (h6 k hk))
      have el : sqM i dl p = (sqM i (List.range i) p).map (fun k => dl.getD k 0) := by
        rw [← sqM_map]
        have := range_map dl
        rw [hdn] at this
        rw [this]
      exact m_arr_28 c_due i h4 dl hdl (sqM i dl p) (sqM_ok i dl p hdn hp).1 FU x2 x3 0 c_order c_used 0 p h1 h2 (by decide) (Nat.zero_le _) hp (by rw [al, List.length_range]; rfl) (by rw [al]; exact el) (fun k hk => absurd hk (Nat.not_lt_zero _))
    · rw [tI_le] at a
      have ei : x4.toNatClampNeg = i := by rw [tI_nat]; omega
      have e4 : (x4 + 1).toInt = ((i + 1 : Nat) : Int) := by ((try simp only [tI_lt, tI_le, tI_eq, tI_add, tI_sub, tI_mul, tI_nat, Int32.reduceToInt, Int.reduceToNat, fe_0, fe_1, fe_2, fe_3, fe_4, fe_5]) <;> (try simp (disch := omega) only [tI_bm]) <;> omega)
      refine pc_bad (fun _ => pc_vlet (pc_vlet ?_))
      rw [ei, nar0]
      refine m_arr_5 c_due n9 p h4 dl hdn hdl hp n _ _ _ _ _ (i + 1) h1 h2 e4 (by omega) (fun k hk => ?_)
      rw [upd_at]
      by_cases z : k = i
      · rw [if_pos z]
      · rw [if_neg z]; exact h6 k (by omega)
set_option maxHeartbeats 400000 in
theorem m_arrange (x1 : Int32) (x2 : Int32) (c_due : Nat → Int32) (c_order : Nat → Int32) (c_used : Nat → Int32) (n9 p : Nat) (h4 : n9 ≤ 4) (dl : List Nat) (hdn : dl.length = n9) (hdl : ∀ k, k < n9 → (c_due k).toInt = dl.getD k 0) (hp : p < fct n9) (h1 : x1.toInt = p) (h2 : x2.toInt = n9) : Pc (f_X11_arrange x1 x2 c_due c_order c_used) (fun r => ∀ k, k < n9 → (r.1 k).toInt = (sqM n9 dl p).getD k 0) := by
  unfold f_X11_arrange
  exact m_arr_5 c_due n9 p h4 dl hdn hdl hp FU x2 x1 0 c_order c_used 0 h2 h1 (by decide) (Nat.zero_le _) (fun k hk => absurd hk (Nat.not_lt_zero _))
