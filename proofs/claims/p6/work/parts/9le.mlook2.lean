/-! the reference's groups -/
def rt (j : Nat → Nat) (x : Nat) : Nat := if h : j x < x then rt j (j x) else x
termination_by x
set_option maxHeartbeats 400000 in
theorem rt_s {j : Nat → Nat} {x : Nat} (h : j x < x) : rt j x = rt j (j x) := by rw [rt, dif_pos h]
set_option maxHeartbeats 400000 in
theorem rt_n {j : Nat → Nat} {x : Nat} (h : ¬ j x < x) : rt j x = x := by rw [rt, dif_neg h]
set_option maxHeartbeats 400000 in
theorem rt_le (j : Nat → Nat) : ∀ x, rt j x ≤ x := by
  intro x
  induction x using Nat.strongRecOn with
  | ind x ih =>
    by_cases h : j x < x
    · rw [rt_s h]; have := ih (j x) h; omega
    · rw [rt_n h]; exact Nat.le_refl _
set_option maxHeartbeats 400000 in
theorem rt_fix (j : Nat → Nat) : ∀ x, ¬ j (rt j x) < rt j x := by
  intro x
  induction x using Nat.strongRecOn with
  | ind x ih =>
    by_cases h : j x < x
    · rw [rt_s h]; exact ih (j x) h
    · rw [rt_n h]; exact h
set_option maxHeartbeats 400000 in
theorem rt_id (j : Nat → Nat) (x : Nat) : rt j (rt j x) = rt j x := rt_n (rt_fix j x)
set_option maxHeartbeats 400000 in
theorem rt_un (j : Nat → Nat) (M m : Nat) (hM : rt j M = M) (hm : rt j m = m) (h : m < M) : ∀ z, rt (fun k => if k = M then m else j k) z = if rt j z = M then m else rt j z := by
  intro z
  induction z using Nat.strongRecOn with
  | ind z ih =>
    by_cases e : z = M
    · have s : (fun k => if k = M then m else j k) z < z := by show (if z = M then m else j z) < z; rw [if_pos e]; omega
      rw [rt_s s]
      have v : (if z = M then m else j z) = m := if_pos e
      rw [v, ih m (by omega), hm, if_neg (by omega), e, hM, if_pos rfl]
    · have v : (if z = M then m else j z) = j z := if_neg e
      by_cases s : j z < z
      · rw [rt_s (j := fun k => if k = M then m else j k) (by show (if z = M then m else j z) < z; rw [v]; exact s), v, ih (j z) s, rt_s s]
      · rw [rt_n (j := fun k => if k = M then m else j k) (by show ¬ (if z = M then m else j z) < z; rw [v]; exact s), rt_n s, if_neg e]
def jn (c : Nat → Int32) (e : Nat) : Nat := if e < 954 then (c e).toInt.toNat else e
set_option maxHeartbeats 400000 in
theorem jn_at {c : Nat → Int32} {e : Nat} (h : e < 954) : jn c e = (c e).toInt.toNat := if_pos h
def nuM (σ : Nat) (netOf : Nat → Int32) (e : Nat) : Nat := (netOf (954 * σ + e)).toInt.toNat
set_option maxHeartbeats 400000 in
theorem m_group_16 (c_side : Int32) (c_netOf : Nat → Int32) (c_joined : Nat → Int32) (hJ : JI c_joined) : ∀ (n : Nat) (x2 : Int32), 0 ≤ x2.toInt → x2.toInt < 954 → Pc (f_X11_groupOf_16 c_side c_netOf c_joined n x2) (fun r => r.toInt = rt (jn c_joined) x2.toInt.toNat)
  | 0, x2, h1, h2 => pc_none
  | n + 1, x2, h1, h2 => by
    unfold f_X11_groupOf_16
    have hj := hJ x2.toInt.toNat (by omega)
    have ea : jn c_joined x2.toInt.toNat = (c_joined x2.toInt.toNat).toInt.toNat := jn_at (by omega)
    refine pc_bad (fun _ => ?_)
    rw [tI_nat]
    refine pc_if (fun a => pc_some ?_) (fun a => pc_bad (fun _ => pc_vlet ?_))
    · rw [rt_n (by rw [ea, a]; exact Nat.lt_irrefl _)]; omega
    · have a2 : ¬ (c_joined x2.toInt.toNat).toInt = x2.toInt := fun q => a (Int32.toInt_inj.mp q)
      refine pc_mono (m_group_16 c_side c_netOf c_joined hJ n _ hj.1 (by omega)) (fun r hr => ?_)
      rw [hr, rt_s (j := jn c_joined) (x := x2.toInt.toNat) (by rw [ea]; omega), ea]
set_option maxHeartbeats 400000 in
theorem m_group {σ : Nat} (x1 : Int32) (c_side : Int32) (c_netOf : Nat → Int32) (c_joined : Nat → Int32) (hs : c_side.toInt = (σ : Int)) (hσ : σ ≤ 1) (hO : ∀ e : Nat, e < 954 → 0 ≤ (c_netOf (954 * σ + e)).toInt ∧ (c_netOf (954 * σ + e)).toInt < 954) (hJ : JI c_joined) (e : Nat) (hx : x1.toInt = e) (he : e < 954) : Pc (f_X11_groupOf x1 c_side c_netOf c_joined) (fun r => r.toInt = rt (jn c_joined) (nuM σ c_netOf e)) := by
  unfold f_X11_groupOf
  have b : (954 * c_side + x1).toNatClampNeg = 954 * σ + e := by
    have : (954 * c_side + x1).toInt = 954 * σ + e := by ((try simp only [tI_lt, tI_le, tI_eq, tI_add, tI_sub, tI_mul, tI_nat, Int32.reduceToInt, Int.reduceToNat, fe_0, fe_1, fe_2, fe_3, fe_4, fe_5]) <;> (try simp (disch := omega) only [tI_bm]) <;> omega)
    rw [tI_nat]; omega
  rw [b]
  have o := hO e he
  exact pc_bad (fun _ => pc_vlet (m_group_16 c_side c_netOf c_joined hJ FU _ o.1 o.2))
def UFI (ν : Nat → Nat) (JL : PL) (j : Nat → Nat) : Prop := (∀ p ∈ JL, rt j (ν p.1) = rt j (ν p.2)) ∧ (∀ T : Nat → Prop, (∀ e f, e < 954 → f < 954 → ν e = ν f → T e → T f) → (∀ p ∈ JL, (T p.1 → T p.2) ∧ (T p.2 → T p.1)) → ∀ e f, e < 954 → f < 954 → rt j (ν e) = rt j (ν f) → T e → T f)
set_option maxHeartbeats 400000 in
theorem UFI_mem {ν : Nat → Nat} {J1 J2 : PL} {j : Nat → Nat} (h : UFI ν J1 j) (k : ∀ p, p ∈ J2 ↔ p ∈ J1) : UFI ν J2 j := ⟨fun p hp => h.1 p ((k p).mp hp), fun T h1 h2 => h.2 T h1 (fun p hp => h2 p ((k p).mpr hp))⟩
set_option maxHeartbeats 400000 in
theorem UFI_un {ν : Nat → Nat} {JL : PL} {j : Nat → Nat} (p : Nat × Nat) (hp : p.1 < 954 ∧ p.2 < 954) (h : UFI ν JL j) : (rt j (ν p.1) = rt j (ν p.2) → UFI ν (p :: JL) j) ∧ ∀ M m, m < M → ((rt j (ν p.1) = M ∧ rt j (ν p.2) = m) ∨ (rt j (ν p.1) = m ∧ rt j (ν p.2) = M)) → UFI ν (p :: JL) (fun k => if k = M then m else j k) := by
  obtain ⟨h1, h2⟩ := h
  constructor
  · intro e
    refine ⟨fun q hq => ?_, fun T t1 t2 => h2 T t1 (fun q hq => t2 q (List.mem_cons_of_mem _ hq))⟩
    rcases List.mem_cons.mp hq with z | z
    · rw [z]; exact e
    · exact h1 q z
  · intro M m hm hc
    have rM : rt j M = M := by
      rcases hc with ⟨a, -⟩ | ⟨-, a⟩ <;> rw [← a, rt_id]
    have rm : rt j m = m := by
      rcases hc with ⟨-, a⟩ | ⟨a, -⟩ <;> rw [← a, rt_id]
    have key := rt_un j M m rM rm hm
    refine ⟨fun q hq => ?_, fun T t1 t2 e f he hf hr ht => ?_⟩
    · rw [key, key]
      rcases List.mem_cons.mp hq with z | z
      · rw [z]
        rcases hc with ⟨a, b⟩ | ⟨a, b⟩ <;> rw [a, b]
        · rw [if_pos rfl, if_neg (by omega)]
        · rw [if_pos rfl, if_neg (by omega)]
      · rw [h1 q z]
    · rw [key, key] at hr
      have tp := t2 p (List.mem_cons_self ..)
      have old := h2 T t1 (fun q hq => t2 q (List.mem_cons_of_mem _ hq))
      by_cases z1 : rt j (ν e) = M
      · by_cases z2 : rt j (ν f) = M
        · exact old e f he hf (z1.trans z2.symm) ht
        · rw [if_pos z1, if_neg z2] at hr
          rcases hc with ⟨a, b⟩ | ⟨a, b⟩
          · exact old p.2 f hp.2 hf (by rw [b]; exact hr) (tp.1 (old e p.1 he hp.1 (by rw [a]; exact z1) ht))
          · exact old p.1 f hp.1 hf (by rw [a]; exact hr) (tp.2 (old e p.2 he hp.2 (by rw [b]; exact z1) ht))
      · by_cases z2 : rt j (ν f) = M
        · rw [if_neg z1, if_pos z2] at hr
          rcases hc with ⟨a, b⟩ | ⟨a, b⟩
          · exact old p.1 f hp.1 hf (by rw [a]; exact z2.symm) (tp.2 (old e p.2 he hp.2 (by rw [b]; exact hr) ht))
          · exact old p.2 f hp.2 hf (by rw [b]; exact z2.symm) (tp.1 (old e p.1 he hp.1 (by rw [a]; exact hr) ht))
        · rw [if_neg z1, if_neg z2] at hr
          exact old e f he hf hr ht
set_option maxHeartbeats 400000 in
theorem m_both {σ : Nat} {JL : PL} (p : Nat × Nat) (x1 : Int32) (x2 : Int32) (c_side : Int32) (c_netOf : Nat → Int32) (c_joined : Nat → Int32) (hs : c_side.toInt = (σ : Int)) (hσ : σ ≤ 1) (hO : ∀ e : Nat, e < 954 → 0 ≤ (c_netOf (954 * σ + e)).toInt ∧ (c_netOf (954 * σ + e)).toInt < 954) (hJ : JI c_joined) (h1 : x1.toInt = p.1) (h2 : x2.toInt = p.2) (hp : p.1 < 954 ∧ p.2 < 954) (h : UFI (nuM σ c_netOf) JL (jn c_joined)) : Pc (f_X11_both x1 x2 c_side c_netOf c_joined) (fun r => JI r ∧ UFI (nuM σ c_netOf) (p :: JL) (jn r)) := by
  refine pc_and (pc_ok (s_X11_both σ _ _ _ _ _ hs hσ hO hJ (by omega) (by omega))) ?_
  unfold f_X11_both
  obtain ⟨k1, k2⟩ := UFI_un p hp h
  refine pc_bind (m_group _ _ _ _ hs hσ hO hJ p.1 h1 hp.1) (fun r1 q1 => pc_bind (m_group _ _ _ _ hs hσ hO hJ p.2 h2 hp.2) (fun r2 q2 => pc_if (fun e => pc_some (k1 (by rw [e] at q1; omega))) (fun e => pc_vlet (pc_bad (fun b => pc_vlet (pc_some ?_))))))
  have ne : r1.toInt ≠ r2.toInt := fun z => e (Int32.toInt_inj.mp z)
  have upj : ∀ (M m : Nat) (v : Int32), M < 954 → v.toInt = m → jn (upd c_joined M v) = fun k => if k = M then m else jn c_joined k := by
    intro M m v hM hv
    funext k
    unfold jn
    by_cases z : k = M
    · rw [if_pos (by omega), upd_at, if_pos z, if_pos z]; omega
    · rw [if_neg z]
      by_cases y : k < 954
      · rw [if_pos y, if_pos y, upd_at, if_neg z]
      · rw [if_neg y, if_neg y]
  by_cases lt : r1.toInt < r2.toInt
  · have emx : xmax r1 r2 = r2 := by unfold xmax; rw [if_pos (by rw [tI_lt]; exact lt)]
    have emn : xmin r1 r2 = r1 := by unfold xmin; rw [if_neg (by rw [tI_lt]; omega)]
    rw [emx] at b ⊢
    rw [emn, upj _ (rt (jn c_joined) (nuM σ c_netOf p.1)) r1 (by rw [tI_nat]; omega) q1]
    refine k2 _ _ ?_ (.inr ⟨rfl, ?_⟩)
    · rw [tI_nat]; omega
    · rw [tI_nat]; omega
  · have emx : xmax r1 r2 = r1 := by unfold xmax; rw [if_neg (by rw [tI_lt]; exact lt)]
    have emn : xmin r1 r2 = r2 := by unfold xmin; rw [if_pos (by rw [tI_lt]; omega)]
    rw [emx] at b ⊢
    rw [emn, upj _ (rt (jn c_joined) (nuM σ c_netOf p.2)) r2 (by rw [tI_nat]; omega) q2]
    refine k2 _ _ ?_ (.inl ⟨?_, rfl⟩)
    · rw [tI_nat]; omega
    · rw [tI_nat]; omega
set_option maxHeartbeats 400000 in
theorem and1 (x : Int32) : x &&& 1 = 0 ∨ x &&& 1 = 1 := by
  have e : (x &&& 1).toBitVec.toNat = x.toBitVec.toNat % 2 := by
    rw [Int32.toBitVec_and, BitVec.toNat_and]
    exact Nat.and_two_pow_sub_one_eq_mod _ 1
  have : x.toBitVec.toNat % 2 = 0 ∨ x.toBitVec.toNat % 2 = 1 := by omega
  rcases this with q | q
  · exact .inl (Int32.toBitVec_inj.mp (BitVec.eq_of_toNat_eq (by rw [e, q]; rfl)))
  · exact .inr (Int32.toBitVec_inj.mp (BitVec.eq_of_toNat_eq (by rw [e, q]; rfl)))
def efM (σ : Nat) (bits stuck dusty state : Nat → Int32) (r c : Nat) : PL := if dusty (6 * r + c) = 0 then conE (mkb (bits (116 * σ + r)) c) (cntd stuck (state (80 + 6 * r + c)) (6 * r + c)) (20 * r + 3 * c + 4) else []
set_option maxHeartbeats 400000 in
theorem m_contact {σ : Nat} {JL : PL} (r c : Nat) (x1 : Int32) (x2 : Int32) (c_side : Int32) (c_kindBits : Nat → Int32) (c_netOf : Nat → Int32) (c_state : Nat → Int32) (c_stuck : Nat → Int32) (c_dusty : Nat → Int32) (c_joined : Nat → Int32) (hs : c_side.toInt = (σ : Int)) (hσ : σ ≤ 1) (hO : ∀ e : Nat, e < 954 → 0 ≤ (c_netOf (954 * σ + e)).toInt ∧ (c_netOf (954 * σ + e)).toInt < 954) (hJ : JI c_joined) (hr : x1.toInt = r) (hc : x2.toInt = c) (r40 : r < 40) (c6 : c < 6) (h : UFI (nuM σ c_netOf) JL (jn c_joined)) : Pc (f_X11_contact1 x1 x2 c_side c_kindBits c_netOf c_state c_stuck c_dusty c_joined) (fun q => JI q ∧ UFI (nuM σ c_netOf) (efM σ c_kindBits c_stuck c_dusty c_state r c ++ JL) (jn q)) := by
  unfold f_X11_contact1
  have ei : (6 * x1 + x2).toInt = ((6 * r + c : Nat) : Int) := by ((try simp only [tI_lt, tI_le, tI_eq, tI_add, tI_sub, tI_mul, tI_nat, Int32.reduceToInt, Int.reduceToNat, fe_0, fe_1, fe_2, fe_3, fe_4, fe_5]) <;> (try simp (disch := omega) only [tI_bm]) <;> omega)
  have e80 : (80 + (6 * x1 + x2)).toNatClampNeg = 80 + 6 * r + c := by
    have : (80 + (6 * x1 + x2)).toInt = 80 + 6 * r + c := by ((try simp only [tI_lt, tI_le, tI_eq, tI_add, tI_sub, tI_mul, tI_nat, Int32.reduceToInt, Int.reduceToNat, fe_0, fe_1, fe_2, fe_3, fe_4, fe_5]) <;> (try simp (disch := omega) only [tI_bm]) <;> omega)
    rw [tI_nat]; omega
  have ein : (6 * x1 + x2).toNatClampNeg = 6 * r + c := by rw [tI_nat]; omega
  have go : ∀ y0 : Int32, y0.toInt = cntd c_stuck (c_state (80 + 6 * r + c)) (6 * r + c) → c_dusty (6 * r + c) = 0 → Pc (f_X11_contact1_45 c_side c_kindBits c_netOf c_state c_stuck c_dusty x1 x2 y0 c_joined) (fun q => JI q ∧ UFI (nuM σ c_netOf) (efM σ c_kindBits c_stuck c_dusty c_state r c ++ JL) (jn q)) := by
    intro y0 hy hd
    unfold f_X11_contact1_45
    have eb : (116 * c_side + x1).toNatClampNeg = 116 * σ + r := by
      have : (116 * c_side + x1).toInt = 116 * σ + r := by ((try simp only [tI_lt, tI_le, tI_eq, tI_add, tI_sub, tI_mul, tI_nat, Int32.reduceToInt, Int.reduceToNat, fe_0, fe_1, fe_2, fe_3, fe_4, fe_5]) <;> (try simp (disch := omega) only [tI_bm]) <;> omega)
      rw [tI_nat]; omega
    have ec : x2 = Int32.ofNat c := Int32.toInt_inj.mp (by rw [Int32.toInt_ofNat_of_lt (by omega)]; omega)
    have ef : efM σ c_kindBits c_stuck c_dusty c_state r c = conE (mkb (c_kindBits (116 * σ + r)) c) y0.toInt (20 * r + 3 * c + 4) := by
      unfold efM
      rw [if_pos hd, hy]
    rw [ef]
    have em : (2 + 20 * x1 + 2 + 3 * x2).toInt = ((20 * r + 3 * c + 4 : Nat) : Int) := by ((try simp only [tI_lt, tI_le, tI_eq, tI_add, tI_sub, tI_mul, tI_nat, Int32.reduceToInt, Int.reduceToNat, fe_0, fe_1, fe_2, fe_3, fe_4, fe_5]) <;> (try simp (disch := omega) only [tI_bm]) <;> omega)
    have em1 : ((2 + 20 * x1 + 2 + 3 * x2) + 1).toInt = ((20 * r + 3 * c + 4 + 1 : Nat) : Int) := by ((try simp only [tI_lt, tI_le, tI_eq, tI_add, tI_sub, tI_mul, tI_nat, Int32.reduceToInt, Int.reduceToNat, fe_0, fe_1, fe_2, fe_3, fe_4, fe_5]) <;> (try simp (disch := omega) only [tI_bm]) <;> omega)
    have em2 : ((2 + 20 * x1 + 2 + 3 * x2) + 2).toInt = ((20 * r + 3 * c + 4 + 2 : Nat) : Int) := by ((try simp only [tI_lt, tI_le, tI_eq, tI_add, tI_sub, tI_mul, tI_nat, Int32.reduceToInt, Int.reduceToNat, fe_0, fe_1, fe_2, fe_3, fe_4, fe_5]) <;> (try simp (disch := omega) only [tI_bm]) <;> omega)
    -- behind the test of the kind
    have t74 : ∀ (z : Int32) (mk : Bool), ((z = 1 ∧ mk = true) ∨ (z = 0 ∧ mk = false)) → Pc (f_X11_contact1_74 c_side c_kindBits c_netOf c_state c_stuck c_dusty x1 x2 y0 z c_joined) (fun q => JI q ∧ UFI (nuM σ c_netOf) (conE mk y0.toInt (20 * r + 3 * c + 4) ++ JL) (jn q)) := by
      intro z mk hz
      unfold f_X11_contact1_74
      refine pc_vlet ?_
      generalize hmid : (2 + 20 * x1 + 2 + 3 * x2) = md at em em1 em2
      -- the front
      have t116 : ∀ (j2 : Nat → Int32) (J2 : PL), JI j2 → UFI (nuM σ c_netOf) J2 (jn j2) → (∀ p, p ∈ conE mk y0.toInt (20 * r + 3 * c + 4) ++ JL ↔ p ∈ (if y0.toInt = 2 ∨ (y0.toInt = 1 ∧ mk = true) then [(20 * r + 3 * c + 4, 20 * r + 3 * c + 4 + 1)] else []) ++ J2) → Pc (f_X11_contact1_116 c_side c_kindBits c_netOf c_state c_stuck c_dusty y0 z md j2) (fun q => JI q ∧ UFI (nuM σ c_netOf) (conE mk y0.toInt (20 * r + 3 * c + 4) ++ JL) (jn q)) := by
        intro j2 J2 hj2 hu2 hmem
        unfold f_X11_contact1_116 f_X11_contact1_133
        have yes : (y0.toInt = 2 ∨ (y0.toInt = 1 ∧ mk = true)) → Pc (((f_X11_both md (md + (1 : Int32)) c_side c_netOf j2)).bind fun r1 => some r1) (fun q => JI q ∧ UFI (nuM σ c_netOf) (conE mk y0.toInt (20 * r + 3 * c + 4) ++ JL) (jn q)) := fun w => by
          rw [if_pos w] at hmem
          refine pc_bind (m_both (20 * r + 3 * c + 4, 20 * r + 3 * c + 4 + 1) _ _ _ _ _ hs hσ hO hj2 em em1 ⟨by show 20 * r + 3 * c + 4 < 954; omega, by show 20 * r + 3 * c + 4 + 1 < 954; omega⟩ hu2) (fun q hq => pc_some ⟨hq.1, UFI_mem hq.2 (fun p => by rw [hmem p]; rfl)⟩)
        have non : ¬ (y0.toInt = 2 ∨ (y0.toInt = 1 ∧ mk = true)) → JI j2 ∧ UFI (nuM σ c_netOf) (conE mk y0.toInt (20 * r + 3 * c + 4) ++ JL) (jn j2) := fun w => by
          rw [if_neg w] at hmem
          exact ⟨hj2, UFI_mem hu2 (fun p => by rw [hmem p]; rfl)⟩
        refine pc_if (fun a => yes (.inl (by rw [a]; decide))) (fun a => pc_if (fun b => pc_if (fun d => pc_some (non ?_)) (fun d => yes (.inr ⟨by rw [b]; decide, ?_⟩))) (fun b => pc_some (non ?_)))
        · rcases hz with ⟨q1, q2⟩ | ⟨q1, q2⟩
          · rw [q1] at d; exact absurd d (by decide)
          · rw [q2]
            intro w
            rcases w with w | w
            · exact a (Int32.toInt_inj.mp (by rw [w, l_2]))
            · exact absurd w.2 (by decide)
        · rcases hz with ⟨q1, q2⟩ | ⟨q1, q2⟩
          · exact q2
          · exact absurd q1 d
        · intro w
          rcases w with w | w
          · exact a (Int32.toInt_inj.mp (by rw [w, l_2]))
          · exact b (Int32.toInt_inj.mp (by rw [w.1, l_1]))
      have memb : ∀ (J2 : PL), J2 = (if y0.toInt = 0 ∨ (y0.toInt = 1 ∧ mk = true) then [(20 * r + 3 * c + 4, 20 * r + 3 * c + 4 + 2)] else []) ++ JL → ∀ p, p ∈ conE mk y0.toInt (20 * r + 3 * c + 4) ++ JL ↔ p ∈ (if y0.toInt = 2 ∨ (y0.toInt = 1 ∧ mk = true) then [(20 * r + 3 * c + 4, 20 * r + 3 * c + 4 + 1)] else []) ++ J2 := by
        intro J2 e2 p
        rw [e2]
        unfold conE
        simp only [List.mem_append]
        constructor
        · rintro ((q | q) | q)
          · exact .inr (.inl q)
          · exact .inl q
          · exact .inr (.inr q)
        · rintro (q | (q | q))
          · exact .inl (.inr q)
          · exact .inl (.inl q)
          · exact .inr q
      -- the back
      have t106 : (y0.toInt = 0 ∨ (y0.toInt = 1 ∧ mk = true)) → Pc (f_X11_contact1_106 c_side c_kindBits c_netOf c_state c_stuck c_dusty y0 z md c_joined) (fun q => JI q ∧ UFI (nuM σ c_netOf) (conE mk y0.toInt (20 * r + 3 * c + 4) ++ JL) (jn q)) := fun w => by
        unfold f_X11_contact1_106
        refine pc_bind (m_both (20 * r + 3 * c + 4, 20 * r + 3 * c + 4 + 2) _ _ _ _ _ hs hσ hO hJ em em2 ⟨by show 20 * r + 3 * c + 4 < 954; omega, by show 20 * r + 3 * c + 4 + 2 < 954; omega⟩ h) (fun q hq => ?_)
        exact t116 q _ hq.1 hq.2 (memb _ (by rw [if_pos w]; rfl))
      have t116n : ¬ (y0.toInt = 0 ∨ (y0.toInt = 1 ∧ mk = true)) → Pc (f_X11_contact1_116 c_side c_kindBits c_netOf c_state c_stuck c_dusty y0 z md c_joined) (fun q => JI q ∧ UFI (nuM σ c_netOf) (conE mk y0.toInt (20 * r + 3 * c + 4) ++ JL) (jn q)) := fun w => t116 c_joined JL hJ h (memb _ (by rw [if_neg w]; rfl))
      refine pc_if (fun a => t106 (.inl (by rw [a]; decide))) (fun a => pc_if (fun b => pc_if (fun d => t116n ?_) (fun d => t106 (.inr ⟨by rw [b]; decide, ?_⟩))) (fun b => t116n ?_))
      · rcases hz with ⟨q1, q2⟩ | ⟨q1, q2⟩
        · rw [q1] at d; exact absurd d (by decide)
        · rw [q2]
          intro w
          rcases w with w | w
          · exact a (Int32.toInt_inj.mp (by rw [w, l_0]))
          · exact absurd w.2 (by decide)
      · rcases hz with ⟨q1, q2⟩ | ⟨q1, q2⟩
        · exact q2
        · exact absurd q1 d
      · intro w
        rcases w with w | w
        · exact a (Int32.toInt_inj.mp (by rw [w, l_0]))
        · exact b (Int32.toInt_inj.mp (by rw [w.1, l_1]))
    refine pc_bad (fun _ => ?_)
    rw [eb, ec]
    have a1 := and1 (xshr (c_kindBits (116 * σ + r)) (Int32.ofNat c))
    rw [← ec] at a1 ⊢
    refine pc_if (fun a => t74 1 _ (.inl ⟨rfl, ?_⟩)) (fun a => t74 0 _ (.inr ⟨rfl, ?_⟩))
    · unfold mkb
      rw [decide_eq_true_eq, ← ec, a]; decide
    · unfold mkb
      rw [decide_eq_false_iff_not, ← ec]
      exact fun w => w (a1.resolve_right a)
  refine pc_vlet (pc_bad (fun _ => ?_))
  rw [ein]
  refine pc_if (fun d => pc_bad (fun _ => pc_if (fun s => pc_bad (fun _ => ?_)) (fun s => pc_bad (fun _ => ?_)))) (fun d => ?_)
  · rw [e80]
    exact go _ (by unfold cntd; rw [if_pos s]) d
  · exact go _ (by unfold cntd; rw [if_neg s]) d
  · refine pc_some ⟨hJ, ?_⟩
    unfold efM
    rw [if_neg d]
    exact h
