/-! count: nets told, and short circuits, on both sides -/
def cntF (p : Nat → Bool) : Nat → Nat
  | 0 => 0
  | n + 1 => cntF p n + (if p n = true then 1 else 0)
set_option maxHeartbeats 400000 in
theorem cntF_s (p : Nat → Bool) (n : Nat) : cntF p (n + 1) = cntF p n + (if p n = true then 1 else 0) := rfl
set_option maxHeartbeats 400000 in
theorem cntF_le (p : Nat → Bool) : ∀ n, cntF p n ≤ n
  | 0 => Nat.le_refl _
  | n + 1 => by
    have := cntF_le p n
    rw [cntF_s]
    split <;> omega
set_option maxHeartbeats 400000 in
theorem cntF_cg {p q : Nat → Bool} : ∀ n, (∀ i, i < n → p i = q i) → cntF p n = cntF q n
  | 0, _ => rfl
  | n + 1, h => by
    rw [cntF_s, cntF_s, cntF_cg n (fun i hi => h i (by omega)), h n (by omega)]
set_option maxHeartbeats 400000 in
theorem cntF_T : ∀ n, cntF (fun _ => true) n = n
  | 0 => rfl
  | n + 1 => by
    rw [cntF_s, cntF_T n, if_pos rfl]
set_option maxHeartbeats 400000 in
theorem cntF_rm (q : Nat → Bool) (j : Nat) (hq : q j = true) : ∀ m, j < m → cntF q m = cntF (fun i => q i && !decide (i = j)) m + 1
  | 0, h => absurd h (Nat.not_lt_zero _)
  | m + 1, h => by
    rw [cntF_s, cntF_s]
    by_cases z : m = j
    · have e : cntF q m = cntF (fun i => q i && !decide (i = j)) m := cntF_cg m (fun i hi => by
        rw [decide_eq_false (show ¬ i = j by omega), Bool.not_false, Bool.and_true])
      rw [e, z, hq, if_pos rfl, if_neg (by rw [decide_eq_true (rfl : j = j)]; decide)]
    · rw [cntF_rm q j hq m (by omega)]
      have e : (q m && !decide (m = j)) = q m := by rw [decide_eq_false z, Bool.not_false, Bool.and_true]
      rw [e]
      omega
set_option maxHeartbeats 400000 in
theorem cntF_inj (f : Nat → Nat) (p : Nat → Bool) (m : Nat) : ∀ (n : Nat) (q : Nat → Bool), (∀ i, i < n → p i = true → f i < m ∧ q (f i) = true) → (∀ i j, i < n → j < n → p i = true → p j = true → f i = f j → i = j) → cntF p n ≤ cntF q m
  | 0, q, _, _ => Nat.zero_le _
  | n + 1, q, h1, h2 => by
    rw [cntF_s]
    by_cases z : p n = true
    · obtain ⟨a, b⟩ := h1 n (by omega) z
      rw [if_pos z, cntF_rm q (f n) b m a]
      have := cntF_inj f p m n (fun i => q i && !decide (i = f n)) (fun i hi hp => by
        obtain ⟨c, d⟩ := h1 i (by omega) hp
        refine ⟨c, ?_⟩
        show (q (f i) && !decide (f i = f n)) = true
        rw [d, decide_eq_false (fun w => by have := h2 i n (by omega) (by omega) hp z w; omega)]
        rfl) (fun i j hi hj => h2 i j (by omega) (by omega))
      omega
    · rw [if_neg z]
      have := cntF_inj f p m n q (fun i hi => h1 i (by omega)) (fun i j hi hj => h2 i j (by omega) (by omega))
      omega
set_option maxHeartbeats 400000 in
theorem cntF_eq (f g : Nat → Nat) (p q : Nat → Bool) (n m : Nat) (h1 : ∀ i, i < n → p i = true → f i < m ∧ q (f i) = true) (h2 : ∀ i j, i < n → j < n → p i = true → p j = true → f i = f j → i = j) (k1 : ∀ i, i < m → q i = true → g i < n ∧ p (g i) = true) (k2 : ∀ i j, i < m → j < m → q i = true → q j = true → g i = g j → i = j) : cntF p n = cntF q m := Nat.le_antisymm (cntF_inj f p m n q h1 h2) (cntF_inj g q n m p k1 k2)
/-! the class's loop -/
set_option maxHeartbeats 400000 in
theorem x_short_4 (c_netlist_toldNets : Int32) (c_ways_nets : Int32) (c_ways_powers : Nat → Int32) (T nn : Nat) (hT : c_netlist_toldNets.toInt = T) (hT2 : T ≤ nn) (h9 : T ≤ 954) (hn : c_ways_nets.toInt = nn) : ∀ (n : Nat) (x1 : Int32) (x2 : Int32) (k : Nat), x2.toInt = k → k ≤ T → x1.toInt = cntF (fun u => decide (c_ways_powers u = 3)) k → Pc (f_X2_shortNets_4 c_netlist_toldNets c_ways_nets c_ways_powers n x1 x2) (fun r => r.toInt = cntF (fun u => decide (c_ways_powers u = 3)) T)
  | 0, x1, x2, k, h1, h2, h3 => pc_none
  | n + 1, x1, x2, k, h1, h2, h3 => by
    unfold f_X2_shortNets_4
    have c := cntF_le (fun u => decide (c_ways_powers u = 3)) k
    refine pc_if (fun a => pc_some ?_) (fun a => ?_)
    · rw [tI_le] at a
      have : k = T := by omega
      rw [← this]; exact h3
    rw [tI_le] at a
    have ek : (x2 + 1).toInt = ((k + 1 : Nat) : Int) := by ((try simp only [tI_lt, tI_le, tI_eq, tI_add, tI_sub, tI_mul, tI_nat, Int32.reduceToInt, Int.reduceToNat, fe_0, fe_1, fe_2, fe_3, fe_4, fe_5]) <;> (try simp (disch := omega) only [tI_bm]) <;> omega)
    refine pc_bind (x_at (x1 := x2) (c_nets := c_ways_nets) (c_powers := c_ways_powers) nn k h1 (by omega) hn) (fun r1 q1 => ?_)
    rw [q1]
    refine pc_if (fun z => pc_vlet ?_) (fun z => ?_)
    · unfold f_X2_shortNets_30
      refine pc_vlet (x_short_4 c_netlist_toldNets c_ways_nets c_ways_powers T nn hT hT2 h9 hn n _ _ (k + 1) ek (by omega) ?_)
      have e : (x1 + 1).toInt = x1.toInt + 1 := by ((try simp only [tI_lt, tI_le, tI_eq, tI_add, tI_sub, tI_mul, tI_nat, Int32.reduceToInt, Int.reduceToNat, fe_0, fe_1, fe_2, fe_3, fe_4, fe_5]) <;> (try simp (disch := omega) only [tI_bm]) <;> omega)
      rw [e, h3]
      rw [cntF_s]
      rw [if_pos (decide_eq_true z)]
      omega
    · unfold f_X2_shortNets_30
      refine pc_vlet (x_short_4 c_netlist_toldNets c_ways_nets c_ways_powers T nn hT hT2 h9 hn n _ _ (k + 1) ek (by omega) ?_)
      rw [h3]
      rw [cntF_s]
      rw [if_neg (fun w => z (of_decide_eq_true w))]
      rfl
/-! the reference's loop -/
set_option maxHeartbeats 400000 in
theorem m_isNet (x1 : Int32) (c_side : Int32) (c_netOf : Nat → Int32) (c_isTold : Nat → Int32) {σ : Nat} (hs : c_side.toInt = (σ : Int)) (hσ : σ ≤ 1) (hO : ∀ e : Nat, e < 954 → 0 ≤ (c_netOf (954 * σ + e)).toInt ∧ (c_netOf (954 * σ + e)).toInt < 954) (e : Nat) (hx : x1.toInt = e) (he : e < 954) : Pc (f_X11_isNet x1 c_side c_netOf c_isTold) (fun r => (r = 1 ∧ ¬ c_isTold (954 * σ + e) = 0 ∧ nuM σ c_netOf e = e) ∨ (r = 0 ∧ ¬ (¬ c_isTold (954 * σ + e) = 0 ∧ nuM σ c_netOf e = e))) := by
  unfold f_X11_isNet
  have ei : (954 * c_side + x1).toNatClampNeg = 954 * σ + e := by
    have : (954 * c_side + x1).toInt = 954 * σ + e := by ((try simp only [tI_lt, tI_le, tI_eq, tI_add, tI_sub, tI_mul, tI_nat, Int32.reduceToInt, Int.reduceToNat, fe_0, fe_1, fe_2, fe_3, fe_4, fe_5]) <;> (try simp (disch := omega) only [tI_bm]) <;> omega)
    rw [tI_nat, this]; omega
  have o := hO e he
  rw [ei]
  refine pc_bad (fun _ => pc_if (fun a => pc_some (.inr ⟨rfl, fun q => q.1 a⟩)) (fun a => pc_bad (fun _ => pc_if (fun b => pc_some (.inl ⟨rfl, a, ?_⟩)) (fun b => pc_some (.inr ⟨rfl, fun q => b (Int32.toInt_inj.mp ?_)⟩)))))
  · unfold nuM
    rw [b, hx]
    exact Int.toNat_natCast e
  · have q2 := q.2
    unfold nuM at q2
    omega
set_option maxHeartbeats 400000 in
theorem m_count_66 (c_side : Int32) (c_kept : Int32) (c_many : Nat → Int32) (c_one : Nat → Int32) (c_two : Nat → Int32) (c_kinds : Nat → Int32) (c_kindBits : Nat → Int32) (c_netOf : Nat → Int32) (c_isTold : Nat → Int32) (c_state : Nat → Int32) (c_stuck : Nat → Int32) (c_dusty : Nat → Int32) {σ : Nat} {LV GD : Nat → Prop} (hs : c_side.toInt = (σ : Int)) (hσ : σ ≤ 1) (hO : ∀ e : Nat, e < 954 → 0 ≤ (c_netOf (954 * σ + e)).toInt ∧ (c_netOf (954 * σ + e)).toInt < 954) (z : Int32) (J V G : Nat → Int32) (hJ : JI J) (hL : ∀ e, e < 954 → (¬ V (rt (jn J) (nuM σ c_netOf e)) = 0 ↔ LV e)) (hG : ∀ e, e < 954 → (¬ G (rt (jn J) (nuM σ c_netOf e)) = 0 ↔ GD e)) (p : Nat → Bool) (hp : ∀ e, e < 954 → (p e = true ↔ (¬ c_isTold (954 * σ + e) = 0 ∧ nuM σ c_netOf e = e) ∧ (z = 5 ∨ (LV e ∧ GD e)))) : ∀ (n : Nat) (x1 : Int32) (x2 : Int32) (x3 : Int32) (c_joined : Nat → Int32) (c_live : Nat → Int32) (c_ground : Nat → Int32) (k : Nat), x1 = z → x3.toInt = k → k ≤ 954 → x2.toInt = cntF p k → c_joined = J → c_live = V → c_ground = G → Pc (f_X11_count_66 c_side c_kept c_many c_one c_two c_kinds c_kindBits c_netOf c_isTold c_state c_stuck c_dusty n x1 x2 x3 c_joined c_live c_ground) (fun r => r.1.toInt = cntF p 954)
  | 0, x1, x2, x3, c_joined, c_live, c_ground, k, h0, h1, h2, h3, e1, e2, e3 => pc_none
  | n + 1, x1, x2, x3, c_joined, c_live, c_ground, k, h0, h1, h2, h3, e1, e2, e3 => by
    subst h0 e1 e2 e3
    unfold f_X11_count_66 f_X11_count_116 f_X11_count_120 f_X11_count_121 f_X11_count_123
    have c := cntF_le p k
    refine pc_if (fun a => pc_some ?_) (fun a => ?_)
    · rw [tI_le, l_954] at a
      have : k = 954 := by omega
      rw [← this]; exact h3
    rw [tI_le, l_954] at a
    have hk : k < 954 := by omega
    have pk := hp k hk
    have lk := hL k hk
    have gk := hG k hk
    have ek : (x3 + 1).toInt = ((k + 1 : Nat) : Int) := by ((try simp only [tI_lt, tI_le, tI_eq, tI_add, tI_sub, tI_mul, tI_nat, Int32.reduceToInt, Int.reduceToNat, fe_0, fe_1, fe_2, fe_3, fe_4, fe_5]) <;> (try simp (disch := omega) only [tI_bm]) <;> omega)
    have yes : p k = true → Pc (f_X11_count_66 c_side c_kept c_many c_one c_two c_kinds c_kindBits c_netOf c_isTold c_state c_stuck c_dusty n x1 (x2 + 1) (x3 + 1) c_joined c_live c_ground) (fun r => r.1.toInt = cntF p 954) := fun w => by
      refine m_count_66 c_side c_kept c_many c_one c_two c_kinds c_kindBits c_netOf c_isTold c_state c_stuck c_dusty hs hσ hO x1 c_joined c_live c_ground hJ hL hG p hp n _ _ _ _ _ _ (k + 1) rfl ek (by omega) ?_ rfl rfl rfl
      have e : (x2 + 1).toInt = x2.toInt + 1 := by ((try simp only [tI_lt, tI_le, tI_eq, tI_add, tI_sub, tI_mul, tI_nat, Int32.reduceToInt, Int.reduceToNat, fe_0, fe_1, fe_2, fe_3, fe_4, fe_5]) <;> (try simp (disch := omega) only [tI_bm]) <;> omega)
      rw [e, h3]
      rw [cntF_s]
      rw [if_pos w]
      omega
    have no : ¬ p k = true → ∀ x4 : Int32, x4 = x2 → Pc (f_X11_count_66 c_side c_kept c_many c_one c_two c_kinds c_kindBits c_netOf c_isTold c_state c_stuck c_dusty n x1 x4 (x3 + 1) c_joined c_live c_ground) (fun r => r.1.toInt = cntF p 954) := fun w x4 hx4 => by
      refine m_count_66 c_side c_kept c_many c_one c_two c_kinds c_kindBits c_netOf c_isTold c_state c_stuck c_dusty hs hσ hO x1 c_joined c_live c_ground hJ hL hG p hp n _ _ _ _ _ _ (k + 1) rfl ek (by omega) ?_ rfl rfl rfl
      rw [hx4, h3]
      rw [cntF_s]
      rw [if_neg w]
      rfl
    refine pc_bind (m_isNet _ _ _ _ hs hσ hO k h1 hk) (fun r1 q1 => ?_)
    rcases q1 with ⟨z1, q1⟩ | ⟨z1, q1⟩
    · rw [z1, if_neg (by decide)]
      refine pc_if (fun b => pc_vlet (pc_vlet (yes (pk.mpr ⟨q1, .inl b⟩)))) (fun b => ?_)
      refine pc_bind (m_group _ _ _ _ hs hσ hO hJ k h1 hk) (fun r2 q2 => pc_bad (fun _ => ?_))
      have e2 : r2.toNatClampNeg = rt (jn c_joined) (nuM σ c_netOf k) := by rw [tI_nat]; omega
      rw [e2]
      refine pc_if (fun d => pc_vlet (pc_vlet (no (fun w => ?_) _ (Int32.add_zero _)))) (fun d => ?_)
      · rcases (pk.mp w).2 with t | t
        · exact b t
        · exact lk.mpr t.1 d
      refine pc_bind (m_group _ _ _ _ hs hσ hO hJ k h1 hk) (fun r4 q4 => pc_bad (fun _ => ?_))
      have e4 : r4.toNatClampNeg = rt (jn c_joined) (nuM σ c_netOf k) := by rw [tI_nat]; omega
      rw [e4]
      refine pc_if (fun g => pc_vlet (pc_vlet (no (fun w => ?_) _ (Int32.add_zero _)))) (fun g => pc_vlet (pc_vlet (yes (pk.mpr ⟨q1, .inr ⟨lk.mp d, gk.mp g⟩⟩))))
      rcases (pk.mp w).2 with t | t
      · exact b t
      · exact gk.mpr t.2 g
    · rw [z1, if_pos rfl]
      exact pc_vlet (no (fun w => q1 (pk.mp w).1) _ rfl)
/-! as many on the one side as on the other -/
set_option maxHeartbeats 400000 in
theorem nets_same {S : List StT} {σ : Nat} {toldNets nets : Int32} {told netOf nM isTold : Nat → Int32} (hex : ∀ e, TLD (enS S) (pnsOf S) e → exS S e) (hlt : ∀ e, exS S e → e < 954) (hO : ∀ e, e < 954 → nuM σ nM e < 954) (hNX : NETX S toldNets nets told netOf) (hNM : NETM σ S nM isTold) (A : Nat → Prop) (hA : ∀ e f, e < 954 → f < 954 → nuM σ nM e = nuM σ nM f → A e → A f) (p q : Nat → Bool) (T : Nat) (hT : toldNets.toInt = T) (hp : ∀ e, e < 954 → (p e = true ↔ (¬ isTold (954 * σ + e) = 0 ∧ nuM σ nM e = e) ∧ A e)) (hq : ∀ e, exS S e → nuX netOf e < T → (q (nuX netOf e) = true ↔ A e)) : cntF p 954 = cntF q T := by
  obtain ⟨T', N, t1, t2, t3, t4, t5, ⟨g, t6, t7⟩, t8, t9, t10⟩ := hNX
  have eT : T' = T := by omega
  subst eT
  obtain ⟨n1, n2, n3⟩ := hNM
  have gM : ∀ e f, e < 954 → f < 954 → (g e = g f ↔ nuM σ nM e = nuM σ nM f) := fun e f he hf => PRT_un t6 n1 e f he hf
  have tld : ∀ e, e < 954 → (¬ isTold (954 * σ + e) = 0 ↔ TLD (enS S) (pnsOf S) e) := fun e he => by
    rcases n2 e he with ⟨a, b⟩ | ⟨a, b⟩
    · have a' : isTold (954 * σ + e) = 1 := a
      exact ⟨fun _ => b, fun _ => by rw [a']; decide⟩
    · have a' : isTold (954 * σ + e) = 0 := a
      exact ⟨fun w => absurd a' w, fun w => absurd w b⟩
  have pe : ∃ eu : Nat → Nat, ∀ u, u < T' → exS S (eu u) ∧ nuX netOf (eu u) = u := by
    refine ⟨fun u => if h : u < T' then Classical.choose (t9 u h) else 0, fun u hu => ?_⟩
    dsimp only
    rw [dif_pos hu]
    exact Classical.choose_spec (t9 u hu)
  obtain ⟨eu, heu⟩ := pe
  have root : ∀ u, u < T' → nuM σ nM (eu u) < 954 ∧ TLD (enS S) (pnsOf S) (nuM σ nM (eu u)) := fun u hu => by
    obtain ⟨a, b⟩ := heu u hu
    have l := hlt _ a
    have r := hO _ l
    have td := (t8 _ a).mp (by rw [b]; exact hu)
    refine ⟨r, ?_⟩
    rcases PRT_told n1 (eu u) (nuM σ nM (eu u)) l r (n3 _ l).symm with w | w
    · rw [← w]; exact td
    · exact w.2
  refine cntF_eq (nuX netOf) (fun u => nuM σ nM (eu u)) p q 954 T' (fun e he hpe => ?_) (fun e f he hf hpe hpf w => ?_) (fun u hu hqu => ?_) (fun u v hu hv hqu hqv w => ?_)
  · obtain ⟨⟨a, b⟩, c⟩ := (hp e he).mp hpe
    have td := (tld e he).mp a
    have lt := (t8 e (hex e td)).mpr td
    exact ⟨lt, (hq e (hex e td) lt).mpr c⟩
  · obtain ⟨⟨a, b⟩, c⟩ := (hp e he).mp hpe
    obtain ⟨⟨a2, b2⟩, c2⟩ := (hp f hf).mp hpf
    have x1 := hex e ((tld e he).mp a)
    have x2 := hex f ((tld f hf).mp a2)
    have y := (gM e f he hf).mp ((t7 e f x1 x2).mp w)
    rw [b, b2] at y
    exact y
  · obtain ⟨a, b⟩ := heu u hu
    obtain ⟨r1, r2⟩ := root u hu
    have l := hlt _ a
    have aq : A (eu u) := (hq (eu u) a (by rw [b]; exact hu)).mp (by rw [b]; exact hqu)
    exact ⟨r1, (hp _ r1).mpr ⟨⟨(tld _ r1).mpr r2, n3 _ l⟩, hA _ _ l r1 (n3 _ l).symm aq⟩⟩
  · obtain ⟨a, b⟩ := heu u hu
    obtain ⟨a2, b2⟩ := heu v hv
    have y := (t7 _ _ a a2).mpr ((gM _ _ (hlt _ a) (hlt _ a2)).mpr w)
    rw [b, b2] at y
    exact y
set_option maxHeartbeats 400000 in
theorem LVd_eq {st : Nat} {ν : Nat → Nat} {JL DL : PL} (e f : Nat) (he : e < 954) (hf : f < 954) (h : ν e = ν f) (l : LVd st ν JL DL e) : LVd st ν JL DL f := fun T hT => hT.2.1 e f ⟨he, hf, h⟩ (l T hT)
/-! count -/
set_option maxHeartbeats 400000 in
theorem p_count (x1 : Int32) (c_machine_netlist_toldNets : Int32) (c_machine_netlist_nets : Int32) (c_machine_netlist_parts : Nat → Int32) (c_machine_netlist_contacts : Nat → Int32) (c_machine_netlist_makes : Nat → Int32) (c_machine_netlist_period : Nat → Int32) (c_machine_netlist_onTime : Nat → Int32) (c_machine_netlist_netOf : Nat → Int32) (c_machine_wear_stuckAt : Nat → Int32) (c_machine_wear_dusty : Nat → Int32) (c_machine_ways_nets : Int32) (c_machine_ways_links : Int32) (c_machine_ways_firstLink : Nat → Int32) (c_machine_ways_nextLink : Nat → Int32) (c_machine_ways_leadsTo : Nat → Int32) (c_machine_ways_lets : Nat → Int32) (c_machine_ways_powers : Nat → Int32) (c_machine_ways_reached : Nat → Int32) (c_state_keys : Int32) (c_state_time : Int32) (c_state_positions : Nat → Int32) (c_history_size : Int32) (c_machine_netlist_pickTime c_machine_netlist_dropTime : Nat → Int32) (c_side : Int32) (c_many c_one c_two c_kinds c_kindBits c_netOf c_stuck c_dusty c_state : Nat → Int32) (c_kept : Int32) (c_isTold c_joined c_live c_ground : Nat → Int32) {S : List StT} {σ : Nat} {names : Nat → Nat → Int64} {told nameSize nm : Nat → Int32} (hA : allPin S (pnsOf S)) (hI : IX S c_machine_netlist_toldNets c_machine_netlist_parts names c_machine_netlist_pickTime c_machine_netlist_dropTime c_machine_netlist_contacts c_machine_netlist_makes c_machine_netlist_period c_machine_netlist_onTime) (hIM : IM S σ c_side c_many nameSize c_one c_two c_kinds c_kindBits nm c_netOf) (hNX : NETX S c_machine_netlist_toldNets c_machine_netlist_nets told c_machine_netlist_netOf) (hNM : NETM σ S c_netOf c_isTold) (hW : WR c_machine_wear_stuckAt c_machine_wear_dusty c_stuck c_dusty) {c_state_picked : Int64} {c_state_counts : Nat → Int32} (hSR : SR (nkS S) c_state_picked c_state_keys c_state_time c_state_counts c_state_positions c_state) (hKS : c_kept = c_history_size) : P2 (f_X10_count x1 c_machine_netlist_toldNets c_machine_netlist_nets c_machine_netlist_parts c_machine_netlist_contacts c_machine_netlist_makes c_machine_netlist_period c_machine_netlist_onTime c_machine_netlist_netOf c_machine_wear_stuckAt c_machine_wear_dusty c_machine_ways_nets c_machine_ways_links c_machine_ways_firstLink c_machine_ways_nextLink c_machine_ways_leadsTo c_machine_ways_lets c_machine_ways_powers c_machine_ways_reached c_state_keys c_state_time c_state_positions c_history_size) (f_X11_count x1 c_side c_kept c_many c_one c_two c_kinds c_kindBits c_netOf c_isTold c_state c_stuck c_dusty c_joined c_live c_ground) (fun rx rm => rx.1 = rm.1) := by
  have hM := hIM.1
  obtain ⟨hs, hσ, m0, m1, m2, m3, m4, hK, hO1, hO⟩ := hM
  have hO2 : ∀ e, e < 954 → nuM σ c_netOf e < 954 := fun e he => by
    have := hO e he
    unfold nuM
    omega
  obtain ⟨hlt9, hex⟩ := pns_lt hI hA
  have hlt : ∀ e, exS S e → e < 954 := fun e he => (exS_VIS hI.1 e he).1
  have part : ∀ s : Nat, s < 5 → x1.toInt = s → P2 (f_X10_count_52 c_machine_netlist_toldNets c_machine_netlist_nets c_machine_netlist_parts c_machine_netlist_contacts c_machine_netlist_makes c_machine_netlist_period c_machine_netlist_onTime c_machine_netlist_netOf c_machine_wear_stuckAt c_machine_wear_dusty c_state_keys c_state_time c_state_positions c_history_size x1 c_machine_ways_nets c_machine_ways_links c_machine_ways_firstLink c_machine_ways_nextLink c_machine_ways_leadsTo c_machine_ways_lets c_machine_ways_powers c_machine_ways_reached) (f_X11_count_52 c_side c_kept c_many c_one c_two c_kinds c_kindBits c_netOf c_isTold c_state c_stuck c_dusty x1 c_joined c_live c_ground) (fun rx rm => rx.1 = rm.1) := fun s hs5 hx => by
    unfold f_X10_count_52 f_X11_count_52
    refine p2_b1 (fun _ => p2_e2 (m_here _ _ _ hs hσ s hx hs5) (p2_some ?_))
    rw [tI_nat, hx]
    exact Int32.toInt_inj.mp (IXM_P hI hIM s hs5)
  have nets : x1 = 5 ∨ x1 = 7 → Pc (f_X11_count_58 c_side c_kept c_many c_one c_two c_kinds c_kindBits c_netOf c_isTold c_state c_stuck c_dusty x1 c_joined c_live c_ground) (fun rm => ∃ (p : Nat → Bool), (∀ e, e < 954 → (p e = true ↔ (¬ c_isTold (954 * σ + e) = 0 ∧ nuM σ c_netOf e = e) ∧ (x1 = 5 ∨ ((LVd 0 (nuM σ c_netOf) (JLT S σ c_one c_two c_kindBits c_stuck c_dusty c_state) (DLS S)) e ∧ (LVd 1 (nuM σ c_netOf) (JLT S σ c_one c_two c_kindBits c_stuck c_dusty c_state) (rvL (DLS S))) e)))) ∧ rm.1.toInt = cntF p 954) := fun _ => by
    obtain ⟨p, hp⟩ := E_ex (fun e => (¬ c_isTold (954 * σ + e) = 0 ∧ nuM σ c_netOf e = e) ∧ (x1 = 5 ∨ ((LVd 0 (nuM σ c_netOf) (JLT S σ c_one c_two c_kindBits c_stuck c_dusty c_state) (DLS S)) e ∧ (LVd 1 (nuM σ c_netOf) (JLT S σ c_one c_two c_kindBits c_stuck c_dusty c_state) (rvL (DLS S))) e)))
    unfold f_X11_count_58
    refine pc_bind (m_now c_side c_many c_one c_two c_kinds c_kindBits c_netOf c_state c_stuck c_dusty c_joined c_live c_ground hI hIM) (fun r1 q => ?_)
    exact pc_mono (m_count_66 c_side c_kept c_many c_one c_two c_kinds c_kindBits c_netOf c_isTold c_state c_stuck c_dusty hs hσ hO x1 r1.1 r1.2.1 r1.2.2 q.1 q.2.1 q.2.2 p (fun e _ => hp e) FU x1 0 0 r1.1 r1.2.1 r1.2.2 0 rfl (by decide) (by decide) (show (0 : Int32).toInt = ((0 : Nat) : Int) from by decide) rfl rfl rfl) (fun rm hr => ⟨p, fun e _ => hp e, hr⟩)
  have hNX' := hNX
  obtain ⟨T, N, t1, t2, t3, t4, t5, t6, t8, t9, -⟩ := hNX'
  have z0 : ∀ p : Nat → Bool, (0 : Int32).toInt = ((cntF p 0 : Nat) : Int) := fun p => by show (0 : Int32).toInt = ((0 : Nat) : Int); decide
  unfold f_X10_count f_X11_count
  refine p2_ifs (fun h => part 0 (by decide) (by rw [h]; decide)) (fun _ => p2_ifs (fun h => part 1 (by decide) (by rw [h]; decide)) (fun _ => p2_ifs (fun h => part 2 (by decide) (by rw [h]; decide)) (fun _ => p2_ifs (fun h => part 3 (by decide) (by rw [h]; decide)) (fun _ => p2_ifs (fun h => part 4 (by decide) (by rw [h]; decide)) (fun _ => p2_ifs (fun h => ?_) (fun h5 => p2_ifs (fun _ => ?_) (fun _ => p2_ifs (fun h => ?_) (fun _ => p2_ifs (fun _ => p2_some hKS.symm) (fun _ => p2_some rfl)))))))))
  · refine p2_of (pc_some (pc_mono (nets (.inl h)) (fun rm hr => ?_)))
    obtain ⟨p, p1, p2⟩ := hr
    have := nets_same hex hlt hO2 hNX hNM (fun _ => True) (fun _ _ _ _ _ _ => trivial) p (fun _ => true) T t1 (fun e he => by rw [p1 e he]; exact ⟨fun q => ⟨q.1, trivial⟩, fun q => ⟨q.1, .inl h⟩⟩) (fun e _ _ => ⟨fun _ => trivial, fun _ => rfl⟩)
    rw [cntF_T] at this
    exact Int32.toInt_inj.mp (by rw [p2, this]; exact t1)
  · refine p2_b2 (fun _ => p2_some ?_)
    rw [show (344 : Int32).toNatClampNeg = 344 from by decide]
    exact hSR.2.2.2.1
  · refine p2_eqA (P := fun r => ∃ P9 : Nat → Int32, (∀ e, exS S e → (P9 (nuX c_machine_netlist_netOf e) = 3 ↔ (LVd 0 (nuM σ c_netOf) (JLT S σ c_one c_two c_kindBits c_stuck c_dusty c_state) (DLS S)) e ∧ (LVd 1 (nuM σ c_netOf) (JLT S σ c_one c_two c_kindBits c_stuck c_dusty c_state) (rvL (DLS S))) e)) ∧ r.1.toInt = ((cntF (fun u => decide (P9 u = 3)) T : Nat) : Int)) ?_ (nets (.inr h)) (fun rx rm hx hr => ?_)
    · refine pc_bind (x_now c_machine_netlist_nets c_machine_netlist_parts c_machine_netlist_contacts c_machine_netlist_makes c_machine_netlist_period c_machine_netlist_onTime c_machine_netlist_netOf c_machine_wear_stuckAt c_machine_wear_dusty c_machine_ways_nets c_machine_ways_links c_machine_ways_firstLink c_machine_ways_nextLink c_machine_ways_leadsTo c_machine_ways_lets c_machine_ways_powers c_machine_ways_reached c_state_keys c_state_time c_state_positions c_machine_netlist_pickTime c_machine_netlist_dropTime c_side c_many c_one c_two c_kinds c_kindBits c_netOf c_stuck c_dusty c_state hA hI hIM hNX hNM hW hSR) (fun r2 q2 => ?_)
      obtain ⟨N2, n1, ⟨s1, s2, -, -⟩, n3, n4⟩ := q2
      unfold f_X2_shortNets
      have hTN : T ≤ N2 := by
        by_cases z : T = 0
        · omega
        · obtain ⟨e, e1, e2⟩ := t9 (T - 1) (by omega)
          have := n1 e e1
          unfold nuX at e2
          omega
      refine pc_bind (x_short_4 _ _ _ T N2 t1 hTN (by omega) s1 FU 0 0 0 (by decide) (Nat.zero_le _) (z0 _)) (fun r10 q10 => pc_some ⟨r2.2.2.2.2.2.2.1, fun e he => ?_, q10⟩)
      have b := n1 e he
      have hv := s2 (nuX c_machine_netlist_netOf e) (by unfold nuX; omega)
      exact (p4 _ hv).2.2.1.trans (and_congr (n3 e he) (n4 e he))
    · obtain ⟨P9, x1', x2'⟩ := hx
      obtain ⟨p, p1, p2⟩ := hr
      have := nets_same hex hlt hO2 hNX hNM (fun e => (LVd 0 (nuM σ c_netOf) (JLT S σ c_one c_two c_kindBits c_stuck c_dusty c_state) (DLS S)) e ∧ (LVd 1 (nuM σ c_netOf) (JLT S σ c_one c_two c_kindBits c_stuck c_dusty c_state) (rvL (DLS S))) e) (fun e f he hf hn q => ⟨LVd_eq e f he hf hn q.1, LVd_eq e f he hf hn q.2⟩) p (fun u => decide (P9 u = 3)) T t1 (fun e he => by rw [p1 e he]; exact ⟨fun q => ⟨q.1, q.2.resolve_left h5⟩, fun q => ⟨q.1, .inr q.2⟩⟩) (fun e he _ => by rw [← x1' e he]; exact decide_eq_true_iff)
      exact Int32.toInt_inj.mp (by rw [x2', p2, this])
