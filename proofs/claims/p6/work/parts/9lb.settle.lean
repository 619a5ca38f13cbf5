/-! the class's settling -/
def GOK (m : Nat) (src dst : Nat → Nat) (lt : Nat → Int32) (ν : Nat → Nat) (JL DL : PL) : Prop :=
  (∀ p ∈ JL, ν p.1 = ν p.2 ∨ ((∃ i, i < m ∧ src i = ν p.1 ∧ dst i = ν p.2 ∧ lt i = 3) ∧ (∃ i, i < m ∧ src i = ν p.2 ∧ dst i = ν p.1 ∧ lt i = 3))) ∧
  (∀ p ∈ DL, ν p.1 = ν p.2 ∨ ((∃ i, i < m ∧ src i = ν p.1 ∧ dst i = ν p.2 ∧ lt i = 1) ∧ (∃ i, i < m ∧ src i = ν p.2 ∧ dst i = ν p.1 ∧ lt i = 2))) ∧
  (∀ i, i < m → (lt i = 3 ∧ ∃ p ∈ JL, (src i = ν p.1 ∧ dst i = ν p.2) ∨ (src i = ν p.2 ∧ dst i = ν p.1)) ∨ (lt i = 1 ∧ ∃ p ∈ DL, src i = ν p.1 ∧ dst i = ν p.2) ∨ (lt i = 2 ∧ ∃ p ∈ DL, src i = ν p.2 ∧ dst i = ν p.1))
def GI (n : Nat) (ν : Nat → Nat) (JL DL : PL) (nets links : Int32) (fl nl ld lets : Nat → Int32) : Prop := ∃ (m : Nat) (src dst : Nat → Nat) (lt : Nat → Int32), WG n m src dst lt nets links fl nl ld lets ∧ m ≤ 2 * (JL.length + DL.length) ∧ GOK m src dst lt ν JL DL
set_option maxHeartbeats 400000 in
theorem up2_o {f : Nat → Nat} {m a b i : Nat} (h : i < m) : up2 f m a b i = f i := by unfold up2; rw [if_neg (by omega), if_neg (by omega)]
set_option maxHeartbeats 400000 in
theorem up2_0 {f : Nat → Nat} {m a b : Nat} : up2 f m a b m = a := by unfold up2; rw [if_pos rfl]
set_option maxHeartbeats 400000 in
theorem up2_1 {f : Nat → Nat} {m a b : Nat} : up2 f m a b (m + 1) = b := by unfold up2; rw [if_neg (by omega), if_pos rfl]
set_option maxHeartbeats 400000 in
theorem up2i_o {f : Nat → Int32} {m : Nat} {a b : Int32} {i : Nat} (h : i < m) : up2i f m a b i = f i := by unfold up2i; rw [if_neg (by omega), if_neg (by omega)]
set_option maxHeartbeats 400000 in
theorem up2i_0 {f : Nat → Int32} {m : Nat} {a b : Int32} : up2i f m a b m = a := by unfold up2i; rw [if_pos rfl]
set_option maxHeartbeats 400000 in
theorem up2i_1 {f : Nat → Int32} {m : Nat} {a b : Int32} : up2i f m a b (m + 1) = b := by unfold up2i; rw [if_neg (by omega), if_pos rfl]
set_option maxHeartbeats 400000 in
theorem GOK_J {m : Nat} {src dst : Nat → Nat} {lt : Nat → Int32} {ν : Nat → Nat} {JL DL : PL} (p : Nat × Nat) (h : GOK m src dst lt ν JL DL) : (ν p.1 = ν p.2 → GOK m src dst lt ν (p :: JL) DL) ∧ GOK (m + 2) (up2 src m (ν p.1) (ν p.2)) (up2 dst m (ν p.2) (ν p.1)) (up2i lt m 3 3) ν (p :: JL) DL := by
  obtain ⟨h1, h2, h3⟩ := h
  constructor
  · intro e
    refine ⟨fun q hq => ?_, h2, fun i hi => ?_⟩
    · rcases List.mem_cons.mp hq with z | z
      · rw [z]; exact .inl e
      · exact h1 q z
    · rcases h3 i hi with ⟨a, q, b, c⟩ | z
      · exact .inl ⟨a, q, List.mem_cons_of_mem _ b, c⟩
      · exact .inr z
  · have old : ∀ {a b : Nat} {w : Int32}, (∃ i, i < m ∧ src i = a ∧ dst i = b ∧ lt i = w) → ∃ i, i < m + 2 ∧ up2 src m (ν p.1) (ν p.2) i = a ∧ up2 dst m (ν p.2) (ν p.1) i = b ∧ up2i lt m 3 3 i = w := by
      rintro a b w ⟨i, i1, i2, i3, i4⟩
      exact ⟨i, by omega, by rw [up2_o i1]; exact i2, by rw [up2_o i1]; exact i3, by rw [up2i_o i1]; exact i4⟩
    refine ⟨fun q hq => ?_, fun q hq => ?_, fun i hi => ?_⟩
    · rcases List.mem_cons.mp hq with z | z
      · rw [z]
        exact .inr ⟨⟨m, by omega, up2_0, up2_0, up2i_0⟩, ⟨m + 1, by omega, up2_1, up2_1, up2i_1⟩⟩
      · rcases h1 q z with w | ⟨w1, w2⟩
        · exact .inl w
        · exact .inr ⟨old w1, old w2⟩
    · rcases h2 q hq with w | ⟨w1, w2⟩
      · exact .inl w
      · exact .inr ⟨old w1, old w2⟩
    · by_cases z0 : i < m
      · rw [up2_o z0, up2_o z0, up2i_o z0]
        rcases h3 i z0 with ⟨a, q, b, c⟩ | z
        · exact .inl ⟨a, q, List.mem_cons_of_mem _ b, c⟩
        · exact .inr z
      · by_cases z1 : i = m
        · subst z1
          rw [up2_0, up2_0, up2i_0]
          exact .inl ⟨rfl, p, List.mem_cons_self .., .inl ⟨rfl, rfl⟩⟩
        · have : i = m + 1 := by omega
          subst this
          rw [up2_1, up2_1, up2i_1]
          exact .inl ⟨rfl, p, List.mem_cons_self .., .inr ⟨rfl, rfl⟩⟩
set_option maxHeartbeats 400000 in
theorem GOK_D {m : Nat} {src dst : Nat → Nat} {lt : Nat → Int32} {ν : Nat → Nat} {JL DL : PL} (p : Nat × Nat) (h : GOK m src dst lt ν JL DL) : (ν p.1 = ν p.2 → GOK m src dst lt ν JL (p :: DL)) ∧ GOK (m + 2) (up2 src m (ν p.1) (ν p.2)) (up2 dst m (ν p.2) (ν p.1)) (up2i lt m 1 2) ν JL (p :: DL) := by
  obtain ⟨h1, h2, h3⟩ := h
  constructor
  · intro e
    refine ⟨h1, fun q hq => ?_, fun i hi => ?_⟩
    · rcases List.mem_cons.mp hq with z | z
      · rw [z]; exact .inl e
      · exact h2 q z
    · rcases h3 i hi with z | ⟨a, q, b, c⟩ | ⟨a, q, b, c⟩
      · exact .inl z
      · exact .inr (.inl ⟨a, q, List.mem_cons_of_mem _ b, c⟩)
      · exact .inr (.inr ⟨a, q, List.mem_cons_of_mem _ b, c⟩)
  · have old : ∀ {a b : Nat} {w : Int32}, (∃ i, i < m ∧ src i = a ∧ dst i = b ∧ lt i = w) → ∃ i, i < m + 2 ∧ up2 src m (ν p.1) (ν p.2) i = a ∧ up2 dst m (ν p.2) (ν p.1) i = b ∧ up2i lt m 1 2 i = w := by
      rintro a b w ⟨i, i1, i2, i3, i4⟩
      exact ⟨i, by omega, by rw [up2_o i1]; exact i2, by rw [up2_o i1]; exact i3, by rw [up2i_o i1]; exact i4⟩
    refine ⟨fun q hq => ?_, fun q hq => ?_, fun i hi => ?_⟩
    · rcases h1 q hq with w | ⟨w1, w2⟩
      · exact .inl w
      · exact .inr ⟨old w1, old w2⟩
    · rcases List.mem_cons.mp hq with z | z
      · rw [z]
        exact .inr ⟨⟨m, by omega, up2_0, up2_0, up2i_0⟩, ⟨m + 1, by omega, up2_1, up2_1, up2i_1⟩⟩
      · rcases h2 q z with w | ⟨w1, w2⟩
        · exact .inl w
        · exact .inr ⟨old w1, old w2⟩
    · by_cases z0 : i < m
      · rw [up2_o z0, up2_o z0, up2i_o z0]
        rcases h3 i z0 with z | ⟨a, q, b, c⟩ | ⟨a, q, b, c⟩
        · exact .inl z
        · exact .inr (.inl ⟨a, q, List.mem_cons_of_mem _ b, c⟩)
        · exact .inr (.inr ⟨a, q, List.mem_cons_of_mem _ b, c⟩)
      · by_cases z1 : i = m
        · subst z1
          rw [up2_0, up2_0, up2i_0]
          exact .inr (.inl ⟨rfl, p, List.mem_cons_self .., rfl, rfl⟩)
        · have : i = m + 1 := by omega
          subst this
          rw [up2_1, up2_1, up2i_1]
          exact .inr (.inr ⟨rfl, p, List.mem_cons_self .., rfl, rfl⟩)
set_option maxHeartbeats 400000 in
theorem GI_J {n : Nat} {ν : Nat → Nat} {JL DL : PL} (p : Nat × Nat) (x1 : Int32) (x2 : Int32) (x3 : Int32) (x4 : Int32) (c_nets : Int32) (c_links : Int32) (c_firstLink : Nat → Int32) (c_nextLink : Nat → Int32) (c_leadsTo : Nat → Int32) (c_lets : Nat → Int32) (h : GI n ν JL DL c_nets c_links c_firstLink c_nextLink c_leadsTo c_lets) (ha : x1.toInt = ν p.1) (hb : x2.toInt = ν p.2) (an : ν p.1 < n) (bn : ν p.2 < n) (hl : JL.length + DL.length ≤ 599) (h3 : x3 = 3) (h4 : x4 = 3) : Ok (f_X8_join x1 x2 x3 x4 c_nets c_links c_firstLink c_nextLink c_leadsTo c_lets) (fun r => GI n ν (p :: JL) DL c_nets r.1 r.2.1 r.2.2.1 r.2.2.2.1 r.2.2.2.2) := by
  obtain ⟨m, src, dst, lt, w, hm, g⟩ := h
  obtain ⟨k1, k2⟩ := GOK_J p g
  refine ok_mono (g_join (ν p.1) (ν p.2) _ _ _ _ _ _ _ _ _ _ w ha hb an bn (by omega)) (fun r hr => ?_)
  rw [h3, h4] at hr
  rcases hr with ⟨q, hr⟩ | ⟨q, hr⟩
  · exact ⟨m, src, dst, lt, hr, by rw [List.length_cons]; omega, k1 q⟩
  · exact ⟨m + 2, _, _, _, hr, by rw [List.length_cons]; omega, k2⟩
set_option maxHeartbeats 400000 in
theorem GI_D {n : Nat} {ν : Nat → Nat} {JL DL : PL} (p : Nat × Nat) (x1 : Int32) (x2 : Int32) (x3 : Int32) (x4 : Int32) (c_nets : Int32) (c_links : Int32) (c_firstLink : Nat → Int32) (c_nextLink : Nat → Int32) (c_leadsTo : Nat → Int32) (c_lets : Nat → Int32) (h : GI n ν JL DL c_nets c_links c_firstLink c_nextLink c_leadsTo c_lets) (ha : x1.toInt = ν p.1) (hb : x2.toInt = ν p.2) (an : ν p.1 < n) (bn : ν p.2 < n) (hl : JL.length + DL.length ≤ 599) (h3 : x3 = 1) (h4 : x4 = 2) : Ok (f_X8_join x1 x2 x3 x4 c_nets c_links c_firstLink c_nextLink c_leadsTo c_lets) (fun r => GI n ν JL (p :: DL) c_nets r.1 r.2.1 r.2.2.1 r.2.2.2.1 r.2.2.2.2) := by
  obtain ⟨m, src, dst, lt, w, hm, g⟩ := h
  obtain ⟨k1, k2⟩ := GOK_D p g
  refine ok_mono (g_join (ν p.1) (ν p.2) _ _ _ _ _ _ _ _ _ _ w ha hb an bn (by omega)) (fun r hr => ?_)
  rw [h3, h4] at hr
  rcases hr with ⟨q, hr⟩ | ⟨q, hr⟩
  · exact ⟨m, src, dst, lt, hr, by rw [List.length_cons]; omega, k1 q⟩
  · exact ⟨m + 2, _, _, _, hr, by rw [List.length_cons]; omega, k2⟩
