/-! the third level: races too -/
def RC9 (s : XS) (t : MS) : Prop := RCQ s.2.2.2.2.2.2.2.2.2.2.2.2.2.2.2.2.2.2.2.2.2.2.2.2.2.2.2.2.2.2.2.2.2.2.2.2.2.2.2.2.2.2.2.2.2.2.2.2.2.2.2.2.2.2.2.2.2.2.2.2.2.2.2.2.2.2.2.2.2.2.1 s.2.2.2.2.2.2.2.2.2.2.2.2.2.2.2.2.2.2.2.2.2.2.2.2.2.2.2.2.2.2.2.2.2.2.2.2.2.2.2.2.2.2.2.2.2.2.2.2.2.2.2.2.2.2.2.2.2.2.2.2.2.2.2.2.2.2.2.2.2.2.2.1 t.2.2.2.2.2.2.2.2.2.2.2.2.1 t.2.2.2.2.2.2.2.2.2.2.2.2.2.1 t.2.2.2.2.2.2.2.2.2.2.2.2.2.2.2.2.2.2.2.2.2.2.2.2.2.2.2.2.2.2.2.2.2.2.2.2.2.2.2.2.2.2.2.1
def INV3 (s : XS) (t : MS) : Prop := INV2 s t ∧ RC9 s t
set_option maxHeartbeats 400000 in
theorem hp3_feed : HOP_feed True INV3 INV3 := by
  intro s t hI a0 a1 a2 a3 a4
  obtain ⟨rx, rm, e1, e2, e3, i⟩ := hp2_feed s t hI.1 a0 a1 a2 a3 a4
  exact ⟨rx, rm, e1, e2, e3, i, hI.2⟩
set_option maxHeartbeats 400000 in
theorem hp3_wrong : HOP_wrong False INV3 INV3 := by
  intro s t hI a0
  obtain ⟨rx, rm, e1, e2, e3, i⟩ := hp2_wrong s t hI.1 a0
  exact ⟨rx, rm, e1, e2, e3, i, hI.2⟩
set_option maxHeartbeats 400000 in
theorem hp3_count : HOP_count True INV3 INV3 := by
  intro s t hI a0
  obtain ⟨rx, rm, e1, e2, e3, i⟩ := hp2_count s t hI.1 a0
  exact ⟨rx, rm, e1, e2, e3, i, hI.2⟩
set_option maxHeartbeats 400000 in
theorem hp3_letter : HOP_letter True INV3 INV3 := by
  intro s t hI a0 a1 a2
  obtain ⟨rx, rm, e1, e2, e3, i⟩ := hp2_letter s t hI.1 a0 a1 a2
  exact ⟨rx, rm, e1, e2, e3, i, hI.2⟩
set_option maxHeartbeats 400000 in
theorem hp3_key : HOP_key True INV3 INV3 := by
  intro s t hI a0 a1 h01
  obtain ⟨rx, rm, e1, e2, e3, i⟩ := hp2_key s t hI.1 a0 a1 h01
  exact ⟨rx, rm, e1, e2, e3, i, hI.2⟩
set_option maxHeartbeats 400000 in
theorem hp3_tick : HOP_tick True INV3 INV3 := by
  intro s t hI a0
  obtain ⟨rx, rm, e1, e2, e3, i⟩ := hp2_tick s t hI.1 a0
  exact ⟨rx, rm, e1, e2, e3, i, hI.2⟩
set_option maxHeartbeats 400000 in
theorem hp3_quiet : HOP_quiet True INV3 INV3 := by
  intro s t hI 
  obtain ⟨rx, rm, e1, e2, e3, i⟩ := hp2_quiet s t hI.1 
  exact ⟨rx, rm, e1, e2, e3, i, hI.2⟩
set_option maxHeartbeats 400000 in
theorem hp3_relay : HOP_relay True INV3 INV3 := by
  intro s t hI a0 a1
  obtain ⟨rx, rm, e1, e2, e3, i⟩ := hp2_relay s t hI.1 a0 a1
  exact ⟨rx, rm, e1, e2, e3, i, hI.2⟩
set_option maxHeartbeats 400000 in
theorem hp3_contact : HOP_contact True INV3 INV3 := by
  intro s t hI a0 a1
  obtain ⟨rx, rm, e1, e2, e3, i⟩ := hp2_contact s t hI.1 a0 a1
  exact ⟨rx, rm, e1, e2, e3, i, hI.2⟩
set_option maxHeartbeats 400000 in
theorem hp3_lamp : HOP_lamp True INV3 INV3 := by
  intro s t hI a0
  obtain ⟨rx, rm, e1, e2, e3, i⟩ := hp2_lamp s t hI.1 a0
  exact ⟨rx, rm, e1, e2, e3, i, hI.2⟩
set_option maxHeartbeats 400000 in
theorem hp3_net : HOP_net True INV3 INV3 := by
  intro s t hI a0 a1 a2
  obtain ⟨rx, rm, e1, e2, e3, i⟩ := hp2_net s t hI.1 a0 a1 a2
  exact ⟨rx, rm, e1, e2, e3, i, hI.2⟩
set_option maxHeartbeats 400000 in
theorem hp3_stuck : HOP_stuck True INV3 INV3 := by
  intro s t hI a0 a1 a2
  obtain ⟨rx, rm, e1, e2, e3, i⟩ := hp2_stuck s t hI.1 a0 a1 a2
  exact ⟨rx, rm, e1, e2, e3, i, hI.2⟩
set_option maxHeartbeats 400000 in
theorem hp3_dust : HOP_dust True INV3 INV3 := by
  intro s t hI a0 a1 a2 h01
  obtain ⟨rx, rm, e1, e2, e3, i⟩ := hp2_dust s t hI.1 a0 a1 a2 h01
  exact ⟨rx, rm, e1, e2, e3, i, hI.2⟩
set_option maxHeartbeats 400000 in
theorem hp3_back : HOP_back True INV3 INV3 := by
  intro s t hI a0
  obtain ⟨rx, rm, e1, e2, e3, i⟩ := hp2_back s t hI.1 a0
  exact ⟨rx, rm, e1, e2, e3, i, hI.2⟩
set_option maxHeartbeats 400000 in
theorem hp3_load : HOP_load True INV3 INV3 := by
  intro s t hI a0 u v
  obtain ⟨rx, rm, e1, e2, e3, i⟩ := hp2_load s t hI.1 a0 u v
  obtain ⟨⟨S, σ, ⟨hT, hE, hD, hX, hH, hM, hK, hR⟩, -⟩, hq⟩ := hI
  have hσ := hM.1.2.1
  have pp := x_load3 a0 (s.1) (s.2.1) (s.2.2.1) (s.2.2.2.1) v _ _ _ _ _ _ _ _ _ _ _ _ _ _ _ _ _ _ _ _ _ _ _ _ _ _ _ _ _ _ _ u _ _ _ _ _ _ _ _ _ _ hT.1 hT.2.1 hT.2.2 hD.1 hD.2 rx e1
  have q := pc_ok (s_X11_load a0 (t.1) _ _ _ _ _ _ _ _ _ _ _ (t.2.2.2.2.2.2.2.2.2.2.2.2.2.2.1) _ _ _ _ _ _ _ _ _ _ _ _ _ _ _ _ _ _ σ hσ hM.1.1 (by rw [hE.1]; exact hT.1) (by rw [hE.1]; exact hT.2.1) (by rw [hE.2]; exact hT.2.2) hM.2.1) rm e2
  rw [hE.1, hE.2] at q
  have rc : RCQ s.2.2.2.2.2.2.2.2.2.2.2.2.2.2.2.2.2.2.2.2.2.2.2.2.2.2.2.2.2.2.2.2.2.2.2.2.2.2.2.2.2.2.2.2.2.2.2.2.2.2.2.2.2.2.2.2.2.2.2.2.2.2.2.2.2.2.2.2.2.2.1 rx.2.2.2.2.2.2.2.2.2.2.2.2.2.2.2.2.2.2.2.2.2.2.2.2.2.2.2.2.2.2.2.2.2.2.2.2.2.2.2.2.2.2.2.2.2.2 rm.2.2.2.2.2.2.2.2.2.2.2.2.1 t.2.2.2.2.2.2.2.2.2.2.2.2.2.1 t.2.2.2.2.2.2.2.2.2.2.2.2.2.2.2.2.2.2.2.2.2.2.2.2.2.2.2.2.2.2.2.2.2.2.2.2.2.2.2.2.2.2.2.1 := by
    rcases pp with ⟨n0, -, -, -, -, -, -, -, -, -, y10⟩ | ⟨y0, -, -, -, y10⟩
    · rw [y10]
      rcases q with ⟨q0, q1⟩ | ⟨q0, L, qL, q1, q2, q3⟩
      · subst q1
        exact hq
      · rcases q2.2.2.2 with ⟨w, -⟩ | ⟨-, -, -, -, wt, -⟩
        · exact absurd ⟨q0, by rw [show a0.toInt.toNat = L by omega]; exact w⟩ n0
        · rw [wt]; exact hq
    · rw [y10]
      rcases q with ⟨q0, q1⟩ | ⟨q0, L, qL, q1, q2, q3⟩
      · exact absurd y0.1 q0
      · rcases q2.2.2.2 with ⟨-, -, -, -, wt, -⟩ | ⟨w, -⟩
        · rw [wt]; exact ⟨rfl, .inl rfl⟩
        · exact absurd (by have := y0.2; rw [show a0.toInt.toNat = L by omega] at this; exact this) w
  rcases i with ⟨c1, c2, i⟩ | ⟨c1, c2, i⟩
  · exact ⟨rx, rm, e1, e2, e3, .inl ⟨c1, c2, i, rc⟩⟩
  · exact ⟨rx, rm, e1, e2, e3, .inr ⟨c1, c2, i, rc⟩⟩
set_option maxHeartbeats 400000 in
theorem hp3_adder : HOP_adder True INV3 INV3 := by
  intro s t hI a0 u v
  obtain ⟨rx, rm, e1, e2, e3, i⟩ := hp2_adder s t hI.1 a0 u v
  obtain ⟨⟨S, σ, ⟨hT, hE, hD, hX, hH, hM, hK, hR⟩, -⟩, hq⟩ := hI
  have hσ := hM.1.2.1
  have p := pc_ok (s_X10_adder a0 v _ _ _ _ _ _ _ _ _ _ _ _ _ _ _ _ _ _ _ _ _ _ _ _ _ _ _ _ _ _ _ u _ _ _ _ _ _ _ _ _ _ hD.1 hD.2) rx e1
  have q := pc_ok (s_X11_adder a0 _ _ _ _ _ _ _ _ _ _ _ _ _ _ _ _ _ _ _ _ _ _ _ _ _ _ _ σ hσ hM.1.1 hM.2.1) rm e2
  have rc : RCQ s.2.2.2.2.2.2.2.2.2.2.2.2.2.2.2.2.2.2.2.2.2.2.2.2.2.2.2.2.2.2.2.2.2.2.2.2.2.2.2.2.2.2.2.2.2.2.2.2.2.2.2.2.2.2.2.2.2.2.2.2.2.2.2.2.2.2.2.2.2.2.1 rx.2.2.2.2.2.2.2.2.2.2.2.2.2.2.2.2.2.2.2.2.2.2.2.2.2.2.2.2.2.2.2.2.2.2.2.2.2.2.2.2.2.2.2 rm.2.2.2.2.2.2.2.2.2.1 t.2.2.2.2.2.2.2.2.2.2.2.2.2.1 t.2.2.2.2.2.2.2.2.2.2.2.2.2.2.2.2.2.2.2.2.2.2.2.2.2.2.2.2.2.2.2.2.2.2.2.2.2.2.2.2.2.2.2.1 := by
    rcases p with ⟨p0, p1⟩ | ⟨m, pm, m1, m7, -⟩
    · rcases q with ⟨q0, q1⟩ | ⟨m, qm, m1, m7, -⟩
      · subst p1 q1
        exact hq
      · exact absurd ⟨by omega, by omega⟩ p0
    · rcases q with ⟨q0, -⟩ | ⟨m', qm, -, -, q1, L, ret, q2⟩
      · exact absurd ⟨by omega, by omega⟩ q0
      · have ex : a0 = Int32.ofNat m := Int32.toInt_inj.mp (by rw [Int32.toInt_ofNat_of_lt (by omega)]; omega)
        have pp := x_adder3 a0 v _ _ _ _ _ _ _ _ _ _ _ _ _ _ _ _ _ _ _ _ _ _ _ _ _ _ _ _ _ _ _ u _ _ _ _ _ _ _ _ _ _ hD.1 hD.2 m ex m1 m7 rx e1
        rcases q2.2.2.2 with ⟨-, -, -, -, wt, -⟩ | ⟨w, -⟩
        · rw [pp.2.2.2, wt]; exact ⟨rfl, .inl rfl⟩
        · exact absurd trivial w
  rcases i with ⟨c1, c2, i⟩ | ⟨c1, c2, i⟩
  · exact ⟨rx, rm, e1, e2, e3, .inl ⟨c1, c2, i, rc⟩⟩
  · exact ⟨rx, rm, e1, e2, e3, .inr ⟨c1, c2, i, rc⟩⟩
set_option maxHeartbeats 400000 in
theorem hp3_race : HOP_race True INV3 INV3 := by
  intro s t hI a0
  obtain ⟨rx, rm, e1, e2, -, i⟩ := hp2_race s t hI.1 a0
  obtain ⟨⟨S, σ, ⟨hT, hE, hD, hX, hH, hM, hK, hR⟩, hA, hNX, hNM, hDY, hW, hP⟩, hq⟩ := hI
  obtain ⟨q1, q2⟩ := p_race _ _ _ _ _ _ _ _ _ _ _ _ _ _ _ _ _ _ _ _ _ _ _ _ _ _ _ _ _ _ _ _ _ _ _ _ _ _ _ _ _ _ t.2.2.2.2.2.2.2.2.1 t.2.2.2.2.2.2.2.2.2.2.2.2.2.2.2.2.2.2.2.2.1 t.2.2.2.2.2.2.2.2.2.2.2.2.2.2.2.2.2.2.2.2.2.2.1 t.2.2.2.2.2.2.2.2.2.2.2.2.2.2.2.2.2.2.2.2.2.2.2.1 t.2.2.2.2.2.2.2.2.2.2.2.2.2.2.2.2.2.2.2.2.2.2.2.2.1 t.2.2.2.2.2.2.2.2.2.2.2.2.2.2.2.2.2.2.2.2.2.2.2.2.2.1 t.2.2.2.2.2.2.2.2.2.2.2.2.2.2.2.2.2.2.2.2.2.2.2.2.2.2.2.1 t.2.2.2.2.2.2.2.2.2.2.2.2.2.2.2.2.2.2.2.2.2.2.2.2.2.2.2.2.2.2.2.1 t.2.2.2.2.2.2.2.2.2.2.2.2.2.2.2.2.2.2.2.2.2.2.2.2.2.2.2.2.2.2.2.2.1 (S := S) (σ := σ) ⟨_, _, _, _, _, _, hA, hX, hM, hNX, hNM, hW⟩ hM.1.1 hM.1.2.1 t.2.2.2.2.2.2.2.2.2.2.2.2.1 t.2.2.2.2.2.2.2.2.2.2.2.2.2.1 t.2.2.2.2.2.2.2.2.2.2.2.2.2.2.2.2.2.2.2.2.2.2.2.2.2.2.2.2.2.2.1 t.2.2.2.2.2.2.2.2.2.2.2.2.2.2.2.2.2.2.2.2.2.2.2.2.2.2.2.2.2.2.2.2.2.1 t.2.2.2.2.2.2.2.2.2.2.2.2.2.2.2.2.2.2.2.2.2.2.2.2.2.2.2.2.2.2.2.2.2.2.1 t.2.2.2.2.2.2.2.2.2.2.2.2.2.2.2.2.2.2.2.2.2.2.2.2.2.2.2.2.2.2.2.2.2.2.2.1 t.2.2.2.2.2.2.2.2.2.2.2.2.2.2.2.2.2.2.2.2.2.2.2.2.2.2.2.2.2.2.2.2.2.2.2.2.1 t.2.2.2.2.2.2.2.2.2.2.2.2.2.2.2.2.2.2.2.2.2.2.2.2.2.2.2.2.2.2.2.2.2.2.2.2.2.2.1 t.2.2.2.2.2.2.2.2.2.2.2.2.2.2.2.2.2.2.2.2.2.2.2.2.2.2.2.2.2.2.2.2.2.2.2.2.2.2.2.1 t.2.2.2.2.2.2.2.2.2.2.2.2.2.2.2.2.2.2.2.2.2.2.2.2.2.2.2.2.2.2.2.2.2.2.2.2.2.2.2.2.1 t.2.2.2.2.2.2.2.2.2.2.2.2.2.2.2.2.2.2.2.2.2.2.2.2.2.2.2.2.2.2.2.2.2.2.2.2.2.2.2.2.2.1 t.2.2.2.2.2.2.2.2.2.2.2.2.2.2.2.2.2.2.2.2.2.2.2.2.2.2.2.2.2.2.2.2.2.2.2.2.2.2.2.2.2.2.1 t.2.2.2.2.2.2.2.2.2.2.2.2.2.2.2.2.2.2.2.2.2.2.2.2.2.2.2.2.2.2.2.2.2.2.2.2.2.2.2.2.2.2.2.1 t.2.2.2.2.2.2.2.2.2.2.2.2.2.2.2.2.2.2.2.2.2.2.2.2.2.2.2.2.2.2.2.2.2.2.2.2.2.2.2.2.2.2.2.2.1 t.2.2.2.2.2.2.2.2.2.2.2.2.2.2.2.2.2.2.2.2.2.2.2.2.2.2.2.2.2.2.2.2.2.2.2.2.2.2.2.2.2.2.2.2.2 hDY.1 hDY.2.1 hP hq rx rm e1 e2
  exact ⟨rx, rm, e1, e2, fun _ => q1, i, q2⟩
set_option maxHeartbeats 400000 in
theorem hp3_raced : HOP_raced True INV3 INV3 := by
  intro s t hI a0
  obtain ⟨rx, rm, e1, e2, -, i⟩ := hp2_raced s t hI.1 a0
  exact ⟨rx, rm, e1, e2, fun _ => p_raced a0 s.2.2.2.2.2.2.2.2.2.2.2.2.2.2.2.2.2.2.2.2.2.2.2.2.2.2.2.2.2.2.2.2.2.2.2.2.2.2.2.2.2.2.2.2.2.2.2.2.2.2.2.2.2.2.2.2.2.2.2.2.2.2.2.2.2.2.2.2.2.2.1 s.2.2.2.2.2.2.2.2.2.2.2.2.2.2.2.2.2.2.2.2.2.2.2.2.2.2.2.2.2.2.2.2.2.2.2.2.2.2.2.2.2.2.2.2.2.2.2.2.2.2.2.2.2.2.2.2.2.2.2.2.2.2.2.2.2.2.2.2.2.2.2.1 t.2.2.2.2.2.2.2.2.2.2.2.2.1 t.2.2.2.2.2.2.2.2.2.2.2.2.2.1 t.2.2.2.2.2.2.2.2.2.2.2.2.2.2.2.2.2.2.2.2.2.2.2.2.2.2.2.2.2.2.2.2.2.2.2.2.2.2.2.2.2.2.2.1 hI.2 rx rm e1 e2, i, hI.2⟩
set_option maxHeartbeats 400000 in
theorem x4_init9 : Pc f_X4_init (fun r => r.2.1 = -1) := by
  unfold f_X4_init
  exact pc_any (fun _ _ => pc_any (fun _ _ => pc_any (fun _ _ => pc_some rfl)))
set_option maxHeartbeats 400000 in
theorem x10_init8 : Pc f_X10_init (fun s => s.2.2.2.2.2.2.2.2.2.2.2.2.2.2.2.2.2.2.2.2.2.2.2.2.2.2.2.2.2.2.2.2.2.2.2.2.2.2.2.2.2.2.2.2.2.2.2.2.2.2.2.2.2.2.2.2.2.2.2.2.2.2.2.2.2.2.2.2.2.2.2.1 = -1) := by
  unfold f_X10_init
  exact pc_any (fun r4 _ => pc_any (fun r7 _ => pc_any (fun r10 _ => pc_any (fun r13 _ => pc_bind x4_init9 (fun r16 q => pc_some q)))))
set_option maxHeartbeats 400000 in
theorem m11_init8 : Pc f_X11_init (fun t => t.2.2.2.2.2.2.2.2.2.2.2.2.1 = -1) := by
  unfold f_X11_init
  exact pc_any (fun r1 _ => pc_any (fun r2 _ => pc_some rfl))
set_option maxHeartbeats 400000 in
theorem hp3_init : ∃ s t, f_X10_init = some s ∧ f_X11_init = some t ∧ INV3 s t := by
  obtain ⟨s, t, e1, e2, i⟩ := hp2_init
  refine ⟨s, t, e1, e2, i, ?_⟩
  have a := x10_init8 s e1
  have b := m11_init8 t e2
  exact ⟨a.trans b.symm, .inl a⟩
def EL3 : Nat → Prop
  | 3 => False
  | _ => True
set_option maxHeartbeats 400000 in
theorem lev3 : HOPS EL3 INV3 INV3 := ⟨hp3_feed, hp3_load, hp3_adder, hp3_wrong, hp3_count, hp3_letter, hp3_key, hp3_tick, hp3_quiet, hp3_relay, hp3_contact, hp3_lamp, hp3_net, hp3_stuck, hp3_dust, hp3_race, hp3_raced, hp3_back, hp3_init⟩
