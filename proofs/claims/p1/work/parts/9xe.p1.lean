/-! one call on a fresh object: all answers alike -/
set_option maxHeartbeats 400000 in
theorem p1_feed : HOP_feed True FR (fun _ _ => True) := by
  intro s t hI a0 a1 a2 a3 a4
  obtain ⟨rx, rm, e1, e2, e3, _⟩ := hop_feed s t hI.1 a0 a1 a2 a3 a4
  exact ⟨rx, rm, e1, e2, e3, trivial⟩
set_option maxHeartbeats 400000 in
theorem p1_letter : HOP_letter True FR (fun _ _ => True) := by
  intro s t hI a0 a1 a2
  obtain ⟨rx, rm, e1, e2, e3, _⟩ := hop_letter s t hI.1 a0 a1 a2
  exact ⟨rx, rm, e1, e2, e3, trivial⟩
set_option maxHeartbeats 400000 in
theorem p1_key : HOP_key True FR (fun _ _ => True) := by
  intro s t hI a0 a1 h01
  obtain ⟨rx, rm, e1, e2, e3, _⟩ := hop_key s t hI.1 a0 a1 h01
  exact ⟨rx, rm, e1, e2, e3, trivial⟩
set_option maxHeartbeats 400000 in
theorem p1_stuck : HOP_stuck True FR (fun _ _ => True) := by
  intro s t hI a0 a1 a2
  obtain ⟨rx, rm, e1, e2, e3, _⟩ := hop_stuck s t hI.1 a0 a1 a2
  exact ⟨rx, rm, e1, e2, e3, trivial⟩
set_option maxHeartbeats 400000 in
theorem p1_dust : HOP_dust True FR (fun _ _ => True) := by
  intro s t hI a0 a1 a2 h01
  obtain ⟨rx, rm, e1, e2, e3, _⟩ := hop_dust s t hI.1 a0 a1 a2 h01
  exact ⟨rx, rm, e1, e2, e3, trivial⟩
set_option maxHeartbeats 400000 in
theorem p1_load : HOP_load True FR (fun _ _ => True) := by
  intro s t hI a0 u v
  obtain ⟨rx, rm, e1, e2, e3, e4⟩ := hop_load s t hI.1 a0 u v
  refine ⟨rx, rm, e1, e2, e3, ?_⟩
  rcases e4 with ⟨q1, q2, _⟩ | ⟨q1, q2, _⟩
  · exact .inl ⟨q1, q2, trivial⟩
  · exact .inr ⟨q1, q2, trivial⟩
set_option maxHeartbeats 400000 in
theorem p1_adder : HOP_adder True FR (fun _ _ => True) := by
  intro s t hI a0 u v
  obtain ⟨rx, rm, e1, e2, e3, e4⟩ := hop_adder s t hI.1 a0 u v
  refine ⟨rx, rm, e1, e2, e3, ?_⟩
  rcases e4 with ⟨q1, q2, _⟩ | ⟨q1, q2, _⟩
  · exact .inl ⟨q1, q2, trivial⟩
  · exact .inr ⟨q1, q2, trivial⟩
set_option maxHeartbeats 400000 in
theorem p1_tick : HOP_tick True FR (fun _ _ => True) := by
  intro s t hI a0
  obtain ⟨⟨S, σ, hT, hE, hD, hX, hH, hM, hK, hR⟩, ⟨f1, f2, f3, f4, f5, f6, f7, f8, f9, f10, f11⟩, ⟨g1, g2, g3, g4, g5, g6⟩⟩ := hI
  exact hop2 (fx_tick _ _ _ _ _ _ _ _ _ _ _ _ _ _ _ _ _ _ _ _ _ _ _ _ _ _ _ _ _ _ _ _ (IX_N hX) (f5 0 (by decide)) hH f8) (fm_tick _ _ _ _ _ _ _ _ _ _ _ _ _ _ _ _ _ _ 0 _ g3 hK g4) (fun rx rm p q => ⟨fun _ => Int32.toInt_inj.mp (p.trans q.symm), trivial⟩)
set_option maxHeartbeats 400000 in
theorem p1_quiet : HOP_quiet True FR (fun _ _ => True) := by
  intro s t hI
  obtain ⟨⟨S, σ, hT, hE, hD, hX, hH, hM, hK, hR⟩, ⟨f1, f2, f3, f4, f5, f6, f7, f8, f9, f10, f11⟩, ⟨g1, g2, g3, g4, g5, g6⟩⟩ := hI
  exact hop2 (fx_quiet _ _ _ _ _ _ _ _ _ _ _ _ _ _ _ _ _ _ _ _ _ _ _ _ _ _ _ _ _ _ _ (IX_N hX) (f5 0 (by decide)) hH) (fm_quiet _ _ _ _ _ _ _ _ _ _ _ _ _ _ _ _ _ 0 _ g3 hK) (fun rx rm p q => ⟨fun _ => p.trans q.symm, trivial⟩)
set_option maxHeartbeats 400000 in
theorem p1_race : HOP_race True FR (fun _ _ => True) := by
  intro s t hI a0
  obtain ⟨⟨S, σ, hT, hE, hD, hX, hH, hM, hK, hR⟩, ⟨f1, f2, f3, f4, f5, f6, f7, f8, f9, f10, f11⟩, ⟨g1, g2, g3, g4, g5, g6⟩⟩ := hI
  exact hop2 (fx_race _ _ _ _ _ _ _ _ _ _ _ _ _ _ _ _ _ _ _ _ _ _ _ _ _ _ _ _ _ _ _ _ _ _ _ _ _ _ _ _ _ _ (IX_N hX) (f5 0 (by decide))) (fm_race _ _ _ _ _ _ _ _ _ _ _ _ _ _ _ _ _ _ _ _ _ _ _ _ _ 0 _ g3) (fun rx rm p q => ⟨fun _ => p.trans q.symm, trivial⟩)
set_option maxHeartbeats 400000 in
theorem p1_count : HOP_count True FR (fun _ _ => True) := by
  intro s t hI a0
  obtain ⟨⟨S, σ, hT, hE, hD, hX, hH, hM, hK, hR⟩, ⟨f1, f2, f3, f4, f5, f6, f7, f8, f9, f10, f11⟩, ⟨g1, g2, g3, g4, g5, g6⟩⟩ := hI
  exact hop2 (fx_count _ _ _ _ _ _ _ _ _ _ _ _ _ _ _ _ _ _ _ _ _ _ _ f5 (IX_N hX) f3 f8 f10) (fm_count _ _ _ _ _ _ _ _ _ _ _ _ _ _ _ _ 0 g3 g4 g5) (fun rx rm p q => ⟨fun _ => p.trans q.symm, trivial⟩)
set_option maxHeartbeats 400000 in
theorem p1_net : HOP_net True FR (fun _ _ => True) := by
  intro s t hI a0 a1 a2
  obtain ⟨⟨S, σ, hT, hE, hD, hX, hH, hM, hK, hR⟩, ⟨f1, f2, f3, f4, f5, f6, f7, f8, f9, f10, f11⟩, ⟨g1, g2, g3, g4, g5, g6⟩⟩ := hI
  exact hop2 (fx_net _ _ _ _ _ _ _ _ _ _ _ _ _ _ _ _ _ _ _ _ _ _ _ f5 f4 f6 f7) (fm_net _ _ _ _ _ _ _ _ _ _ _ _ _ _ _ _ 0 _ g3) (fun rx rm p q => ⟨fun _ => p.trans q.symm, trivial⟩)
set_option maxHeartbeats 400000 in
theorem p1_wrong : HOP_wrong True FR (fun _ _ => True) := by
  intro s t hI a0
  obtain ⟨⟨S, σ, hT, hE, hD, hX, hH, hM, hK, hR⟩, ⟨f1, f2, f3, f4, f5, f6, f7, f8, f9, f10, f11⟩, ⟨g1, g2, g3, g4, g5, g6⟩⟩ := hI
  refine hop2 (P := fun r => r = if a0 = 0 then 0 else -1) (Q := fun r => r = if a0 = 0 then 0 else -1) ?_ ?_ (fun rx rm p q => ⟨fun _ => p.trans q.symm, trivial⟩)
  · unfold f_X10_wrong
    refine ok_if (fun a => ok_some ?_) (fun a => ok_if (fun _ => ok_some ?_) (fun _ => ok_some ?_))
    · rw [f1, if_pos a]
    · rw [f2, if_neg a]
    · rw [if_neg a]
  · unfold f_X11_wrong
    refine ok_if (fun a => ok_some ?_) (fun a => ok_if (fun _ => ok_some ?_) (fun _ => ok_some ?_))
    · rw [g1, if_pos a]
    · rw [g2, if_neg a]
    · rw [if_neg a]
set_option maxHeartbeats 400000 in
theorem p1_raced : HOP_raced True FR (fun _ _ => True) := by
  intro s t hI a0
  obtain ⟨⟨S, σ, hT, hE, hD, hX, hH, hM, hK, hR⟩, ⟨f1, f2, f3, f4, f5, f6, f7, f8, f9, f10, f11⟩, ⟨g1, g2, g3, g4, g5, g6⟩⟩ := hI
  refine hop2 (P := fun r => r = -1) (Q := fun r => r = -1) ?_ ?_ (fun rx rm p q => ⟨fun _ => p.trans q.symm, trivial⟩)
  · unfold f_X10_raced f_X4_told
    rw [f11, if_pos rfl]
    exact ok_some rfl
  · unfold f_X11_raced
    rw [g6, if_pos rfl]
    exact ok_some rfl
set_option maxHeartbeats 400000 in
theorem p1_back : HOP_back True FR (fun _ _ => True) := by
  intro s t hI a0
  obtain ⟨⟨S, σ, hT, hE, hD, hX, hH, hM, hK, hR⟩, ⟨f1, f2, f3, f4, f5, f6, f7, f8, f9, f10, f11⟩, ⟨g1, g2, g3, g4, g5, g6⟩⟩ := hI
  refine hop2 (P := fun r => r.1 = -1) (Q := fun r => r.1 = -1) ?_ ?_ (fun rx rm p q => ⟨fun _ => p.trans q.symm, trivial⟩)
  · unfold f_X10_back f_X1_takeBack
    refine ok_bind (P := fun r => r.1 = 0) (ok_if (fun _ => ok_some rfl) (fun a => ok_if (fun b => ?_) (fun _ => ok_some rfl))) (fun r hr => ?_)
    · rw [tI_lt, l_1] at a
      rw [f10, tI_le, l_0] at b
      exfalso; omega
    · rw [if_pos hr]
      exact ok_some rfl
  · unfold f_X11_back
    refine ok_if (fun _ => ok_some rfl) (fun a => ok_if (fun _ => ok_some rfl) (fun _ => ok_if (fun b => ?_) (fun _ => ok_some rfl)))
    rw [tI_lt, l_1] at a
    rw [g5, tI_le, l_0] at b
    exfalso; omega
set_option maxHeartbeats 400000 in
theorem p1_contact : HOP_contact True FR (fun _ _ => True) := by
  intro s t hI a0 a1
  obtain ⟨⟨S, σ, hT, hE, hD, hX, hH, hM, hK, hR⟩, ⟨f1, f2, f3, f4, f5, f6, f7, f8, f9, f10, f11⟩, ⟨g1, g2, g3, g4, g5, g6⟩⟩ := hI
  have nN := IX_N hX
  refine hop2 (P := fun r => r = -1) ?_ (s_X11_contact σ _ _ _ _ _ _ _ _ hM.1) (fun rx rm p q => ⟨fun _ => ?_, trivial⟩)
  · unfold f_X10_contact
    refine ok_bind (so_X3_hasContact _ _ _ _ (by have := nN.1; omega)) (fun r h => ?_)
    rcases h with ⟨e, h⟩ | ⟨e, h⟩
    · rw [if_pos e]; exact ok_some rfl
    · have := h.2.1
      rw [f5 0 (by decide), l_0] at this
      have := h.1
      exfalso; omega
  · rcases q with ⟨q, -⟩ | ⟨q, -⟩
    · rw [p, q]
    · have := q.1.2
      rw [← IXM_P hX hM 0 (by decide), f5 0 (by decide), l_0] at this
      have := q.1.1
      exfalso; omega
set_option maxHeartbeats 400000 in
theorem p1_relay : HOP_relay True FR (fun _ _ => True) := by
  intro s t hI a0 a1
  obtain ⟨⟨S, σ, hT, hE, hD, hX, hH, hM, hK, hR⟩, ⟨f1, f2, f3, f4, f5, f6, f7, f8, f9, f10, f11⟩, ⟨g1, g2, g3, g4, g5, g6⟩⟩ := hI
  refine hop2 (P := fun r => r.1 = -1) (Q := fun r => r.1 = -1) ?_ ?_ (fun rx rm p q => ⟨fun _ => p.trans q.symm, trivial⟩)
  · unfold f_X10_relay
    refine ok_bind (so_X3_has _ _ _) (fun r h => ?_)
    rcases h with ⟨e, h⟩ | ⟨e, h⟩
    · rw [if_pos e]; exact ok_some rfl
    · obtain ⟨h1, h2, h3, h4⟩ := h
      rw [show (0 : Int32).toInt.toNat = 0 from by decide, f5 0 (by decide), l_0] at h4
      exfalso; omega
  · unfold f_X11_relay
    refine ok_if (fun _ => ok_some rfl) (fun a => ?_)
    rw [tI_lt, l_0] at a
    refine ok_eq (fm_here g3 0 (by decide) (by decide)) ?_
    rw [if_neg (by rw [tI_lt, l_0]; omega)]
    exact ok_some rfl
set_option maxHeartbeats 400000 in
theorem p1_lamp : HOP_lamp True FR (fun _ _ => True) := by
  intro s t hI a0
  obtain ⟨⟨S, σ, hT, hE, hD, hX, hH, hM, hK, hR⟩, ⟨f1, f2, f3, f4, f5, f6, f7, f8, f9, f10, f11⟩, ⟨g1, g2, g3, g4, g5, g6⟩⟩ := hI
  refine hop2 (P := fun r => r.1 = -1) (Q := fun r => r.1 = -1) ?_ ?_ (fun rx rm p q => ⟨fun _ => p.trans q.symm, trivial⟩)
  · unfold f_X10_lamp
    refine ok_bind (so_X3_has _ _ _) (fun r h => ?_)
    rcases h with ⟨e, h⟩ | ⟨e, h⟩
    · rw [if_pos e]; exact ok_some rfl
    · obtain ⟨h1, h2, h3, h4⟩ := h
      rw [show (2 : Int32).toInt.toNat = 2 from by decide, f5 2 (by decide), l_0] at h4
      exfalso; omega
  · unfold f_X11_lamp
    refine ok_if (fun _ => ok_some rfl) (fun a => ?_)
    rw [tI_lt, l_0] at a
    refine ok_eq (fm_here g3 2 (by decide) (by decide)) ?_
    rw [if_neg (by rw [tI_lt, l_0]; omega)]
    exact ok_some rfl
set_option maxHeartbeats 400000 in
theorem p1_hops : HOPS (fun _ => True) FR (fun _ _ => True) := ⟨p1_feed, p1_load, p1_adder, p1_wrong, p1_count, p1_letter, p1_key, p1_tick, p1_quiet, p1_relay, p1_contact, p1_lamp, p1_net, p1_stuck, p1_dust, p1_race, p1_raced, p1_back, fr_init⟩
