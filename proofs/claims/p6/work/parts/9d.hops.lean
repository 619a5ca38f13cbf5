/-! the invariant, and what each call leaves of it -/
def INV0 (s : XS) (t : MS) : Prop := ∃ (S : List StT) (σ : Nat), TP s.1 s.2.2.2.1 ∧ (t.1 = s.1 ∧ t.2.2.2.2.2.2.2.2.2.2.2.2.2.2.1 = s.2.2.2.1) ∧ DR s.2.2.2.2.2.2.2.2.2.2.2.2.2.2.2.2.2.1 s.2.2.2.2.2.2.2.2.2.2.2.2.2.2.2.2.2.2.2.2.2.2.2.2.2.1 ∧ IX S s.2.2.2.2.2.2.2.2.2.2.2.2.2.2.2.2.2.2.2.2.2.2.2.2.2.2.2.2.2.2.2.2.2.2.2.1 s.2.2.2.2.2.2.2.2.2.2.2.2.2.2.2.2.2.2.2.2.2.2.2.2.2.2.2.2.2.2.2.2.2.2.2.2.2.1 s.2.2.2.2.2.2.2.2.2.2.2.2.2.2.2.2.2.2.2.2.2.2.2.2.2.2.2.2.2.2.2.2.2.2.2.2.2.2.1 s.2.2.2.2.2.2.2.2.2.2.2.2.2.2.2.2.2.2.2.2.2.2.2.2.2.2.2.2.2.2.2.2.2.2.2.2.2.2.2.1 s.2.2.2.2.2.2.2.2.2.2.2.2.2.2.2.2.2.2.2.2.2.2.2.2.2.2.2.2.2.2.2.2.2.2.2.2.2.2.2.2.1 s.2.2.2.2.2.2.2.2.2.2.2.2.2.2.2.2.2.2.2.2.2.2.2.2.2.2.2.2.2.2.2.2.2.2.2.2.2.2.2.2.2.1 s.2.2.2.2.2.2.2.2.2.2.2.2.2.2.2.2.2.2.2.2.2.2.2.2.2.2.2.2.2.2.2.2.2.2.2.2.2.2.2.2.2.2.1 s.2.2.2.2.2.2.2.2.2.2.2.2.2.2.2.2.2.2.2.2.2.2.2.2.2.2.2.2.2.2.2.2.2.2.2.2.2.2.2.2.2.2.2.1 s.2.2.2.2.2.2.2.2.2.2.2.2.2.2.2.2.2.2.2.2.2.2.2.2.2.2.2.2.2.2.2.2.2.2.2.2.2.2.2.2.2.2.2.2.1 ∧ HR s.2.2.2.2.2.2.2.2.2.2.2.2.2.2.2.2.2.2.2.2.2.2.2.2.2.2.2.2.2.2.2.2.2.2.2.2.2.2.2.2.2.2.2.2.2.2.2.2.2.2.2.2.2.2.2.2.2.2.2.2.2.2.2.1 s.2.2.2.2.2.2.2.2.2.2.2.2.2.2.2.2.2.2.2.2.2.2.2.2.2.2.2.2.2.2.2.2.2.2.2.2.2.2.2.2.2.2.2.2.2.2.2.2.2.2.2.2.2.2.2.2.2.2.2.2.2.2.2.2.1 ∧ IM S σ t.2.2.2.2.2.2.2.2.1 t.2.2.2.2.2.2.2.2.2.2.2.2.2.2.2.2.2.2.2.2.1 t.2.2.2.2.2.2.2.2.2.2.2.2.2.2.2.2.2.2.2.2.2.1 t.2.2.2.2.2.2.2.2.2.2.2.2.2.2.2.2.2.2.2.2.2.2.1 t.2.2.2.2.2.2.2.2.2.2.2.2.2.2.2.2.2.2.2.2.2.2.2.1 t.2.2.2.2.2.2.2.2.2.2.2.2.2.2.2.2.2.2.2.2.2.2.2.2.1 t.2.2.2.2.2.2.2.2.2.2.2.2.2.2.2.2.2.2.2.2.2.2.2.2.2.1 t.2.2.2.2.2.2.2.2.2.2.2.2.2.2.2.2.2.2.2.2.2.2.2.2.2.2.1 t.2.2.2.2.2.2.2.2.2.2.2.2.2.2.2.2.2.2.2.2.2.2.2.2.2.2.2.1 ∧ KR t.2.2.2.2.2.2.2.2.2.2.1 t.2.2.2.2.2.2.2.2.2.2.2.1 ∧ RIv t.2.2.2.2.2.2.2.2.2.2.2.2.2.2.2.2.2.2.2.2.2.2.2.2.2.2.2.2.2.2.2.2.2.2.2.2.2.2.2.2.1 t.2.2.2.2.2.2.2.2.2.2.2.2.2.2.2.2.2.2.2.2.2.2.2.2.2.2.2.2.2.2.2.2.2.2.2.2.2.2.2.2.2.1 t.2.2.2.2.2.2.2.2.2.2.2.2.2.1
set_option maxHeartbeats 400000 in
theorem hop_feed : HOP_feed True INV0 INV0 := by
  intro s t hI a0 a1 a2 a3 a4
  obtain ⟨S, σ, hT, hE, hD, hX, hH, hM, hK, hR⟩ := hI
  obtain ⟨r, e1, e2, p⟩ := feed_ok a0 a1 a2 a3 a4 _ _ hT.1 hT.2.1 hT.2.2
  exact ⟨r, r, e1, by rw [hE.1, hE.2]; exact e2, fun _ => rfl, S, σ, p, ⟨rfl, rfl⟩, hD, hX, hH, hM, hK, hR⟩
set_option maxHeartbeats 400000 in
theorem ok_X10_wrong (x1 : Int32) (c_fault : Int32) (c_faultPlace : Int32) : Ok (f_X10_wrong x1 c_fault c_faultPlace) (fun _ => True) := by
  unfold f_X10_wrong
  exact ok_if (fun _ => ok_some trivial) (fun _ => ok_if (fun _ => ok_some trivial) (fun _ => ok_some trivial))
set_option maxHeartbeats 400000 in
theorem ok_X11_wrong (x1 : Int32) (c_wrong : Int32) (c_wrongAt : Int32) : Ok (f_X11_wrong x1 c_wrong c_wrongAt) (fun _ => True) := by
  unfold f_X11_wrong
  exact ok_if (fun _ => ok_some trivial) (fun _ => ok_if (fun _ => ok_some trivial) (fun _ => ok_some trivial))
set_option maxHeartbeats 400000 in
theorem hop_wrong : HOP_wrong False INV0 INV0 := by
  intro s t hI a0
  obtain ⟨S, σ, hT, hE, hD, hX, hH, hM, hK, hR⟩ := hI
  exact hop2 (ok_X10_wrong _ _ _) (ok_X11_wrong _ _ _) (fun rx rm p q => ⟨fun e => e.elim, ⟨S, σ, hT, hE, hD, hX, hH, hM, hK, hR⟩⟩)
set_option maxHeartbeats 400000 in
theorem hop_count : HOP_count False INV0 INV0 := by
  intro s t hI a0
  obtain ⟨S, σ, hT, hE, hD, hX, hH, hM, hK, hR⟩ := hI
  exact hop2 (s_X10_count _ _ _ _ _ _ _ _ _ _ _ _ _ _ _ _ _ _ _ _ _ _ _ (IX_N hX) hX.2.2.1.2) (s_X11_count σ _ _ _ _ _ _ _ _ _ _ _ _ _ _ _ _ hM.1) (fun rx rm p q => ⟨fun e => e.elim, ⟨S, σ, hT, hE, hD, hX, hH, hM, hK, hR⟩⟩)
set_option maxHeartbeats 400000 in
theorem hop_relay : HOP_relay False INV0 INV0 := by
  intro s t hI a0 a1
  obtain ⟨S, σ, hT, hE, hD, hX, hH, hM, hK, hR⟩ := hI
  exact hop2 (s_X10_relay _ _ _ _ _ _ _ _ _ _ _ _ _ _ _ _ _ _ _ _ _ _ _ _ _ _ _ (IX_N hX)) (s_X11_relay σ _ _ _ _ _ _ _ _ _ _ _ _ _ _ _ _ hM.1) (fun rx rm p q => ⟨fun e => e.elim, ⟨S, σ, hT, hE, hD, hX, hH, hM, hK, hR⟩⟩)
set_option maxHeartbeats 400000 in
theorem hop_contact : HOP_contact False INV0 INV0 := by
  intro s t hI a0 a1
  obtain ⟨S, σ, hT, hE, hD, hX, hH, hM, hK, hR⟩ := hI
  exact hop2 (s_X10_contact _ _ _ _ _ (IX_N hX)) (s_X11_contact σ _ _ _ _ _ _ _ _ hM.1) (fun rx rm p q => ⟨fun e => e.elim, ⟨S, σ, hT, hE, hD, hX, hH, hM, hK, hR⟩⟩)
set_option maxHeartbeats 400000 in
theorem hop_lamp : HOP_lamp False INV0 INV0 := by
  intro s t hI a0
  obtain ⟨S, σ, hT, hE, hD, hX, hH, hM, hK, hR⟩ := hI
  exact hop2 (s_X10_lamp _ _ _ _ _ _ _ _ _ _ _ _ _ _ _ _ _ _ _ _ _ (IX_N hX)) (s_X11_lamp σ _ _ _ _ _ _ _ _ _ _ _ _ _ _ hM.1) (fun rx rm p q => ⟨fun e => e.elim, ⟨S, σ, hT, hE, hD, hX, hH, hM, hK, hR⟩⟩)
set_option maxHeartbeats 400000 in
theorem hop_net : HOP_net False INV0 INV0 := by
  intro s t hI a0 a1 a2
  obtain ⟨S, σ, hT, hE, hD, hX, hH, hM, hK, hR⟩ := hI
  exact hop2 (s_X10_net _ _ _ _ _ _ _ _ _ _ _ _ _ _ _ _ _ _ _ _ _ _ _ (IX_N hX)) (s_X11_net σ _ _ _ _ _ _ _ _ _ _ _ _ _ _ _ _ hM.1) (fun rx rm p q => ⟨fun e => e.elim, ⟨S, σ, hT, hE, hD, hX, hH, hM, hK, hR⟩⟩)
set_option maxHeartbeats 400000 in
theorem hop_tick : HOP_tick False INV0 INV0 := by
  intro s t hI a0
  obtain ⟨S, σ, hT, hE, hD, hX, hH, hM, hK, hR⟩ := hI
  exact hop2 (s_X10_tick _ _ _ _ _ _ _ _ _ _ _ _ _ _ _ _ _ _ _ _ _ _ _ _ _ _ _ _ _ _ _ _ (IX_N hX) hH) (s_X11_tick σ _ _ _ _ _ _ _ _ _ _ _ _ _ _ _ _ _ _ hM.1 hK) (fun rx rm p q => ⟨fun e => e.elim, ⟨S, σ, hT, hE, hD, hX, p, hM, q, hR⟩⟩)
set_option maxHeartbeats 400000 in
theorem hop_quiet : HOP_quiet False INV0 INV0 := by
  intro s t hI
  obtain ⟨S, σ, hT, hE, hD, hX, hH, hM, hK, hR⟩ := hI
  exact hop2 (s_X10_quiet _ _ _ _ _ _ _ _ _ _ _ _ _ _ _ _ _ _ _ _ _ _ _ _ _ _ _ _ _ _ _ (IX_N hX) hH) (s_X11_quiet σ _ _ _ _ _ _ _ _ _ _ _ _ _ _ _ _ _ hM.1 hK) (fun rx rm p q => ⟨fun e => e.elim, ⟨S, σ, hT, hE, hD, hX, p, hM, q, hR⟩⟩)
set_option maxHeartbeats 400000 in
theorem hop_race : HOP_race False INV0 INV0 := by
  intro s t hI a0
  obtain ⟨S, σ, hT, hE, hD, hX, hH, hM, hK, hR⟩ := hI
  exact hop2 (s_X10_race _ _ _ _ _ _ _ _ _ _ _ _ _ _ _ _ _ _ _ _ _ _ _ _ _ _ _ _ _ _ _ _ _ _ _ _ _ _ _ _ _ _ (IX_N hX)) (s_X11_race σ _ _ _ _ _ _ _ _ _ _ _ _ _ _ _ _ _ _ _ _ _ _ _ _ _ hM.1 hR.1 hR.2.1 hR.2.2) (fun rx rm p q => ⟨fun e => e.elim, ⟨S, σ, hT, hE, hD, hX, hH, hM, hK, q.2.1, q.2.2, q.1⟩⟩)
set_option maxHeartbeats 400000 in
theorem hop_raced : HOP_raced False INV0 INV0 := by
  intro s t hI a0
  obtain ⟨S, σ, hT, hE, hD, hX, hH, hM, hK, hR⟩ := hI
  exact hop2 (s_X10_raced _ _ _) (s_X11_raced _ _ _ _ hR.2.2) (fun rx rm p q => ⟨fun e => e.elim, ⟨S, σ, hT, hE, hD, hX, hH, hM, hK, hR⟩⟩)
set_option maxHeartbeats 400000 in
theorem hop_back : HOP_back False INV0 INV0 := by
  intro s t hI a0
  obtain ⟨S, σ, hT, hE, hD, hX, hH, hM, hK, hR⟩ := hI
  exact hop2 (s_X10_back _ _ _ _ _ _ _ _ _ _ _ _ _ hH) (s_X11_back _ _ _ _ _ hK) (fun rx rm p q => ⟨fun e => e.elim, ⟨S, σ, hT, hE, hD, hX, p, hM, q, hR⟩⟩)
set_option maxHeartbeats 400000 in
theorem b01 {P Q : Prop} {a b : Int32} (h : P ↔ Q) (p : (P ∧ a = 1) ∨ (¬ P ∧ a = 0)) (q : (Q ∧ b = 1) ∨ (¬ Q ∧ b = 0)) : a = b := by
  rcases p with ⟨p, e⟩ | ⟨p, e⟩ <;> rcases q with ⟨q, f⟩ | ⟨q, f⟩
  · rw [e, f]
  · exact absurd (h.mp p) q
  · exact absurd (h.mpr q) p
  · rw [e, f]
set_option maxHeartbeats 400000 in
theorem hop_key : HOP_key True INV0 INV0 := by
  intro s t hI a0 a1 h01
  obtain ⟨S, σ, hT, hE, hD, hX, hH, hM, hK, hR⟩ := hI
  have pk := IXM_P hX hM 1 (by decide)
  refine hop2 (s_X10_key _ _ _ _) (s_X11_key σ _ _ _ _ _ _ _ _ hM.1) (fun rx rm p q => ⟨fun _ => b01 ?_ p q, ⟨S, σ, hT, hE, hD, hX, hH, hM, hK, hR⟩⟩)
  unfold hasP mP
  rw [show (1 : Int32).toInt = 1 from by decide, show (1 : Int).toNat = 1 from rfl]
  constructor
  · rintro ⟨-, -, h3, h4⟩
    exact ⟨h3, by omega⟩
  · rintro ⟨h3, h4⟩
    exact ⟨by decide, by decide, h3, by omega⟩
set_option maxHeartbeats 400000 in
theorem hop_stuck : HOP_stuck True INV0 INV0 := by
  intro s t hI a0 a1 a2
  obtain ⟨S, σ, hT, hE, hD, hX, hH, hM, hK, hR⟩ := hI
  have hc := IXM_hC hX hM a0 a1
  refine hop2 (s_X10_stuck _ _ _ _ _ _ (IX_N hX)) (s_X11_stuck σ _ _ _ _ _ _ _ _ _ hM.1) (fun rx rm p q => ⟨fun _ => ?_, ⟨S, σ, hT, hE, hD, hX, hH, hM, hK, hR⟩⟩)
  refine b01 (P := hasC a0 a1 s.2.2.2.2.2.2.2.2.2.2.2.2.2.2.2.2.2.2.2.2.2.2.2.2.2.2.2.2.2.2.2.2.2.2.2.2.2.1 s.2.2.2.2.2.2.2.2.2.2.2.2.2.2.2.2.2.2.2.2.2.2.2.2.2.2.2.2.2.2.2.2.2.2.2.2.2.2.2.2.2.1 ∧ -1 ≤ a2.toInt ∧ a2.toInt ≤ 2) (Q := mC σ a0 a1 t.2.2.2.2.2.2.2.2.2.2.2.2.2.2.2.2.2.2.2.2.1 t.2.2.2.2.2.2.2.2.2.2.2.2.2.2.2.2.2.2.2.2.2.2.2.2.1 ∧ -1 ≤ a2.toInt ∧ a2.toInt ≤ 2) (by rw [hc]) ?_ q
  rcases p with ⟨h1, h2, h3, h4⟩ | p
  · exact .inl ⟨⟨h1, h2, h3⟩, h4⟩
  · exact .inr p
set_option maxHeartbeats 400000 in
theorem hop_dust : HOP_dust True INV0 INV0 := by
  intro s t hI a0 a1 a2 h01
  obtain ⟨S, σ, hT, hE, hD, hX, hH, hM, hK, hR⟩ := hI
  exact hop2 (s_X10_dust _ _ _ _ _ _ (IX_N hX)) (s_X11_dust σ _ _ _ _ _ _ _ _ _ hM.1) (fun rx rm p q => ⟨fun _ => b01 (IXM_hC hX hM a0 a1) p q, ⟨S, σ, hT, hE, hD, hX, hH, hM, hK, hR⟩⟩)
