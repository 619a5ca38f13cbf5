/-! letter, load and adder: alike on both sides -/
set_option maxHeartbeats 400000 in
theorem hop_letter : HOP_letter True INV0 INV0 := by
  intro s t hI a0 a1 a2
  obtain ⟨S, σ, hT, hE, hD, hX, hH, hM, hK, hR⟩ := hI
  have full := fun (u i : Nat) (a : StT) (hu : u < 5) (h : AT u i a S) => (PMr_full σ _ _ _ _ _ _ u i a hu S hM.2.2.2.2 h).1
  refine hop2 (s_X10_letter _ _ _ _ _ _ (IX_N hX) S hX.1.2.2.2.1 hX.1.2.2.2.2.1 (fun u i a hu h => ?_)) (s_X11_letter σ _ _ _ _ _ _ _ _ _ _ hM.1 (fun i hi => (hM.2.1 i hi).1.2)) (fun rx rm p q => ⟨fun _ => ?_, S, σ, hT, hE, hD, hX, hH, hM, hK, hR⟩)
  · obtain ⟨n, n1, n2, n3, n4⟩ := full u i a hu h
    exact ⟨_, n, n1, fun j hj => by have := n4 j hj; omega, n3⟩
  · have hPP : ∀ u : Nat, u < 5 → _ := fun u hu => IXM_P hX hM u hu
    rcases p with ⟨p1, p2⟩ | ⟨p1, p2⟩
    · rcases q with ⟨q1, q2⟩ | ⟨q1, q2, q3, q4, -⟩
      · rw [p2, q1]
      · have := hPP a0.toInt.toNat (by omega)
        exact absurd ⟨q1, q2, q3, by omega⟩ p1
    · obtain ⟨g1, g2, g3, g4⟩ := p1
      have hp := hPP a0.toInt.toNat (by omega)
      have hcn := hX.1.2.2.2.1 a0.toInt.toNat (by omega)
      obtain ⟨a, ha⟩ := AT_ex a0.toInt.toNat S a1.toInt.toNat (by omega)
      obtain ⟨n, n1, n2, n3, n4⟩ := full a0.toInt.toNat a1.toInt.toNat a (by omega) ha
      have e := p2 _ n a ha n1 (fun j hj => by have := n4 j hj; omega) n3
      obtain ⟨m, m1, m2⟩ := s_first a0 a0.toInt.toNat (by omega) (by omega)
      have em : (f_X11_first a0).get!.toInt.toNat = fstS a0.toInt.toNat := by
        rw [m1]
        show m.toInt.toNat = _
        omega
      rw [em] at q
      rcases q with ⟨q1, q2⟩ | ⟨-, -, -, -, q5, q6, q7⟩
      · rw [e, q1, if_neg]
        intro z
        exact q2 ⟨g1, g2, g3, by omega, z.1, by rw [n2]; exact z.2⟩
      · rw [n2] at q6
        have n4' := n4 a2.toInt.toNat (by omega)
        rw [e, q7, if_pos ⟨q5, q6⟩]
        apply Int32.toInt_inj.mp
        rw [Int32.toInt_ofNat_of_lt (by omega)]
        omega
set_option maxHeartbeats 400000 in
theorem hop_load : HOP_load True INV0 INV0 := by
  intro s t hI a0 u v
  obtain ⟨S, σ, hT, hE, hD, hX, hH, hM, hK, hR⟩ := hI
  have hσ := hM.1.2.1
  refine hop2 (s_X10_load _ _ _ _ _ _ _ _ _ _ _ _ _ _ _ _ _ _ _ _ _ _ _ _ _ _ _ _ _ _ _ _ _ _ _ _ _ _ _ _ _ _ _ _ _ _ _ _ hT.1 hT.2.1 hT.2.2 hD.1 hD.2) (s_X11_load _ _ _ _ _ _ _ _ _ _ _ _ _ _ _ _ _ _ _ _ _ _ _ _ _ _ _ _ _ _ _ _ σ hσ hM.1.1 (by rw [hE.1]; exact hT.1) (by rw [hE.1]; exact hT.2.1) (by rw [hE.2]; exact hT.2.2) hM.2.1) (fun rx rm p q => ?_)
  rw [hE.1, hE.2] at q
  rcases p with ⟨p0, p1, p2, p3, p4, p5, p6, p7, p8, p9, p10, p11⟩ | ⟨p0, p1, p2, p3, p4⟩
  · rcases q with ⟨q0, q1⟩ | ⟨q0, -⟩
    · have d1 : PA rx.2.2.2.2.2.2.2.2.2.2.2.2.2.2.2.2.2.2.1 := by rw [p4]; exact hD.1
      have d2 : CB rx.2.2.2.2.2.2.2.2.2.2.2.2.2.2.2.2.2.2.2.2.2.2.2.2.2.2.1 := by rw [p8]; exact hD.2
      have d3 : HR rx.2.2.2.2.2.2.2.2.2.2.2.2.2.2.2.2.2.2.2.2.2.2.2.2.2.2.2.2.2.2.2.2.2.2.2.2.2.2.2.2.2.2.2.2.1 rx.2.2.2.2.2.2.2.2.2.2.2.2.2.2.2.2.2.2.2.2.2.2.2.2.2.2.2.2.2.2.2.2.2.2.2.2.2.2.2.2.2.2.2.2.2.1 := by rw [p10, p11]; exact hH
      have d4 : TP rx.2.1 s.2.2.2.1 := by rw [p2]; exact hT
      subst q1
      exact ⟨fun _ => p1, .inl ⟨p9, p3, S, σ, d4, ⟨p2.symm, hE.2⟩, ⟨d1, d2⟩, hX, d3, hM, hK, hR⟩⟩
    · exact absurd q0 p0
  · rcases q with ⟨q0, -⟩ | ⟨-, L, qL, q1, q2, q3⟩
    · exact absurd p0 q0
    · have eL : a0.toInt.toNat = L := by omega
      rw [eL] at p4
      have hW := stmts_WF s.2.2.2.1 L
      have eE : rm.2.1 = rx.2.1 := by rw [q1, p1]
      have d4 : TP rx.2.1 s.2.2.2.1 := by
        rw [p1]
        exact ⟨by decide, by decide, hT.2.2⟩
      rcases p4 with ⟨c0, c1, c2, c3, c4, c5, c6, c7, c8, c9⟩ | ⟨c0, c1, c2, c3, c4, c5⟩
      · obtain ⟨i1, i2⟩ := IM_rd (by omega) q2 c0 hW
        have d3 : HR rx.2.2.2.2.2.2.2.2.2.2.2.2.2.2.2.2.2.2.2.2.2.2.2.2.2.2.2.2.2.2.2.2.2.2.2.2.2.2.2.2.2.2.2.2.1 rx.2.2.2.2.2.2.2.2.2.2.2.2.2.2.2.2.2.2.2.2.2.2.2.2.2.2.2.2.2.2.2.2.2.2.2.2.2.2.2.2.2.2.2.2.2.1 := by rw [c4, c5]; exact ⟨by decide, by decide, by decide, by decide⟩
        have d5 : KR rm.2.2.2.2.2.2.2.2.2.2.2.1 t.2.2.2.2.2.2.2.2.2.2.2.1 := by
          rw [i2]
          exact ⟨by decide, by decide, hK.2.2⟩
        have d2 : CB s.2.2.2.2.2.2.2.2.2.2.2.2.2.2.2.2.2.2.2.2.2.2.2.2.2.2.2.2.2.2.2.2.2.2.2.2.2.2.2.2.2.1 := (IX_N hX).2.2.2.2.2
        refine ⟨fun _ => ?_, .inr ⟨c3, c2, getT (stmtsT s.2.2.2.1 L), 1 - σ, d4, ⟨eE, hE.2⟩, ⟨p3, d2⟩, ⟨c6, c7, ⟨c8, c9⟩, hW⟩, d3, i1, d5, hR⟩⟩
        rcases q3 with ⟨-, q3⟩ | ⟨z, -⟩
        · have e1 := c6.2.2.2.1 0 (by decide)
          have e2 := i1.2.2.1 0 (by decide)
          rw [c1, q3]
          exact Int32.toInt_inj.mp (by rw [e1]; exact e2.symm)
        · exfalso
          rcases q2.2.2.2 with ⟨-, w, -⟩ | ⟨w, -⟩
          · exact z w
          · exact w c0
      · obtain ⟨i1, i2, i3, i4⟩ := IM_fr rfl hσ q2 c0 hM
        have d3 : HR rx.2.2.2.2.2.2.2.2.2.2.2.2.2.2.2.2.2.2.2.2.2.2.2.2.2.2.2.2.2.2.2.2.2.2.2.2.2.2.2.2.2.2.2.2.1 rx.2.2.2.2.2.2.2.2.2.2.2.2.2.2.2.2.2.2.2.2.2.2.2.2.2.2.2.2.2.2.2.2.2.2.2.2.2.2.2.2.2.2.2.2.2.1 := by rw [c4, c5]; exact hH
        have d5 : KR rm.2.2.2.2.2.2.2.2.2.2.2.1 t.2.2.2.2.2.2.2.2.2.2.2.1 := by rw [i2]; exact hK
        refine ⟨fun _ => ?_, .inl ⟨c3, c2, S, σ, d4, ⟨eE, hE.2⟩, ⟨p3, p2⟩, hX, d3, i1, d5, hR⟩⟩
        rcases q3 with ⟨z, -⟩ | ⟨-, q3⟩
        · exact absurd z i3
        · rw [c1, q3]
set_option maxHeartbeats 400000 in
theorem hop_adder : HOP_adder True INV0 INV0 := by
  intro s t hI a0 u v
  obtain ⟨S, σ, hT, hE, hD, hX, hH, hM, hK, hR⟩ := hI
  have hσ := hM.1.2.1
  refine hop2 (s_X10_adder _ _ _ _ _ _ _ _ _ _ _ _ _ _ _ _ _ _ _ _ _ _ _ _ _ _ _ _ _ _ _ _ _ _ _ _ _ _ _ _ _ _ _ _ hD.1 hD.2) (s_X11_adder _ _ _ _ _ _ _ _ _ _ _ _ _ _ _ _ _ _ _ _ _ _ _ _ _ _ _ _ σ hσ hM.1.1 hM.2.1) (fun rx rm p q => ?_)
  rcases p with ⟨p0, p1⟩ | ⟨m, pm, m1, m7, p2, p3, p4⟩
  · rcases q with ⟨q0, q1⟩ | ⟨m, qm, m1, m7, -⟩
    · subst p1 q1
      exact ⟨fun _ => rfl, .inl ⟨rfl, rfl, S, σ, hT, hE, hD, hX, hH, hM, hK, hR⟩⟩
    · exact absurd ⟨by omega, by omega⟩ p0
  · rcases q with ⟨q0, -⟩ | ⟨m', qm, -, -, q1, L, ret, q2⟩
    · exact absurd ⟨by omega, by omega⟩ q0
    · have em : m' = m := by omega
      subst em
      have hW := stmtsL_WF (adT m')
      rcases p4 with ⟨c0, c1, c2, c3, c4, c5, c6, c7, c8, c9⟩ | ⟨c0, -⟩
      · obtain ⟨i1, i2⟩ := IM_rd (by omega) q2 trivial hW
        have d3 : HR rx.2.2.2.2.2.2.2.2.2.2.2.2.2.2.2.2.2.2.2.2.2.2.2.2.2.2.2.2.2.2.2.2.2.2.2.2.2.2.2.2.2.1 rx.2.2.2.2.2.2.2.2.2.2.2.2.2.2.2.2.2.2.2.2.2.2.2.2.2.2.2.2.2.2.2.2.2.2.2.2.2.2.2.2.2.2.1 := by rw [c4, c5]; exact ⟨by decide, by decide, by decide, by decide⟩
        have d5 : KR rm.2.2.2.2.2.2.2.2.1 t.2.2.2.2.2.2.2.2.2.2.2.1 := by
          rw [i2]
          exact ⟨by decide, by decide, hK.2.2⟩
        have d2 : CB s.2.2.2.2.2.2.2.2.2.2.2.2.2.2.2.2.2.2.2.2.2.2.2.2.2.2.2.2.2.2.2.2.2.2.2.2.2.2.2.2.2.1 := (IX_N hX).2.2.2.2.2
        refine ⟨fun _ => ?_, .inr ⟨c3, c2, getT (stmtsL (adT m')), 1 - σ, hT, hE, ⟨p3, d2⟩, ⟨c6, c7, ⟨c8, c9⟩, hW⟩, d3, i1, d5, hR⟩⟩
        have e1 := c6.2.2.2.1 0 (by decide)
        have e2 := i1.2.2.1 0 (by decide)
        rw [c1, q1]
        exact Int32.toInt_inj.mp (by rw [e1]; exact e2.symm)
      · exact absurd trivial c0
