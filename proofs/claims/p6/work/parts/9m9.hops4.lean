/-! load, adder and the start, at the second level -/
set_option maxHeartbeats 400000 in
theorem okE {S : List StT} {fM fT : Int32} {parts : Nat → Int32} {names : Nat → Nat → Int64} {cont : Nat → Int32} (hok : okS S = true) (h : GS fM fT parts names cont S) (v c : Nat) (hp : okPin S v c = true) : enS S v c < 954 := (exS_VIS h _ (enS_ex hok hp)).1
set_option maxHeartbeats 400000 in
theorem DY_re {S : List StT} {pick drop : Nat → Int32} {p p2 : Int64} {k t k2 t2 : Int32} {c po c2 po2 : Nat → Int32} {next size next2 size2 : Int32} {pk : Nat → Int64} {ky tm : Nat → Int32} {cn po9 : Nat → Nat → Int32} {state s2 : Nat → Int32} {kept kept2 latest : Int32} {past : Nat → Int32} (h : DY S pick drop p k t c po next size pk ky tm cn po9 state kept latest past) (e1 : p2 = p) (e2 : k2 = k) (e3 : t2 = t) (e4 : c2 = c) (e5 : po2 = po) (e6 : next2 = next) (e7 : size2 = size) (e8 : s2 = state) (e9 : kept2 = kept) : DY S pick drop p2 k2 t2 c2 po2 next2 size2 pk ky tm cn po9 s2 kept2 latest past := by
  rw [e1, e2, e3, e4, e5, e6, e7, e8, e9]
  exact h
set_option maxHeartbeats 400000 in
theorem WR_re {a b c d a2 b2 c2 d2 : Nat → Int32} (h : WR a b c d) (e1 : a2 = a) (e2 : b2 = b) (e3 : c2 = c) (e4 : d2 = d) : WR a2 b2 c2 d2 := by
  rw [e1, e2, e3, e4]
  exact h
set_option maxHeartbeats 400000 in
theorem hp2_load : HOP_load True INV2 INV2 := by
  intro s t hI a0 u v
  obtain ⟨S, σ, ⟨hT, hE, hD, hX, hH, hM, hK, hR⟩, hA, hNX, hNM, hDY, hW, hP⟩ := hI
  have hσ := hM.1.2.1
  obtain ⟨-, -, b0, -⟩ := GS_nk hX.1
  obtain ⟨hlt9, -⟩ := pns_lt hX hA
  obtain ⟨rx, ex, p, pp⟩ := ok_pc (s_X10_load _ _ _ _ _ _ _ _ _ _ _ _ _ _ _ _ _ _ _ _ _ _ _ _ _ _ _ _ _ _ _ _ _ _ _ _ _ _ _ _ _ _ _ _ _ _ _ _ hT.1 hT.2.1 hT.2.2 hD.1 hD.2) (x_load3 a0 (s.1) (s.2.1) (s.2.2.1) (s.2.2.2.1) v _ _ _ _ _ _ _ _ _ _ _ _ _ _ _ _ _ _ _ _ _ _ _ _ _ _ _ _ _ _ _ u _ _ _ _ _ _ _ _ _ _ hT.1 hT.2.1 hT.2.2 hD.1 hD.2)
  obtain ⟨rm, em, q⟩ := s_X11_load a0 (t.1) _ _ _ _ _ _ _ _ _ _ _ (t.2.2.2.2.2.2.2.2.2.2.2.2.2.2.1) _ _ _ _ _ _ _ _ _ _ _ _ _ _ _ _ _ _ σ hσ hM.1.1 (by rw [hE.1]; exact hT.1) (by rw [hE.1]; exact hT.2.1) (by rw [hE.2]; exact hT.2.2) hM.2.1
  have emk := em
  refine ⟨rx, rm, ex, em, ?_⟩
  rw [hE.1, hE.2] at q
  rcases p with ⟨p0, p1, p2, p3, p4, p5, p6, p7, p8, p9, p10, p11⟩ | ⟨p0, p1, p2, p3, p4⟩
  · rcases pp with ⟨-, y1, y2, y3, y4, y5, y6, y7, y8, y9, -⟩ | ⟨y0, -⟩
    · rcases q with ⟨q0, q1⟩ | ⟨q0, -⟩
      · have d1 : PA rx.2.2.2.2.2.2.2.2.2.2.2.2.2.2.2.2.2.2.1 := by rw [p4]; exact hD.1
        have d2 : CB rx.2.2.2.2.2.2.2.2.2.2.2.2.2.2.2.2.2.2.2.2.2.2.2.2.2.2.1 := by rw [p8]; exact hD.2
        have d3 : HR rx.2.2.2.2.2.2.2.2.2.2.2.2.2.2.2.2.2.2.2.2.2.2.2.2.2.2.2.2.2.2.2.2.2.2.2.2.2.2.2.2.2.2.2.2.1 rx.2.2.2.2.2.2.2.2.2.2.2.2.2.2.2.2.2.2.2.2.2.2.2.2.2.2.2.2.2.2.2.2.2.2.2.2.2.2.2.2.2.2.2.2.2.1 := by rw [p10, p11]; exact hH
        have d4 : TP rx.2.1 s.2.2.2.1 := by rw [p2]; exact hT
        have d5 : DY S s.2.2.2.2.2.2.2.2.2.2.2.2.2.2.2.2.2.2.2.2.2.2.2.2.2.2.2.2.2.2.2.2.2.2.2.2.2.2.2.1 s.2.2.2.2.2.2.2.2.2.2.2.2.2.2.2.2.2.2.2.2.2.2.2.2.2.2.2.2.2.2.2.2.2.2.2.2.2.2.2.2.1 rx.2.2.2.2.2.2.2.2.2.2.2.2.2.2.2.2.2.2.2.2.2.2.2.2.2.2.2.2.2.2.2.2.2.2.2.2.2.2.2.1 rx.2.2.2.2.2.2.2.2.2.2.2.2.2.2.2.2.2.2.2.2.2.2.2.2.2.2.2.2.2.2.2.2.2.2.2.2.2.2.2.2.1 rx.2.2.2.2.2.2.2.2.2.2.2.2.2.2.2.2.2.2.2.2.2.2.2.2.2.2.2.2.2.2.2.2.2.2.2.2.2.2.2.2.2.1 rx.2.2.2.2.2.2.2.2.2.2.2.2.2.2.2.2.2.2.2.2.2.2.2.2.2.2.2.2.2.2.2.2.2.2.2.2.2.2.2.2.2.2.1 rx.2.2.2.2.2.2.2.2.2.2.2.2.2.2.2.2.2.2.2.2.2.2.2.2.2.2.2.2.2.2.2.2.2.2.2.2.2.2.2.2.2.2.2.1 rx.2.2.2.2.2.2.2.2.2.2.2.2.2.2.2.2.2.2.2.2.2.2.2.2.2.2.2.2.2.2.2.2.2.2.2.2.2.2.2.2.2.2.2.2.1 rx.2.2.2.2.2.2.2.2.2.2.2.2.2.2.2.2.2.2.2.2.2.2.2.2.2.2.2.2.2.2.2.2.2.2.2.2.2.2.2.2.2.2.2.2.2.1 s.2.2.2.2.2.2.2.2.2.2.2.2.2.2.2.2.2.2.2.2.2.2.2.2.2.2.2.2.2.2.2.2.2.2.2.2.2.2.2.2.2.2.2.2.2.2.2.2.2.2.2.2.2.2.2.2.2.2.2.2.2.2.2.2.2.1 s.2.2.2.2.2.2.2.2.2.2.2.2.2.2.2.2.2.2.2.2.2.2.2.2.2.2.2.2.2.2.2.2.2.2.2.2.2.2.2.2.2.2.2.2.2.2.2.2.2.2.2.2.2.2.2.2.2.2.2.2.2.2.2.2.2.2.1 s.2.2.2.2.2.2.2.2.2.2.2.2.2.2.2.2.2.2.2.2.2.2.2.2.2.2.2.2.2.2.2.2.2.2.2.2.2.2.2.2.2.2.2.2.2.2.2.2.2.2.2.2.2.2.2.2.2.2.2.2.2.2.2.2.2.2.2.1 s.2.2.2.2.2.2.2.2.2.2.2.2.2.2.2.2.2.2.2.2.2.2.2.2.2.2.2.2.2.2.2.2.2.2.2.2.2.2.2.2.2.2.2.2.2.2.2.2.2.2.2.2.2.2.2.2.2.2.2.2.2.2.2.2.2.2.2.2.1 s.2.2.2.2.2.2.2.2.2.2.2.2.2.2.2.2.2.2.2.2.2.2.2.2.2.2.2.2.2.2.2.2.2.2.2.2.2.2.2.2.2.2.2.2.2.2.2.2.2.2.2.2.2.2.2.2.2.2.2.2.2.2.2.2.2.2.2.2.2.1 t.2.2.2.2.2.2.2.2.2.2.2.2.2.2.2.2.2.2.2.2.2.2.2.2.2.2.2.2.2.2.1 t.2.2.2.2.2.2.2.2.2.2.1 t.2.2.2.2.2.2.2.2.2.2.2.1 t.2.2.2.2.2.2.2.2.2.2.2.2.2.2.2.2.2.2.2.2.2.2.2.2.2.2.2.2.2.2.2.2.2.2.2.2.2.1 := DY_re hDY y3 y4 y5 y6 y7 y8 y9 rfl rfl
        have d6 : WR rx.2.2.2.2.2.2.2.2.2.2.2.2.2.2.2.2.2.2.2.2.2.2.2.2.2.2.2.2.2.2.2.2.2.2.2.2.2.1 rx.2.2.2.2.2.2.2.2.2.2.2.2.2.2.2.2.2.2.2.2.2.2.2.2.2.2.2.2.2.2.2.2.2.2.2.2.2.2.1 t.2.2.2.2.2.2.2.2.2.2.2.2.2.2.2.2.2.2.2.2.2.2.2.2.2.2.2.2.2.2.2.1 t.2.2.2.2.2.2.2.2.2.2.2.2.2.2.2.2.2.2.2.2.2.2.2.2.2.2.2.2.2.2.2.2.1 := WR_re hW y1 y2 rfl rfl
        subst q1
        exact ⟨fun _ => p1, .inl ⟨p9, p3, S, σ, ⟨d4, ⟨p2.symm, hE.2⟩, ⟨d1, d2⟩, hX, d3, hM, hK, hR⟩, hA, hNX, hNM, d5, d6, hP⟩⟩
      · exact absurd q0 p0
    · exact absurd y0.1 p0
  · rcases q with ⟨q0, -⟩ | ⟨-, L, qL, q1, q2, q3⟩
    · exact absurd p0 q0
    · have eL : a0.toInt.toNat = L := by omega
      rw [eL] at p4 pp
      have hW9 := stmts_WF s.2.2.2.1 L
      have eE : rm.2.1 = rx.2.1 := by rw [q1, p1]
      have d4 : TP rx.2.1 s.2.2.2.1 := by
        rw [p1]
        exact ⟨by decide, by decide, hT.2.2⟩
      rcases p4 with ⟨c0, c1, c2, c3, c4, c5, c6, c7, c8, c9⟩ | ⟨c0, c1, c2, c3, c4, c5⟩
      · rcases pp with ⟨y0, -⟩ | ⟨-, nx, wz, sz, -⟩
        · exact absurd ⟨p0, c0⟩ y0
        obtain ⟨i1, i2⟩ := IM_rd (by omega) q2 c0 hW9
        obtain ⟨z1, z2, z3⟩ := acc_ok c0
        have nm := m_load3 a0 (t.1) _ _ _ _ _ _ _ _ _ _ _ (t.2.2.2.2.2.2.2.2.2.2.2.2.2.2.1) _ _ _ _ _ _ _ _ _ _ _ _ _ _ _ _ _ _ σ L hσ hM.1.1 (by rw [hE.1]; exact hT.2.1) (by rw [hE.2]; exact hT.2.2) hM.2.1 (getT (stmtsT s.2.2.2.1 L)) z2 z3 (fun v c h => okE z2 c6 v c h) (by rw [hE.2]; exact z1) qL (by rw [hE.1]; exact p0.2) rm emk
        have d3 : HR rx.2.2.2.2.2.2.2.2.2.2.2.2.2.2.2.2.2.2.2.2.2.2.2.2.2.2.2.2.2.2.2.2.2.2.2.2.2.2.2.2.2.2.2.2.1 rx.2.2.2.2.2.2.2.2.2.2.2.2.2.2.2.2.2.2.2.2.2.2.2.2.2.2.2.2.2.2.2.2.2.2.2.2.2.2.2.2.2.2.2.2.2.1 := by rw [c4, c5]; exact ⟨by decide, by decide, by decide, by decide⟩
        have d5 : KR rm.2.2.2.2.2.2.2.2.2.2.2.1 t.2.2.2.2.2.2.2.2.2.2.2.1 := by
          rw [i2]
          exact ⟨by decide, by decide, hK.2.2⟩
        have d2 : CB s.2.2.2.2.2.2.2.2.2.2.2.2.2.2.2.2.2.2.2.2.2.2.2.2.2.2.2.2.2.2.2.2.2.2.2.2.2.2.2.2.2.1 := (IX_N hX).2.2.2.2.2
        have ix : IX (getT (stmtsT s.2.2.2.1 L)) rx.2.2.2.2.2.2.2.2.2.2.2.2.2.2.2.2.2.2.2.2.1 rx.2.2.2.2.2.2.2.2.2.2.2.2.2.2.2.2.2.2.2.2.2.2.1 rx.2.2.2.2.2.2.2.2.2.2.2.2.2.2.2.2.2.2.2.2.2.2.2.1 rx.2.2.2.2.2.2.2.2.2.2.2.2.2.2.2.2.2.2.2.2.2.2.2.2.1 rx.2.2.2.2.2.2.2.2.2.2.2.2.2.2.2.2.2.2.2.2.2.2.2.2.2.1 rx.2.2.2.2.2.2.2.2.2.2.2.2.2.2.2.2.2.2.2.2.2.2.2.2.2.2.1 rx.2.2.2.2.2.2.2.2.2.2.2.2.2.2.2.2.2.2.2.2.2.2.2.2.2.2.2.1 rx.2.2.2.2.2.2.2.2.2.2.2.2.2.2.2.2.2.2.2.2.2.2.2.2.2.2.2.2.1 rx.2.2.2.2.2.2.2.2.2.2.2.2.2.2.2.2.2.2.2.2.2.2.2.2.2.2.2.2.2.1 := ⟨c6, c7, ⟨c8, c9⟩, hW9⟩
        obtain ⟨-, -, b1, -⟩ := GS_nk c6
        have fz : (∀ k : Nat, k < 345 → rm.2.2.2.2.2.2.2.2.2.2.2.2.2.2.2.2.2.2.2.2.2.2.2.2.2.2.2.2.1 k = 0) ∧ (∀ k : Nat, k < 240 → rm.2.2.2.2.2.2.2.2.2.2.2.2.2.2.2.2.2.2.2.2.2.2.2.2.2.2.2.2.2.1 k = -1 ∧ rm.2.2.2.2.2.2.2.2.2.2.2.2.2.2.2.2.2.2.2.2.2.2.2.2.2.2.2.2.2.2 k = 0) := by
          rcases q2.2.2.2 with ⟨-, -, -, -, -, w1, w2, -⟩ | ⟨w, -⟩
          · exact ⟨w1, w2⟩
          · exact absurd c0 w
        have d6 := DY_0 (IXM_NLR ix i1) b1 sz fz.1 rx.2.2.2.2.2.2.2.2.2.2.2.2.2.2.2.2.2.2.2.2.2.2.2.2.2.2.2.2.2.2.2.2.2.2.2.2.2.2.2.2.2.2.2.2.1 rx.2.2.2.2.2.2.2.2.2.2.2.2.2.2.2.2.2.2.2.2.2.2.2.2.2.2.2.2.2.2.2.2.2.2.2.2.2.2.2.2.2.2.2.2.2.1 s.2.2.2.2.2.2.2.2.2.2.2.2.2.2.2.2.2.2.2.2.2.2.2.2.2.2.2.2.2.2.2.2.2.2.2.2.2.2.2.2.2.2.2.2.2.2.2.2.2.2.2.2.2.2.2.2.2.2.2.2.2.2.2.2.2.1 s.2.2.2.2.2.2.2.2.2.2.2.2.2.2.2.2.2.2.2.2.2.2.2.2.2.2.2.2.2.2.2.2.2.2.2.2.2.2.2.2.2.2.2.2.2.2.2.2.2.2.2.2.2.2.2.2.2.2.2.2.2.2.2.2.2.2.1 s.2.2.2.2.2.2.2.2.2.2.2.2.2.2.2.2.2.2.2.2.2.2.2.2.2.2.2.2.2.2.2.2.2.2.2.2.2.2.2.2.2.2.2.2.2.2.2.2.2.2.2.2.2.2.2.2.2.2.2.2.2.2.2.2.2.2.2.1 s.2.2.2.2.2.2.2.2.2.2.2.2.2.2.2.2.2.2.2.2.2.2.2.2.2.2.2.2.2.2.2.2.2.2.2.2.2.2.2.2.2.2.2.2.2.2.2.2.2.2.2.2.2.2.2.2.2.2.2.2.2.2.2.2.2.2.2.2.1 s.2.2.2.2.2.2.2.2.2.2.2.2.2.2.2.2.2.2.2.2.2.2.2.2.2.2.2.2.2.2.2.2.2.2.2.2.2.2.2.2.2.2.2.2.2.2.2.2.2.2.2.2.2.2.2.2.2.2.2.2.2.2.2.2.2.2.2.2.2.1 rm.2.2.2.2.2.2.2.2.2.2.2.1 t.2.2.2.2.2.2.2.2.2.2.2.1 t.2.2.2.2.2.2.2.2.2.2.2.2.2.2.2.2.2.2.2.2.2.2.2.2.2.2.2.2.2.2.2.2.2.2.2.2.2.1 c5 i2
        refine ⟨fun _ => ?_, .inr ⟨c3, c2, getT (stmtsT s.2.2.2.1 L), 1 - σ, ⟨d4, ⟨eE, hE.2⟩, ⟨p3, d2⟩, ix, d3, i1, d5, hR⟩, z3, nx, nm, d6, WR_0 wz fz.2, hP⟩⟩
        rcases q3 with ⟨-, q3⟩ | ⟨z, -⟩
        · have e1 := c6.2.2.2.1 0 (by decide)
          have e2 := i1.2.2.1 0 (by decide)
          rw [c1, q3]
          exact Int32.toInt_inj.mp (by rw [e1]; exact e2.symm)
        · exfalso
          rcases q2.2.2.2 with ⟨-, w, -⟩ | ⟨w, -⟩
          · exact z w
          · exact w c0
      · rcases pp with ⟨-, y1, y2, y3, y4, y5, y6, y7, y8, y9, -⟩ | ⟨y0, -⟩
        · obtain ⟨i1, i2, i3, i4⟩ := IM_fr rfl hσ q2 c0 hM
          have d3 : HR rx.2.2.2.2.2.2.2.2.2.2.2.2.2.2.2.2.2.2.2.2.2.2.2.2.2.2.2.2.2.2.2.2.2.2.2.2.2.2.2.2.2.2.2.2.1 rx.2.2.2.2.2.2.2.2.2.2.2.2.2.2.2.2.2.2.2.2.2.2.2.2.2.2.2.2.2.2.2.2.2.2.2.2.2.2.2.2.2.2.2.2.2.1 := by rw [c4, c5]; exact hH
          have d5 : KR rm.2.2.2.2.2.2.2.2.2.2.2.1 t.2.2.2.2.2.2.2.2.2.2.2.1 := by rw [i2]; exact hK
          have fz : rm.2.2.2.2.2.2.2.2.2.2.2.2.2.2.2.2.2.2.2.2.2.2.2.2.2.2.2.2.1 = t.2.2.2.2.2.2.2.2.2.2.2.2.2.2.2.2.2.2.2.2.2.2.2.2.2.2.2.2.2.2.1 ∧ rm.2.2.2.2.2.2.2.2.2.2.2.2.2.2.2.2.2.2.2.2.2.2.2.2.2.2.2.2.2.1 = t.2.2.2.2.2.2.2.2.2.2.2.2.2.2.2.2.2.2.2.2.2.2.2.2.2.2.2.2.2.2.2.1 ∧ rm.2.2.2.2.2.2.2.2.2.2.2.2.2.2.2.2.2.2.2.2.2.2.2.2.2.2.2.2.2.2 = t.2.2.2.2.2.2.2.2.2.2.2.2.2.2.2.2.2.2.2.2.2.2.2.2.2.2.2.2.2.2.2.2.1 := by
            rcases q2.2.2.2 with ⟨w, -⟩ | ⟨-, -, -, -, -, w1, w2, w3⟩
            · exact absurd w c0
            · exact ⟨w1, w2, w3⟩
          have d7 : DY S s.2.2.2.2.2.2.2.2.2.2.2.2.2.2.2.2.2.2.2.2.2.2.2.2.2.2.2.2.2.2.2.2.2.2.2.2.2.2.2.1 s.2.2.2.2.2.2.2.2.2.2.2.2.2.2.2.2.2.2.2.2.2.2.2.2.2.2.2.2.2.2.2.2.2.2.2.2.2.2.2.2.1 rx.2.2.2.2.2.2.2.2.2.2.2.2.2.2.2.2.2.2.2.2.2.2.2.2.2.2.2.2.2.2.2.2.2.2.2.2.2.2.2.1 rx.2.2.2.2.2.2.2.2.2.2.2.2.2.2.2.2.2.2.2.2.2.2.2.2.2.2.2.2.2.2.2.2.2.2.2.2.2.2.2.2.1 rx.2.2.2.2.2.2.2.2.2.2.2.2.2.2.2.2.2.2.2.2.2.2.2.2.2.2.2.2.2.2.2.2.2.2.2.2.2.2.2.2.2.1 rx.2.2.2.2.2.2.2.2.2.2.2.2.2.2.2.2.2.2.2.2.2.2.2.2.2.2.2.2.2.2.2.2.2.2.2.2.2.2.2.2.2.2.1 rx.2.2.2.2.2.2.2.2.2.2.2.2.2.2.2.2.2.2.2.2.2.2.2.2.2.2.2.2.2.2.2.2.2.2.2.2.2.2.2.2.2.2.2.1 rx.2.2.2.2.2.2.2.2.2.2.2.2.2.2.2.2.2.2.2.2.2.2.2.2.2.2.2.2.2.2.2.2.2.2.2.2.2.2.2.2.2.2.2.2.1 rx.2.2.2.2.2.2.2.2.2.2.2.2.2.2.2.2.2.2.2.2.2.2.2.2.2.2.2.2.2.2.2.2.2.2.2.2.2.2.2.2.2.2.2.2.2.1 s.2.2.2.2.2.2.2.2.2.2.2.2.2.2.2.2.2.2.2.2.2.2.2.2.2.2.2.2.2.2.2.2.2.2.2.2.2.2.2.2.2.2.2.2.2.2.2.2.2.2.2.2.2.2.2.2.2.2.2.2.2.2.2.2.2.1 s.2.2.2.2.2.2.2.2.2.2.2.2.2.2.2.2.2.2.2.2.2.2.2.2.2.2.2.2.2.2.2.2.2.2.2.2.2.2.2.2.2.2.2.2.2.2.2.2.2.2.2.2.2.2.2.2.2.2.2.2.2.2.2.2.2.2.1 s.2.2.2.2.2.2.2.2.2.2.2.2.2.2.2.2.2.2.2.2.2.2.2.2.2.2.2.2.2.2.2.2.2.2.2.2.2.2.2.2.2.2.2.2.2.2.2.2.2.2.2.2.2.2.2.2.2.2.2.2.2.2.2.2.2.2.2.1 s.2.2.2.2.2.2.2.2.2.2.2.2.2.2.2.2.2.2.2.2.2.2.2.2.2.2.2.2.2.2.2.2.2.2.2.2.2.2.2.2.2.2.2.2.2.2.2.2.2.2.2.2.2.2.2.2.2.2.2.2.2.2.2.2.2.2.2.2.1 s.2.2.2.2.2.2.2.2.2.2.2.2.2.2.2.2.2.2.2.2.2.2.2.2.2.2.2.2.2.2.2.2.2.2.2.2.2.2.2.2.2.2.2.2.2.2.2.2.2.2.2.2.2.2.2.2.2.2.2.2.2.2.2.2.2.2.2.2.2.1 rm.2.2.2.2.2.2.2.2.2.2.2.2.2.2.2.2.2.2.2.2.2.2.2.2.2.2.2.2.1 rm.2.2.2.2.2.2.2.2.2.2.2.1 t.2.2.2.2.2.2.2.2.2.2.2.1 t.2.2.2.2.2.2.2.2.2.2.2.2.2.2.2.2.2.2.2.2.2.2.2.2.2.2.2.2.2.2.2.2.2.2.2.2.2.1 := DY_re hDY y3 y4 y5 y6 y7 y8 y9 fz.1 i2
          have d6 : WR rx.2.2.2.2.2.2.2.2.2.2.2.2.2.2.2.2.2.2.2.2.2.2.2.2.2.2.2.2.2.2.2.2.2.2.2.2.2.1 rx.2.2.2.2.2.2.2.2.2.2.2.2.2.2.2.2.2.2.2.2.2.2.2.2.2.2.2.2.2.2.2.2.2.2.2.2.2.2.1 rm.2.2.2.2.2.2.2.2.2.2.2.2.2.2.2.2.2.2.2.2.2.2.2.2.2.2.2.2.2.1 rm.2.2.2.2.2.2.2.2.2.2.2.2.2.2.2.2.2.2.2.2.2.2.2.2.2.2.2.2.2.2 := WR_re hW y1 y2 fz.2.1 fz.2.2
          have hO := hM.1.2.2.2.2.2.2.2.2.2
          have nm := NETM_fr rfl hσ q2.2.1 hlt9 (fun e he => by have := hO e he; unfold nuM; omega) hNM
          refine ⟨fun _ => ?_, .inl ⟨c3, c2, S, σ, ⟨d4, ⟨eE, hE.2⟩, ⟨p3, p2⟩, hX, d3, i1, d5, hR⟩, hA, hNX, nm, d7, d6, hP⟩⟩
          rcases q3 with ⟨z, -⟩ | ⟨-, q3⟩
          · exact absurd z i3
          · rw [c1, q3]
        · exact absurd y0.2 c0
set_option maxHeartbeats 400000 in
theorem hp2_adder : HOP_adder True INV2 INV2 := by
  intro s t hI a0 u v
  obtain ⟨S, σ, ⟨hT, hE, hD, hX, hH, hM, hK, hR⟩, hA, hNX, hNM, hDY, hW, hP⟩ := hI
  have hσ := hM.1.2.1
  obtain ⟨rx, ex, p⟩ := s_X10_adder a0 v _ _ _ _ _ _ _ _ _ _ _ _ _ _ _ _ _ _ _ _ _ _ _ _ _ _ _ _ _ _ _ u _ _ _ _ _ _ _ _ _ _ hD.1 hD.2
  obtain ⟨rm, em, q⟩ := s_X11_adder a0 _ _ _ _ _ _ _ _ _ _ _ _ _ _ _ _ _ _ _ _ _ _ _ _ _ _ _ σ hσ hM.1.1 hM.2.1
  have exk := ex
  have emk := em
  refine ⟨rx, rm, ex, em, ?_⟩
  rcases p with ⟨p0, p1⟩ | ⟨m, pm, m1, m7, p2, p3, p4⟩
  · rcases q with ⟨q0, q1⟩ | ⟨m, qm, m1, m7, -⟩
    · subst p1 q1
      exact ⟨fun _ => rfl, .inl ⟨rfl, rfl, S, σ, ⟨hT, hE, hD, hX, hH, hM, hK, hR⟩, hA, hNX, hNM, hDY, hW, hP⟩⟩
    · exact absurd ⟨by omega, by omega⟩ p0
  · rcases q with ⟨q0, -⟩ | ⟨m', qm, -, -, q1, L, ret, q2⟩
    · exact absurd ⟨by omega, by omega⟩ q0
    · have em9 : m' = m := by omega
      subst em9
      have hW9 := stmtsL_WF (adT m')
      have e1 : a0 = Int32.ofNat m' := Int32.toInt_inj.mp (by rw [Int32.toInt_ofNat_of_lt (by omega)]; omega)
      have acc := accB_t (ad_ok m' (by omega) m1).1
      obtain ⟨z1, z2, z3⟩ := acc_ok acc
      rcases p4 with ⟨c0, c1, c2, c3, c4, c5, c6, c7, c8, c9⟩ | ⟨c0, -⟩
      · obtain ⟨nx, wz, sz, -⟩ := x_adder3 a0 v _ _ _ _ _ _ _ _ _ _ _ _ _ _ _ _ _ _ _ _ _ _ _ _ _ _ _ _ _ _ _ u _ _ _ _ _ _ _ _ _ _ hD.1 hD.2 m' e1 m1 m7 rx exk
        have nm := m_adder3 a0 _ _ _ _ _ _ _ _ _ _ _ _ _ _ _ _ _ _ _ _ _ _ _ _ _ _ _ σ m' hσ hM.1.1 hM.2.1 e1 m1 m7 (fun v c h => okE z2 c6 v c h) rm emk
        obtain ⟨i1, i2⟩ := IM_rd (by omega) q2 trivial hW9
        have d3 : HR rx.2.2.2.2.2.2.2.2.2.2.2.2.2.2.2.2.2.2.2.2.2.2.2.2.2.2.2.2.2.2.2.2.2.2.2.2.2.2.2.2.2.1 rx.2.2.2.2.2.2.2.2.2.2.2.2.2.2.2.2.2.2.2.2.2.2.2.2.2.2.2.2.2.2.2.2.2.2.2.2.2.2.2.2.2.2.1 := by rw [c4, c5]; exact ⟨by decide, by decide, by decide, by decide⟩
        have d5 : KR rm.2.2.2.2.2.2.2.2.1 t.2.2.2.2.2.2.2.2.2.2.2.1 := by
          rw [i2]
          exact ⟨by decide, by decide, hK.2.2⟩
        have d2 : CB s.2.2.2.2.2.2.2.2.2.2.2.2.2.2.2.2.2.2.2.2.2.2.2.2.2.2.2.2.2.2.2.2.2.2.2.2.2.2.2.2.2.1 := (IX_N hX).2.2.2.2.2
        have ix : IX (getT (stmtsL (adT m'))) rx.2.2.2.2.2.2.2.2.2.2.2.2.2.2.2.2.2.1 rx.2.2.2.2.2.2.2.2.2.2.2.2.2.2.2.2.2.2.2.1 rx.2.2.2.2.2.2.2.2.2.2.2.2.2.2.2.2.2.2.2.2.1 rx.2.2.2.2.2.2.2.2.2.2.2.2.2.2.2.2.2.2.2.2.2.1 rx.2.2.2.2.2.2.2.2.2.2.2.2.2.2.2.2.2.2.2.2.2.2.1 rx.2.2.2.2.2.2.2.2.2.2.2.2.2.2.2.2.2.2.2.2.2.2.2.1 rx.2.2.2.2.2.2.2.2.2.2.2.2.2.2.2.2.2.2.2.2.2.2.2.2.1 rx.2.2.2.2.2.2.2.2.2.2.2.2.2.2.2.2.2.2.2.2.2.2.2.2.2.1 rx.2.2.2.2.2.2.2.2.2.2.2.2.2.2.2.2.2.2.2.2.2.2.2.2.2.2.1 := ⟨c6, c7, ⟨c8, c9⟩, hW9⟩
        obtain ⟨-, -, b1, -⟩ := GS_nk c6
        have fz : (∀ k : Nat, k < 345 → rm.2.2.2.2.2.2.2.2.2.2.2.2.2.2.2.2.2.2.2.2.2.2.2.2.2.1 k = 0) ∧ (∀ k : Nat, k < 240 → rm.2.2.2.2.2.2.2.2.2.2.2.2.2.2.2.2.2.2.2.2.2.2.2.2.2.2.1 k = -1 ∧ rm.2.2.2.2.2.2.2.2.2.2.2.2.2.2.2.2.2.2.2.2.2.2.2.2.2.2.2 k = 0) := by
          rcases q2.2.2.2 with ⟨-, -, -, -, -, w1, w2, -⟩ | ⟨w, -⟩
          · exact ⟨w1, w2⟩
          · exact absurd trivial w
        have d6 := DY_0 (IXM_NLR ix i1) b1 sz fz.1 rx.2.2.2.2.2.2.2.2.2.2.2.2.2.2.2.2.2.2.2.2.2.2.2.2.2.2.2.2.2.2.2.2.2.2.2.2.2.2.2.2.2.1 rx.2.2.2.2.2.2.2.2.2.2.2.2.2.2.2.2.2.2.2.2.2.2.2.2.2.2.2.2.2.2.2.2.2.2.2.2.2.2.2.2.2.2.1 s.2.2.2.2.2.2.2.2.2.2.2.2.2.2.2.2.2.2.2.2.2.2.2.2.2.2.2.2.2.2.2.2.2.2.2.2.2.2.2.2.2.2.2.2.2.2.2.2.2.2.2.2.2.2.2.2.2.2.2.2.2.2.2.2.2.1 s.2.2.2.2.2.2.2.2.2.2.2.2.2.2.2.2.2.2.2.2.2.2.2.2.2.2.2.2.2.2.2.2.2.2.2.2.2.2.2.2.2.2.2.2.2.2.2.2.2.2.2.2.2.2.2.2.2.2.2.2.2.2.2.2.2.2.1 s.2.2.2.2.2.2.2.2.2.2.2.2.2.2.2.2.2.2.2.2.2.2.2.2.2.2.2.2.2.2.2.2.2.2.2.2.2.2.2.2.2.2.2.2.2.2.2.2.2.2.2.2.2.2.2.2.2.2.2.2.2.2.2.2.2.2.2.1 s.2.2.2.2.2.2.2.2.2.2.2.2.2.2.2.2.2.2.2.2.2.2.2.2.2.2.2.2.2.2.2.2.2.2.2.2.2.2.2.2.2.2.2.2.2.2.2.2.2.2.2.2.2.2.2.2.2.2.2.2.2.2.2.2.2.2.2.2.1 s.2.2.2.2.2.2.2.2.2.2.2.2.2.2.2.2.2.2.2.2.2.2.2.2.2.2.2.2.2.2.2.2.2.2.2.2.2.2.2.2.2.2.2.2.2.2.2.2.2.2.2.2.2.2.2.2.2.2.2.2.2.2.2.2.2.2.2.2.2.1 rm.2.2.2.2.2.2.2.2.1 t.2.2.2.2.2.2.2.2.2.2.2.1 t.2.2.2.2.2.2.2.2.2.2.2.2.2.2.2.2.2.2.2.2.2.2.2.2.2.2.2.2.2.2.2.2.2.2.2.2.2.1 c5 i2
        refine ⟨fun _ => ?_, .inr ⟨c3, c2, getT (stmtsL (adT m')), 1 - σ, ⟨hT, hE, ⟨p3, d2⟩, ix, d3, i1, d5, hR⟩, z3, nx, nm, d6, WR_0 wz fz.2, hP⟩⟩
        have e1 := c6.2.2.2.1 0 (by decide)
        have e2 := i1.2.2.1 0 (by decide)
        rw [c1, q1]
        exact Int32.toInt_inj.mp (by rw [e1]; exact e2.symm)
      · exact absurd trivial c0
/-! the start -/
set_option maxHeartbeats 400000 in
theorem x3_init9 : Pc f_X3_init (fun r => NETX [] r.1 r.2.1 r.2.2.2.2.2.2.2.2.2.2.1 r.2.2.2.2.2.2.2.2.2.2.2.2) := by
  unfold f_X3_init
  refine pc_bind (pc_ok (s_X3_clear _ _ _ _)) (fun r13 h13 => ?_)
  have z : (0 : Int32).toInt = 0 := by decide
  have z4 : ∀ s : Nat, s < 5 → (r13.1 s).toInt = 0 := fun s hs => by rw [h13.1 s hs, z]
  have zc : ∀ r : Nat, r < 40 → 0 ≤ ((fun _ => 0 : Nat → Int32) r).toInt ∧ ((fun _ => 0 : Nat → Int32) r).toInt ≤ 6 := fun r _ => by
    show 0 ≤ (0 : Int32).toInt ∧ (0 : Int32).toInt ≤ 6
    decide
  have n : NS r13.1 (fun _ => 0) := by
    rw [NS, z4 0 (by decide), z4 1 (by decide), z4 2 (by decide), z4 3 (by decide), z4 4 (by decide)]
    exact ⟨by decide, by decide, by decide, by decide, by decide, zc⟩
  have gs : GS (-1) (-1) r13.1 (fun _ _ => 0) (fun _ => 0) [] := by
    refine ⟨rfl, n, fun s hs => ?_, fun s hs => z4 s hs, trivial, fun i a h => h.elim⟩
    have := z4 s hs
    refine ⟨?_, ?_⟩
    · show 0 ≤ (r13.1 s).toInt
      omega
    · show (r13.1 s).toInt ≤ mst s
      omega
  have clr : CLR r13.2.1 r13.2.2.1 r13.2.2.2 := h13.2
  obtain ⟨fs, rid⟩ := FS_0 clr
  have hP : PRT (enX []) [] (rho (jn r13.2.2.1)) := PRT_0 _ _ (fun e f he hf h => by rw [rid e he, rid f hf] at h; exact h)
  have hT : TLA (enX []) [] r13.2.1 := fun e he => .inr ⟨(h13.2 e he).1, fun q => by obtain ⟨x, hx, -⟩ := q; exact absurd hx List.not_mem_nil⟩
  refine pc_bind (x_numberNets _ _ _ _ _ _ _ n (enX []) [] fs hP hT (fun e he => (h13.2 e he).2.2)) (fun r14 q => pc_some ?_)
  exact NETX_of gs (fun q hq => absurd hq List.not_mem_nil) hP q hT
set_option maxHeartbeats 400000 in
theorem x2_init9 : Pc f_X2_init (fun r => NETX [] r.1 r.2.1 r.2.2.2.2.2.2.2.2.2.2.1 r.2.2.2.2.2.2.2.2.2.2.2.2.1 ∧ WZ r.2.2.2.2.2.2.2.2.2.2.2.2.2.1 r.2.2.2.2.2.2.2.2.2.2.2.2.2.2.1) := by
  unfold f_X2_init f_X9_init
  exact pc_bind x3_init9 (fun r3 q3 => pc_bind (P := fun r => WZ r.1 r.2) (pc_bind (x_clear9 _ _) (fun r q => pc_some q)) (fun r6 q6 => pc_any (fun r9 _ => pc_some ⟨q3, q6⟩)))
set_option maxHeartbeats 400000 in
theorem x10_init9 : Pc f_X10_init (fun s => NETX [] s.2.2.2.2.2.2.2.2.2.2.2.2.2.2.2.2.2.2.2.2.2.2.2.2.2.2.2.2.2.2.2.2.2.2.2.1 s.2.2.2.2.2.2.2.2.2.2.2.2.2.2.2.2.2.2.2.2.2.2.2.2.2.2.2.2.2.2.2.2.2.2.2.2.1 s.2.2.2.2.2.2.2.2.2.2.2.2.2.2.2.2.2.2.2.2.2.2.2.2.2.2.2.2.2.2.2.2.2.2.2.2.2.2.2.2.2.2.2.2.2.1 s.2.2.2.2.2.2.2.2.2.2.2.2.2.2.2.2.2.2.2.2.2.2.2.2.2.2.2.2.2.2.2.2.2.2.2.2.2.2.2.2.2.2.2.2.2.2.2.1 ∧ WZ s.2.2.2.2.2.2.2.2.2.2.2.2.2.2.2.2.2.2.2.2.2.2.2.2.2.2.2.2.2.2.2.2.2.2.2.2.2.2.2.2.2.2.2.2.2.2.2.2.1 s.2.2.2.2.2.2.2.2.2.2.2.2.2.2.2.2.2.2.2.2.2.2.2.2.2.2.2.2.2.2.2.2.2.2.2.2.2.2.2.2.2.2.2.2.2.2.2.2.2.1 ∧ SZ s.2.2.2.2.2.2.2.2.2.2.2.2.2.2.2.2.2.2.2.2.2.2.2.2.2.2.2.2.2.2.2.2.2.2.2.2.2.2.2.2.2.2.2.2.2.2.2.2.2.2.2.2.2.2.2.2.2.2.1 s.2.2.2.2.2.2.2.2.2.2.2.2.2.2.2.2.2.2.2.2.2.2.2.2.2.2.2.2.2.2.2.2.2.2.2.2.2.2.2.2.2.2.2.2.2.2.2.2.2.2.2.2.2.2.2.2.2.2.2.1 s.2.2.2.2.2.2.2.2.2.2.2.2.2.2.2.2.2.2.2.2.2.2.2.2.2.2.2.2.2.2.2.2.2.2.2.2.2.2.2.2.2.2.2.2.2.2.2.2.2.2.2.2.2.2.2.2.2.2.2.2.1 s.2.2.2.2.2.2.2.2.2.2.2.2.2.2.2.2.2.2.2.2.2.2.2.2.2.2.2.2.2.2.2.2.2.2.2.2.2.2.2.2.2.2.2.2.2.2.2.2.2.2.2.2.2.2.2.2.2.2.2.2.2.1 s.2.2.2.2.2.2.2.2.2.2.2.2.2.2.2.2.2.2.2.2.2.2.2.2.2.2.2.2.2.2.2.2.2.2.2.2.2.2.2.2.2.2.2.2.2.2.2.2.2.2.2.2.2.2.2.2.2.2.2.2.2.2.1) := by
  unfold f_X10_init
  exact pc_any (fun r4 _ => pc_bind x2_init9 (fun r7 q7 => pc_bind (P := fun r => SZ r.1 r.2.1 r.2.2.1 r.2.2.2.1 r.2.2.2.2) (pc_some ⟨rfl, rfl, rfl, fun _ _ => ⟨rfl, rfl⟩⟩) (fun r10 q10 => pc_any (fun r13 _ => pc_any (fun r16 _ => pc_some ⟨q7.1, q7.2, q10⟩)))))
set_option maxHeartbeats 400000 in
theorem m_init_291 : ∀ (n : Nat) (x1 : Int32) (c : Nat → Int32) (k : Nat), x1.toInt = k → k ≤ 954 → (∀ e, e < k → (c e).toInt = e) → Pc (f_X11_init_291 n x1 c) (fun r => ∀ e : Nat, e < 954 → (r e).toInt = e)
  | 0, x1, c, k, h1, h2, h3 => pc_none
  | n + 1, x1, c, k, h1, h2, h3 => by
    unfold f_X11_init_291
    refine pc_if (fun a => pc_some (fun i hi => h3 i ?_)) (fun a => ?_)
    · rw [tI_le, l_954] at a; omega
    rw [tI_le, l_954] at a
    have ek : x1.toNatClampNeg = k := by rw [tI_nat]; omega
    refine pc_bad (fun _ => pc_vlet (pc_vlet ?_))
    rw [ek]
    refine m_init_291 n _ _ (k + 1) (by ((try simp only [tI_lt, tI_le, tI_eq, tI_add, tI_sub, tI_mul, tI_nat, Int32.reduceToInt, Int.reduceToNat, fe_0, fe_1, fe_2, fe_3, fe_4, fe_5]) <;> (try simp (disch := omega) only [tI_bm]) <;> omega)) (by omega) (fun i hi => ?_)
    rw [upd_at]
    by_cases z : i = k
    · rw [if_pos z, z]; exact h1
    · rw [if_neg z]; exact h3 i (by omega)
set_option maxHeartbeats 400000 in
theorem m_init_313 : ∀ (n : Nat) (x1 : Int32) (c : Nat → Int32) (k : Nat), x1.toInt = k → k ≤ 240 → (∀ e, e < k → c e = -1) → Pc (f_X11_init_313 n x1 c) (fun r => ∀ e : Nat, e < 240 → r e = -1)
  | 0, x1, c, k, h1, h2, h3 => pc_none
  | n + 1, x1, c, k, h1, h2, h3 => by
    unfold f_X11_init_313
    refine pc_if (fun a => pc_some (fun i hi => h3 i ?_)) (fun a => ?_)
    · rw [tI_le, l_240] at a; omega
    rw [tI_le, l_240] at a
    have ek : x1.toNatClampNeg = k := by rw [tI_nat]; omega
    refine pc_bad (fun _ => pc_vlet (pc_vlet ?_))
    rw [ek]
    refine m_init_313 n _ _ (k + 1) (by ((try simp only [tI_lt, tI_le, tI_eq, tI_add, tI_sub, tI_mul, tI_nat, Int32.reduceToInt, Int.reduceToNat, fe_0, fe_1, fe_2, fe_3, fe_4, fe_5]) <;> (try simp (disch := omega) only [tI_bm]) <;> omega)) (by omega) (fun i hi => ?_)
    rw [upd_at]
    by_cases z : i = k
    · rw [if_pos z]
    · rw [if_neg z]; exact h3 i (by omega)
set_option maxHeartbeats 400000 in
theorem m11_init9 : Pc f_X11_init (fun t => NETM 0 [] t.2.2.2.2.2.2.2.2.2.2.2.2.2.2.2.2.2.2.2.2.2.2.2.2.2.2.2.1 t.2.2.2.2.2.2.2.2.2.2.2.2.2.2.2.2.2.2.2.2.2.2.2.2.2.2.2.2.1 ∧ (∀ i, i < 345 → t.2.2.2.2.2.2.2.2.2.2.2.2.2.2.2.2.2.2.2.2.2.2.2.2.2.2.2.2.2.2.1 i = 0) ∧ (∀ i, i < 240 → t.2.2.2.2.2.2.2.2.2.2.2.2.2.2.2.2.2.2.2.2.2.2.2.2.2.2.2.2.2.2.2.1 i = -1 ∧ t.2.2.2.2.2.2.2.2.2.2.2.2.2.2.2.2.2.2.2.2.2.2.2.2.2.2.2.2.2.2.2.2.1 i = 0) ∧ Z40 t.2.2.2.2.2.2.2.2.2.2.2.2.2.2.2.2.2.2.2.2.2.2.2.2.2.2.2.2.2.2.2.2.2.2.2.2.1 ∧ t.2.2.2.2.2.2.2.2.2.2.1 = 0) := by
  unfold f_X11_init
  refine pc_bind (m_init_291 FU 0 _ 0 (by decide) (by decide) (fun i hi => absurd hi (Nat.not_lt_zero _))) (fun r1 q1 => pc_bind (m_init_313 FU 0 _ 0 (by decide) (by decide) (fun i hi => absurd hi (Nat.not_lt_zero _))) (fun r2 q2 => pc_some ⟨?_, fun _ _ => rfl, fun i hi => ⟨q2 i hi, rfl⟩, fun _ _ => rfl, rfl⟩))
  have e : ∀ x, x < 954 → nuM 0 r1 x = x := fun x hx => by
    have := q1 x hx
    unfold nuM
    rw [show 954 * 0 + x = x by omega]
    omega
  refine ⟨PRT_0 _ _ (fun a b ha hb h => by rw [e a ha, e b hb] at h; exact h), fun x hx => .inr ⟨rfl, fun q => by obtain ⟨x, hx, -⟩ := q; exact absurd hx List.not_mem_nil⟩, fun x hx => by
    show nuM 0 r1 (nuM 0 r1 x) = nuM 0 r1 x
    rw [e x hx, e x hx]⟩
set_option maxHeartbeats 400000 in
theorem hp2_init : ∃ s t, f_X10_init = some s ∧ f_X11_init = some t ∧ INV2 s t := by
  refine hop2 (ok_pc s_X10_init x10_init9) (ok_pc s_X11_init m11_init9) (fun s t p q => ?_)
  obtain ⟨⟨p1, p2, p3, p4, p5, p6, p7⟩, nx, wz, sz⟩ := p
  obtain ⟨⟨q1, q2, q3, q4, q5⟩, nm, s0, w0, z0, k0⟩ := q
  refine ⟨[], 0, ⟨?_, ⟨by rw [q1, p1], by rw [q2, p2]⟩, ?_, p5, ?_, q3, q4, q5⟩, fun q hq => absurd hq List.not_mem_nil, nx, nm, DY_0 (IXM_NLR p5 q3) (Nat.zero_le _) sz s0 _ _ _ _ _ _ _ _ _ _ p7 k0, WR_0 wz w0, z0⟩
  · rw [p1, p2]
    exact ⟨by decide, by decide, fun i => by show -128 ≤ (0 : Int32).toInt ∧ (0 : Int32).toInt < 128; decide⟩
  · rw [p3, p4]
    exact ⟨fun i _ => by show 0 ≤ (0 : Int32).toInt; decide, fun i _ => by show 0 ≤ (0 : Int32).toInt ∧ (0 : Int32).toInt ≤ 6; decide⟩
  · rw [p6, p7]
    exact ⟨by decide, by decide, by decide, by decide⟩
/-! the second level whole -/
def EL2 : Nat → Prop
  | 0 => True
  | 1 => True
  | 2 => True
  | 4 => True
  | 5 => True
  | 6 => True
  | 7 => True
  | 8 => True
  | 9 => True
  | 10 => True
  | 11 => True
  | 12 => True
  | 13 => True
  | 14 => True
  | 17 => True
  | _ => False
set_option maxHeartbeats 400000 in
theorem lev2 : HOPS EL2 INV2 INV2 := ⟨hp2_feed, hp2_load, hp2_adder, hp2_wrong, hp2_count, hp2_letter, hp2_key, hp2_tick, hp2_quiet, hp2_relay, hp2_contact, hp2_lamp, hp2_net, hp2_stuck, hp2_dust, hp2_race, hp2_raced, hp2_back, hp2_init⟩
