/-! back: what both leave -/
set_option maxHeartbeats 400000 in
theorem md_a (N n j : Nat) (h : n + j ≤ 100) (hN : N < 100) : ((N + 100 - n) % 100 + 100 - j) % 100 = (N + 100 - (j + n)) % 100 := by omega
set_option maxHeartbeats 400000 in
theorem md_b (N n j : Nat) (h : n + j ≤ 100) (hN : N < 100) : ((N + 100 - n) % 100 + 101 - j) % 100 = (N + 101 - (j + n)) % 100 := by omega
set_option maxHeartbeats 400000 in
theorem p_back {S : List StT} {pick drop : Nat → Int32} (x1 : Int32) (c_state_picked : Int64) (c_state_keys c_state_time : Int32) (c_state_counts c_state_positions : Nat → Int32) (c_history_next c_history_size : Int32) (pk : Nat → Int64) (ky tm : Nat → Int32) (cn po : Nat → Nat → Int32) (c_kept c_latest : Int32) (c_state c_past : Nat → Int32) (hR4 : cnt 0 S ≤ 40) (hD : DY S pick drop c_state_picked c_state_keys c_state_time c_state_counts c_state_positions c_history_next c_history_size pk ky tm cn po c_state c_kept c_latest c_past) (hH : HR c_history_next c_history_size) (hK : KR c_kept c_latest) : P2 (f_X10_back x1 c_state_picked c_state_keys c_state_time c_state_counts c_state_positions c_history_next c_history_size (pk (xrem (c_history_next - x1 + 100) 100).toNatClampNeg) (ky (xrem (c_history_next - x1 + 100) 100).toNatClampNeg) (tm (xrem (c_history_next - x1 + 100) 100).toNatClampNeg) (cn (xrem (c_history_next - x1 + 100) 100).toNatClampNeg) (po (xrem (c_history_next - x1 + 100) 100).toNatClampNeg)) (f_X11_back x1 c_kept c_latest c_state c_past) (fun rx rm => rx.1 = rm.1 ∧ DY S pick drop rx.2.1 rx.2.2.1 rx.2.2.2.1 rx.2.2.2.2.1 rx.2.2.2.2.2.1 rx.2.2.2.2.2.2.1 rx.2.2.2.2.2.2.2 pk ky tm cn po rm.2.2.2 rm.2.1 rm.2.2.1 c_past) := by
  unfold f_X10_back
  have e100 : (100 : Int32).toInt = 100 := by decide
  obtain ⟨d1, d2, d3, d4⟩ := hD
  have hH' := hH
  obtain ⟨h1, h2, h3, h4⟩ := hH'
  obtain ⟨g1, g2, g3, g4⟩ := hK
  refine p2_l (x_takeBack _ _ _ _ _ _ _ _ _ _ _ _ _ hH) (fun r hr => ?_)
  rcases hr with ⟨n0, e⟩ | ⟨n0, r0, r1, r2, r3, r4, r5, r6, r7⟩
  · rw [e, if_pos rfl]
    have no : P2 (some ((-1 : Int32), c_state_picked, c_state_keys, c_state_time, c_state_counts, c_state_positions, c_history_next, c_history_size)) (some ((-1 : Int32), c_kept, c_latest, c_state)) (fun rx rm => rx.1 = rm.1 ∧ DY S pick drop rx.2.1 rx.2.2.1 rx.2.2.2.1 rx.2.2.2.2.1 rx.2.2.2.2.2.1 rx.2.2.2.2.2.2.1 rx.2.2.2.2.2.2.2 pk ky tm cn po rm.2.2.2 rm.2.1 rm.2.2.1 c_past) := p2_some ⟨rfl, d1, d2, d3, d4⟩
    unfold f_X11_back
    refine p2_if2 (fun _ => no) (fun a => p2_if2 (fun _ => no) (fun b => p2_if2 (fun c => ?_) (fun _ => no)))
    exfalso
    rw [tI_lt, l_1] at a
    rw [d3, tI_le] at c
    exact n0 ⟨by omega, c⟩
  · rw [if_neg (by rw [r0]; decide)]
    have hn : (xrem (c_history_next - x1 + 100) 100).toNatClampNeg = (c_history_next.toInt + 100 - x1.toInt).toNat % 100 := by
      have e : (c_history_next - x1 + 100).toInt = c_history_next.toInt - x1.toInt + 100 := by ((try simp only [tI_lt, tI_le, tI_eq, tI_add, tI_sub, tI_mul, tI_nat, Int32.reduceToInt, Int.reduceToNat, fe_0, fe_1, fe_2, fe_3, fe_4, fe_5]) <;> (try simp (disch := omega) only [tI_bm]) <;> omega)
      rw [tI_nat, tI_rem (by omega) (by decide), e, e100]
      omega
    rw [hn] at r3 r4 r5 r6 r7
    unfold f_X11_back
    refine p2_if2 (fun a => by exfalso; rw [tI_lt, l_1] at a; omega) (fun a => p2_if2 (fun b => by exfalso; rw [tI_lt, e100] at b; omega) (fun b => p2_if2 (fun c => p2_v2 ?_) (fun c => by exfalso; rw [d3, tI_le] at c; omega)))
    have eb : (xrem (c_latest + 100 - x1 + 1) 100).toInt = (((c_latest.toInt.toNat + 101 - x1.toInt.toNat) % 100 : Nat) : Int) := by
      have e : (c_latest + 100 - x1 + 1).toInt = c_latest.toInt + 100 - x1.toInt + 1 := by ((try simp only [tI_lt, tI_le, tI_eq, tI_add, tI_sub, tI_mul, tI_nat, Int32.reduceToInt, Int.reduceToNat, fe_0, fe_1, fe_2, fe_3, fe_4, fe_5]) <;> (try simp (disch := omega) only [tI_bm]) <;> omega)
      rw [tI_rem (by omega) (by decide), e, e100]
      omega
    have q := d4 x1.toInt.toNat ((c_history_next.toInt + 100 - x1.toInt).toNat % 100) ((c_latest.toInt.toNat + 101 - x1.toInt.toNat) % 100) (by omega) (by omega) (by omega) rfl
    have ks : c_kept.toInt = c_history_size.toInt := by rw [d3]
    refine p2_of (pc_some (pc_mono (m_back_38 c_past ((c_latest.toInt.toNat + 101 - x1.toInt.toNat) % 100) c_kept.toInt.toNat c_latest.toInt.toNat x1.toInt.toNat (Nat.mod_lt _ (by decide)) (by omega) (by omega) ⟨by omega, by omega⟩ c_state FU x1 _ 0 c_kept c_latest c_state 0 (by omega) eb (by decide) (by decide) (by omega) (by omega) (fun i hi => absurd hi (Nat.not_lt_zero _)) (fun _ _ => rfl)) (fun rm hm => ?_)))
    obtain ⟨m1, m2, m3, m4⟩ := hm
    have sr : SR (nkS S) r.2.2.2.1 r.2.2.2.2.1 r.2.2.2.2.2.1 r.2.2.2.2.2.2.1 r.2.2.2.2.2.2.2 rm.2.2.2 := by
      rw [r3, r4, r5]
      exact SR_cg q.1 r6 r7 m4
    refine ⟨?_, sr, CIV_cg hR4 q.2 m4, ?_, fun j a b j1 j2 ha hb => ?_⟩
    · show r.2.2.2.2.2.1 = rm.1
      rw [m1, r5]
      exact q.1.2.2.2.1
    · show rm.2.1 = r.2.2.1
      exact Int32.toInt_inj.mp (by rw [m2, r2]; omega)
    · have j2' : (j : Int) ≤ r.2.2.1.toInt := j2
      have ha' : a = (r.2.1.toInt.toNat + 100 - j) % 100 := ha
      have hb' : b = (rm.2.2.1.toInt.toNat + 101 - j) % 100 := hb
      have jn : x1.toInt.toNat + j ≤ 100 := by clear ha hb ha' hb' q d4 hn eb; omega
      have v1 : r.2.1.toInt.toNat = (c_history_next.toInt.toNat + 100 - x1.toInt.toNat) % 100 := by clear ha hb ha' hb' q d4 hn eb m3; omega
      have v2 : rm.2.2.1.toInt.toNat = (c_latest.toInt.toNat + 100 - x1.toInt.toNat) % 100 := by clear ha hb ha' hb' q d4 hn eb r1; omega
      rw [v1, md_a _ _ _ jn (by omega)] at ha'
      rw [v2, md_b _ _ _ jn (by omega)] at hb'
      exact d4 (j + x1.toInt.toNat) a b (by omega) (by clear ha' hb' ha hb hn eb v1 v2 q; omega) ha' hb'
