/-! key, stuck and dust on both sides -/
set_option maxHeartbeats 400000 in
theorem SR_key {nk : Nat → Nat} {p : Int64} {k t : Int32} {c po s : Nat → Int32} (h : SR nk p k t c po s) (x : Int32) (i : Nat) (hx : x.toInt = i) (hi : i < 24) (v : Int32) (d : Bool) (hv : v = if d = true then 1 else 0) : SR nk p (if d = true then k ||| xshl 1 x else k &&& (xshl 1 x ^^^ -1)) t c po (upd s (320 + i) v) := by
  obtain ⟨a1, a2, a3, a4, a5, a6, a7⟩ := h
  refine ⟨fun j hj => ?_, a2, fun j hj => ?_, ?_, fun j hj => ?_, fun r q hr hq => ?_, a7⟩
  · have := a1 j hj
    unfold mB at this ⊢
    rw [upd_at, if_neg (by omega)]
    exact this
  · rw [upd_at]
    by_cases z : j = i
    · rw [if_pos (show 320 + j = 320 + i by omega), hv]
      cases d with
      | true => rw [if_pos rfl, if_pos rfl, kt_or k x i j hx hi (by omega), decide_eq_true z, Bool.or_true]; rfl
      | false => rw [if_neg (by decide), if_neg (by decide), kt_andn k x i j hx hi (by omega), decide_eq_true z, Bool.not_true, Bool.and_false]; rfl
    · rw [if_neg (show ¬ 320 + j = 320 + i by omega), ← a3 j hj]
      cases d with
      | true => rw [if_pos rfl, kt_or k x i j hx hi (by omega), decide_eq_false z, Bool.or_false]
      | false => rw [if_neg (by decide), kt_andn k x i j hx hi (by omega), decide_eq_false z, Bool.not_false, Bool.and_true]
  · rw [upd_at, if_neg (by omega)]; exact a4
  · rw [upd_at, if_neg (by omega)]; exact a5 j hj
  · rw [upd_at, if_neg (by omega)]; exact a6 r q hr hq
set_option maxHeartbeats 400000 in
theorem WR_stuck {a b c d : Nat → Int32} (h : WR a b c d) (i : Nat) (v : Int32) : WR (upd a i v) b (upd c i v) d := fun j hj => by
  have := h j hj
  rw [upd_at, upd_at]
  by_cases z : j = i
  · rw [if_pos z, if_pos z]; exact ⟨rfl, this.2⟩
  · rw [if_neg z, if_neg z]; exact this
set_option maxHeartbeats 400000 in
theorem WR_dust {a b c d : Nat → Int32} (h : WR a b c d) (i : Nat) (v : Int32) : WR a (upd b i v) c (upd d i v) := fun j hj => by
  have := h j hj
  rw [upd_at, upd_at]
  by_cases z : j = i
  · rw [if_pos z, if_pos z]; exact ⟨this.1, Iff.rfl⟩
  · rw [if_neg z, if_neg z]; exact this
