/-! the sort of a place among the parts -/
set_option maxHeartbeats 400000 in
theorem s_sortOf (x : Int32) (s i : Nat) (hs : s < 5) (hi : i < mst s) (h : x.toInt = fstS s + i) : f_X11_sortOf x = some (Int32.ofNat s) := by
  unfold f_X11_sortOf
  have h40 : (40 : Int32).toInt = 40 := by decide
  have h64 : (64 : Int32).toInt = 64 := by decide
  have h88 : (88 : Int32).toInt = 88 := by decide
  have h92 : (92 : Int32).toInt = 92 := by decide
  simp only [tI_le, h40, h64, h88, h92]
  unfold mst at hi
  unfold fstS at h
  match s, hs with
  | 0, _ => simp at h hi; rw [if_neg (by omega)]; rfl
  | 1, _ => simp at h hi; rw [if_pos (by omega), if_neg (by omega)]; rfl
  | 2, _ => simp at h hi; rw [if_pos (by omega), if_pos (by omega), if_neg (by omega)]; rfl
  | 3, _ => simp at h hi; rw [if_pos (by omega), if_pos (by omega), if_pos (by omega), if_neg (by omega)]; rfl
  | 4, _ => simp at h hi; rw [if_pos (by omega), if_pos (by omega), if_pos (by omega), if_pos (by omega)]; rfl
