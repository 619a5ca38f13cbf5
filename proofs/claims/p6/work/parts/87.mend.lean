/-! the sort of a place among the parts -/
set_option maxHeartbeats 400000 in
theorem s_sortOf (x : Int32) (s i : Nat) (hs : s < 5) (hi : i < mst s) (h : x.toInt = fstS s + i) : f_X11_sortOf x = some (Int32.ofNat s) := by
  unfold f_X11_sortOf
  have h40 : (40 : Int32).toInt = 40 := by decide
  have h64 : (64 : Int32).toInt = 64 := by decide
  have h88 : (88 : Int32).toInt = 88 := by decide
  have h92 : (92 : Int32).toInt = 92 := by decide
  simp only [tI_le, h40, h64, h88, h92]
  unfold mst at hi
  unfold fstS at h
  match s, hs with
  | 0, _ => simp at h hi; rw [if_neg (by omega)]; rfl
  | 1, _ => simp at h hi; rw [if_pos (by omega), if_neg (by omega)]; rfl
  | 2, _ => simp at h hi; rw [if_pos (by omega), if_pos (by omega), if_neg (by omega)]; rfl
  | 3, _ => simp at h hi; rw [if_pos (by omega), if_pos (by omega), if_pos (by omega), if_neg (by omega)]; rfl
  | 4, _ => simp at h hi; rw [if_pos (by omega), if_pos (by omega), if_pos (by omega), if_pos (by omega)]; rfl
/-! what the reference's parts tell of one of them -/
set_option maxHeartbeats 400000 in
theorem PMr_at (φ : Nat) (nameSize names one two kinds bits : Nat → Int32) (s i : Nat) (a : StT) (hs : s < 5) : ∀ S : List StT, PMr φ nameSize names one two kinds bits S → AT s i a S → a.1 = s ∧ NMp nameSize names (116 * φ + fstS s + i) (tnm a) ∧ (s = 0 → (kinds (116 * φ + fstS s + i)).toInt = nkd a)
  | [], _, h => h.elim
  | b :: r, hP, h => by
    rcases h with ⟨h1, h2, h3⟩ | h
    · subst h3
      have q := hP.1 (by omega)
      rw [h1, ← h2] at q
      exact ⟨h1, q.1, fun z => (q.2.1 z).2.2.1⟩
    · exact PMr_at φ nameSize names one two kinds bits s i a hs r hP.2 h
set_option maxHeartbeats 400000 in
theorem cnt_at (s i : Nat) (a : StT) : ∀ S : List StT, AT s i a S → i < cnt s S ∧ a.1 = s
  | [], h => h.elim
  | b :: r, h => by
    have e : cnt s (b :: r) = cnt s r + (if b.1 = s then 1 else 0) := rfl
    rw [e]
    rcases h with ⟨h1, h2, h3⟩ | h
    · subst h3; rw [if_pos h1]; exact ⟨by omega, h1⟩
    · have := cnt_at s i a r h; exact ⟨by omega, this.2⟩
/-! a name that no part has -/
set_option maxHeartbeats 400000 in
theorem lk_none (v : Nat) : ∀ S : List StT, (∀ t j a, t < 5 → AT t j a S → tnm a ≠ v) → lk v S = none
  | [], _ => rfl
  | b :: r, h => by
    unfold lk
    rw [if_neg (fun z => h b.1 (cnt b.1 r) b z.1 (.inl ⟨rfl, rfl, rfl⟩) z.2)]
    exact lk_none v r (fun t j a ht q => h t j a ht (.inr q))
/-! no two parts of one name -/
set_option maxHeartbeats 400000 in
theorem inN_at (v : Nat) (s i : Nat) (a : StT) (hs : s < 5) : ∀ S : List StT, AT s i a S → tnm a = v → inN v S = true
  | [], h, _ => h.elim
  | b :: r, h, e => by
    unfold inN
    rcases h with ⟨h1, h2, h3⟩ | h
    · subst h3
      have : a.1 < 5 := by omega
      simp [this, e]
    · have := inN_at v s i a hs r h e
      simp [this]
/-! under okS the look-up finds the one part that has the name -/
set_option maxHeartbeats 400000 in
theorem lk_some (v : Nat) (s i : Nat) (a : StT) (hs : s < 5) (e : tnm a = v) : ∀ S : List StT, okS S = true → AT s i a S → lk v S = some a
  | [], _, h => h.elim
  | b :: r, ho, h => by
    unfold okS at ho
    rw [Bool.and_eq_true, Bool.or_eq_true, Bool.and_eq_true] at ho
    unfold lk
    rcases h with ⟨h1, h2, h3⟩ | h
    · subst h3
      rw [if_pos ⟨by omega, e⟩]
    · have hi := inN_at v s i a hs r h e
      rw [if_neg (fun z => ?_)]
      · exact lk_some v s i a hs e r ho.1 h
      · rcases ho.2 with q | q
        · have := of_decide_eq_true q; omega
        · rw [z.2, hi] at q; exact absurd q.1 (by decide)
