/-! tokens gone over up to a ; -/
def SK : Nat → List TkT → List TkT → Prop
  | 0, l, r => l = r
  | k + 1, l, r => ((hd l).1 = 1 ∨ (hd l).1 = 2) ∧ SK k l.tail r
set_option maxHeartbeats 400000 in
theorem SK_sn {l : List TkT} (h : (hd l).1 = 1 ∨ (hd l).1 = 2) (c : Nat) : ¬ isSn l c = true := fun q => by
  have := hd3 q
  omega
set_option maxHeartbeats 400000 in
theorem pKinds_SK : ∀ (f n b : Nat) (l : List TkT), ∃ k, k ≤ f ∧ SK k l (pKinds f n b l).2.2
  | 0, n, b, l => ⟨0, Nat.le_refl _, rfl⟩
  | f + 1, n, b, l => by
    unfold pKinds
    by_cases c1 : isWd l 422826041707 = true
    · rw [if_pos c1]
      obtain ⟨k, h1, h2⟩ := pKinds_SK f (n + 1) b l.tail
      exact ⟨k + 1, by omega, .inl (hd1 c1), h2⟩
    · rw [if_neg c1]
      by_cases c2 : isWd l 1835101029 = true
      · rw [if_pos c2]
        obtain ⟨k, h1, h2⟩ := pKinds_SK f (n + 1) (b + 2 ^ n) l.tail
        exact ⟨k + 1, by omega, .inl (hd1 c2), h2⟩
      · rw [if_neg c2]
        exact ⟨0, Nat.zero_le _, rfl⟩
set_option maxHeartbeats 400000 in
theorem pPart_st {s : Nat} {l rest : List TkT} {st : StT} (h : pPart s l = some (st, rest)) : isNm l = true ∧ st.1 = s ∧ tnm st = (hd l).2.1 ∧ st.2.2.2.2.2.2 = [] ∧ ∃ k, k ≤ 10 ∧ SK k l rest := by
  unfold pPart at h
  by_cases n : isNm l = true
  · rw [if_pos n] at h
    have n1 := ((isNm_t l).mp n).1
    refine ⟨n, ?_⟩
    by_cases s0 : s = 0
    · rw [if_pos s0] at h
      by_cases c : isNr l.tail 1 20 = true ∧ isNr l.tail.tail 1 20 = true
      · rw [if_pos c] at h
        injection h with h; injection h with h1 h2
        obtain ⟨k, k1, k2⟩ := pKinds_SK 6 0 0 l.tail.tail.tail
        subst h1 h2
        exact ⟨s0.symm, rfl, rfl, k + 1 + 1 + 1, by omega, .inl n1, .inr ((isNr_t _ _ _).mp c.1).1, .inr ((isNr_t _ _ _).mp c.2).1, k2⟩
      · rw [if_neg c] at h; cases h
    · rw [if_neg s0] at h
      by_cases s3 : s = 3
      · rw [if_pos s3] at h
        by_cases c : isNr l.tail 2 100 = true ∧ isNr l.tail.tail 1 ((hd l.tail).2.1 - 1) = true
        · rw [if_pos c] at h
          injection h with h; injection h with h1 h2
          subst h1 h2
          exact ⟨s3.symm, rfl, rfl, 0 + 1 + 1 + 1, by omega, .inl n1, .inr ((isNr_t _ _ _).mp c.1).1, .inr ((isNr_t _ _ _).mp c.2).1, rfl⟩
        · rw [if_neg c] at h; cases h
      · rw [if_neg s3] at h
        injection h with h; injection h with h1 h2
        subst h1 h2
        exact ⟨rfl, rfl, rfl, 0 + 1, by omega, .inl n1, rfl⟩
  · rw [if_neg n] at h; cases h
/-! lists of statements -/
set_option maxHeartbeats 400000 in
theorem AT_sub (t j : Nat) (a : StT) : ∀ A S1 : List StT, j < cnt t S1 → AT t j a (A ++ S1) → AT t j a S1
  | [], _, _, h => h
  | b :: A, S1, hj, h => by
    rcases h with ⟨h1, h2, h3⟩ | h
    · exfalso
      have h2' : j = cnt t (A ++ S1) := h2
      have : cnt t S1 ≤ cnt t (A ++ S1) := by
        clear h2 h2' h3
        induction A with
        | nil => exact Nat.le_refl _
        | cons c A ih => exact Nat.le_trans ih (Nat.le_add_right _ _)
      omega
    · exact AT_sub t j a A S1 hj h
set_option maxHeartbeats 400000 in
theorem AT_app (t j : Nat) (a : StT) : ∀ A S1 : List StT, AT t j a S1 → AT t j a (A ++ S1)
  | [], _, h => h
  | _ :: A, S1, h => .inr (AT_app t j a A S1 h)
set_option maxHeartbeats 400000 in
theorem inN_ex (v : Nat) : ∀ S : List StT, inN v S = true → ∃ t j a, t < 5 ∧ AT t j a S ∧ tnm a = v
  | [], h => by cases h
  | b :: r, h => by
    have h' : ((decide (b.1 < 5) && decide (tnm b = v)) || inN v r) = true := h
    rw [Bool.or_eq_true, Bool.and_eq_true, decide_eq_true_eq, decide_eq_true_eq] at h'
    rcases h' with ⟨h1, h2⟩ | h'
    · exact ⟨b.1, cnt b.1 r, b, h1, .inl ⟨rfl, rfl, rfl⟩, h2⟩
    · obtain ⟨t, j, a, q1, q2, q3⟩ := inN_ex v r h'
      exact ⟨t, j, a, q1, .inr q2, q3⟩
set_option maxHeartbeats 400000 in
theorem inN_iff (v : Nat) (A S1 : List StT) : (∃ t j, t < 5 ∧ j < cnt t S1 ∧ ∃ a, AT t j a (A ++ S1) ∧ tnm a = v) ↔ inN v S1 = true := by
  constructor
  · rintro ⟨t, j, ht, hj, a, ha, e⟩
    exact inN_at v t j a ht S1 (AT_sub t j a A S1 hj ha) e
  · intro h
    obtain ⟨t, j, a, q1, q2, q3⟩ := inN_ex v S1 h
    exact ⟨t, j, q1, (AT_in t j a S1 q2).2, a, AT_app t j a A S1 q2, q3⟩
set_option maxHeartbeats 400000 in
theorem okS_app : ∀ A S1 : List StT, okS (A ++ S1) = true → okS S1 = true
  | [], _, h => h
  | _ :: A, S1, h => okS_app A S1 (okS_tl h)
set_option maxHeartbeats 400000 in
theorem okC_app : ∀ A S1 : List StT, okC (A ++ S1) = true → okC S1 = true
  | [], _, h => h
  | _ :: A, S1, h => okC_app A S1 (okC_tl h).1
set_option maxHeartbeats 400000 in
theorem okS_cons {st : StT} {S1 : List StT} (h : okS S1 = true) (hc : okC (st :: S1) = true) : okS (st :: S1) = true ↔ (5 ≤ st.1 ∨ inN (tnm st) S1 = false) := by
  have hc2 := (okC_tl hc).2
  show (okS S1 && (decide (5 ≤ st.1) || (!inN (tnm st) S1 && decide (cnt st.1 S1 < mst st.1)))) = true ↔ _
  rw [h, Bool.true_and, Bool.or_eq_true, Bool.and_eq_true, decide_eq_true_eq, decide_eq_true_eq]
  constructor
  · rintro (q | q)
    · exact .inl q
    · refine .inr ?_
      cases z : inN (tnm st) S1 with
      | false => rfl
      | true => rw [z] at q; exact absurd q.1 (by decide)
  · rintro (q | q)
    · exact .inl q
    · rcases hc2 with w | w
      · exact .inl w
      · exact .inr ⟨by rw [q]; rfl, w⟩
set_option maxHeartbeats 400000 in
theorem pns_mem (p : PinT) (st : StT) (hp : p ∈ st.2.2.2.2.2.2) (S1 : List StT) : ∀ A : List StT, ∃ q ∈ pnsOf (A ++ st :: S1), q.1 = p.1 ∧ q.2.1 = p.2
  | [] => by
    refine ⟨(p.1, p.2, cnt 5 S1 + 1), ?_, rfl, rfl⟩
    show _ ∈ pnsW (cnt 5 S1 + 1) st.2.2.2.2.2.2 ++ pnsOf S1
    refine List.mem_append.mpr (.inl ?_)
    unfold pnsW
    exact List.mem_reverse.mpr (List.mem_map.mpr ⟨p, hp, rfl⟩)
  | b :: A => by
    obtain ⟨q, h1, h2⟩ := pns_mem p st hp S1 A
    refine ⟨q, ?_, h2⟩
    show q ∈ pnsW (cnt 5 (A ++ st :: S1) + 1) b.2.2.2.2.2.2 ++ pnsOf (A ++ st :: S1)
    exact List.mem_append.mpr (.inr h1)
set_option maxHeartbeats 400000 in
theorem pns_cons {S S1 : List StT} {st : StT} (h : allPin S (pnsOf S1)) (hp : ∀ p ∈ st.2.2.2.2.2.2, okPin S p.1 p.2 = true) : allPin S (pnsOf (st :: S1)) := by
  intro q hq
  have hq' : q ∈ pnsW (cnt 5 S1 + 1) st.2.2.2.2.2.2 ++ pnsOf S1 := hq
  rcases List.mem_append.mp hq' with w | w
  · unfold pnsW at w
    obtain ⟨p, m1, m2⟩ := List.mem_map.mp (List.mem_reverse.mp w)
    rw [← m2]
    exact hp p m1
  · exact h q w
