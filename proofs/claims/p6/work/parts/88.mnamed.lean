/-! a name looked up among the parts that are told -/
def TkN (tPlace tSize text : Nat → Int32) (L j : Nat) (v : Nat) : Prop := ∃ a : TkT, a.1 = 1 ∧ a.2.2 ≤ 8 ∧ a.2.1 = v ∧ (tSize j).toInt = a.2.2 ∧ 0 ≤ (tPlace j).toInt ∧ (tPlace j).toInt + a.2.2 ≤ L ∧ a.2.1 = pk (fun k => (text ((tPlace j).toInt.toNat + k)).toInt.toNat) a.2.2 ∧ (∀ k, k < a.2.2 → 1 ≤ (text ((tPlace j).toInt.toNat + k)).toInt ∧ (text ((tPlace j).toInt.toNat + k)).toInt < 128)
set_option maxHeartbeats 400000 in
theorem AT_un (s i : Nat) : ∀ (S : List StT) (a b : StT), AT s i a S → AT s i b S → a = b
  | [], _, _, h, _ => h.elim
  | c :: r, a, b, h, k => by
    rcases h with ⟨h1, h2, h3⟩ | h
    · rcases k with ⟨k1, k2, k3⟩ | k
      · exact h3.trans k3.symm
      · have := (AT_in s i b r k).2
        omega
    · rcases k with ⟨k1, k2, k3⟩ | k
      · have := (AT_in s i a r h).2
        omega
      · exact AT_un s i r a b h k
set_option maxHeartbeats 400000 in
theorem s_alikeAt (x1 : Int32) (x2 : Int32) (c_text : Nat → Int32) (c_tPlace : Nat → Int32) (c_tSize : Nat → Int32) (c_nameSize : Nat → Int32) (c_names : Nat → Int32) (φ L v s i : Nat) (S : List StT) (one two kinds bits : Nat → Int32) (hφ : φ ≤ 1) (hL : L ≤ 4000) (hs : s < 5) (hi : i < cnt s S) (hc : cnt s S ≤ mst s) (hP : PMr φ c_nameSize c_names one two kinds bits S) (hx1 : x1.toInt = 116 * φ + fstS s + i) (hx2 : 0 ≤ x2.toInt ∧ x2.toInt < 4001) (hT : TkN c_tPlace c_tSize c_text L x2.toInt.toNat v) : Ok (f_X11_isAlike x1 x2 c_text c_tPlace c_tSize c_nameSize c_names) (fun r => (r = 1 ∧ ∃ a, AT s i a S ∧ tnm a = v) ∨ (r = 0 ∧ ¬ ∃ a, AT s i a S ∧ tnm a = v)) := by
  obtain ⟨a, ha⟩ := AT_ex s S i hi
  obtain ⟨q1, q2, q3⟩ := PMr_at φ _ _ _ _ _ _ s i a hs S hP ha
  obtain ⟨t, t1, t2, t3, t4⟩ := hT
  have hb : fstS s + mst s ≤ 116 := by unfold fstS mst; (repeat' split) <;> omega
  refine ok_mono (s_isAlike _ _ _ _ _ _ _ L (116 * φ + fstS s + i) (tnm a) hL (by omega) (by omega) hx2 q2 t t1 t2 t4) (fun r hr => ?_)
  rw [t3] at hr
  rcases hr with ⟨z1, z2⟩ | ⟨z1, z2⟩
  · exact .inl ⟨z1, a, ha, z2⟩
  · refine .inr ⟨z1, ?_⟩
    rintro ⟨b, hb1, hb2⟩
    rw [AT_un s i S a b ha hb1] at z2
    exact z2 hb2
