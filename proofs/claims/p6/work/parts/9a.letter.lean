/-! a name's bytes, on both sides -/
set_option maxHeartbeats 400000 in
theorem and255i (x : Int32) : (x &&& 255).toInt = x.toInt % 256 := by
  have e : (x &&& 255).toBitVec.toNat = x.toBitVec.toNat % 256 := by
    rw [Int32.toBitVec_and, BitVec.toNat_and]
    exact Nat.and_two_pow_sub_one_eq_mod _ 8
  have e1 : (x &&& 255).toInt = (x &&& 255).toBitVec.toInt := rfl
  have e2 : x.toInt = x.toBitVec.toInt := rfl
  rw [e1, e2]
  have b1 := BitVec.toInt_eq_toNat_cond (x &&& 255).toBitVec
  have b2 := BitVec.toInt_eq_toNat_cond x.toBitVec
  have l := x.toBitVec.isLt
  rw [b1, e, b2]
  generalize x.toBitVec.toNat = z at *
  (repeat' split) <;> omega
set_option maxHeartbeats 400000 in
theorem ushr (v m : Nat) (hv : v < 9223372036854775808) (hm : m < 8) (k : Int32) (hk : k.toInt = ((8 * m : Nat) : Int)) : xlushr (Int64.ofNat v) k = Int64.ofNat (v / 256 ^ m) := by
  have ek : k = Int32.ofNat (8 * m) := Int32.toInt_inj.mp (by rw [hk, Int32.toInt_ofNat_of_lt (by omega)])
  have hb : ∀ m, m < 8 → ((Int32.ofNat (8 * m)).toInt64.toUInt64 &&& Int64.toUInt64 63).toNat = 8 * m := by decide +kernel
  have hb' := hb m hm
  rw [← ek] at hb'
  unfold xlushr
  apply Int64.toBitVec_inj.mp
  apply BitVec.eq_of_toNat_eq
  show ((Int64.ofNat v).toUInt64 >>> (k.toInt64.toUInt64 &&& Int64.toUInt64 63)).toNat = _
  rw [UInt64.toNat_shiftRight, hb']
  have e1 : (Int64.ofNat v).toUInt64.toNat = v := by
    show (Int64.ofNat v).toBitVec.toNat = v
    rw [Int64.toBitVec_ofNat', BitVec.toNat_ofNat]
    exact Nat.mod_eq_of_lt (by omega)
  have e2 : (Int64.ofNat (v / 256 ^ m)).toBitVec.toNat = v / 256 ^ m := by
    rw [Int64.toBitVec_ofNat', BitVec.toNat_ofNat]
    have := Nat.div_le_self v (256 ^ m)
    exact Nat.mod_eq_of_lt (by omega)
  rw [e1, e2, Nat.mod_eq_of_lt (show 8 * m < 64 by omega), Nat.shiftRight_eq_div_pow, show (256 : Nat) = 2 ^ 8 from rfl, ← Nat.pow_mul]
set_option maxHeartbeats 400000 in
theorem pkd_div (f : Nat → Nat) : ∀ n, (∀ j, j < n → 1 ≤ f j ∧ f j < 128) → ∀ m, m ≤ n → pk f n / 256 ^ m = pk f (n - m)
  | n, h, 0, _ => by rw [Nat.pow_zero, Nat.div_one, Nat.sub_zero]
  | 0, h, m + 1, hm => absurd hm (Nat.not_succ_le_zero _)
  | n + 1, h, m + 1, hm => by
    have ih := pkd_div f n (fun j hj => h j (by omega)) m (by omega)
    have := h n (by omega)
    rw [Nat.pow_succ, Nat.mul_comm, ← Nat.div_div_eq_div_mul]
    have e : pk f (n + 1) / 256 = pk f n := by
      show (pk f n * 256 + f n) / 256 = _
      omega
    rw [e, ih, show n + 1 - (m + 1) = n - m by omega]
set_option maxHeartbeats 400000 in
theorem pk_pos (f : Nat → Nat) (n : Nat) (h : ∀ j, j < n → 1 ≤ f j ∧ f j < 128) : 0 < n → 0 < pk f n := by
  cases n with
  | zero => intro q; exact absurd q (Nat.lt_irrefl _)
  | succ n =>
    intro _
    have := h n (by omega)
    show 0 < pk f n * 256 + f n
    omega
set_option maxHeartbeats 400000 in
theorem pkd_div0 (f : Nat → Nat) (n m : Nat) (h : ∀ j, j < n → 1 ≤ f j ∧ f j < 128) (hm : n ≤ m) : pk f n / 256 ^ m = 0 := by
  have e : 256 ^ m = 256 ^ n * 256 ^ (m - n) := by rw [← Nat.pow_add]; congr 1; omega
  rw [e, ← Nat.div_div_eq_div_mul, pkd_div f n h n (Nat.le_refl _), Nat.sub_self]
  show 0 / _ = 0
  exact Nat.zero_div _
set_option maxHeartbeats 400000 in
theorem lg0 (a : Nat) (h : a < 9223372036854775808) : lg_cmp (Int64.ofNat a) 0 = 0 ↔ a = 0 := by
  rw [lgc]
  exact L_eq (b := 0) h (by decide)
set_option maxHeartbeats 400000 in
theorem md256 (w c : Nat) (h : c < 128) : (Int.bmod ((w * 256 + c : Nat) : Int) (2 ^ 32)) % 256 = (c : Int) := by
  rw [Int.bmod_def]
  omega
set_option maxHeartbeats 400000 in
theorem s_letterOf_5 (f : Nat → Nat) (nn : Nat) (h8 : nn ≤ 8) (hf : ∀ j, j < nn → 1 ≤ f j ∧ f j < 128) (hv : pk f nn < 9223372036854775808) : ∀ (n : Nat) (x0 : Int64) (x2 : Int32) (x3 : Int32) (x4 : Int32) (m : Nat), x0 = Int64.ofNat (pk f nn) → x4.toInt = ((8 * m : Nat) : Int) → m ≤ 8 → x3.toInt = ((min m nn : Nat) : Int) → 8 < m + n → (f_X10_letterOf_5 n x0 x2 x3 x4) = some (if 0 ≤ x2.toInt ∧ x2.toInt < nn then Int32.ofNat (f x2.toInt.toNat) else -1)
  | 0, x0, x2, x3, x4, m, h0, h4, h1, h3, hn => by exfalso; omega
  | n + 1, x0, x2, x3, x4, m, h0, h4, h1, h3, hn => by
    unfold f_X10_letterOf_5
    by_cases q : (64 : Int32) ≤ x4
    · rw [if_pos q]
      rw [tI_le, show (64 : Int32).toInt = 64 from by decide] at q
      have hm : m = 8 := by omega
      subst hm
      have e3 : x3.toInt = nn := by rw [h3]; congr 1; omega
      by_cases a : x2 < 0
      · rw [if_pos a]
        rw [tI_lt, show (0 : Int32).toInt = 0 from by decide] at a
        rw [if_neg (by omega)]
      · rw [if_neg a]
        rw [tI_lt, show (0 : Int32).toInt = 0 from by decide] at a
        by_cases b : x2 < x3
        · rw [if_pos b]
          rw [tI_lt, e3] at b
          rw [if_pos (by omega)]
          have hk2 : (8 * (x3 - 1 - x2)).toInt = ((8 * (nn - 1 - x2.toInt.toNat) : Nat) : Int) := by ((try simp only [tI_lt, tI_le, tI_eq, tI_add, tI_sub, tI_mul, tI_nat, Int32.reduceToInt, Int.reduceToNat, fe_0, fe_1, fe_2, fe_3, fe_4, fe_5]) <;> (try simp (disch := omega) only [tI_bm]) <;> omega)
          rw [h0, ushr (pk f nn) (nn - 1 - x2.toInt.toNat) hv (by omega) _ hk2, pkd_div f nn hf _ (by omega), show nn - (nn - 1 - x2.toInt.toNat) = x2.toInt.toNat + 1 by omega]
          have hb := hf x2.toInt.toNat (by omega)
          congr 1
          apply Int32.toInt_inj.mp
          have hle : pk f (x2.toInt.toNat + 1) < 9223372036854775808 := by
            rw [show x2.toInt.toNat + 1 = nn - (nn - 1 - x2.toInt.toNat) by omega, ← pkd_div f nn hf _ (by omega)]
            have := Nat.div_le_self (pk f nn) (256 ^ (nn - 1 - x2.toInt.toNat))
            omega
          rw [and255i, Int64.toInt_toInt32, L_ofNat hle, Int32.toInt_ofNat_of_lt (by omega)]
          exact md256 (pk f x2.toInt.toNat) (f x2.toInt.toNat) hb.2
        · rw [if_neg b]
          rw [tI_lt, e3] at b
          rw [if_neg (by omega)]
    · rw [if_neg q]
      rw [tI_le, show (64 : Int32).toInt = 64 from by decide] at q
      have e4 : (x4 + 8).toInt = ((8 * (m + 1) : Nat) : Int) := by ((try simp only [tI_lt, tI_le, tI_eq, tI_add, tI_sub, tI_mul, tI_nat, Int32.reduceToInt, Int.reduceToNat, fe_0, fe_1, fe_2, fe_3, fe_4, fe_5]) <;> (try simp (disch := omega) only [tI_bm]) <;> omega)
      rw [h0, ushr (pk f nn) m hv (by omega) x4 h4]
      unfold f_X10_letterOf_24
      have hd : pk f nn / 256 ^ m < 9223372036854775808 := by
        have := Nat.div_le_self (pk f nn) (256 ^ m)
        omega
      by_cases z : lg_cmp (Int64.ofNat (pk f nn / 256 ^ m)) 0 = 0
      · rw [if_pos z]
        rw [lg0 _ hd] at z
        have hnm : nn ≤ m := by
          by_cases w : nn ≤ m
          · exact w
          · exfalso
            rw [pkd_div f nn hf m (by omega)] at z
            have := pk_pos f (nn - m) (fun j hj => hf j (by omega)) (by omega)
            omega
        exact s_letterOf_5 f nn h8 hf hv n _ _ _ _ (m + 1) rfl e4 (by omega) (by rw [h3]; congr 1; omega) (by omega)
      · rw [if_neg z]
        rw [lg0 _ hd] at z
        have hnm : m < nn := by
          by_cases w : nn ≤ m
          · exact absurd (pkd_div0 f nn m hf w) z
          · omega
        have e3 : (x3 + 1).toInt = ((min (m + 1) nn : Nat) : Int) := by
          have : x3.toInt = m := by rw [h3]; congr 1; omega
          have e2 : (x3 + 1).toInt = m + 1 := by ((try simp only [tI_lt, tI_le, tI_eq, tI_add, tI_sub, tI_mul, tI_nat, Int32.reduceToInt, Int.reduceToNat, fe_0, fe_1, fe_2, fe_3, fe_4, fe_5]) <;> (try simp (disch := omega) only [tI_bm]) <;> omega)
          rw [e2]
          show ((m + 1 : Nat) : Int) = _
          congr 1
          omega
        exact s_letterOf_5 f nn h8 hf hv n _ _ _ _ (m + 1) rfl e4 (by omega) e3 (by omega)
/-! letter: the class's -/
set_option maxHeartbeats 400000 in
theorem s_X10_letter (x1 : Int32) (x2 : Int32) (x3 : Int32) (c_machine_netlist_parts : Nat → Int32) (c_machine_netlist_names : Nat → Nat → Int64) (c_contacts : Nat → Int32) (hN : NS c_machine_netlist_parts c_contacts) (S : List StT) (hc : ∀ s : Nat, s < 5 → (c_machine_netlist_parts s).toInt = cnt s S) (hP : PN c_machine_netlist_names S) (hNM : ∀ s i a, s < 5 → AT s i a S → ∃ (f : Nat → Nat) (n : Nat), n ≤ 8 ∧ (∀ j, j < n → 1 ≤ f j ∧ f j < 128) ∧ tnm a = pk f n) : Ok (f_X10_letter x1 x2 x3 c_machine_netlist_parts c_machine_netlist_names) (fun r => (¬ hasP x1 x2 c_machine_netlist_parts ∧ r = -1) ∨ (hasP x1 x2 c_machine_netlist_parts ∧ ∀ (f : Nat → Nat) (n : Nat) (a : StT), AT x1.toInt.toNat x2.toInt.toNat a S → n ≤ 8 → (∀ j, j < n → 1 ≤ f j ∧ f j < 128) → tnm a = pk f n → r = if 0 ≤ x3.toInt ∧ x3.toInt < n then Int32.ofNat (f x3.toInt.toNat) else -1)) := by
  unfold f_X10_letter
  refine ok_bind (so_X3_has _ _ _) (fun r1 h1 => ?_)
  rcases h1 with ⟨q2, q1⟩ | ⟨q2, q1⟩
  rotate_left
  · rw [if_neg (by rw [q2]; decide)]
    obtain ⟨g1, g2, g3, g4⟩ := q1
    have hle := NS_le hN x1.toInt.toNat (by omega)
    refine ok_bad ⟨g1, g2⟩ (ok_bad (by omega) ?_)
    obtain ⟨a, ha⟩ := AT_ex x1.toInt.toNat S x2.toInt.toNat (by rw [hc _ (by omega)] at g4; omega)
    have pn := AT_PN c_machine_netlist_names _ _ a (by omega) S hP ha
    rw [tI_nat, tI_nat, pn.1]
    unfold f_X10_letterOf
    obtain ⟨f, n, n8, hf, he⟩ := hNM _ _ a (by omega) ha
    have e := s_letterOf_5 f n n8 hf (by rw [← he]; exact pn.2) FU (Int64.ofNat (tnm a)) x3 0 0 0 (by rw [he]) (by decide) (Nat.zero_le _) (by rw [Nat.zero_min]; decide) (by rw [FU_eq]; decide)
    refine ok_eq e (ok_some (.inr ⟨⟨g1, g2, g3, g4⟩, fun f2 n2 a2 ha2 n82 hf2 he2 => ?_⟩))
    have ea := AT_un _ _ S a a2 ha ha2
    rw [← ea, he] at he2
    obtain ⟨k1, k2⟩ := pk_inj f f2 n n2 (fun j hj => by have := hf j hj; omega) (fun j hj => by have := hf2 j hj; omega) he2
    rw [← k1]
    by_cases z : 0 ≤ x3.toInt ∧ x3.toInt < n
    · rw [if_pos z, if_pos z, k2 _ (by omega)]
    · rw [if_neg z, if_neg z]
  · rw [if_pos q2]
    exact ok_some (.inl ⟨q1, rfl⟩)
