/-! the reference's second go, from its start -/
set_option maxHeartbeats 400000 in
theorem s_nw_27 (c_fresh : Int32) (c_text : Nat → Int32) (c_tKind : Nat → Int32) (c_tPlace : Nat → Int32) (c_tSize : Nat → Int32) (c_tValue : Nat → Int64) (c_many : Nat → Int32) (c_nameSize : Nat → Int32) (c_kinds : Nat → Int32) (c_names : Nat → Int32) (φ : Nat) (hφ : φ ≤ 1) (hfr : c_fresh.toInt = φ) {Q} (n0 t0 : Nat → Int32) (a f g : Int32) (so : Nat → Int32) (hk : ∀ no2 it2 : Nat → Int32, (∀ e : Nat, e < 954 → (no2 (954 * φ + e)).toInt = e ∧ it2 (954 * φ + e) = 0) → FrN φ n0 t0 no2 it2 → Ok (f_X11_namesAndWires_72 c_fresh c_text c_tKind c_tPlace c_tSize c_tValue c_many c_nameSize c_kinds c_names FU a f g no2 it2 so) Q) : ∀ (n : Nat) (x1 : Int32) (c_at : Int32) (c_fault : Int32) (c_faultAt : Int32) (c_netOf : Nat → Int32) (c_isTold : Nat → Int32) (c_soFar : Nat → Int32), c_at = a → c_fault = f → c_faultAt = g → c_soFar = so → 0 ≤ x1.toInt → x1.toInt ≤ 954 → 954 < x1.toInt + n → (∀ e : Nat, (e : Int) < x1.toInt → (c_netOf (954 * φ + e)).toInt = e ∧ c_isTold (954 * φ + e) = 0) → FrN φ n0 t0 c_netOf c_isTold → Ok (f_X11_namesAndWires_27 c_fresh c_text c_tKind c_tPlace c_tSize c_tValue c_many c_nameSize c_kinds c_names n x1 c_at c_fault c_faultAt c_netOf c_isTold c_soFar) Q
  | 0, x1, c_at, c_fault, c_faultAt, c_netOf, c_isTold, c_soFar, e1, e2, e3, e4, h1, h2, h3, h4, h5 => by exfalso; omega
  | n + 1, x1, c_at, c_fault, c_faultAt, c_netOf, c_isTold, c_soFar, e1, e2, e3, e4, h1, h2, h3, h4, h5 => by
    unfold f_X11_namesAndWires_27
    subst e1 e2 e3 e4
    refine ok_if (fun q => ?_) (fun q => ?_)
    · rw [tI_le, show (954 : Int32).toInt = 954 from by decide] at q
      exact hk _ _ (fun e he => h4 e (by omega)) h5
    · rw [tI_le, show (954 : Int32).toInt = 954 from by decide] at q
      have b1 : (954 * c_fresh + x1).toInt = 954 * φ + x1.toInt := by ((try simp only [tI_lt, tI_le, tI_eq, tI_add, tI_sub, tI_mul, tI_nat, Int32.reduceToInt, Int.reduceToNat, fe_0, fe_1, fe_2, fe_3, fe_4, fe_5]) <;> (try simp (disch := omega) only [tI_bm]) <;> omega)
      have b2 : (954 * c_fresh + x1).toNatClampNeg = 954 * φ + x1.toInt.toNat := by rw [tI_nat, b1]; omega
      have b3 : (x1 + 1).toInt = x1.toInt + 1 := by ((try simp only [tI_lt, tI_le, tI_eq, tI_add, tI_sub, tI_mul, tI_nat, Int32.reduceToInt, Int.reduceToNat, fe_0, fe_1, fe_2, fe_3, fe_4, fe_5]) <;> (try simp (disch := omega) only [tI_bm]) <;> omega)
      refine ok_bad (by omega) (ok_vlet (ok_bad (by omega) (ok_vlet (ok_vlet ?_))))
      rw [b2]
      refine s_nw_27 c_fresh c_text c_tKind c_tPlace c_tSize c_tValue c_many c_nameSize c_kinds c_names φ hφ hfr n0 t0 c_at c_fault c_faultAt c_soFar hk n _ _ _ _ _ _ _ rfl rfl rfl rfl (by omega) (by omega) (by omega) (fun e he => ?_) (fun i hi => ?_)
      · rw [upd_at, upd_at]
        by_cases z : e = x1.toInt.toNat
        · rw [if_pos (by omega), if_pos (by omega)]
          exact ⟨by omega, nar0⟩
        · rw [if_neg (by omega), if_neg (by omega)]
          exact h4 e (by omega)
      · rw [upd_at, upd_at, if_neg (by omega), if_neg (by omega)]
        exact h5 i hi
set_option maxHeartbeats 400000 in
theorem s_nw_7 (c_fresh : Int32) (c_text : Nat → Int32) (c_tKind : Nat → Int32) (c_tPlace : Nat → Int32) (c_tSize : Nat → Int32) (c_tValue : Nat → Int64) (c_many : Nat → Int32) (c_nameSize : Nat → Int32) (c_kinds : Nat → Int32) (c_names : Nat → Int32) {Q} (a f g : Int32) (n0 t0 : Nat → Int32) (hk : ∀ so2 : Nat → Int32, (∀ s : Nat, s < 5 → so2 s = 0) → Ok (f_X11_namesAndWires_27 c_fresh c_text c_tKind c_tPlace c_tSize c_tValue c_many c_nameSize c_kinds c_names FU (0 : Int32) a f g n0 t0 so2) Q) : ∀ (n : Nat) (x1 : Int32) (c_at : Int32) (c_fault : Int32) (c_faultAt : Int32) (c_netOf : Nat → Int32) (c_isTold : Nat → Int32) (c_soFar : Nat → Int32), c_at = a → c_fault = f → c_faultAt = g → c_netOf = n0 → c_isTold = t0 → 0 ≤ x1.toInt → x1.toInt ≤ 5 → 10 < x1.toInt + n → (∀ s : Nat, (s : Int) < x1.toInt → c_soFar s = 0) → Ok (f_X11_namesAndWires_7 c_fresh c_text c_tKind c_tPlace c_tSize c_tValue c_many c_nameSize c_kinds c_names n x1 c_at c_fault c_faultAt c_netOf c_isTold c_soFar) Q
  | 0, x1, c_at, c_fault, c_faultAt, c_netOf, c_isTold, c_soFar, e1, e2, e3, e4, e5, h1, h2, h3, h4 => by exfalso; omega
  | n + 1, x1, c_at, c_fault, c_faultAt, c_netOf, c_isTold, c_soFar, e1, e2, e3, e4, e5, h1, h2, h3, h4 => by
    unfold f_X11_namesAndWires_7
    subst e1 e2 e3 e4 e5
    refine ok_if (fun q => ?_) (fun q => ?_)
    · rw [tI_le, show (5 : Int32).toInt = 5 from by decide] at q
      exact hk _ (fun s hs => h4 s (by omega))
    · rw [tI_le, show (5 : Int32).toInt = 5 from by decide] at q
      have b3 : (x1 + 1).toInt = x1.toInt + 1 := by ((try simp only [tI_lt, tI_le, tI_eq, tI_add, tI_sub, tI_mul, tI_nat, Int32.reduceToInt, Int.reduceToNat, fe_0, fe_1, fe_2, fe_3, fe_4, fe_5]) <;> (try simp (disch := omega) only [tI_bm]) <;> omega)
      refine ok_bad (by omega) (ok_vlet (ok_vlet ?_))
      refine s_nw_7 c_fresh c_text c_tKind c_tPlace c_tSize c_tValue c_many c_nameSize c_kinds c_names c_at c_fault c_faultAt c_netOf c_isTold hk n _ _ _ _ _ _ _ rfl rfl rfl rfl rfl (by omega) (by omega) (by omega) (fun s hs => ?_)
      rw [upd_at, tI_nat]
      by_cases z : s = x1.toInt.toNat
      · rw [if_pos z]
      · rw [if_neg z]; exact h4 s (by omega)
set_option maxHeartbeats 400000 in
theorem s_namesAndWires (c_at : Int32) (c_fault : Int32) (c_faultAt : Int32) (c_fresh : Int32) (c_text : Nat → Int32) (c_tKind : Nat → Int32) (c_tPlace : Nat → Int32) (c_tSize : Nat → Int32) (c_tValue : Nat → Int64) (c_many : Nat → Int32) (c_nameSize : Nat → Int32) (c_kinds : Nat → Int32) (c_names : Nat → Int32) (c_netOf : Nat → Int32) (c_isTold : Nat → Int32) (c_soFar : Nat → Int32) (φ : Nat) (S : List StT) (one two bits : Nat → Int32) (hφ : φ ≤ 1) (hfr : c_fresh.toInt = φ) (hP : PMr φ c_nameSize c_names one two c_kinds bits S) (hG : GB c_nameSize c_kinds) (hc : ∀ s, s < 5 → cnt s S ≤ mst s) (L : Nat) (hL : L ≤ 4000) (hmn : ∀ s, s < 5 → (c_many (5 * φ + s)).toInt = cnt s S) (hC : okC S = true) (l : List TkT) (ss : List StT) (h : KM c_text L c_tKind c_tPlace c_tSize c_tValue 0 l) (hl : l.length ≤ 4001) (hf : c_fault = 0) (hp : pText 4002 l = some ss) (hS : S = ss.reverse) : Ok (f_X11_namesAndWires c_at c_fault c_faultAt c_fresh c_text c_tKind c_tPlace c_tSize c_tValue c_many c_nameSize c_kinds c_names c_netOf c_isTold c_soFar) (NWP φ S c_netOf c_isTold) := by
  unfold f_X11_namesAndWires
  refine s_nw_7 c_fresh c_text c_tKind c_tPlace c_tSize c_tValue c_many c_nameSize c_kinds c_names 0 c_fault c_faultAt c_netOf c_isTold (fun so2 hso => ?_) FU 0 0 c_fault c_faultAt c_netOf c_isTold c_soFar rfl rfl rfl rfl rfl (by decide) (by decide) (by rw [FU_eq]; decide) (fun s hs => by rw [show (0 : Int32).toInt = 0 from by decide] at hs; omega)
  refine s_nw_27 c_fresh c_text c_tKind c_tPlace c_tSize c_tValue c_many c_nameSize c_kinds c_names φ hφ hfr c_netOf c_isTold 0 c_fault c_faultAt so2 (fun no2 it2 hno hfr2 => ?_) FU 0 0 c_fault c_faultAt c_netOf c_isTold so2 rfl rfl rfl rfl (by decide) (by decide) (by rw [FU_eq]; decide) (fun s hs => by rw [show (0 : Int32).toInt = 0 from by decide] at hs; omega) (FrN_rf _ _ _)
  refine ok_mono (s_nw_72 c_fresh c_text c_tKind c_tPlace c_tSize c_tValue c_many c_nameSize c_kinds c_names φ S one two bits hφ hfr hP hG hc L hL hmn hC FU 0 c_fault c_faultAt no2 it2 so2 4002 l ss [] h hf hp (by rw [hS, List.append_nil]) (fun t ht => by rw [hso t ht]; rfl) rfl (fun _ q hq => absurd hq (List.not_mem_nil)) (fun e he => by have := (hno e he).1; omega) (by rw [FU_eq]; omega)) (fun r hr => ⟨hr.1, hr.2.1, FrN_tr hfr2 hr.2.2⟩)
/-! the nets told apart, the states cleared -/
def RdP (φ L : Nat) (side kept raceTick : Int32) (many nameSize one two kinds bits names netOf isTold state stuck dusty : Nat → Int32) (S : List StT) (acc : Prop) (ret side2 kept2 raceTick2 : Int32) (many2 nameSize2 one2 two2 kinds2 bits2 names2 netOf2 isTold2 state2 stuck2 dusty2 : Nat → Int32) : Prop :=
  FrM φ many nameSize one two kinds bits names many2 nameSize2 one2 two2 kinds2 bits2 names2 ∧ FrN φ netOf isTold netOf2 isTold2 ∧ GB nameSize2 kinds2 ∧
  ((acc ∧ ret = 0 ∧ side2.toInt = φ ∧ kept2 = 0 ∧ raceTick2 = -1 ∧ (∀ k : Nat, k < 345 → state2 k = 0) ∧ (∀ k : Nat, k < 240 → stuck2 k = -1 ∧ dusty2 k = 0) ∧ (∀ s : Nat, s < 5 → (many2 (5 * φ + s)).toInt = cnt s S) ∧ okC S = true ∧ PMr φ nameSize2 names2 one2 two2 kinds2 bits2 S ∧ NI (954 * φ) netOf2)
   ∨ (¬ acc ∧ 0 < ret.toInt ∧ side2 = side ∧ kept2 = kept ∧ raceTick2 = raceTick ∧ state2 = state ∧ stuck2 = stuck ∧ dusty2 = dusty))
def CLP (φ : Nat) (netOf isTold : Nat → Int32) (fresh : Int32) (many nameSize one two kinds bits names : Nat → Int32) (ret side2 kept2 raceTick2 : Int32) (many2 nameSize2 one2 two2 kinds2 bits2 names2 netOf2 isTold2 state2 stuck2 dusty2 : Nat → Int32) : Prop := many2 = many ∧ nameSize2 = nameSize ∧ one2 = one ∧ two2 = two ∧ kinds2 = kinds ∧ bits2 = bits ∧ names2 = names ∧ isTold2 = isTold ∧ (∀ i : Nat, ¬ (954 * φ ≤ i ∧ i < 954 * φ + 954) → netOf2 i = netOf i) ∧ ret = 0 ∧ side2 = fresh ∧ kept2 = 0 ∧ raceTick2 = -1 ∧ (∀ k : Nat, k < 345 → state2 k = 0) ∧ (∀ k : Nat, k < 240 → stuck2 k = -1 ∧ dusty2 k = 0) ∧ NI (954 * φ) netOf2
set_option maxHeartbeats 400000 in
theorem s_reads_116 (c_size : Int32) (c_text : Nat → Int32) (φ : Nat) (hN : True) : ∀ (n : Nat) (x1 : Int32) (c_tokens : Int32) (c_at : Int32) (c_fault : Int32) (c_faultAt : Int32) (c_side : Int32) (c_fresh : Int32) (c_kept : Int32) (c_raceTick : Int32) (c_tKind : Nat → Int32) (c_tPlace : Nat → Int32) (c_tSize : Nat → Int32) (c_tValue : Nat → Int64) (c_many : Nat → Int32) (c_nameSize : Nat → Int32) (c_one : Nat → Int32) (c_two : Nat → Int32) (c_kinds : Nat → Int32) (c_kindBits : Nat → Int32) (c_names : Nat → Int32) (c_netOf : Nat → Int32) (c_isTold : Nat → Int32) (c_soFar : Nat → Int32) (c_state : Nat → Int32) (c_stuck : Nat → Int32) (c_dusty : Nat → Int32), NI (954 * φ) c_netOf → (∀ k : Nat, k < 345 → c_state k = 0) → 0 ≤ x1.toInt → x1.toInt ≤ 240 → 240 < x1.toInt + n → (∀ k : Nat, (k : Int) < x1.toInt → c_stuck k = -1 ∧ c_dusty k = 0) → Ok (f_X11_reads_116 c_size c_text n x1 c_tokens c_at c_fault c_faultAt c_side c_fresh c_kept c_raceTick c_tKind c_tPlace c_tSize c_tValue c_many c_nameSize c_one c_two c_kinds c_kindBits c_names c_netOf c_isTold c_soFar c_state c_stuck c_dusty) (fun r => CLP φ c_netOf c_isTold c_side c_many c_nameSize c_one c_two c_kinds c_kindBits c_names r.1 r.2.2.2.2.2.1 r.2.2.2.2.2.2.2.1 r.2.2.2.2.2.2.2.2.1 r.2.2.2.2.2.2.2.2.2.2.2.2.2.1 r.2.2.2.2.2.2.2.2.2.2.2.2.2.2.1 r.2.2.2.2.2.2.2.2.2.2.2.2.2.2.2.1 r.2.2.2.2.2.2.2.2.2.2.2.2.2.2.2.2.1 r.2.2.2.2.2.2.2.2.2.2.2.2.2.2.2.2.2.1 r.2.2.2.2.2.2.2.2.2.2.2.2.2.2.2.2.2.2.1 r.2.2.2.2.2.2.2.2.2.2.2.2.2.2.2.2.2.2.2.1 r.2.2.2.2.2.2.2.2.2.2.2.2.2.2.2.2.2.2.2.2.1 r.2.2.2.2.2.2.2.2.2.2.2.2.2.2.2.2.2.2.2.2.2.1 r.2.2.2.2.2.2.2.2.2.2.2.2.2.2.2.2.2.2.2.2.2.2.2.1 r.2.2.2.2.2.2.2.2.2.2.2.2.2.2.2.2.2.2.2.2.2.2.2.2.1 r.2.2.2.2.2.2.2.2.2.2.2.2.2.2.2.2.2.2.2.2.2.2.2.2.2)
  | 0, x1, c_tokens, c_at, c_fault, c_faultAt, c_side, c_fresh, c_kept, c_raceTick, c_tKind, c_tPlace, c_tSize, c_tValue, c_many, c_nameSize, c_one, c_two, c_kinds, c_kindBits, c_names, c_netOf, c_isTold, c_soFar, c_state, c_stuck, c_dusty, hn, hs, h1, h2, h3, h4 => by exfalso; omega
  | n + 1, x1, c_tokens, c_at, c_fault, c_faultAt, c_side, c_fresh, c_kept, c_raceTick, c_tKind, c_tPlace, c_tSize, c_tValue, c_many, c_nameSize, c_one, c_two, c_kinds, c_kindBits, c_names, c_netOf, c_isTold, c_soFar, c_state, c_stuck, c_dusty, hn, hs, h1, h2, h3, h4 => by
    unfold f_X11_reads_116
    refine ok_if (fun q => ?_) (fun q => ?_)
    · rw [tI_le, show (240 : Int32).toInt = 240 from by decide] at q
      exact ok_some ⟨rfl, rfl, rfl, rfl, rfl, rfl, rfl, rfl, fun _ _ => rfl, rfl, rfl, rfl, rfl, hs, fun k hk => h4 k (by omega), hn⟩
    · rw [tI_le, show (240 : Int32).toInt = 240 from by decide] at q
      have b3 : (x1 + 1).toInt = x1.toInt + 1 := by ((try simp only [tI_lt, tI_le, tI_eq, tI_add, tI_sub, tI_mul, tI_nat, Int32.reduceToInt, Int.reduceToNat, fe_0, fe_1, fe_2, fe_3, fe_4, fe_5]) <;> (try simp (disch := omega) only [tI_bm]) <;> omega)
      refine ok_bad (by omega) (ok_vlet (ok_bad (by omega) (ok_vlet (ok_vlet ?_))))
      refine s_reads_116 c_size c_text φ hN n _ _ _ _ _ _ _ _ _ _ _ _ _ _ _ _ _ _ _ _ _ _ _ _ _ _ hn hs (by omega) (by omega) (by omega) (fun k hk => ?_)
      rw [upd_at, upd_at, tI_nat]
      by_cases z : k = x1.toInt.toNat
      · rw [if_pos z, if_pos z]; exact ⟨rfl, nar0⟩
      · rw [if_neg z, if_neg z]; exact h4 k (by omega)
set_option maxHeartbeats 400000 in
theorem s_reads_94 (c_size : Int32) (c_text : Nat → Int32) (φ : Nat) (hN : True) : ∀ (n : Nat) (x1 : Int32) (c_tokens : Int32) (c_at : Int32) (c_fault : Int32) (c_faultAt : Int32) (c_side : Int32) (c_fresh : Int32) (c_kept : Int32) (c_raceTick : Int32) (c_tKind : Nat → Int32) (c_tPlace : Nat → Int32) (c_tSize : Nat → Int32) (c_tValue : Nat → Int64) (c_many : Nat → Int32) (c_nameSize : Nat → Int32) (c_one : Nat → Int32) (c_two : Nat → Int32) (c_kinds : Nat → Int32) (c_kindBits : Nat → Int32) (c_names : Nat → Int32) (c_netOf : Nat → Int32) (c_isTold : Nat → Int32) (c_soFar : Nat → Int32) (c_state : Nat → Int32) (c_stuck : Nat → Int32) (c_dusty : Nat → Int32), NI (954 * φ) c_netOf → 0 ≤ x1.toInt → x1.toInt ≤ 345 → 345 < x1.toInt + n → (∀ k : Nat, (k : Int) < x1.toInt → c_state k = 0) → Ok (f_X11_reads_94 c_size c_text n x1 c_tokens c_at c_fault c_faultAt c_side c_fresh c_kept c_raceTick c_tKind c_tPlace c_tSize c_tValue c_many c_nameSize c_one c_two c_kinds c_kindBits c_names c_netOf c_isTold c_soFar c_state c_stuck c_dusty) (fun r => CLP φ c_netOf c_isTold c_side c_many c_nameSize c_one c_two c_kinds c_kindBits c_names r.1 r.2.2.2.2.2.1 r.2.2.2.2.2.2.2.1 r.2.2.2.2.2.2.2.2.1 r.2.2.2.2.2.2.2.2.2.2.2.2.2.1 r.2.2.2.2.2.2.2.2.2.2.2.2.2.2.1 r.2.2.2.2.2.2.2.2.2.2.2.2.2.2.2.1 r.2.2.2.2.2.2.2.2.2.2.2.2.2.2.2.2.1 r.2.2.2.2.2.2.2.2.2.2.2.2.2.2.2.2.2.1 r.2.2.2.2.2.2.2.2.2.2.2.2.2.2.2.2.2.2.1 r.2.2.2.2.2.2.2.2.2.2.2.2.2.2.2.2.2.2.2.1 r.2.2.2.2.2.2.2.2.2.2.2.2.2.2.2.2.2.2.2.2.1 r.2.2.2.2.2.2.2.2.2.2.2.2.2.2.2.2.2.2.2.2.2.1 r.2.2.2.2.2.2.2.2.2.2.2.2.2.2.2.2.2.2.2.2.2.2.2.1 r.2.2.2.2.2.2.2.2.2.2.2.2.2.2.2.2.2.2.2.2.2.2.2.2.1 r.2.2.2.2.2.2.2.2.2.2.2.2.2.2.2.2.2.2.2.2.2.2.2.2.2)
  | 0, x1, c_tokens, c_at, c_fault, c_faultAt, c_side, c_fresh, c_kept, c_raceTick, c_tKind, c_tPlace, c_tSize, c_tValue, c_many, c_nameSize, c_one, c_two, c_kinds, c_kindBits, c_names, c_netOf, c_isTold, c_soFar, c_state, c_stuck, c_dusty, hn, h1, h2, h3, h4 => by exfalso; omega
  | n + 1, x1, c_tokens, c_at, c_fault, c_faultAt, c_side, c_fresh, c_kept, c_raceTick, c_tKind, c_tPlace, c_tSize, c_tValue, c_many, c_nameSize, c_one, c_two, c_kinds, c_kindBits, c_names, c_netOf, c_isTold, c_soFar, c_state, c_stuck, c_dusty, hn, h1, h2, h3, h4 => by
    unfold f_X11_reads_94
    refine ok_if (fun q => ?_) (fun q => ?_)
    · rw [tI_le, show (345 : Int32).toInt = 345 from by decide] at q
      exact s_reads_116 c_size c_text φ hN FU _ _ _ _ _ _ _ _ _ _ _ _ _ _ _ _ _ _ _ _ _ _ _ _ _ _ hn (fun k hk => h4 k (by omega)) (by decide) (by decide) (by rw [FU_eq]; decide) (fun s hs => by rw [show (0 : Int32).toInt = 0 from by decide] at hs; omega)
    · rw [tI_le, show (345 : Int32).toInt = 345 from by decide] at q
      have b3 : (x1 + 1).toInt = x1.toInt + 1 := by ((try simp only [tI_lt, tI_le, tI_eq, tI_add, tI_sub, tI_mul, tI_nat, Int32.reduceToInt, Int.reduceToNat, fe_0, fe_1, fe_2, fe_3, fe_4, fe_5]) <;> (try simp (disch := omega) only [tI_bm]) <;> omega)
      refine ok_bad (by omega) (ok_vlet (ok_vlet ?_))
      refine s_reads_94 c_size c_text φ hN n _ _ _ _ _ _ _ _ _ _ _ _ _ _ _ _ _ _ _ _ _ _ _ _ _ _ hn (by omega) (by omega) (by omega) (fun k hk => ?_)
      rw [upd_at, tI_nat]
      by_cases z : k = x1.toInt.toNat
      · rw [if_pos z]
      · rw [if_neg z]; exact h4 k (by omega)
set_option maxHeartbeats 400000 in
theorem s_reads_43 (c_size : Int32) (c_text : Nat → Int32) (φ : Nat) (hφ : φ ≤ 1) (n0 : Nat → Int32) : ∀ (n : Nat) (x1 : Int32) (c_tokens : Int32) (c_at : Int32) (c_fault : Int32) (c_faultAt : Int32) (c_side : Int32) (c_fresh : Int32) (c_kept : Int32) (c_raceTick : Int32) (c_tKind : Nat → Int32) (c_tPlace : Nat → Int32) (c_tSize : Nat → Int32) (c_tValue : Nat → Int64) (c_many : Nat → Int32) (c_nameSize : Nat → Int32) (c_one : Nat → Int32) (c_two : Nat → Int32) (c_kinds : Nat → Int32) (c_kindBits : Nat → Int32) (c_names : Nat → Int32) (c_netOf : Nat → Int32) (c_isTold : Nat → Int32) (c_soFar : Nat → Int32) (c_state : Nat → Int32) (c_stuck : Nat → Int32) (c_dusty : Nat → Int32), c_fresh.toInt = φ → NI (954 * φ) c_netOf → 0 ≤ x1.toInt → x1.toInt ≤ 954 → 954 < x1.toInt + n → (∀ i : Nat, ¬ (954 * φ ≤ i ∧ i < 954 * φ + 954) → c_netOf i = n0 i) → Ok (f_X11_reads_43 c_size c_text n x1 c_tokens c_at c_fault c_faultAt c_side c_fresh c_kept c_raceTick c_tKind c_tPlace c_tSize c_tValue c_many c_nameSize c_one c_two c_kinds c_kindBits c_names c_netOf c_isTold c_soFar c_state c_stuck c_dusty) (fun r => CLP φ n0 c_isTold c_fresh c_many c_nameSize c_one c_two c_kinds c_kindBits c_names r.1 r.2.2.2.2.2.1 r.2.2.2.2.2.2.2.1 r.2.2.2.2.2.2.2.2.1 r.2.2.2.2.2.2.2.2.2.2.2.2.2.1 r.2.2.2.2.2.2.2.2.2.2.2.2.2.2.1 r.2.2.2.2.2.2.2.2.2.2.2.2.2.2.2.1 r.2.2.2.2.2.2.2.2.2.2.2.2.2.2.2.2.1 r.2.2.2.2.2.2.2.2.2.2.2.2.2.2.2.2.2.1 r.2.2.2.2.2.2.2.2.2.2.2.2.2.2.2.2.2.2.1 r.2.2.2.2.2.2.2.2.2.2.2.2.2.2.2.2.2.2.2.1 r.2.2.2.2.2.2.2.2.2.2.2.2.2.2.2.2.2.2.2.2.1 r.2.2.2.2.2.2.2.2.2.2.2.2.2.2.2.2.2.2.2.2.2.1 r.2.2.2.2.2.2.2.2.2.2.2.2.2.2.2.2.2.2.2.2.2.2.2.1 r.2.2.2.2.2.2.2.2.2.2.2.2.2.2.2.2.2.2.2.2.2.2.2.2.1 r.2.2.2.2.2.2.2.2.2.2.2.2.2.2.2.2.2.2.2.2.2.2.2.2.2)
  | 0, x1, c_tokens, c_at, c_fault, c_faultAt, c_side, c_fresh, c_kept, c_raceTick, c_tKind, c_tPlace, c_tSize, c_tValue, c_many, c_nameSize, c_one, c_two, c_kinds, c_kindBits, c_names, c_netOf, c_isTold, c_soFar, c_state, c_stuck, c_dusty, hfr, hn, h1, h2, h3, h4 => by exfalso; omega
  | n + 1, x1, c_tokens, c_at, c_fault, c_faultAt, c_side, c_fresh, c_kept, c_raceTick, c_tKind, c_tPlace, c_tSize, c_tValue, c_many, c_nameSize, c_one, c_two, c_kinds, c_kindBits, c_names, c_netOf, c_isTold, c_soFar, c_state, c_stuck, c_dusty, hfr, hn, h1, h2, h3, h4 => by
    unfold f_X11_reads_43
    refine ok_if (fun q => ?_) (fun q => ?_)
    · refine ok_mono (s_reads_94 c_size c_text φ trivial FU _ _ _ _ _ _ _ _ _ _ _ _ _ _ _ _ _ _ _ _ _ _ _ _ _ _ hn (by decide) (by decide) (by rw [FU_eq]; decide) (fun s hs => by rw [show (0 : Int32).toInt = 0 from by decide] at hs; omega)) (fun r hr => ?_)
      obtain ⟨a1, a2, a3, a4, a5, a6, a7, a8, a9, a10⟩ := hr
      exact ⟨a1, a2, a3, a4, a5, a6, a7, a8, fun i hi => (a9 i hi).trans (h4 i hi), a10⟩
    · rw [tI_le, show (954 : Int32).toInt = 954 from by decide] at q
      have b0 : (954 * c_fresh).toInt = ((954 * φ : Nat) : Int) := by ((try simp only [tI_lt, tI_le, tI_eq, tI_add, tI_sub, tI_mul, tI_nat, Int32.reduceToInt, Int.reduceToNat, fe_0, fe_1, fe_2, fe_3, fe_4, fe_5]) <;> (try simp (disch := omega) only [tI_bm]) <;> omega)
      have b1 : (954 * c_fresh + x1).toInt = 954 * φ + x1.toInt := by ((try simp only [tI_lt, tI_le, tI_eq, tI_add, tI_sub, tI_mul, tI_nat, Int32.reduceToInt, Int.reduceToNat, fe_0, fe_1, fe_2, fe_3, fe_4, fe_5]) <;> (try simp (disch := omega) only [tI_bm]) <;> omega)
      have b2 : (954 * c_fresh + x1).toNatClampNeg = 954 * φ + x1.toInt.toNat := by rw [tI_nat, b1]; omega
      have b3 : (x1 + 1).toInt = x1.toInt + 1 := by ((try simp only [tI_lt, tI_le, tI_eq, tI_add, tI_sub, tI_mul, tI_nat, Int32.reduceToInt, Int.reduceToNat, fe_0, fe_1, fe_2, fe_3, fe_4, fe_5]) <;> (try simp (disch := omega) only [tI_bm]) <;> omega)
      refine ok_bind (s_rootOf _ _ _ (954 * φ) (by omega) hn b0 h1 (by omega)) (fun r1 q1 => ok_bad (by omega) (ok_vlet (ok_vlet ?_)))
      rw [b2]
      refine s_reads_43 c_size c_text φ hφ n0 n _ _ _ _ _ _ _ _ _ _ _ _ _ _ _ _ _ _ _ _ _ _ _ _ _ _ hfr (fun e he => ?_) (by omega) (by omega) (by omega) (fun i hi => ?_)
      · have := hn e he
        rw [upd_at]
        split <;> omega
      · rw [upd_at, if_neg (by omega)]
        exact h4 i hi
