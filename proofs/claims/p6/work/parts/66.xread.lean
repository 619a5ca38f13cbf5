/-! the class's reader, piece by piece -/
set_option maxHeartbeats 400000 in
theorem wc_eq (v : Nat) : (wcode v = 15 ↔ v = 2003399269) ∧ (wcode v = 18 ↔ v = 1886156147) ∧ (wcode v = 19 ↔ v = 469920281971) ∧ (wcode v = 10 ↔ v = 491327873401) ∧ (wcode v = 16 ↔ v = 422826041707) ∧ (wcode v = 17 ↔ v = 1835101029) ∧ (wcode v = 11 ↔ v = 7038329) ∧ (wcode v = 12 ↔ v = 1818324336) ∧ (wcode v = 13 ↔ v = 427021001579) ∧ (wcode v = 14 ↔ v = 431265637477) ∧ 1 ≤ wcode v ∧ wcode v ≤ 19 ∧ wcode v ≠ 2 ∧ wcode v ≠ 3 ∧ wcode v ≠ 4 := by
  unfold wcode
  repeat' split
  all_goals omega
set_option maxHeartbeats 400000 in
theorem isWd_t (l : List TkT) (v : Nat) : isWd l v = true ↔ (hd l).1 = 1 ∧ (hd l).2.1 = v := by unfold isWd; simp
set_option maxHeartbeats 400000 in
theorem isSn_t (l : List TkT) (v : Nat) : isSn l v = true ↔ (hd l).1 = 3 ∧ (hd l).2.1 = v := by unfold isSn; simp
set_option maxHeartbeats 400000 in
theorem isNm_t (l : List TkT) : isNm l = true ↔ (hd l).1 = 1 ∧ wcode (hd l).2.1 = 1 := by unfold isNm; simp
set_option maxHeartbeats 400000 in
theorem isNr_t (l : List TkT) (a b : Nat) : isNr l a b = true ↔ (hd l).1 = 2 ∧ a ≤ (hd l).2.1 ∧ (hd l).2.1 ≤ b := by unfold isNr; simp
set_option maxHeartbeats 400000 in
theorem k_wd {k : Int32} {v : Int64} {l : List TkT} (h : xm k v (hd l)) (c : Int32) (w : Nat) (hc : 10 ≤ c.toInt ∧ c.toInt ≤ 19) (hw : ∀ u, wcode u = c.toInt.toNat ↔ u = w) : k = c ↔ isWd l w = true := by
  rw [isWd_t, tI_eq]
  rcases h with ⟨a, b, -⟩ | ⟨a, b, -⟩ | ⟨a, b, d⟩ | ⟨a, b⟩ | ⟨a, b⟩
  · rw [b]
    have := hw (hd l).2.1
    constructor
    · intro q; exact ⟨a, this.mp (by omega)⟩
    · intro q
      have := this.mpr q.2
      omega
  · rw [b, show (2 : Int32).toInt = 2 from by decide]; omega
  · rw [isSg_t] at d; omega
  · rw [b, show (4 : Int32).toInt = 4 from by decide]; omega
  · rw [b, show (3 : Int32).toInt = 3 from by decide]; omega
set_option maxHeartbeats 400000 in
theorem k_sn {k : Int32} {v : Int64} {l : List TkT} (h : xm k v (hd l)) (c : Int32) (hc : 20 ≤ c.toInt) : k = c ↔ isSn l c.toInt.toNat = true := by
  rw [isSn_t, tI_eq]
  have w := wc_eq (hd l).2.1
  rcases h with ⟨a, b, -⟩ | ⟨a, b, -⟩ | ⟨a, b, d⟩ | ⟨a, b⟩ | ⟨a, b⟩
  · omega
  · rw [b, show (2 : Int32).toInt = 2 from by decide]; omega
  · omega
  · rw [b, show (4 : Int32).toInt = 4 from by decide]; omega
  · rw [b, show (3 : Int32).toInt = 3 from by decide]; omega
set_option maxHeartbeats 400000 in
theorem k_nm {k : Int32} {v : Int64} {l : List TkT} (h : xm k v (hd l)) : k = 1 ↔ isNm l = true := by
  rw [isNm_t, tI_eq, show (1 : Int32).toInt = 1 from by decide]
  rcases h with ⟨a, b, -⟩ | ⟨a, b, -⟩ | ⟨a, b, d⟩ | ⟨a, b⟩ | ⟨a, b⟩
  · omega
  · rw [b, show (2 : Int32).toInt = 2 from by decide]; omega
  · rw [isSg_t] at d; omega
  · rw [b, show (4 : Int32).toInt = 4 from by decide]; omega
  · rw [b, show (3 : Int32).toInt = 3 from by decide]; omega
set_option maxHeartbeats 400000 in
theorem k_nr {k : Int32} {v : Int64} {l : List TkT} (h : xm k v (hd l)) : k = 2 ↔ (hd l).1 = 2 := by
  rw [tI_eq, show (2 : Int32).toInt = 2 from by decide]
  have w := wc_eq (hd l).2.1
  rcases h with ⟨a, b, -⟩ | ⟨a, b, -⟩ | ⟨a, b, d⟩ | ⟨a, b⟩ | ⟨a, b⟩
  · omega
  · rw [b, show (2 : Int32).toInt = 2 from by decide]; omega
  · rw [isSg_t] at d; omega
  · rw [b, show (4 : Int32).toInt = 4 from by decide]; omega
  · rw [b, show (3 : Int32).toInt = 3 from by decide]; omega
set_option maxHeartbeats 400000 in
theorem e_kind (c_at : Int32) (c_tokens_size : Int32) (c_tokens_kinds : Nat → Int32) (c_tokens_values : Nat → Int64) (l : List TkT) (h : KX c_tokens_size c_tokens_kinds c_tokens_values c_at l) : (f_X5_kind c_at c_tokens_size c_tokens_kinds) = some (c_tokens_kinds c_at.toInt.toNat) := by
  obtain ⟨b1, b2, b3, b4, b5, b6⟩ := KX_hd h
  unfold f_X5_kind
  rw [if_neg (by rw [tI_le]; omega), bad_f b2 b3]
  rfl
set_option maxHeartbeats 400000 in
theorem e_pass (x1 : Int32) (c_at : Int32) (c_tokens_size : Int32) (c_tokens_kinds : Nat → Int32) (c_tokens_values : Nat → Int64) (l : List TkT) (h : KX c_tokens_size c_tokens_kinds c_tokens_values c_at l) : (f_X5_pass x1 c_at c_tokens_size c_tokens_kinds) = some (if c_tokens_kinds c_at.toInt.toNat = x1 then (1, c_at + 1) else (0, c_at)) := by
  obtain ⟨b1, b2, b3, b4, b5, b6⟩ := KX_hd h
  unfold f_X5_pass
  rw [if_neg (by rw [tI_le]; omega), bad_f b2 b3, if_neg (by decide), tI_nat]
  split <;> rfl
set_option maxHeartbeats 400000 in
theorem e_addPin (x1 : Int32) (x2 : Int32) (c_pins : Int32) (c_wires : Int32) (c_pinAt : Nat → Int32) (c_pinEnds : Nat → Int32) (c_pinWires : Nat → Int32) (h : 0 ≤ c_pins.toInt ∧ c_pins.toInt < 1334) : (f_X5_addPin x1 x2 c_pins c_wires c_pinAt c_pinEnds c_pinWires) = some (1, c_pins + 1, upd c_pinAt c_pins.toInt.toNat x1, upd c_pinEnds c_pins.toInt.toNat x2, upd c_pinWires c_pins.toInt.toNat c_wires) := by
  unfold f_X5_addPin
  rw [if_pos (by rw [tI_lt, show (1334 : Int32).toInt = 1334 from by decide]; omega), bad_f h.1 h.2]
  rfl
set_option maxHeartbeats 400000 in
theorem e_passName (c_at : Int32) (c_nameAt : Int32) (c_tokens_size : Int32) (c_tokens_kinds : Nat → Int32) (c_tokens_values : Nat → Int64) (l : List TkT) (h : KX c_tokens_size c_tokens_kinds c_tokens_values c_at l) : (f_X5_passName c_at c_nameAt c_tokens_size c_tokens_kinds) = some (if isNm l = true then (1, c_at + 1, c_at) else (0, c_at, c_at)) := by
  have hh := KX_hd h
  unfold f_X5_passName
  rw [e_pass _ _ _ _ c_tokens_values l h]
  by_cases a : isNm l = true
  · rw [if_pos a, if_pos ((k_nm hh.2.2.2.1).mpr a)]
    rfl
  · rw [if_neg a, if_neg (fun q => a ((k_nm hh.2.2.2.1).mp q))]
    rfl
set_option maxHeartbeats 400000 in
theorem L_toI {a : Nat} (h : a < 10000) : (Int64.ofNat a).toInt32 = Int32.ofNat a := by
  apply Int32.toInt_inj.mp
  rw [Int64.toInt_toInt32, L_ofNat (by omega), Int32.toInt_ofNat_of_lt (by omega), Int.bmod_def]
  omega
set_option maxHeartbeats 400000 in
theorem e_passNumber (x1 : Int32) (x2 : Int32) (c_at : Int32) (c_number : Int32) (c_tokens_size : Int32) (c_tokens_kinds : Nat → Int32) (c_tokens_values : Nat → Int64) (l : List TkT) (h : KX c_tokens_size c_tokens_kinds c_tokens_values c_at l) (lo hi : Nat) (h1 : x1.toInt = lo) (h2 : x2.toInt = hi) : (f_X5_passNumber x1 x2 c_at c_number c_tokens_size c_tokens_kinds c_tokens_values) = some (if isNr l lo hi = true then (1, c_at + 1, Int32.ofNat (hd l).2.1) else (0, c_at, c_number)) := by
  obtain ⟨b1, b2, b3, b4, b5, b6⟩ := KX_hd h
  unfold f_X5_passNumber
  rw [if_neg (by rw [tI_le]; omega)]
  simp only [bad_f b2 b3, Bool.false_eq_true, if_false]
  rw [tI_nat]
  have kn := k_nr b4
  by_cases a : (hd l).1 = 2
  · rw [if_pos (kn.mpr a)]
    have vv : c_tokens_values c_at.toInt.toNat = Int64.ofNat (hd l).2.1 ∧ (hd l).2.1 < 10000 := by
      refine ⟨?_, ?_⟩
      · rcases b4 with q | q | q | q | q
        · omega
        · exact q.2.2
        · omega
        · omega
        · omega
      · rcases b6 with q | q | q
        · rcases q.1 with z | z | z <;> omega
        · omega
        · omega
    rw [vv.1]
    have e := L_ofNat (show (hd l).2.1 < 2 ^ 63 by omega)
    by_cases c : (hd l).2.1 < lo
    · rw [if_pos (by rw [lgc_lt, e, Int32.toInt_toInt64, h1]; omega), if_neg (by rw [isNr_t]; omega)]
    · rw [if_neg (by rw [lgc_lt, e, Int32.toInt_toInt64, h1]; omega)]
      by_cases d : (hd l).2.1 ≤ hi
      · rw [if_pos (by rw [lgc_le, e, Int32.toInt_toInt64, h2]; omega), if_pos (by rw [isNr_t]; omega)]
        show some ((1 : Int32), c_at + 1, (Int64.ofNat (hd l).2.1).toInt32) = _
        rw [L_toI vv.2]
      · rw [if_neg (by rw [lgc_le, e, Int32.toInt_toInt64, h2]; omega), if_neg (by rw [isNr_t]; omega)]
  · rw [if_neg (fun q => a (kn.mp q)), if_neg (by rw [isNr_t]; omega)]
/-! how a step ends: failed with at in range, or a pin more -/
def PinX (size : Int32) (kd : Nat → Int32) (vl : Nat → Int64) (x1 pins wires : Int32) (pinAt pinEnds pinWires : Nat → Int32) (w : Nat) (o : Option (PinT × List TkT)) (r1 at2 pins2 : Int32) (pinAt2 pinEnds2 pinWires2 : Nat → Int32) : Prop := match o with
  | none => r1 = 0 ∧ 0 ≤ at2.toInt ∧ at2.toInt < 4001
  | some (p, r) => r1 = 1 ∧ KX size kd vl at2 r ∧ wtg r + 1 ≤ w ∧ pins2 = pins + 1 ∧ pinAt2 = upd pinAt pins.toInt.toNat x1 ∧ pinEnds2 = upd pinEnds pins.toInt.toNat (Int32.ofNat p.2) ∧ pinWires2 = upd pinWires pins.toInt.toNat wires ∧ p.2 ≤ 19
set_option maxHeartbeats 400000 in
theorem KX_rng {size : Int32} {kd : Nat → Int32} {vl : Nat → Int64} {a : Int32} {l : List TkT} (h : KX size kd vl a l) : 0 ≤ a.toInt ∧ a.toInt < 4001 := ⟨(KX_hd h).2.1, (KX_hd h).2.2.1⟩
set_option maxHeartbeats 400000 in
theorem hd1 {l : List TkT} {v : Nat} (h : isWd l v = true) : (hd l).1 = 1 := ((isWd_t _ _).mp h).1
set_option maxHeartbeats 400000 in
theorem hd3 {l : List TkT} {v : Nat} (h : isSn l v = true) : (hd l).1 = 3 := ((isSn_t _ _).mp h).1
set_option maxHeartbeats 400000 in
theorem tv1 {t : TkT} (h : TV t) : 1 ≤ t.2.2 := by rcases h with q | q | q <;> omega
set_option maxHeartbeats 400000 in
theorem n10 {α : Type} (x : α) : ¬ ((1 : Int32), x).1 = 0 := (show ¬ (1 : Int32) = 0 by decide)
set_option maxHeartbeats 400000 in
theorem s_readEnd (x1 : Int32) (c_at : Int32) (c_number : Int32) (c_pins : Int32) (c_wires : Int32) (c_tokens_size : Int32) (c_tokens_kinds : Nat → Int32) (c_tokens_values : Nat → Int64) (c_pinAt : Nat → Int32) (c_pinEnds : Nat → Int32) (c_pinWires : Nat → Int32) (l : List TkT) (h : KX c_tokens_size c_tokens_kinds c_tokens_values c_at l) (v : Nat) (hp : 0 ≤ c_pins.toInt ∧ c_pins.toInt < 1334) : Ok (f_X5_readEnd x1 c_at c_number c_pins c_wires c_tokens_size c_tokens_kinds c_tokens_values c_pinAt c_pinEnds c_pinWires) (fun r => PinX c_tokens_size c_tokens_kinds c_tokens_values x1 c_pins c_wires c_pinAt c_pinEnds c_pinWires (wtg l) (pEnd v l) r.1 r.2.1 r.2.2.2.1 r.2.2.2.2.1 r.2.2.2.2.2.1 r.2.2.2.2.2.2) := by
  have hh := KX_hd h
  obtain ⟨b1, b2, b3, b4, b5, b6⟩ := hh
  unfold f_X5_readEnd
  refine ok_eq (e_kind _ _ _ c_tokens_values l h) ?_
  have vw : (hd l).1 = 1 → c_tokens_values c_at.toInt.toNat = Int64.ofNat (hd l).2.1 ∧ (hd l).2.1 < 2 ^ 63 := by
    intro a
    refine ⟨?_, ?_⟩
    · rcases b4 with q | q | q | q | q
      · exact q.2.2
      · omega
      · omega
      · omega
      · omega
    · rcases b6 with q | q | q
      · rcases q.1 with z | z | z <;> omega
      · omega
      · omega
  have leq : ∀ w : Nat, w < 2 ^ 63 → (hd l).1 = 1 → (lg_cmp (c_tokens_values c_at.toNatClampNeg) (Int64.ofNat w) = 0 ↔ isWd l w = true) := by
    intro w hw a
    rw [lgc, tI_nat, (vw a).1, L_eq (vw a).2 hw, isWd_t]
    exact ⟨fun q => ⟨a, q⟩, fun q => q.2⟩
  have fin64 : ∀ w z : Nat, z ≤ 19 → isWd l w = true → Ok (f_X5_readEnd_64 c_wires c_tokens_size c_tokens_kinds c_tokens_values x1 (Int32.ofNat z) (c_at + 1) c_number c_pins c_pinAt c_pinEnds c_pinWires) (fun r => PinX c_tokens_size c_tokens_kinds c_tokens_values x1 c_pins c_wires c_pinAt c_pinEnds c_pinWires (wtg l) (some ((v, z), l.tail)) r.1 r.2.1 r.2.2.2.1 r.2.2.2.2.1 r.2.2.2.2.2.1 r.2.2.2.2.2.2) := by
    intro w z hz hw
    obtain ⟨n1, n2, n3, n4⟩ := KX_next h (.inl (hd1 hw))
    have := tv1 n3
    unfold f_X5_readEnd_64
    refine ok_eq (e_addPin _ _ _ _ _ _ _ hp) ?_
    dsimp only
    rw [if_pos (by decide)]
    exact ok_some ⟨rfl, n1, by omega, rfl, rfl, rfl, rfl, hz⟩
  by_cases nm : isNm l = true
  · rw [if_pos ((k_nm b4).mpr nm)]
    refine ok_bad ⟨b2, b3⟩ (ok_vlet ?_)
    have a := ((isNm_t l).mp nm).1
    unfold f_X5_readEnd_39
    by_cases c1 : isWd l 112 = true
    · have q : lg_cmp (c_tokens_values c_at.toNatClampNeg) (112 : Int64) = 0 := (leq 112 (by decide) a).mpr c1
      rw [if_pos q]
      refine ok_vlet ?_
      rw [if_pos q]
      unfold pEnd
      rw [if_pos c1]
      exact fin64 112 0 (by omega) c1
    · have q : ¬ lg_cmp (c_tokens_values c_at.toNatClampNeg) 112 = 0 := fun z => c1 ((leq 112 (by decide) a).mp z)
      rw [if_neg q]
      by_cases c2 : isWd l 110 = true
      · have q2 : lg_cmp (c_tokens_values c_at.toNatClampNeg) (110 : Int64) = 0 := (leq 110 (by decide) a).mpr c2
        rw [if_pos q2]
        refine ok_vlet ?_
        rw [if_neg q]
        unfold pEnd
        rw [if_neg c1, if_pos c2]
        exact fin64 110 1 (by omega) c2
      · have q2 : ¬ lg_cmp (c_tokens_values c_at.toNatClampNeg) 110 = 0 := fun z => c2 ((leq 110 (by decide) a).mp z)
        rw [if_neg q2]
        unfold pEnd
        rw [if_neg c1, if_neg c2, if_neg (by rw [isNr_t]; omega)]
        exact ok_some ⟨rfl, b2, b3⟩
  · rw [if_neg (fun q => nm ((k_nm b4).mp q))]
    have c1 : ¬ isWd l 112 = true := fun q => nm ((isNm_t l).mpr ⟨hd1 q, by rw [((isWd_t _ _).mp q).2]; decide⟩)
    have c2 : ¬ isWd l 110 = true := fun q => nm ((isNm_t l).mpr ⟨hd1 q, by rw [((isWd_t _ _).mp q).2]; decide⟩)
    refine ok_eq (e_passNumber _ _ _ _ _ _ _ l h 1 6 (by decide) (by decide)) ?_
    unfold pEnd
    rw [if_neg c1, if_neg c2]
    by_cases nr : isNr l 1 6 = true
    · rw [if_pos nr, if_pos nr]
      have nr' := (isNr_t _ _ _).mp nr
      obtain ⟨n1, n2, n3, n4⟩ := KX_next h (.inr (.inl nr'.1))
      have tv := tv1 n3
      have b4' := KX_hd n1
      obtain ⟨d1, d2, d3, d4, d5, d6⟩ := b4'
      rw [if_neg (n10 _)]
      have em : ∀ m : Nat, m = (hd l).2.1 → (3 * Int32.ofNat m - 1 : Int32) = Int32.ofNat (3 * m - 1) := by
        intro m hm
        apply Int32.toInt_inj.mp
        have e1 : (Int32.ofNat m).toInt = m := Int32.toInt_ofNat_of_lt (by omega)
        rw [Int32.toInt_ofNat_of_lt (show 3 * m - 1 < 2 ^ 31 by omega)]
        have e3 : (3 * Int32.ofNat m).toInt = 3 * m := by rw [tI_mul, e1, show (3 : Int32).toInt = 3 from by decide]; omega
        rw [tI_sub, e3, show (1 : Int32).toInt = 1 from by decide]
        omega
      have ep : ∀ (m d : Nat) (dd : Int32), m = (hd l).2.1 → dd.toInt = d → d ≤ 2 → Int32.ofNat (3 * m - 1) + dd = Int32.ofNat (3 * m - 1 + d) := by
        intro m d dd hm hd1 hd2
        apply Int32.toInt_inj.mp
        rw [tI_add, Int32.toInt_ofNat_of_lt (show 3 * m - 1 < 2 ^ 31 by omega), Int32.toInt_ofNat_of_lt (show 3 * m - 1 + d < 2 ^ 31 by omega), hd1]
        omega
      refine ok_vlet ?_
      dsimp only
      rw [em _ rfl]
      refine ok_eq (e_pass _ _ _ _ c_tokens_values l.tail n1) ?_
      by_cases s1 : isSn l.tail 43 = true
      · rw [if_pos ((k_sn d4 43 (by decide)).mpr s1), if_pos s1, if_neg (n10 _)]
        obtain ⟨m1, m2, m3, m4⟩ := KX_next n1 (.inr (.inr (hd3 s1)))
        refine ok_eq (e_addPin _ _ _ _ _ _ _ hp) ?_
        dsimp only
        rw [if_pos (by decide)]
        refine ok_some ⟨rfl, m1, by omega, rfl, rfl, ?_, rfl, by show 3 * (hd l).2.1 ≤ 19; omega⟩
        show upd _ _ (Int32.ofNat (3 * (hd l).2.1 - 1) + 1) = upd _ _ (Int32.ofNat (3 * (hd l).2.1))
        rw [ep _ 1 1 rfl (by decide) (by omega), show 3 * (hd l).2.1 - 1 + 1 = 3 * (hd l).2.1 by omega]
      · rw [if_neg (fun q => s1 ((k_sn d4 43 (by decide)).mp q)), if_neg s1, if_pos (show ((0 : Int32), c_at + 1).1 = 0 from rfl)]
        refine ok_eq (e_pass _ _ _ _ c_tokens_values l.tail n1) ?_
        unfold f_X5_readEnd_125
        by_cases s2 : isSn l.tail 45 = true
        · rw [if_pos ((k_sn d4 45 (by decide)).mpr s2), if_pos s2, if_neg (n10 _)]
          obtain ⟨m1, m2, m3, m4⟩ := KX_next n1 (.inr (.inr (hd3 s2)))
          refine ok_eq (e_addPin _ _ _ _ _ _ _ hp) ?_
          dsimp only
          rw [if_pos (by decide)]
          refine ok_some ⟨rfl, m1, by omega, rfl, rfl, ?_, rfl, by show 3 * (hd l).2.1 + 1 ≤ 19; omega⟩
          show upd _ _ (Int32.ofNat (3 * (hd l).2.1 - 1) + 2) = upd _ _ (Int32.ofNat (3 * (hd l).2.1 + 1))
          rw [ep _ 2 2 rfl (by decide) (by omega), show 3 * (hd l).2.1 - 1 + 2 = 3 * (hd l).2.1 + 1 by omega]
        · rw [if_neg (fun q => s2 ((k_sn d4 45 (by decide)).mp q)), if_neg s2, if_pos (show ((0 : Int32), c_at + 1).1 = 0 from rfl)]
          refine ok_eq (e_addPin _ _ _ _ _ _ _ hp) ?_
          dsimp only
          rw [if_pos (by decide)]
          exact ok_some ⟨rfl, n1, by omega, rfl, rfl, rfl, rfl, by show 3 * (hd l).2.1 - 1 ≤ 19; omega⟩
    · rw [if_neg nr, if_neg nr, if_pos (show ((0 : Int32), c_at, c_number).1 = 0 from rfl)]
      exact ok_some ⟨rfl, b2, b3⟩
set_option maxHeartbeats 400000 in
theorem pw3 {v n : Nat} (h : 2 * v < 256 ^ n) (hv : 16777216 ≤ v) : 4 ≤ n := by
  rcases Nat.lt_or_ge n 4 with q | q
  · have := Nat.pow_le_pow_right (n := 256) (by decide) (show n ≤ 3 by omega)
    have e : (256 : Nat) ^ 3 = 16777216 := by decide
    omega
  · exact q
/-! what a step says of the PIN that it read -/
def PinK (kd : Nat → Int32) (vl : Nat → Int64) (i : Nat) (v : Nat) : Prop := (v = 0 → ¬ kd i = 1) ∧ (v ≠ 0 → kd i = 1 ∧ vl i = Int64.ofNat v ∧ v < 9223372036854775808)
def PinX3 (size : Int32) (kd : Nat → Int32) (vl : Nat → Int64) (x1 pins wires : Int32) (pinAt pinEnds pinWires : Nat → Int32) (w : Nat) (o : Option (PinT × List TkT)) (r1 at2 pins2 : Int32) (pinAt2 pinEnds2 pinWires2 : Nat → Int32) : Prop := match o with
  | none => r1 = 0 ∧ 0 ≤ at2.toInt ∧ at2.toInt < 4001
  | some (p, r) => r1 = 1 ∧ KX size kd vl at2 r ∧ wtg r + 3 ≤ w ∧ pins2 = pins + 1 ∧ pinAt2 = upd pinAt pins.toInt.toNat x1 ∧ pinEnds2 = upd pinEnds pins.toInt.toNat (Int32.ofNat p.2) ∧ pinWires2 = upd pinWires pins.toInt.toNat wires ∧ p.2 ≤ 19 ∧ PinK kd vl x1.toInt.toNat p.1
set_option maxHeartbeats 400000 in
theorem s_readPin (c_at : Int32) (c_nameAt : Int32) (c_number : Int32) (c_pins : Int32) (c_wires : Int32) (c_tokens_size : Int32) (c_tokens_kinds : Nat → Int32) (c_tokens_values : Nat → Int64) (c_pinAt : Nat → Int32) (c_pinEnds : Nat → Int32) (c_pinWires : Nat → Int32) (l : List TkT) (h : KX c_tokens_size c_tokens_kinds c_tokens_values c_at l) (hp : 0 ≤ c_pins.toInt ∧ c_pins.toInt < 1334) : Ok (f_X5_readPin c_at c_nameAt c_number c_pins c_wires c_tokens_size c_tokens_kinds c_tokens_values c_pinAt c_pinEnds c_pinWires) (fun r => PinX3 c_tokens_size c_tokens_kinds c_tokens_values c_at c_pins c_wires c_pinAt c_pinEnds c_pinWires (wtg l) (pPin l) r.1 r.2.1 r.2.2.2.2.1 r.2.2.2.2.2.1 r.2.2.2.2.2.2.1 r.2.2.2.2.2.2.2) := by
  obtain ⟨b1, b2, b3, b4, b5, b6⟩ := KX_hd h
  have W := fun u => wc_eq u
  have tvw : ∀ w, isWd l w = true → 2 * w < 256 ^ (hd l).2.2 := by
    intro w hw
    have := (isWd_t _ _).mp hw
    rcases b6 with q | q | q
    · rcases q.1 with z | z | z
      · rw [← this.2]; exact z.2.2.2.2.2
      · omega
      · omega
    · omega
    · omega
  unfold f_X5_readPin pPin
  refine ok_eq (e_pass _ _ _ _ c_tokens_values l h) ?_
  by_cases c1 : isWd l 1886156147 = true
  · have kk := (k_wd b4 18 1886156147 (by decide) (fun u => (W u).2.1)).mpr c1
    obtain ⟨n1, n2, n3, n4⟩ := KX_next h (.inl (hd1 c1))
    have n5 := pw3 (tvw _ c1) (by decide)
    rw [if_pos kk, if_pos c1, if_neg (n10 _)]
    refine ok_eq (e_addPin _ _ _ _ _ _ _ hp) ?_
    dsimp only
    rw [if_pos (by decide)]
    exact ok_some ⟨rfl, n1, by omega, rfl, rfl, rfl, rfl, by show (0 : Nat) ≤ 19; omega, fun _ => by rw [kk]; decide, fun q => absurd rfl q⟩
  rw [if_neg (fun q => c1 ((k_wd b4 18 1886156147 (by decide) (fun u => (W u).2.1)).mp q)), if_neg c1, if_pos (show ((0 : Int32), c_at).1 = 0 from rfl)]
  refine ok_eq (e_pass _ _ _ _ c_tokens_values l h) ?_
  by_cases c2 : isWd l 469920281971 = true
  · have kk := (k_wd b4 19 469920281971 (by decide) (fun u => (W u).2.2.1)).mpr c2
    obtain ⟨n1, n2, n3, n4⟩ := KX_next h (.inl (hd1 c2))
    have n5 := pw3 (tvw _ c2) (by decide)
    rw [if_pos kk, if_pos c2, if_neg (n10 _)]
    refine ok_eq (e_addPin _ _ _ _ _ _ _ hp) ?_
    dsimp only
    rw [if_pos (by decide)]
    exact ok_some ⟨rfl, n1, by omega, rfl, rfl, rfl, rfl, by show (1 : Nat) ≤ 19; omega, fun _ => by rw [kk]; decide, fun q => absurd rfl q⟩
  rw [if_neg (fun q => c2 ((k_wd b4 19 469920281971 (by decide) (fun u => (W u).2.2.1)).mp q)), if_neg c2, if_pos (show ((0 : Int32), c_at).1 = 0 from rfl)]
  refine ok_eq (e_passName _ _ _ _ c_tokens_values l h) ?_
  by_cases c3 : isNm l = true
  · have nm := (isNm_t l).mp c3
    obtain ⟨n1, n2, n3, n4⟩ := KX_next h (.inl nm.1)
    have t1 := tv1 n3
    have pk : PinK c_tokens_kinds c_tokens_values c_at.toInt.toNat (hd l).2.1 := by
      have vv : 1 ≤ (hd l).2.1 ∧ (hd l).2.1 < 9223372036854775808 := by
        rcases n3 with z | z | z
        · exact ⟨z.2.2.1, z.2.1⟩
        · omega
        · omega
      refine ⟨fun q => by omega, fun _ => ⟨(k_nm b4).mpr c3, ?_, vv.2⟩⟩
      rcases b4 with q | q | q | q | q
      · exact q.2.2
      · omega
      · omega
      · omega
      · omega
    rw [if_pos c3, if_pos c3, if_neg (n10 _)]
    refine ok_eq (e_pass _ _ _ _ c_tokens_values l.tail n1) ?_
    have d := KX_hd n1
    by_cases c4 : isSn l.tail 46 = true
    · obtain ⟨m1, m2, m3, m4⟩ := KX_next n1 (.inr (.inr (hd3 c4)))
      have t2 := tv1 m3
      rw [if_pos ((k_sn d.2.2.2.1 46 (by decide)).mpr c4), if_pos c4, if_neg (n10 _)]
      refine ok_bind (s_readEnd _ _ _ _ _ _ _ _ _ _ _ l.tail.tail m1 (hd l).2.1 hp) (fun r hr => ?_)
      unfold PinX at hr
      cases hq : pEnd (hd l).2.1 l.tail.tail with
      | none =>
        rw [hq] at hr
        rw [if_pos hr.1]
        exact ok_some ⟨rfl, hr.2.1, hr.2.2⟩
      | some q =>
        obtain ⟨p, rr⟩ := q
        rw [hq] at hr
        obtain ⟨z1, z2, z3, z4, z5, z6, z7, z8⟩ := hr
        rw [if_neg (by rw [z1]; decide)]
        refine ok_some ⟨rfl, z2, by omega, z4, z5, z6, z7, z8, ?_⟩
        have : p.1 = (hd l).2.1 := by
          unfold pEnd at hq
          split at hq
          · cases hq; rfl
          · split at hq
            · cases hq; rfl
            · split at hq
              · split at hq
                · cases hq; rfl
                · split at hq
                  · cases hq; rfl
                  · cases hq; rfl
              · cases hq
        rw [this]
        exact pk
    · rw [if_neg (fun q => c4 ((k_sn d.2.2.2.1 46 (by decide)).mp q)), if_neg c4, if_pos (show ((0 : Int32), c_at + 1).1 = 0 from rfl)]
      have rg := KX_rng n1
      exact ok_some ⟨rfl, rg.1, rg.2⟩
  · rw [if_neg c3, if_neg c3, if_pos (show ((0 : Int32), c_at, c_at).1 = 0 from rfl)]
    exact ok_some ⟨rfl, b2, b3⟩
