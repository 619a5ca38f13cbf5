/-! the reference's parts -/
def fstS (s : Nat) : Nat := if s = 0 then 0 else if s = 1 then 40 else if s = 2 then 64 else if s = 3 then 88 else 92
def NMp (nameSize names : Nat → Int32) (p v : Nat) : Prop := ∃ n : Nat, n ≤ 8 ∧ (nameSize p).toInt = n ∧ v = pk (fun j => (names (8 * p + j)).toInt.toNat) n ∧ (∀ j, j < n → 1 ≤ (names (8 * p + j)).toInt ∧ (names (8 * p + j)).toInt < 128)
def PMr (φ : Nat) (nameSize names one two kinds bits : Nat → Int32) : List StT → Prop
  | [] => True
  | a :: r => (a.1 < 5 → NMp nameSize names (116 * φ + fstS a.1 + cnt a.1 r) (tnm a) ∧ (a.1 = 0 → (one (116 * φ + fstS a.1 + cnt a.1 r)).toInt = a.2.2.1 ∧ (two (116 * φ + fstS a.1 + cnt a.1 r)).toInt = a.2.2.2.1 ∧ (kinds (116 * φ + fstS a.1 + cnt a.1 r)).toInt = nkd a ∧ (bits (116 * φ + fstS a.1 + cnt a.1 r)).toInt = a.2.2.2.2.2.1) ∧ (a.1 = 3 → (one (116 * φ + fstS a.1 + cnt a.1 r)).toInt = a.2.2.1 ∧ (two (116 * φ + fstS a.1 + cnt a.1 r)).toInt = a.2.2.2.1)) ∧ PMr φ nameSize names one two kinds bits r
def okC : List StT → Bool
  | [] => true
  | a :: r => okC r && (decide (5 ≤ a.1) || decide (cnt a.1 r < mst a.1))
set_option maxHeartbeats 400000 in
theorem okC_tl {a : StT} {r : List StT} (h : okC (a :: r) = true) : okC r = true ∧ (5 ≤ a.1 ∨ cnt a.1 r < mst a.1) := by
  have h' : (okC r && (decide (5 ≤ a.1) || decide (cnt a.1 r < mst a.1))) = true := h
  rw [Bool.and_eq_true, Bool.or_eq_true, decide_eq_true_eq, decide_eq_true_eq] at h'
  exact h'
set_option maxHeartbeats 400000 in
theorem okC_cnt (s : Nat) (hs : s < 5) : ∀ S : List StT, okC S = true → cnt s S ≤ mst s
  | [], _ => Nat.zero_le _
  | a :: r, h => by
    obtain ⟨h1, h2⟩ := okC_tl h
    have ih := okC_cnt s hs r h1
    show cnt s r + (if a.1 = s then 1 else 0) ≤ mst s
    by_cases e : a.1 = s
    · rw [if_pos e]
      rcases h2 with q | q
      · omega
      · rw [e] at q; omega
    · rw [if_neg e]; omega
set_option maxHeartbeats 400000 in
theorem fst_add {s : Nat} (h : s < 5) (i : Nat) (hi : i < mst s) : fstS s + i < 116 := by
  have : s = 0 ∨ s = 1 ∨ s = 2 ∨ s = 3 ∨ s = 4 := by omega
  rcases this with e | e | e | e | e <;> subst e
  · rw [show mst 0 = 40 from rfl] at hi; rw [show fstS 0 = 0 from rfl]; omega
  · rw [show mst 1 = 24 from rfl] at hi; rw [show fstS 1 = 40 from rfl]; omega
  · rw [show mst 2 = 24 from rfl] at hi; rw [show fstS 2 = 64 from rfl]; omega
  · rw [show mst 3 = 4 from rfl] at hi; rw [show fstS 3 = 88 from rfl]; omega
  · rw [show mst 4 = 24 from rfl] at hi; rw [show fstS 4 = 92 from rfl]; omega
set_option maxHeartbeats 400000 in
theorem fst_ne {s u : Nat} (h : s < 5) (h2 : u < 5) (i j : Nat) (hi : i < mst s) (hj : j < mst u) (hn : ¬ (s = u ∧ i = j)) : fstS s + i ≠ fstS u + j := by
  have a : s = 0 ∨ s = 1 ∨ s = 2 ∨ s = 3 ∨ s = 4 := by omega
  have b : u = 0 ∨ u = 1 ∨ u = 2 ∨ u = 3 ∨ u = 4 := by omega
  have m0 : mst 0 = 40 := rfl
  have m1 : mst 1 = 24 := rfl
  have m2 : mst 2 = 24 := rfl
  have m3 : mst 3 = 4 := rfl
  have m4 : mst 4 = 24 := rfl
  have f0 : fstS 0 = 0 := rfl
  have f1 : fstS 1 = 40 := rfl
  have f2 : fstS 2 = 64 := rfl
  have f3 : fstS 3 = 88 := rfl
  have f4 : fstS 4 = 92 := rfl
  rcases a with e | e | e | e | e <;> rcases b with g | g | g | g | g <;> subst e <;> subst g <;> omega
set_option maxHeartbeats 400000 in
theorem PMr_cg (φ : Nat) (a1 a2 b1 b2 c1 c2 d1 d2 e1 e2 f1 f2 : Nat → Int32) (p : Nat) : ∀ S : List StT, okC S = true → (∀ s i, s < 5 → i < cnt s S → 116 * φ + fstS s + i ≠ p) → (∀ i, i ≠ p → a2 i = a1 i ∧ c2 i = c1 i ∧ d2 i = d1 i ∧ e2 i = e1 i ∧ f2 i = f1 i) → (∀ i, ¬ (8 * p ≤ i ∧ i < 8 * p + 8) → b2 i = b1 i) → PMr φ a1 b1 c1 d1 e1 f1 S → PMr φ a2 b2 c2 d2 e2 f2 S
  | [], _, _, _, _, _ => trivial
  | st :: r, hok, hp, ha, hb, hx => by
    refine ⟨fun q => ?_, PMr_cg φ a1 a2 b1 b2 c1 c2 d1 d2 e1 e2 f1 f2 p r (okC_tl hok).1 (fun s i hs hi => hp s i hs (by show i < cnt s r + _; omega)) ha hb hx.2⟩
    obtain ⟨⟨n, x1, x2, x3, x4⟩, x5, x6⟩ := hx.1 q
    have pn := hp st.1 (cnt st.1 r) q (by show _ < cnt st.1 r + (if st.1 = st.1 then 1 else 0); rw [if_pos rfl]; omega)
    obtain ⟨y1, y2, y3, y4, y5⟩ := ha _ pn
    have nb : ∀ j, j < n → b2 (8 * (116 * φ + fstS st.1 + cnt st.1 r) + j) = b1 (8 * (116 * φ + fstS st.1 + cnt st.1 r) + j) := fun j hj => hb _ (by omega)
    refine ⟨⟨n, x1, by rw [y1]; exact x2, ?_, fun j hj => by rw [nb j hj]; exact x4 j hj⟩, fun z => by rw [y2, y3, y4, y5]; exact x5 z, fun z => by rw [y2, y3]; exact x6 z⟩
    rw [x3]
    have pe : ∀ (f g : Nat → Nat) (m : Nat), (∀ j, j < m → f j = g j) → pk f m = pk g m := by
      intro f g m
      induction m with
      | zero => intro _; rfl
      | succ m ih =>
        intro h
        show pk f m * 256 + f m = pk g m * 256 + g m
        rw [ih (fun j hj => h j (by omega)), h m (by omega)]
    exact pe _ _ _ (fun j hj => by rw [nb j hj])
set_option maxHeartbeats 400000 in
theorem s_143 (c_fresh : Int32) (c_text : Nat → Int32) (c_tKind : Nat → Int32) (c_tPlace : Nat → Int32) (c_tSize : Nat → Int32) (c_tValue : Nat → Int64) (L : Nat) (hL : L ≤ 4000) (p m : Nat) (hp : p < 232) (hm : m ≤ 8) {Q} : ∀ (n : Nat) (x1 : Int32) (x3 : Int32) (x4 : Int32) (x5 : Int32) (c_at : Int32) (c_fault : Int32) (c_faultAt : Int32) (c_many : Nat → Int32) (c_nameSize : Nat → Int32) (c_one : Nat → Int32) (c_two : Nat → Int32) (c_kinds : Nat → Int32) (c_kindBits : Nat → Int32) (c_names : Nat → Int32), x4.toInt = p → 0 ≤ c_at.toInt → c_at.toInt < 4001 → (c_tSize c_at.toInt.toNat).toInt = m → 0 ≤ (c_tPlace c_at.toInt.toNat).toInt → (c_tPlace c_at.toInt.toNat).toInt + m ≤ L → (∀ j, j < m → 1 ≤ (c_text ((c_tPlace c_at.toInt.toNat).toInt.toNat + j)).toInt ∧ (c_text ((c_tPlace c_at.toInt.toNat).toInt.toNat + j)).toInt < 128) → 0 ≤ x5.toInt → x5.toInt ≤ m → 20 < x5.toInt + n → (∀ nm : Nat → Int32, (∀ j, j < m → (x5.toInt ≤ j → nm (8 * p + j) = c_text ((c_tPlace c_at.toInt.toNat).toInt.toNat + j)) ∧ ((j : Int) < x5.toInt → nm (8 * p + j) = c_names (8 * p + j))) → (∀ i, ¬ (8 * p ≤ i ∧ i < 8 * p + 8) → nm i = c_names i) → Ok (f_X11_part_193 c_fresh c_text c_tKind c_tPlace c_tSize c_tValue x1 x3 x4 c_at c_fault c_faultAt c_many c_nameSize c_one c_two c_kinds c_kindBits nm) Q) → Ok (f_X11_part_143 c_fresh c_text c_tKind c_tPlace c_tSize c_tValue n x1 x3 x4 x5 c_at c_fault c_faultAt c_many c_nameSize c_one c_two c_kinds c_kindBits c_names) Q
  | 0, x1, x3, x4, x5, c_at, c_fault, c_faultAt, c_many, c_nameSize, c_one, c_two, c_kinds, c_kindBits, c_names, g0, g1, g2, g3, g4, g5, g6, h1, h2, h3, hk => by exfalso; omega
  | n + 1, x1, x3, x4, x5, c_at, c_fault, c_faultAt, c_many, c_nameSize, c_one, c_two, c_kinds, c_kindBits, c_names, g0, g1, g2, g3, g4, g5, g6, h1, h2, h3, hk => by
    unfold f_X11_part_143
    have hb : 0 ≤ c_at.toInt ∧ c_at.toInt < (4001 : Nat) := by omega
    refine ok_bad hb ?_
    rw [tI_nat]
    refine ok_if (fun a => ?_) (fun a => ?_)
    · rw [tI_le, g3] at a
      exact hk c_names (fun j hj => ⟨fun q => by omega, fun _ => rfl⟩) (fun _ _ => rfl)
    · rw [tI_le, g3] at a
      have e1 : (c_tPlace c_at.toInt.toNat + x5).toInt = (c_tPlace c_at.toInt.toNat).toInt + x5.toInt := by
        generalize c_tPlace c_at.toInt.toNat = z at g4 g5
        ((try simp only [tI_lt, tI_le, tI_eq, tI_add, tI_sub, tI_mul, tI_nat, Int32.reduceToInt, Int.reduceToNat, fe_0, fe_1, fe_2, fe_3, fe_4, fe_5]) <;> (try simp (disch := omega) only [tI_bm]) <;> omega)
      have e2 : (8 * x4 + x5).toInt = 8 * p + x5.toInt := by ((try simp only [tI_lt, tI_le, tI_eq, tI_add, tI_sub, tI_mul, tI_nat, Int32.reduceToInt, Int.reduceToNat, fe_0, fe_1, fe_2, fe_3, fe_4, fe_5]) <;> (try simp (disch := omega) only [tI_bm]) <;> omega)
      have e5 : (x5 + 1).toInt = x5.toInt + 1 := by ((try simp only [tI_lt, tI_le, tI_eq, tI_add, tI_sub, tI_mul, tI_nat, Int32.reduceToInt, Int.reduceToNat, fe_0, fe_1, fe_2, fe_3, fe_4, fe_5]) <;> (try simp (disch := omega) only [tI_bm]) <;> omega)
      have gj := g6 x5.toInt.toNat (by omega)
      refine ok_bad hb (ok_bad (by omega) (ok_vlet (ok_bad (by omega) (ok_vlet (ok_vlet ?_)))))
      have i1 : (c_tPlace c_at.toInt.toNat + x5).toNatClampNeg = (c_tPlace c_at.toInt.toNat).toInt.toNat + x5.toInt.toNat := by rw [tI_nat, e1]; omega
      have i2 : (8 * x4 + x5).toNatClampNeg = 8 * p + x5.toInt.toNat := by rw [tI_nat, e2]; omega
      rw [i1, i2]
      have nb : vp_nar .byte (c_text ((c_tPlace c_at.toInt.toNat).toInt.toNat + x5.toInt.toNat)) = c_text ((c_tPlace c_at.toInt.toNat).toInt.toNat + x5.toInt.toNat) := by
        rw [nar_byte]
        exact i2b_id (by omega) (by omega)
      rw [nb]
      refine s_143 c_fresh c_text c_tKind c_tPlace c_tSize c_tValue L hL p m hp hm n _ _ _ _ _ _ _ _ _ _ _ _ _ _ g0 g1 g2 g3 g4 g5 g6 (by omega) (by omega) (by omega) (fun nm q1 q2 => hk nm (fun j hj => ⟨fun z => ?_, fun z => ?_⟩) (fun i hi => ?_))
      · by_cases w : j = x5.toInt.toNat
        · rw [(q1 j hj).2 (by omega), upd_at, if_pos (by omega), w]
        · exact (q1 j hj).1 (by omega)
      · rw [(q1 j hj).2 (by omega), upd_at, if_neg (by omega)]
      · rw [q2 i hi, upd_at, if_neg (by omega)]
set_option maxHeartbeats 400000 in
theorem e_331 (c_fresh : Int32) (c_text : Nat → Int32) (c_tKind : Nat → Int32) (c_tPlace : Nat → Int32) (c_tSize : Nat → Int32) (c_tValue : Nat → Int64) (x3 : Int32) (x4 : Int32) (x5 : Int32) (x6 : Int32) (x7 : Int32) (x8 : Int32) (c_at : Int32) (c_fault : Int32) (c_faultAt : Int32) (c_many : Nat → Int32) (c_nameSize : Nat → Int32) (c_one : Nat → Int32) (c_two : Nat → Int32) (c_kinds : Nat → Int32) (c_kindBits : Nat → Int32) (c_names : Nat → Int32) (h : x3 = 0 ∨ 0 ≤ x4.toInt ∧ x4.toInt < 232) : (f_X11_part_331 c_fresh c_text c_tKind c_tPlace c_tSize c_tValue x3 x4 x5 x6 x7 x8 c_at c_fault c_faultAt c_many c_nameSize c_one c_two c_kinds c_kindBits c_names) = some (if x3 = 0 then (c_at, c_fault, c_faultAt, c_many, c_nameSize, c_one, c_two, c_kinds, c_kindBits, c_names) else (c_at, c_fault, c_faultAt, c_many, c_nameSize, upd c_one x4.toInt.toNat x5, upd c_two x4.toInt.toNat x6, upd c_kinds x4.toInt.toNat x7, upd c_kindBits x4.toInt.toNat x8, c_names)) := by
  unfold f_X11_part_331
  by_cases a : x3 = 0
  · rw [if_pos a, if_pos a]
  · rw [if_neg a, if_neg a]
    have hb : bad x4 232 = false := bad_f (h.resolve_left a).1 (h.resolve_left a).2
    dsimp only [vlet]
    simp only [hb, Bool.false_eq_true, if_false, tI_nat]
set_option maxHeartbeats 400000 in
theorem s_265_0 (c_fresh : Int32) (c_text : Nat → Int32) (c_tKind : Nat → Int32) (c_tPlace : Nat → Int32) (c_tSize : Nat → Int32) (c_tValue : Nat → Int64) {Q} : ∀ (n : Nat) (x1 : Int32) (x3 : Int32) (x4 : Int32) (x5 : Int32) (x6 : Int32) (x7 : Int32) (x8 : Int32) (c_at : Int32) (c_fault : Int32) (c_faultAt : Int32) (c_many : Nat → Int32) (c_nameSize : Nat → Int32) (c_one : Nat → Int32) (c_two : Nat → Int32) (c_kinds : Nat → Int32) (c_kindBits : Nat → Int32) (c_names : Nat → Int32), (¬ x1 = 0 ∨ c_fault = 1) → 0 < n → Ok (f_X11_part_331 c_fresh c_text c_tKind c_tPlace c_tSize c_tValue x3 x4 x5 x6 x7 x8 c_at c_fault c_faultAt c_many c_nameSize c_one c_two c_kinds c_kindBits c_names) Q → Ok (f_X11_part_265 c_fresh c_text c_tKind c_tPlace c_tSize c_tValue n x1 x3 x4 x5 x6 x7 x8 c_at c_fault c_faultAt c_many c_nameSize c_one c_two c_kinds c_kindBits c_names) Q
  | 0, x1, x3, x4, x5, x6, x7, x8, c_at, c_fault, c_faultAt, c_many, c_nameSize, c_one, c_two, c_kinds, c_kindBits, c_names, h, h2, hk => absurd h2 (Nat.lt_irrefl _)
  | n + 1, x1, x3, x4, x5, x6, x7, x8, c_at, c_fault, c_faultAt, c_many, c_nameSize, c_one, c_two, c_kinds, c_kindBits, c_names, h, h2, hk => by
    unfold f_X11_part_265
    refine ok_if (fun a => ok_if (fun _ => hk) (fun _ => ?_)) (fun _ => hk)
    have hf : c_fault = 1 := h.resolve_left (fun q => q a)
    refine ok_eq (isWord1 _ _ _ _ _ hf) ?_
    rw [if_pos rfl]
    refine ok_eq (isWord1 _ _ _ _ _ hf) ?_
    rw [if_pos rfl]
    exact hk
set_option maxHeartbeats 400000 in
theorem s_265 (c_fresh : Int32) (c_text : Nat → Int32) (c_tKind : Nat → Int32) (c_tPlace : Nat → Int32) (c_tSize : Nat → Int32) (c_tValue : Nat → Int64) (t : Nat → Int32) (L : Nat) {Q} : ∀ (n : Nat) (x1 : Int32) (x3 : Int32) (x4 : Int32) (x5 : Int32) (x6 : Int32) (x7 : Int32) (x8 : Int32) (c_at : Int32) (c_fault : Int32) (c_faultAt : Int32) (c_many : Nat → Int32) (c_nameSize : Nat → Int32) (c_one : Nat → Int32) (c_two : Nat → Int32) (c_kinds : Nat → Int32) (c_kindBits : Nat → Int32) (c_names : Nat → Int32) (f m b : Nat) (l : List TkT), x1 = 0 → ¬ c_fault = 1 → KM t L c_tKind c_tPlace c_tSize c_tValue c_at l → m + f = 6 → x7 = Int32.ofNat m → x8 = Int32.ofNat b → b < 2 ^ m → f < n → (∀ c_at : Int32, KM t L c_tKind c_tPlace c_tSize c_tValue c_at (pKinds f m b l).2.2 → Ok (f_X11_part_331 c_fresh c_text c_tKind c_tPlace c_tSize c_tValue x3 x4 x5 x6 (Int32.ofNat (pKinds f m b l).1) (Int32.ofNat (pKinds f m b l).2.1) c_at c_fault c_faultAt c_many c_nameSize c_one c_two c_kinds c_kindBits c_names) Q) → Ok (f_X11_part_265 c_fresh c_text c_tKind c_tPlace c_tSize c_tValue n x1 x3 x4 x5 x6 x7 x8 c_at c_fault c_faultAt c_many c_nameSize c_one c_two c_kinds c_kindBits c_names) Q
  | 0, x1, x3, x4, x5, x6, x7, x8, c_at, c_fault, c_faultAt, c_many, c_nameSize, c_one, c_two, c_kinds, c_kindBits, c_names, f, m, b, l, h0, hf, h, g1, g2, g3, g4, g5, hk => by exfalso; omega
  | n + 1, x1, x3, x4, x5, x6, x7, x8, c_at, c_fault, c_faultAt, c_many, c_nameSize, c_one, c_two, c_kinds, c_kindBits, c_names, f, m, b, l, h0, hf, h, g1, g2, g3, g4, g5, hk => by
    unfold f_X11_part_265
    have e7 : x7.toInt = m := by rw [g2]; exact Int32.toInt_ofNat_of_lt (by omega)
    rw [if_pos h0]
    cases f with
    | zero =>
      rw [if_pos (by rw [tI_le, show (6 : Int32).toInt = 6 from by decide]; omega), g2, g3]
      exact hk c_at h
    | succ f =>
      rw [if_neg (by rw [tI_le, show (6 : Int32).toInt = 6 from by decide]; omega)]
      have p2 : 2 ^ (m + 1) = 2 ^ m * 2 := Nat.pow_succ ..
      have e71 : x7 + 1 = Int32.ofNat (m + 1) := by
        apply Int32.toInt_inj.mp
        rw [Int32.toInt_ofNat_of_lt (show m + 1 < 2 ^ 31 by omega), tI_add, e7, show (1 : Int32).toInt = 1 from by decide]
        omega
      have step : ∀ (w b2 : Nat) (x8' : Int32), isWd l w = true → x8' = Int32.ofNat b2 → b2 < 2 ^ (m + 1) → (∀ c_at : Int32, KM t L c_tKind c_tPlace c_tSize c_tValue c_at (pKinds f (m + 1) b2 l.tail).2.2 → Ok (f_X11_part_331 c_fresh c_text c_tKind c_tPlace c_tSize c_tValue x3 x4 x5 x6 (Int32.ofNat (pKinds f (m + 1) b2 l.tail).1) (Int32.ofNat (pKinds f (m + 1) b2 l.tail).2.1) c_at c_fault c_faultAt c_many c_nameSize c_one c_two c_kinds c_kindBits c_names) Q) → Ok (f_X11_part_315 (f_X11_part_265 c_fresh c_text c_tKind c_tPlace c_tSize c_tValue n) c_fresh c_text c_tKind c_tPlace c_tSize c_tValue x1 x3 x4 x5 x6 x7 x8' c_at c_fault c_faultAt c_many c_nameSize c_one c_two c_kinds c_kindBits c_names) Q := by
        intro w b2 x8' hw hx hb hk2
        unfold f_X11_part_315
        exact ok_vlet (ok_vlet (s_265 c_fresh c_text c_tKind c_tPlace c_tSize c_tValue t L n _ _ _ _ _ _ _ _ _ _ _ _ _ _ _ _ _ f (m + 1) b2 l.tail h0 hf (KM_next h (.inl (hd1 hw))).1 (by omega) e71 hx hb (by omega) hk2))
      refine ok_eq (e_isWord _ _ _ _ _ t L c_tPlace c_tSize l h 422826041707 (by decide) rfl) ?_
      by_cases c1 : isWd l 422826041707 = true
      · have nm : ¬ isWd l 1835101029 = true := fun q => by
          have a := ((isWd_t _ _).mp c1).2
          have b := ((isWd_t _ _).mp q).2
          omega
        rw [i01_t hf c1, if_neg (by decide)]
        unfold f_X11_part_296
        refine ok_eq (e_isWord _ _ _ _ _ t L c_tPlace c_tSize l h 1835101029 (by decide) rfl) ?_
        rw [i01_f nm, if_pos rfl]
        refine step _ b x8 c1 g3 (by omega) (fun ca hca => ?_)
        have e : pKinds (f + 1) m b l = pKinds f (m + 1) b l.tail := by
          show (if isWd l 422826041707 = true then _ else _) = _
          rw [if_pos c1]
        rw [← e] at hca ⊢
        exact hk ca hca
      · rw [i01_f c1, if_pos rfl]
        refine ok_eq (e_isWord _ _ _ _ _ t L c_tPlace c_tSize l h 1835101029 (by decide) rfl) ?_
        by_cases c2 : isWd l 1835101029 = true
        · rw [i01_t hf c2, if_neg (by decide)]
          unfold f_X11_part_296
          refine ok_eq (e_isWord _ _ _ _ _ t L c_tPlace c_tSize l h 1835101029 (by decide) rfl) ?_
          rw [i01_t hf c2, if_neg (by decide)]
          have hor : x8 ||| xshl 1 x7 = Int32.ofNat (b + 2 ^ m) := by
            rw [g2, g3]
            exact mk_or m (by omega) b g4
          refine ok_vlet (step _ (b + 2 ^ m) _ c2 hor (by omega) (fun ca hca => ?_))
          have e : pKinds (f + 1) m b l = pKinds f (m + 1) (b + 2 ^ m) l.tail := by
            show (if isWd l 422826041707 = true then _ else if isWd l 1835101029 = true then _ else _) = _
            rw [if_neg c1, if_pos c2]
          rw [← e] at hca ⊢
          exact hk ca hca
        · rw [i01_f c2, if_pos rfl]
          have e : pKinds (f + 1) m b l = (m, b, l) := by
            show (if isWd l 422826041707 = true then _ else if isWd l 1835101029 = true then _ else _) = _
            rw [if_neg c1, if_neg c2]
          rw [e] at hk
          rw [g2, g3]
          exact hk c_at h
/-! the two numbers and the kinds of a relay, the two numbers of a clock -/
set_option maxHeartbeats 400000 in
theorem s_193 (c_fresh : Int32) (c_text : Nat → Int32) (c_tKind : Nat → Int32) (c_tPlace : Nat → Int32) (c_tSize : Nat → Int32) (c_tValue : Nat → Int64) (x1 : Int32) (x3 : Int32) (x4 : Int32) (c_at : Int32) (c_fault : Int32) (c_faultAt : Int32) (c_many : Nat → Int32) (c_nameSize : Nat → Int32) (c_one : Nat → Int32) (c_two : Nat → Int32) (c_kinds : Nat → Int32) (c_kindBits : Nat → Int32) (c_names : Nat → Int32) (t : Nat → Int32) (L : Nat) {Q} (l : List TkT) (h : KM t L c_tKind c_tPlace c_tSize c_tValue c_at l) (hn : (hd l).1 = 1) (hf : ¬ c_fault = 1) (hplain : x1 ≠ 0 → x1 ≠ 3 → ∀ c_at : Int32, KM t L c_tKind c_tPlace c_tSize c_tValue c_at l.tail → Q (c_at, c_fault, c_faultAt, c_many, c_nameSize, c_one, c_two, c_kinds, c_kindBits, c_names)) (hrel : x1 = 0 → isNr l.tail 1 20 = true → isNr l.tail.tail 1 20 = true → ∀ c_at : Int32, KM t L c_tKind c_tPlace c_tSize c_tValue c_at (pKinds 6 0 0 l.tail.tail.tail).2.2 → ∀ c_faultAt : Int32, Ok (f_X11_part_331 c_fresh c_text c_tKind c_tPlace c_tSize c_tValue x3 x4 (Int32.ofNat (hd l.tail).2.1) (Int32.ofNat (hd l.tail.tail).2.1) (Int32.ofNat (pKinds 6 0 0 l.tail.tail.tail).1) (Int32.ofNat (pKinds 6 0 0 l.tail.tail.tail).2.1) c_at c_fault c_faultAt c_many c_nameSize c_one c_two c_kinds c_kindBits c_names) Q) (hclk : x1 = 3 → isNr l.tail 2 100 = true → isNr l.tail.tail 1 ((hd l.tail).2.1 - 1) = true → ∀ c_at : Int32, KM t L c_tKind c_tPlace c_tSize c_tValue c_at l.tail.tail.tail → ∀ c_faultAt : Int32, Ok (f_X11_part_331 c_fresh c_text c_tKind c_tPlace c_tSize c_tValue x3 x4 (Int32.ofNat (hd l.tail).2.1) (Int32.ofNat (hd l.tail.tail).2.1) 0 0 c_at c_fault c_faultAt c_many c_nameSize c_one c_two c_kinds c_kindBits c_names) Q) (hbad : (x1 = 0 ∧ ¬ (isNr l.tail 1 20 = true ∧ isNr l.tail.tail 1 20 = true) ∨ x1 = 3 ∧ ¬ (isNr l.tail 2 100 = true ∧ isNr l.tail.tail 1 ((hd l.tail).2.1 - 1) = true)) → ∀ (c_at c_faultAt x5 x6 : Int32), Ok (f_X11_part_331 c_fresh c_text c_tKind c_tPlace c_tSize c_tValue x3 x4 x5 x6 0 0 c_at 1 c_faultAt c_many c_nameSize c_one c_two c_kinds c_kindBits c_names) Q) : Ok (f_X11_part_193 c_fresh c_text c_tKind c_tPlace c_tSize c_tValue x1 x3 x4 c_at c_fault c_faultAt c_many c_nameSize c_one c_two c_kinds c_kindBits c_names) Q := by
  have n1 := (KM_next h (.inl hn)).1
  unfold f_X11_part_193
  refine ok_vlet ?_
  -- behind the numbers
  have f265 : ∀ (c_at c_fault c_faultAt x5 x6 : Int32), c_fault = 1 → Ok (f_X11_part_331 c_fresh c_text c_tKind c_tPlace c_tSize c_tValue x3 x4 x5 x6 0 0 c_at 1 c_faultAt c_many c_nameSize c_one c_two c_kinds c_kindBits c_names) Q → Ok (f_X11_part_265 c_fresh c_text c_tKind c_tPlace c_tSize c_tValue FU x1 x3 x4 x5 x6 (0 : Int32) (0 : Int32) c_at c_fault c_faultAt c_many c_nameSize c_one c_two c_kinds c_kindBits c_names) Q := fun ca cf cfa x5 x6 hcf k => by
    subst hcf
    exact s_265_0 c_fresh c_text c_tKind c_tPlace c_tSize c_tValue FU _ _ _ _ _ _ _ _ _ _ _ _ _ _ _ _ _ (.inr rfl) (by rw [FU_eq]; decide) k
  have bad254 : ∀ (c_at c_fault c_faultAt x5 y1 y2 : Int32), c_fault = 1 → (∀ (c_at c_faultAt x5 x6 : Int32), Ok (f_X11_part_331 c_fresh c_text c_tKind c_tPlace c_tSize c_tValue x3 x4 x5 x6 0 0 c_at 1 c_faultAt c_many c_nameSize c_one c_two c_kinds c_kindBits c_names) Q) → Ok (f_X11_part_254 c_fresh c_text c_tKind c_tPlace c_tSize c_tValue x1 x3 x4 x5 y1 y2 c_at c_fault c_faultAt c_many c_nameSize c_one c_two c_kinds c_kindBits c_names) Q := fun ca cf cfa x5 y1 y2 hcf k => by
    unfold f_X11_part_254
    refine ok_bind (s_number1 _ _ _ _ _ _ _ _ hcf) (fun r1 h1 => ?_)
    exact f265 _ _ _ _ _ h1.2 (k _ _ _ _)
  by_cases x0 : x1 = 0
  · rw [if_pos x0]
    unfold f_X11_part_213 f_X11_part_223 f_X11_part_234
    rw [if_pos x0, if_pos x0]
    refine ok_bind (s_number (x1 := 1) (x2 := 20) (c_at := c_at + 1) (c_fault := c_fault) (c_faultAt := c_faultAt) (c_tKind := c_tKind) (c_tPlace := c_tPlace) (c_tValue := c_tValue) t L c_tSize l.tail n1 hf 1 20 (by decide) (by decide)) (fun r1 h1 => ?_)
    rw [if_pos x0]
    rcases h1 with ⟨g1, g2, g3, g4⟩ | ⟨g1, g2, g3⟩
    · unfold f_X11_part_254
      rw [g3, g2]
      refine ok_bind (s_number (x1 := 1) (x2 := 20) (c_at := r1.2.1) (c_fault := c_fault) (c_faultAt := r1.2.2.2) (c_tKind := c_tKind) (c_tPlace := c_tPlace) (c_tValue := c_tValue) t L c_tSize l.tail.tail g4 hf 1 20 (by decide) (by decide)) (fun r2 h2 => ?_)
      rcases h2 with ⟨k1, k2, k3, k4⟩ | ⟨k1, k2, k3⟩
      · rw [k3, k2]
        exact s_265 c_fresh c_text c_tKind c_tPlace c_tSize c_tValue t L FU _ _ _ _ _ _ _ _ _ _ _ _ _ _ _ _ _ 6 0 0 l.tail.tail.tail x0 hf k4 rfl rfl rfl (by decide) (by rw [FU_eq]; decide) (fun ca hca => hrel x0 g1 k1 ca hca _)
      · exact f265 _ _ _ _ _ k3 (hbad (.inl ⟨x0, fun q => by rw [k1] at q; exact absurd q.2 (by decide)⟩) _ _ _ _)
    · exact bad254 _ _ _ _ _ _ g3 (hbad (.inl ⟨x0, fun q => by rw [g1] at q; exact absurd q.1 (by decide)⟩))
  · rw [if_neg x0]
    by_cases x3' : x1 = 3
    · rw [if_pos x3']
      unfold f_X11_part_213 f_X11_part_223 f_X11_part_234
      rw [if_neg x0, if_neg x0]
      refine ok_bind (s_number (x1 := 2) (x2 := 100) (c_at := c_at + 1) (c_fault := c_fault) (c_faultAt := c_faultAt) (c_tKind := c_tKind) (c_tPlace := c_tPlace) (c_tValue := c_tValue) t L c_tSize l.tail n1 hf 2 100 (by decide) (by decide)) (fun r1 h1 => ?_)
      rw [if_neg x0]
      rcases h1 with ⟨g1, g2, g3, g4⟩ | ⟨g1, g2, g3⟩
      · unfold f_X11_part_254
        have g1' := (isNr_t _ _ _).mp g1
        have ehi : (Int32.ofNat (hd l.tail).2.1 - 1).toInt = (((hd l.tail).2.1 - 1 : Nat) : Int) := by
          rw [tI_sub, Int32.toInt_ofNat_of_lt (show (hd l.tail).2.1 < 2 ^ 31 by omega), show (1 : Int32).toInt = 1 from by decide]
          omega
        rw [g3, g2]
        refine ok_bind (s_number (x1 := 1) (x2 := Int32.ofNat (hd l.tail).2.1 - 1) (c_at := r1.2.1) (c_fault := c_fault) (c_faultAt := r1.2.2.2) (c_tKind := c_tKind) (c_tPlace := c_tPlace) (c_tValue := c_tValue) t L c_tSize l.tail.tail g4 hf 1 ((hd l.tail).2.1 - 1) (by decide) ehi) (fun r2 h2 => ?_)
        rcases h2 with ⟨k1, k2, k3, k4⟩ | ⟨k1, k2, k3⟩
        · rw [k3, k2]
          exact s_265_0 c_fresh c_text c_tKind c_tPlace c_tSize c_tValue FU _ _ _ _ _ _ _ _ _ _ _ _ _ _ _ _ _ (.inl x0) (by rw [FU_eq]; decide) (hclk x3' g1 k1 _ k4 _)
        · exact f265 _ _ _ _ _ k3 (hbad (.inr ⟨x3', fun q => by rw [k1] at q; exact absurd q.2 (by decide)⟩) _ _ _ _)
      · exact bad254 _ _ _ _ _ _ g3 (hbad (.inr ⟨x3', fun q => by rw [g1] at q; exact absurd q.1 (by decide)⟩))
    · rw [if_neg x3']
      exact ok_some (hplain x0 x3' _ n1)
