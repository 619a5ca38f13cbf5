/-! the reference's second go -/
set_option maxHeartbeats 400000 in
theorem s_nw_113 (k72 : Int32 → Int32 → Int32 → (Nat → Int32) → (Nat → Int32) → (Nat → Int32) → Option (Int32 × Int32 × Int32 × (Nat → Int32) × (Nat → Int32) × (Nat → Int32))) (c_fresh : Int32) (c_text : Nat → Int32) (c_tKind : Nat → Int32) (c_tPlace : Nat → Int32) (c_tSize : Nat → Int32) (c_tValue : Nat → Int64) (c_many : Nat → Int32) (c_nameSize : Nat → Int32) (c_kinds : Nat → Int32) (c_names : Nat → Int32) (L : Nat) (rest : List TkT) (hr : isSn rest 59 = true) {Q} : ∀ (n : Nat) (c_at : Int32) (c_fault : Int32) (c_faultAt : Int32) (c_netOf : Nat → Int32) (c_isTold : Nat → Int32) (c_soFar : Nat → Int32) (k : Nat) (l : List TkT), SK k l rest → KM c_text L c_tKind c_tPlace c_tSize c_tValue c_at l → c_fault = 0 → k < n → (∀ ca : Int32, KM c_text L c_tKind c_tPlace c_tSize c_tValue ca rest.tail → Ok (k72 ca c_fault c_faultAt c_netOf c_isTold c_soFar) Q) → Ok (f_X11_namesAndWires_113 k72 c_fresh c_text c_tKind c_tPlace c_tSize c_tValue c_many c_nameSize c_kinds c_names n c_at c_fault c_faultAt c_netOf c_isTold c_soFar) Q
  | 0, c_at, c_fault, c_faultAt, c_netOf, c_isTold, c_soFar, k, l, h1, h, hf, hn, hk => absurd hn (Nat.not_lt_zero _)
  | n + 1, c_at, c_fault, c_faultAt, c_netOf, c_isTold, c_soFar, k, l, h1, h, hf, hn, hk => by
    unfold f_X11_namesAndWires_113
    have hf1 : ¬ c_fault = 1 := by rw [hf]; decide
    rw [if_pos hf]
    refine ok_eq (e_isSign _ _ _ _ _ c_text L c_tPlace c_tSize l h (by decide)) ?_
    rw [show (59 : Int32).toInt.toNat = 59 from by decide]
    cases k with
    | zero =>
      have e : l = rest := h1
      rw [e] at h
      rw [e, i01_t hf1 hr, if_neg (by decide)]
      unfold f_X11_namesAndWires_142
      exact ok_vlet (hk _ (KM_next h (.inr (.inr (hd3 hr)))).1)
    | succ k =>
      obtain ⟨g1, g2⟩ := h1
      rw [i01_f (SK_sn g1 59), if_pos rfl]
      have n1 := (KM_next h (by omega)).1
      exact ok_vlet (s_nw_113 k72 c_fresh c_text c_tKind c_tPlace c_tSize c_tValue c_many c_nameSize c_kinds c_names L rest hr n _ _ _ _ _ _ k l.tail g2 n1 hf (by omega) hk)
set_option maxHeartbeats 400000 in
theorem s_nw_113b (k72 : Int32 → Int32 → Int32 → (Nat → Int32) → (Nat → Int32) → (Nat → Int32) → Option (Int32 × Int32 × Int32 × (Nat → Int32) × (Nat → Int32) × (Nat → Int32))) (c_fresh : Int32) (c_text : Nat → Int32) (c_tKind : Nat → Int32) (c_tPlace : Nat → Int32) (c_tSize : Nat → Int32) (c_tValue : Nat → Int64) (c_many : Nat → Int32) (c_nameSize : Nat → Int32) (c_kinds : Nat → Int32) (c_names : Nat → Int32) {Q} : ∀ (n : Nat) (c_at : Int32) (c_fault : Int32) (c_faultAt : Int32) (c_netOf : Nat → Int32) (c_isTold : Nat → Int32) (c_soFar : Nat → Int32), ¬ c_fault = 0 → 0 < n → Ok (k72 (c_at + 1) c_fault c_faultAt c_netOf c_isTold c_soFar) Q → Ok (f_X11_namesAndWires_113 k72 c_fresh c_text c_tKind c_tPlace c_tSize c_tValue c_many c_nameSize c_kinds c_names n c_at c_fault c_faultAt c_netOf c_isTold c_soFar) Q
  | 0, c_at, c_fault, c_faultAt, c_netOf, c_isTold, c_soFar, hf, hn, hk => absurd hn (Nat.not_lt_zero _)
  | n + 1, c_at, c_fault, c_faultAt, c_netOf, c_isTold, c_soFar, hf, hn, hk => by
    unfold f_X11_namesAndWires_113
    rw [if_neg hf]
    unfold f_X11_namesAndWires_142
    exact ok_vlet hk
set_option maxHeartbeats 400000 in
theorem s_nw_72b (c_fresh : Int32) (c_text : Nat → Int32) (c_tKind : Nat → Int32) (c_tPlace : Nat → Int32) (c_tSize : Nat → Int32) (c_tValue : Nat → Int64) (c_many : Nat → Int32) (c_nameSize : Nat → Int32) (c_kinds : Nat → Int32) (c_names : Nat → Int32) : ∀ (n : Nat) (c_at : Int32) (c_fault : Int32) (c_faultAt : Int32) (c_netOf : Nat → Int32) (c_isTold : Nat → Int32) (c_soFar : Nat → Int32), ¬ c_fault = 0 → 0 < n → (f_X11_namesAndWires_72 c_fresh c_text c_tKind c_tPlace c_tSize c_tValue c_many c_nameSize c_kinds c_names n c_at c_fault c_faultAt c_netOf c_isTold c_soFar) = some (c_at, c_fault, c_faultAt, c_netOf, c_isTold, c_soFar)
  | 0, c_at, c_fault, c_faultAt, c_netOf, c_isTold, c_soFar, hf, hn => absurd hn (Nat.not_lt_zero _)
  | n + 1, c_at, c_fault, c_faultAt, c_netOf, c_isTold, c_soFar, hf, hn => by
    unfold f_X11_namesAndWires_72
    rw [if_neg hf]
def NWP (φ : Nat) (S : List StT) (netOf isTold : Nat → Int32) (r : Int32 × Int32 × Int32 × (Nat → Int32) × (Nat → Int32) × (Nat → Int32)) : Prop := ((r.2.1 = 0 ∧ okS S = true ∧ allPin S (pnsOf S)) ∨ (r.2.1 = 3 ∧ ¬ (okS S = true ∧ allPin S (pnsOf S)))) ∧ NI (954 * φ) r.2.2.2.1 ∧ FrN φ netOf isTold r.2.2.2.1 r.2.2.2.2.1
set_option maxHeartbeats 400000 in
theorem s_nw_72 (c_fresh : Int32) (c_text : Nat → Int32) (c_tKind : Nat → Int32) (c_tPlace : Nat → Int32) (c_tSize : Nat → Int32) (c_tValue : Nat → Int64) (c_many : Nat → Int32) (c_nameSize : Nat → Int32) (c_kinds : Nat → Int32) (c_names : Nat → Int32) (φ : Nat) (S : List StT) (one two bits : Nat → Int32) (hφ : φ ≤ 1) (hfr : c_fresh.toInt = φ) (hP : PMr φ c_nameSize c_names one two c_kinds bits S) (hG : GB c_nameSize c_kinds) (hc : ∀ s, s < 5 → cnt s S ≤ mst s) (L : Nat) (hL : L ≤ 4000) (hmn : ∀ s, s < 5 → (c_many (5 * φ + s)).toInt = cnt s S) (hC : okC S = true) : ∀ (n : Nat) (c_at : Int32) (c_fault : Int32) (c_faultAt : Int32) (c_netOf : Nat → Int32) (c_isTold : Nat → Int32) (c_soFar : Nat → Int32) (f : Nat) (l : List TkT) (ss S1 : List StT), KM c_text L c_tKind c_tPlace c_tSize c_tValue c_at l → c_fault = 0 → pText f l = some ss → S = ss.reverse ++ S1 → (∀ t, t < 5 → (c_soFar t).toInt = cnt t S1) → okS S1 = true → (okS S = true → allPin S (pnsOf S1)) → NI (954 * φ) c_netOf → l.length < n → Ok (f_X11_namesAndWires_72 c_fresh c_text c_tKind c_tPlace c_tSize c_tValue c_many c_nameSize c_kinds c_names n c_at c_fault c_faultAt c_netOf c_isTold c_soFar) (NWP φ S c_netOf c_isTold)
  | 0, c_at, c_fault, c_faultAt, c_netOf, c_isTold, c_soFar, f, l, ss, S1, h, hf, hp, hS, hsf, ho, hA, hN, hn => absurd hn (Nat.not_lt_zero _)
  | n + 1, c_at, c_fault, c_faultAt, c_netOf, c_isTold, c_soFar, 0, l, ss, S1, h, hf, hp, hS, hsf, ho, hA, hN, hn => by cases hp
  | n + 1, c_at, c_fault, c_faultAt, c_netOf, c_isTold, c_soFar, f + 1, l, ss, S1, h, hf, hp, hS, hsf, ho, hA, hN, hn => by
    unfold f_X11_namesAndWires_72
    unfold pText at hp
    obtain ⟨b2, b3, b4, b5, b6⟩ := KM_hd h
    have hf1 : ¬ c_fault = 1 := by rw [hf]; decide
    rw [if_pos hf]
    refine ok_bad ⟨b2, b3⟩ ?_
    rw [tI_nat]
    have k0 : c_tKind c_at.toInt.toNat = 0 ↔ (hd l).1 = 0 := by
      rw [tI_eq, b4.1, show (0 : Int32).toInt = 0 from by decide]; omega
    by_cases e : (hd l).1 = 0
    · rw [if_pos (k0.mpr e)]
      rw [if_pos e] at hp
      injection hp with hp
      subst hp
      have hS' : S = S1 := hS
      rw [← hS'] at ho hA
      exact ok_some ⟨.inl ⟨hf, ho, hA ho⟩, hN, FrN_rf _ _ _⟩
    rw [if_neg (fun q => e (k0.mp q))]
    rw [if_neg e] at hp
    cases hq : pBody l with
    | none =>
      unfold pStmt at hp
      rw [hq] at hp; cases hp
    | some y =>
      obtain ⟨st, rest⟩ := y
      have hl := pBody_len hq
      have tl := @List.length_tail TkT rest
      unfold pStmt at hp
      rw [hq] at hp
      dsimp only at hp
      by_cases sn : isSn rest 59 = true
      · rw [if_pos sn] at hp
        dsimp only at hp
        cases hq2 : pText f rest.tail with
        | none => rw [hq2] at hp; cases hp
        | some ss2 =>
          rw [hq2] at hp
          injection hp with hp
          subst hp
          have hS2 : S = ss2.reverse ++ (st :: S1) := by
            rw [hS, List.reverse_cons, List.append_assoc]; rfl
          have hC1 : okC (st :: S1) = true := okC_app ss2.reverse _ (hS2 ▸ hC)
          -- on, behind a statement without a fault
          have on : ∀ (ca cfa : Int32) (no2 it2 so2 : Nat → Int32), KM c_text L c_tKind c_tPlace c_tSize c_tValue ca rest.tail → (∀ t, t < 5 → (so2 t).toInt = cnt t (st :: S1)) → okS (st :: S1) = true → (okS S = true → ∀ p ∈ st.2.2.2.2.2.2, okPin S p.1 p.2 = true) → NI (954 * φ) no2 → FrN φ c_netOf c_isTold no2 it2 → Ok (f_X11_namesAndWires_72 c_fresh c_text c_tKind c_tPlace c_tSize c_tValue c_many c_nameSize c_kinds c_names n ca 0 cfa no2 it2 so2) (NWP φ S c_netOf c_isTold) := by
            intro ca cfa no2 it2 so2 g1 g2 g3 g4 g5 g6
            refine ok_mono (s_nw_72 c_fresh c_text c_tKind c_tPlace c_tSize c_tValue c_many c_nameSize c_kinds c_names φ S one two bits hφ hfr hP hG hc L hL hmn hC n ca 0 cfa no2 it2 so2 f rest.tail ss2 (st :: S1) g1 rfl hq2 hS2 g2 g3 (fun z => pns_cons (hA z) (g4 z)) g5 (by omega)) (fun r hr => ⟨hr.1, hr.2.1, FrN_tr g6 hr.2.2⟩)
          -- behind one with a fault
          have off : ∀ (ca cf cfa : Int32) (no2 it2 so2 : Nat → Int32), cf = 3 → ¬ (okS S = true ∧ allPin S (pnsOf S)) → NI (954 * φ) no2 → FrN φ c_netOf c_isTold no2 it2 → Ok (f_X11_namesAndWires_113 (f_X11_namesAndWires_72 c_fresh c_text c_tKind c_tPlace c_tSize c_tValue c_many c_nameSize c_kinds c_names n) c_fresh c_text c_tKind c_tPlace c_tSize c_tValue c_many c_nameSize c_kinds c_names FU ca cf cfa no2 it2 so2) (NWP φ S c_netOf c_isTold) := by
            intro ca cf cfa no2 it2 so2 g0 g1 g2 g3
            have g0' : ¬ cf = 0 := by rw [g0]; decide
            refine s_nw_113b _ c_fresh c_text c_tKind c_tPlace c_tSize c_tValue c_many c_nameSize c_kinds c_names FU ca cf cfa no2 it2 so2 g0' (by rw [FU_eq]; decide) (ok_eq2 (s_nw_72b c_fresh c_text c_tKind c_tPlace c_tSize c_tValue c_many c_nameSize c_kinds c_names n _ _ _ _ _ _ g0' (by omega)) ?_)
            exact ⟨.inr ⟨g0, g1⟩, g2, g3⟩
          refine ok_bind (s_sortHere _ _ _ _ c_text L c_tPlace c_tSize l h hf1) (fun r2 h2 => ?_)
          cases hs : srt l with
          | none =>
            rw [hs] at h2
            have hw := pBody_wire hs
            rw [if_pos h2]
            by_cases w : isWd l 2003399269 = true
            · rw [if_pos w, hq] at hw
              cases hp2 : pPins 4002 l.tail with
              | none => rw [hp2] at hw; cases hw
              | some y2 =>
                obtain ⟨ps, r9⟩ := y2
                rw [hp2] at hw
                dsimp only at hw
                by_cases two' : 2 ≤ ps.length
                · rw [if_pos two'] at hw
                  injection hw with hw; injection hw with w1 w2
                  subst w1 w2
                  refine ok_bind (s_toldWire _ _ _ _ _ _ _ _ _ _ _ _ _ _ _ φ S one two bits hφ hfr hP hG hc L hL hmn l rest ps h (hd1 w) hf hp2 hN) (fun r3 h3 => ?_)
                  obtain ⟨z1, z2, z3⟩ := h3
                  rcases z1 with ⟨v1, v2⟩ | ⟨v1, v2, v3, v4⟩
                  · refine off _ _ _ _ _ _ v1 (fun q => ?_) z2 z3
                    obtain ⟨p, m1, m2⟩ := v2 q.1
                    obtain ⟨q9, n1, n2, n3⟩ := pns_mem p (5, 0, 0, 0, 0, 0, ps) m1 S1 ss2.reverse
                    rw [← hS2] at n1
                    have := q.2 q9 n1
                    rw [n2, n3, m2] at this
                    exact absurd this (by decide)
                  · rw [v1]
                    refine s_nw_113 _ c_fresh c_text c_tKind c_tPlace c_tSize c_tValue c_many c_nameSize c_kinds c_names L rest v3 FU _ _ _ _ _ _ 0 rest rfl v2 rfl (by rw [FU_eq]; decide) (fun ca hca => on _ _ _ _ _ hca (fun t ht => ?_) ((okS_cons ho hC1).mpr (.inl (Nat.le_refl _))) v4 z2 z3)
                    rw [hsf t ht]
                    show ((cnt t S1 : Nat) : Int) = ((cnt t S1 + (if 5 = t then 1 else 0) : Nat) : Int)
                    rw [if_neg (by omega)]; rfl
                · rw [if_neg two'] at hw; cases hw
            · rw [if_neg w, hq] at hw; cases hw
          | some s =>
            rw [hs] at h2
            obtain ⟨y1, y2, y3, y4⟩ := h2
            rw [hq] at y4
            obtain ⟨p1, p2, p3, p4, k, p5, p6⟩ := pPart_st y4.symm
            rw [if_neg (fun q => by rw [q, show (-1 : Int32).toInt = -1 from by decide] at y1; omega)]
            obtain ⟨n1, n2, n3⟩ := KM_next h (.inl y3)
            obtain ⟨t1, t2⟩ := KM_TkN n1 ((isNm_t _).mp p1).1
            have bn := KM_hd n1
            have hS1 : ∀ t, cnt t S1 ≤ cnt t S := fun t => by
              rw [hS]
              clear hS
              generalize (st :: ss2).reverse = A
              induction A with
              | nil => exact Nat.le_refl _
              | cons c A ih => exact Nat.le_trans ih (Nat.le_add_right _ _)
            refine ok_bind (s_toldPart (x1 := r2) (c_at := c_at) (c_fault := c_fault) (c_faultAt := c_faultAt) (c_fresh := c_fresh) (c_text := c_text) (c_tPlace := c_tPlace) (c_tSize := c_tSize) (c_nameSize := c_nameSize) (c_names := c_names) (c_soFar := c_soFar) φ s (fun t => cnt t S1) (fun t i => ∃ a, AT t i a S ∧ tnm a = (hd l.tail).2.1) hφ hfr y2 y1 ⟨b2, by omega⟩ (fun t ht => by have := hc t ht; have := mst_le t; have := hS1 t; omega) hsf (fun t i y ht hi hy => s_alikeAt (x1 := y) (x2 := c_at + 1) (c_text := c_text) (c_tPlace := c_tPlace) (c_tSize := c_tSize) (c_nameSize := c_nameSize) (c_names := c_names) φ L (hd l.tail).2.1 t i S one two c_kinds bits hφ hL ht (by have := hS1 t; omega) (hc t ht) hP hy ⟨bn.1, bn.2.1⟩ t1)) (fun r4 h4 => ?_)
            obtain ⟨q1, q2, q3⟩ := h4
            have iff9 := inN_iff (hd l.tail).2.1 (st :: ss2).reverse S1
            rw [← hS] at iff9
            have q3' : ∀ t, t < 5 → (r4.2.2.2 t).toInt = cnt t (st :: S1) := fun t ht => by
              rw [q3 t ht]
              show _ = ((cnt t S1 + (if st.1 = t then 1 else 0) : Nat) : Int)
              by_cases z : t = s
              · rw [if_pos z, if_pos (by omega), z]
              · rw [if_neg z, if_neg (by omega)]; rfl
            rcases q2 with ⟨v1, v2⟩ | ⟨v1, v2⟩
            · have dup := iff9.mp v1
              refine off _ _ _ _ _ _ v2 (fun q => ?_) hN (FrN_rf _ _ _)
              have := okS_app ss2.reverse _ (hS2 ▸ q.1)
              rcases (okS_cons ho hC1).mp this with z | z
              · omega
              · rw [p3, dup] at z; exact absurd z (by decide)
            · have nod : inN (tnm st) S1 = false := by
                cases z : inN (tnm st) S1 with
                | false => rfl
                | true => rw [p3] at z; exact absurd (iff9.mpr z) v1
              rw [v2, hf, q1]
              refine s_nw_113 _ c_fresh c_text c_tKind c_tPlace c_tSize c_tValue c_many c_nameSize c_kinds c_names L rest sn FU _ _ _ _ _ _ k l.tail p6 n1 rfl (by rw [FU_eq]; omega) (fun ca hca => on _ _ _ _ _ hca q3' ((okS_cons ho hC1).mpr (.inr nod)) (fun _ p hp => ?_) hN (FrN_rf _ _ _))
              rw [p4] at hp
              exact absurd hp (List.not_mem_nil)
      · rw [if_neg sn] at hp; cases hp
