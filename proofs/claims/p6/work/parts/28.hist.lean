/-! new CoilBench$History -/
def f_X1_init : Option (Int32 × Int32 × (Nat → Int64) × (Nat → Int32) × (Nat → Int32) × (Nat → Nat → Int32) × (Nat → Nat → Int32)) := some (0, 0, fun _ => 0, fun _ => 0, fun _ => 0, fun _ _ => 0, fun _ _ => 0)
theorem mY_X1_init : vY yX1_init cX1_init 2 none 0 := ⟨W2_71, W1_9, ⟨by decide +kernel, by decide +kernel⟩, by decide +kernel⟩
theorem mN_X1_init : Cond.instanceMethod yX1_init ∈ TB := W2_70
set_option maxHeartbeats 4000000 in
set_option maxRecDepth 100000 in
theorem w_X1_init_25 {G : Gx} {C : Cx} (hC : vH G C cX1_init RX1 2 none { frames := 2, cells := 301, slots := 8600, locals := 60 }) (hO : vOC C) (q_this q_k : Nat) (hQ : vRc G C 301 8600 (fun qs => [(q_this, eO 0 [.ref (qs 0 0), .int (0 : Int32), .int (0 : Int32)])] ++ ([(qs 0 0, eS G 100 (fun i => some (qs 1 i)))] ++ hpool G (qs 1) (qs 2) (qs 3) (fun _ => 0) (fun _ => 0) (fun _ => 0) (fun _ _ => 0) (fun _ _ => 0) 100))) : ∀ (m i : Nat), i + m = 100 → ∀ (kf : Nat → Option Nat) (sa ca pa : Nat → Nat), (∀ j, j < i → kf j = some (sa j)) → vG G C (1 + 3 * i) (100 + 85 * i) 25 [(0, .ref q_this), (1, .int (nI i))] [] ([(q_this, eO 0 [.ref q_k, .int (0 : Int32), .int (0 : Int32)]), (q_k, eS G 100 kf)] ++ hpool G sa ca pa (fun _ => 0) (fun _ => 0) (fun _ => 0) (fun _ _ => 0) (fun _ _ => 0) i) := by
  intro m
  induction m with
  | zero =>
    intro i hi kf sa ca pa hk
    have e : i = 100 := by omega
    subst e
    refine g_iload_n (pc := 25) 1 hC dX1_init_25 rfl ?_
    refine g_bipush (pc := 26) (100 : Int32) hC dX1_init_26 rfl ?_
    refine g_icmp_ge (pc := 28) 50 hC dX1_init_28 (by decide) (fun hb => ?_) (fun hb => absurd (by decide) hb)
    refine vG_via (ws2 := [(q_this, eO 0 [.ref q_k, .int (0 : Int32), .int (0 : Int32)]), (q_k, eS G 100 (fun i => some (sa i)))] ++ hpool G sa ca pa (fun _ => 0) (fun _ => 0) (fun _ => 0) (fun _ _ => 0) (fun _ _ => 0) 100) (fun H hP => ?_) (fun A hD => ?_) ?_
    · intro j x hx
      match j, hx with
      | 0, hx => exact hP 0 x hx
      | 1, hx =>
        have h1 := hP 1 _ rfl
        cases hx
        exact (va_at_q (fun j hj => hk j hj)).mp h1
      | j + 2, hx => exact hP (j + 2) x hx
    · exact va_D_fst (by rw [List.map_append, List.map_append]; rfl) hD
    · exact g_cret (pc := 50) hC hQ dX1_init_50 (fun i => ([fun _ => q_k, sa, ca, pa] : List (Nat → Nat)).getD i (fun _ => 0)) rfl
  | succ m ih =>
    intro i hi kf sa ca pa hk
    have hlt : i < 100 := by omega
    have hA : ([(q_this, eO 0 [.ref q_k, .int (0 : Int32), .int (0 : Int32)]), (q_k, eS G 100 kf)] ++ hpool G sa ca pa (fun _ => 0) (fun _ => 0) (fun _ => 0) (fun _ _ => 0) (fun _ _ => 0) i).length = 2 + 3 * i := by
      rw [List.length_append, hpool_len]; simp
    refine g_iload_n (pc := 25) 1 hC dX1_init_25 rfl ?_
    refine g_bipush (pc := 26) (100 : Int32) hC dX1_init_26 rfl ?_
    refine g_icmp_ge (pc := 28) 50 hC dX1_init_28 (by decide) (fun hb => absurd hb (nI_ge hlt (by decide))) (fun hb => ?_)
    refine g_aload_n (pc := 31) 0 hC dX1_init_31 rfl ?_
    refine g_get (pc := 32) 0 0 hC inX1 dX1_init_32 W2_76 rfl rfl (Nat.le_of_ble_eq_true rfl) rfl rfl ?_
    refine g_iload_n (pc := 35) 1 hC dX1_init_35 rfl ?_
    refine g_new (pc := 36) [.long (0 : Int64), .null, .null, .int (0 : Int32), .int (0 : Int32)] (fun q => ([(q_this, eO 0 [.ref q_k, .int (0 : Int32), .int (0 : Int32)]), (q_k, eS G 100 kf)] ++ hpool G sa ca pa (fun _ => 0) (fun _ => 0) (fun _ => 0) (fun _ _ => 0) (fun _ _ => 0) i) ++ [(q, eO 5 [.long (0 : Int64), .null, .null, .int (0 : Int32), .int (0 : Int32)])]) hC inX6 tyX6_ok W2_73 W2_38 W1_8 dX1_init_36 rfl (fun j hj => by match j, hj with | 0, _ => rfl | 1, _ => rfl | 2, _ => rfl | 3, _ => rfl | 4, _ => rfl) ⟨by show 1 + 3 * i + 1 ≤ 301; omega, by show 100 + 85 * i + 5 ≤ 8600; omega⟩ (fun _ => rfl) (fun q => ?_)
    refine g_dup (pc := 39) rfl hC dX1_init_39 ?_
    refine g_callIN (pc := 40) (st := [.ref q, .int (nI i), .ref q_k]) (wh := fun qs => [(q, eO 5 [.long (0 : Int64), .ref (qs 0 0), .ref (qs 1 0), .int (0 : Int32), .int (0 : Int32)])]) (wt := fun qs => [((qs 0 0), eI G 40 (fun _ => 0)), ((qs 1 0), eI G 40 (fun _ => 0))]) (ws2 := fun qs => ([(q_this, eO 0 [.ref q_k, .int (0 : Int32), .int (0 : Int32)]), (q_k, eS G 100 kf)] ++ hpool G sa ca pa (fun _ => 0) (fun _ => 0) (fun _ => 0) (fun _ _ => 0) (fun _ _ => 0) i) ++ [(q, eO 5 [.long (0 : Int64), .ref (qs 0 0), .ref (qs 1 0), .int (0 : Int32), .int (0 : Int32)]), ((qs 0 0), eI G 40 (fun _ => 0)), ((qs 1 0), eI G 40 (fun _ => 0))]) [2 + 3 * i] hC hO (c_X6_init G q (0, 0, 0, fun _ => 0, fun _ => 0) rfl) mY_X6_init rfl mN_X6_init (List.mem_of_getElem? (i := 5) rfl) dX1_init_40 rfl rfl rfl ?_ (fun _ => rfl) (fun qs => ?_) ⟨Nat.le_of_ble_eq_true rfl, Nat.le_of_ble_eq_true rfl⟩ ⟨by show 1 + 3 * i + 1 + 2 ≤ 301; omega, by show 100 + 85 * i + 5 + 80 ≤ 8600; omega⟩ (Nat.le_of_ble_eq_true rfl) (fun qs => ?_)
    · show [(([(q_this, eO 0 [.ref q_k, .int (0 : Int32), .int (0 : Int32)]), (q_k, eS G 100 kf)] ++ hpool G sa ca pa (fun _ => 0) (fun _ => 0) (fun _ => 0) (fun _ _ => 0) (fun _ _ => 0) i) ++ _)[2 + 3 * i]?] = _
      rw [List.getElem?_append_right (by omega), hA, Nat.sub_self]
      rfl
    · rw [← hA, vset_last, List.append_assoc]
      rfl
    · refine g_astS (pc := 43) (ws2 := ([(q_this, eO 0 [.ref q_k, .int (0 : Int32), .int (0 : Int32)]), (q_k, eS G 100 (va_up kf (nI i).toNatClampNeg (some q)))] ++ hpool G sa ca pa (fun _ => 0) (fun _ => 0) (fun _ => 0) (fun _ _ => 0) (fun _ _ => 0) i) ++ [(q, eO 5 [.long (0 : Int64), .ref (qs 0 0), .ref (qs 1 0), .int (0 : Int32), .int (0 : Int32)]), ((qs 0 0), eI G 40 (fun _ => 0)), ((qs 1 0), eI G 40 (fun _ => 0))]) 1 (2 + 3 * i) (vs := [.long (0 : Int64), .ref (qs 0 0), .ref (qs 1 0), .int (0 : Int32), .int (0 : Int32)]) hC dX1_init_43 rfl ?_ (vp_in_nI hlt (by decide)) rfl rfl ?_
      · rw [List.getElem?_append_right (by omega), hA, Nat.sub_self]
        rfl
      have hcl : (nI i).toNatClampNeg = i := nI_clamp (by omega)
      rw [hcl]
      refine g_iinc (pc := 44) 1 [(1, .int (nI (i + 1))), (0, .ref q_this)] hC dX1_init_44 rfl (nI_1 i) (Nat.le_of_ble_eq_true rfl) rfl ?_
      refine g_goto (pc := 47) 25 hC dX1_init_47 (by decide) ?_
      refine g_sub (lv2 := [(0, .ref q_this), (1, .int (nI (i + 1)))]) [1, 0] rfl ?_
      have hw : ([(q_this, eO 0 [.ref q_k, .int (0 : Int32), .int (0 : Int32)]), (q_k, eS G 100 (va_up kf i (some q)))] ++ hpool G sa ca pa (fun _ => 0) (fun _ => 0) (fun _ => 0) (fun _ _ => 0) (fun _ _ => 0) i) ++ [(q, eO 5 [.long (0 : Int64), .ref (qs 0 0), .ref (qs 1 0), .int (0 : Int32), .int (0 : Int32)]), ((qs 0 0), eI G 40 (fun _ => 0)), ((qs 1 0), eI G 40 (fun _ => 0))] = [(q_this, eO 0 [.ref q_k, .int (0 : Int32), .int (0 : Int32)]), (q_k, eS G 100 (va_up kf i (some q)))] ++ hpool G (va_up sa i q) (va_up ca i (qs 0 0)) (va_up pa i (qs 1 0)) (fun _ => 0) (fun _ => 0) (fun _ => 0) (fun _ _ => 0) (fun _ _ => 0) (i + 1) := by
        rw [hpool, List.append_assoc]
        have hX : ∀ (a b c : va_W), b = c → a ++ b = a ++ c := fun a b c h => by rw [h]
        refine hX _ _ _ ?_
        rw [hpool_congr G (sa := va_up sa i q) (sa' := sa) (ca' := ca) (pa' := pa) i (fun j hj => ⟨by simp [va_up, Nat.ne_of_lt hj], by simp [va_up, Nat.ne_of_lt hj], by simp [va_up, Nat.ne_of_lt hj], rfl, rfl, rfl, rfl, rfl⟩)]
        simp [va_up]
      refine vG_ws hw ?_
      have ek : 1 + 3 * i + 1 + 2 = 1 + 3 * (i + 1) := by omega
      have en : 100 + 85 * i + 5 + 80 = 100 + 85 * (i + 1) := by omega
      rw [ek, en]
      refine ih (i + 1) (by omega) _ _ _ _ (fun j hj => ?_)
      by_cases e : j = i
      · simp [va_up, e]
      · simp only [va_up, if_neg e]
        exact hk j (by omega)
set_option maxHeartbeats 4000000 in
set_option maxRecDepth 100000 in
theorem c_X1_init (G : Gx) (q_this : Nat) (R : Int32 × Int32 × (Nat → Int64) × (Nat → Int32) × (Nat → Int32) × (Nat → Nat → Int32) × (Nat → Nat → Int32)) (hf : f_X1_init = some R) : vMc G yX1_init cX1_init 2 2 60 301 8600 [.ref q_this] [(q_this, eO 0 [.null, .int (0 : Int32), .int (0 : Int32)])] (fun qs => [(q_this, eO 0 [.ref (qs 0 0), .int R.1, .int R.2.1])] ++ ([(qs 0 0, eS G 100 (fun i => some (qs 1 i)))] ++ hpool G (qs 1) (qs 2) (qs 3) R.2.2.1 R.2.2.2.1 R.2.2.2.2.1 R.2.2.2.2.2.1 R.2.2.2.2.2.2 100)) := by
  obtain rfl := Option.some.inj hf
  refine vMc_of (by decide +kernel) rfl (Nat.le_of_ble_eq_true rfl) [(0, .ref q_this)] rfl (fun C hC hO hQ => ?_)
  have hC : vH G C cX1_init RX1 2 none { frames := 2, cells := 301, slots := 8600, locals := 60 } := hC
  refine g_aload_n (pc := 0) 0 hC dX1_init_0 rfl ?_
  refine g_objInit (pc := 1) hC W2_72 W1_26 W1_27 dX1_init_1 (Nat.le_of_ble_eq_true rfl) (Nat.le_of_ble_eq_true rfl) ?_
  refine g_aload_n (pc := 4) 0 hC dX1_init_4 rfl ?_
  refine g_bipush (pc := 5) (100 : Int32) hC dX1_init_5 rfl ?_
  refine g_newaS (pc := 7) 100 (fun q => [(q_this, eO 0 [.null, .int (0 : Int32), .int (0 : Int32)]), (q, eS G 100 (fun _ => none))]) hC hO W2_73 dX1_init_7 (by decide) rfl (by decide) ⟨Nat.le_of_ble_eq_true rfl, Nat.le_of_ble_eq_true rfl⟩ (fun _ => rfl) (fun q_k => ?_)
  refine g_putF (pc := 10) (ws2 := [(q_this, eO 0 [.ref q_k, .int (0 : Int32), .int (0 : Int32)]), (q_k, eS G 100 (fun _ => none))]) 0 0 hC hO inX1 tyX1_ok nmX1 dX1_init_10 W2_76 rfl rfl (Nat.le_of_ble_eq_true rfl) rfl rfl rfl rfl rfl rfl (Nat.le_of_ble_eq_true rfl) rfl ?_
  refine g_aload_n (pc := 13) 0 hC dX1_init_13 rfl ?_
  refine g_iconst (pc := 14) (0 : Int32) hC dX1_init_14 rfl ?_
  refine g_put (pc := 15) (ws2 := [(q_this, eO 0 [.ref q_k, .int (0 : Int32), .int (0 : Int32)]), (q_k, eS G 100 (fun _ => none))]) 0 1 hC inX1 tyX1_ok nmX1 dX1_init_15 W2_77 rfl rfl (Nat.le_of_ble_eq_true rfl) rfl rfl rfl rfl rfl (Nat.le_of_ble_eq_true rfl) rfl ?_
  refine g_aload_n (pc := 18) 0 hC dX1_init_18 rfl ?_
  refine g_iconst (pc := 19) (0 : Int32) hC dX1_init_19 rfl ?_
  refine g_put (pc := 20) (ws2 := [(q_this, eO 0 [.ref q_k, .int (0 : Int32), .int (0 : Int32)]), (q_k, eS G 100 (fun _ => none))]) 0 2 hC inX1 tyX1_ok nmX1 dX1_init_20 W2_78 rfl rfl (Nat.le_of_ble_eq_true rfl) rfl rfl rfl rfl rfl (Nat.le_of_ble_eq_true rfl) rfl ?_
  refine g_iconst (pc := 23) (0 : Int32) hC dX1_init_23 rfl ?_
  refine g_istore_n (pc := 24) [(1, .int (0 : Int32)), (0, .ref q_this)] hC dX1_init_24 (Nat.le_of_ble_eq_true rfl) rfl ?_
  refine g_sub (lv2 := [(0, .ref q_this), (1, .int (nI 0))]) [1, 0] rfl ?_
  have h9 := w_X1_init_25 hC hO q_this q_k hQ 100 0 rfl (fun _ => none) (fun _ => 0) (fun _ => 0) (fun _ => 0) (fun j hj => absurd hj (Nat.not_lt_zero j))
  rw [hpool, List.append_nil] at h9
  exact h9
