theorem nwF_ok : ∀ q ∈ nwF, Cond.fieldLinkNest q.1 q.2.1 q.2.2.1 q.2.2.2.1 q.2.2.2.2.1 q.2.2.2.2.2 ∈ lw_tbl := List.forall_mem_cons.mpr ⟨W1_43, List.forall_mem_cons.mpr ⟨W1_45, List.forall_mem_cons.mpr ⟨W1_47, List.forall_mem_cons.mpr ⟨W1_49, List.forall_mem_cons.mpr ⟨W1_102, List.forall_mem_cons.mpr ⟨W1_105, List.forall_mem_cons.mpr ⟨W1_106, List.forall_mem_cons.mpr ⟨W1_108, List.forall_mem_cons.mpr ⟨W1_110, List.forall_mem_cons.mpr ⟨W1_111, List.forall_mem_cons.mpr ⟨W1_113, List.forall_mem_cons.mpr ⟨W1_114, List.forall_mem_cons.mpr ⟨W1_116, List.forall_mem_cons.mpr ⟨W1_117, List.forall_mem_cons.mpr ⟨W1_124, List.forall_mem_cons.mpr ⟨W1_126, List.forall_mem_cons.mpr ⟨W1_127, List.forall_mem_cons.mpr ⟨W1_129, List.forall_mem_cons.mpr ⟨W1_159, List.forall_mem_cons.mpr ⟨W1_161, List.forall_mem_cons.mpr ⟨W1_163, List.forall_mem_cons.mpr ⟨W1_165, List.forall_mem_cons.mpr ⟨W1_224, List.forall_mem_cons.mpr ⟨W1_225, List.forall_mem_cons.mpr ⟨W1_227, List.forall_mem_cons.mpr ⟨W1_228, List.forall_mem_cons.mpr ⟨W2_26, List.forall_mem_cons.mpr ⟨W2_28, List.forall_mem_cons.mpr ⟨W2_44, List.forall_mem_cons.mpr ⟨W2_46, List.forall_mem_cons.mpr ⟨W2_47, List.forall_mem_cons.mpr ⟨W2_49, List.forall_mem_cons.mpr ⟨W2_50, List.forall_mem_cons.mpr ⟨W2_52, List.forall_mem_cons.mpr ⟨W2_54, List.forall_mem_cons.mpr ⟨W2_55, List.forall_mem_cons.mpr ⟨W2_79, List.forall_mem_cons.mpr ⟨W3_78, List.forall_mem_cons.mpr ⟨W3_197, fun _ h => absurd h List.not_mem_nil⟩⟩⟩⟩⟩⟩⟩⟩⟩⟩⟩⟩⟩⟩⟩⟩⟩⟩⟩⟩⟩⟩⟩⟩⟩⟩⟩⟩⟩⟩⟩⟩⟩⟩⟩⟩⟩⟩⟩
theorem nwM_ok : ∀ q ∈ nwM, Cond.methodLinkNest q.1 q.2.1 q.2.2.1 q.2.2.2 ∈ lw_tbl := List.forall_mem_cons.mpr ⟨W1_30, List.forall_mem_cons.mpr ⟨W1_36, List.forall_mem_cons.mpr ⟨W1_207, List.forall_mem_cons.mpr ⟨W1_236, List.forall_mem_cons.mpr ⟨W2_39, List.forall_mem_cons.mpr ⟨W2_75, List.forall_mem_cons.mpr ⟨W2_89, List.forall_mem_cons.mpr ⟨W2_94, List.forall_mem_cons.mpr ⟨W3_190, fun _ h => absurd h List.not_mem_nil⟩⟩⟩⟩⟩⟩⟩⟩⟩
theorem sRf_ok : ∀ q ∈ sRf, Cond.stringRef q.1 q.2.1 q.2.2 ∈ lw_tbl := List.forall_mem_cons.mpr ⟨W2_203, List.forall_mem_cons.mpr ⟨W3_15, List.forall_mem_cons.mpr ⟨W3_16, List.forall_mem_cons.mpr ⟨W3_17, List.forall_mem_cons.mpr ⟨W3_18, List.forall_mem_cons.mpr ⟨W3_19, List.forall_mem_cons.mpr ⟨W3_20, List.forall_mem_cons.mpr ⟨W3_21, List.forall_mem_cons.mpr ⟨W3_22, List.forall_mem_cons.mpr ⟨W3_23, List.forall_mem_cons.mpr ⟨W3_147, List.forall_mem_cons.mpr ⟨W3_157, List.forall_mem_cons.mpr ⟨W3_158, List.forall_mem_cons.mpr ⟨W3_159, List.forall_mem_cons.mpr ⟨W3_160, List.forall_mem_cons.mpr ⟨W3_161, List.forall_mem_cons.mpr ⟨W3_162, List.forall_mem_cons.mpr ⟨W3_163, List.forall_mem_cons.mpr ⟨W3_164, List.forall_mem_cons.mpr ⟨W3_165, List.forall_mem_cons.mpr ⟨W3_166, List.forall_mem_cons.mpr ⟨W3_167, fun _ h => absurd h List.not_mem_nil⟩⟩⟩⟩⟩⟩⟩⟩⟩⟩⟩⟩⟩⟩⟩⟩⟩⟩⟩⟩⟩⟩
/-! what the Statement gives of the start -/
def NL : List Cond := flatC (Jvm.Cond.and given_1 narrow_1)
def tmS (i : Nat) : Term := match sRf[i]? with
  | some q => .string q.1 q.2.1
  | none => .arg 0
def vlS (i : Nat) : Term := .field (tmS i) "java/lang/String" "value" "[B"
def sgH (i : Nat) : List Cond := [.exactly (tmS i) "java/lang/String", .eq (.field (tmS i) "java/lang/String" "coder" "B") (.int 0), .arrayOf (vlS i) .byte, .eq (.length (vlS i)) (.int (Int32.ofNat (sLe.getD i 0)))]
def sgE (i : Nat) : List Cond := (List.range (sLe.getD i 0)).map (fun j => .eq (.elem (vlS i) (.int (Int32.ofNat j))) (.int ((sBy.getD i []).getD j 0)))
def sgN (i : Nat) : List Cond := (List.range i).map (fun j => .not (.eq (tmS j) (tmS i)))
def sg (i : Nat) : List Cond := sgH i ++ (sgE i ++ sgN i)
theorem NL_eq : ((List.range 22).flatMap sg).isPrefixOf (NL.drop 26) = true := by decide +kernel
theorem NL_sg {i : Nat} (hi : i < 22) {c : Cond} (h : c ∈ sg i) : c ∈ NL := by
  have h1 : c ∈ (List.range 22).flatMap sg := List.mem_flatMap.mpr ⟨i, List.mem_range.mpr hi, h⟩
  exact List.mem_of_mem_drop ((List.isPrefixOf_iff_prefix.mp NL_eq).subset h1)
def tFE : Term := .static "CoilBench" "FIRST_END" "[I"
def tMO : Term := .static "CoilBench" "MOST" "[I"
theorem NL_fe : Cond.arrayOf tFE .int ∈ NL ∧ Cond.eq (.length tFE) (.int 6) ∈ NL ∧ (∀ j, j < 6 → Cond.eq (.elem tFE (.int (Int32.ofNat j))) (.int (cFE j)) ∈ NL) := by decide +kernel
theorem NL_mo : Cond.arrayOf tMO .int ∈ NL ∧ Cond.eq (.length tMO) (.int 5) ∈ NL ∧ (∀ j, j < 5 → Cond.eq (.elem tMO (.int (Int32.ofNat j))) (.int (cMO j)) ∈ NL) := by decide +kernel
theorem NL_ot : Cond.eq (.static "java/lang/String" "COMPACT_STRINGS" "Z") (.int 1) ∈ NL ∧ Cond.isRef (.static "jdk/internal/util/Preconditions" "SIOOBE_FORMATTER" "Ljava/util/function/BiFunction;") ∈ NL := by decide +kernel
def adrs (a b : Nat) (K V : Nat → Nat) (n : Nat) : Nat := match n with
  | 0 => a
  | 1 => b
  | n + 2 => if n % 2 = 0 then K (n / 2) else V (n / 2)
theorem env_start {s : State} {b : Nat} {A : Nat → Prop} (l : Launch) (dC : va_G) (tys : Nat → ClassId) (hts : ∀ w ∈ lw_tbl, w.before #[Value.ref b] s = true) (hgv : (Jvm.Cond.and given_1 narrow_1).before #[Value.ref b] s = true) (hA : ∀ a : Nat, a < s.heap.size → ¬ A a) : ∃ ad : Nat → Nat, vE (l, dC, tys, ad) A s s.heap := by
  have hs : ∀ c ∈ NL, c.before #[Value.ref b] s = true := flat_of_before _ hgv
  obtain ⟨adK, adV, hS, hev⟩ := vk_Sof (args := #[Value.ref b]) (s := s) (N := 22) (tm := tmS) (len := sLe) (byt := sBy) (A := A) (fun i hi => (by decide +kernel : ∀ i : Nat, i < 22 → sLe.getD i 0 < 2 ^ 31) i hi)
    (fun i hi => hs _ (NL_sg hi (List.mem_append_left _ (.head _)))) (fun i hi => hs _ (NL_sg hi (List.mem_append_left _ (.tail _ (.head _))))) (fun i hi => hs _ (NL_sg hi (List.mem_append_left _ (.tail _ (.tail _ (.head _)))))) (fun i hi => hs _ (NL_sg hi (List.mem_append_left _ (.tail _ (.tail _ (.tail _ (.head _)))))))
    (fun i hi j hj => hs _ (NL_sg hi (List.mem_append_right _ (List.mem_append_left _ (List.mem_map.mpr ⟨j, List.mem_range.mpr hj, rfl⟩)))))
    (fun i j hi hj hij => by
      rcases Nat.lt_or_gt_of_ne hij with h | h
      · exact Or.inl (hs _ (NL_sg hj (List.mem_append_right _ (List.mem_append_right _ (List.mem_map.mpr ⟨i, List.mem_range.mpr h, rfl⟩)))))
      · exact Or.inr (hs _ (NL_sg hi (List.mem_append_right _ (List.mem_append_right _ (List.mem_map.mpr ⟨j, List.mem_range.mpr h, rfl⟩)))))) hA
  obtain ⟨tf, hf1, hf2⟩ := va_Tof (args := #[Value.ref b]) (s := s) (tm := tFE) (ty := .int) (N := 6) (f := fun j => .int (cFE j)) (A := A) (by decide) (hs _ NL_fe.1) (va_eqt (hs _ NL_fe.2.1)) (fun j hj => va_eqt (hs _ (NL_fe.2.2 j hj))) hA
  obtain ⟨tm, hm1, hm2⟩ := va_Tof (args := #[Value.ref b]) (s := s) (tm := tMO) (ty := .int) (N := 5) (f := fun j => .int (cMO j)) (A := A) (by decide) (hs _ NL_mo.1) (va_eqt (hs _ NL_mo.2.1)) (fun j hj => va_eqt (hs _ (NL_mo.2.2 j hj))) hA
  have hini := hts _ (tb_lw W1_1)
  have eK : sK (l, dC, tys, adrs tf tm adK adV) = adK := funext fun i => by
    show adrs tf tm adK adV (2 + 2 * i) = adK i
    rw [Nat.add_comm]
    show (if (2 * i) % 2 = 0 then adK (2 * i / 2) else adV (2 * i / 2)) = adK i
    rw [if_pos (by omega), show 2 * i / 2 = i by omega]
  have eV : sV (l, dC, tys, adrs tf tm adK adV) = adV := funext fun i => by
    show adrs tf tm adK adV (3 + 2 * i) = adV i
    rw [show 3 + 2 * i = (2 * i + 1) + 2 by omega]
    show (if (2 * i + 1) % 2 = 0 then adK ((2 * i + 1) / 2) else adV ((2 * i + 1) / 2)) = adV i
    rw [if_neg (by omega), show (2 * i + 1) / 2 = i by omega]
  refine ⟨adrs tf tm adK adV, ⟨va_Zref (hts _ W1_103) hini hf1 hA, hf2⟩, ⟨va_Zref (hts _ W3_79) hini hm1 hA, hm2⟩, va_Zof (hts _ W2_216) (hts _ (tb_lw W1_14)) (va_eqt (hs _ NL_ot.1)) hA, va_Zqof (hts _ W2_232) (hts _ (tb_lw W1_16)) (hs _ NL_ot.2) hA, ?_, ?_, ?_, ?_⟩
  · rw [eK, eV]; exact hS
  · intro i q hq
    rw [eK]
    have hi : i < 22 := (List.getElem?_eq_some_iff.mp hq).1
    have e := hev i hi
    have e2 : tmS i = .string q.1 q.2.1 := by unfold tmS; rw [hq]
    rw [e2] at e
    exact vk_R.of (hts _ (sRf_ok q (List.mem_of_getElem? hq))) e
  · exact fun q hq => va_tabs rfl rfl (hts _ (nwF_ok q hq))
  · exact fun q hq => va_tabs rfl rfl (hts _ (nwM_ok q hq))
theorem arr_start {s : State} {args : Array Value} {ty : FieldType} (h : (Cond.arrayClass ty).before args s = true) (hr : ∀ c : ClassId, s.vm.findClass ("[" ++ ty.toString) = some c → va_RA s c ty) : ∃ c, ArrOfT s c ty ∧ va_RA s c ty := by
  obtain ⟨c, k, comp, h1, h2, h3⟩ := Cond.arrayClass_spec h
  exact ⟨c, fun N z => ⟨(fun k h => by cases h), k, h2, comp, h3⟩, hr c h1⟩
theorem known_start {s : State} {b : Nat} (d0 : ClassId) (hts0 : ∀ w ∈ lw_tbl, w.before #[Value.ref b] s = true) : ∃ (dC : va_G) (tys : Nat → ClassId), ∀ l ad, va_K dC classes (tysG (l, dC, tys, ad)) s := by
  have hts : ∀ w ∈ TB, w.before #[Value.ref b] s = true := fun w hw => hts0 w (tb_lw hw)
  have h0 : ∀ k : Nat, ∃ x : ClassId × (Nat → Nat), ∀ q, classes[k]? = some q → u_Kn s q.1 q.2.1 q.2.2 x.1 x.2 := fun k => match k with
    | 0 => by
      obtain ⟨c, f, h⟩ := u_known (ws := TB) (C := RX1) (T := TX1) (N := 3) (n := 3) hts inX1 (hts _ W2_68)
      exact ⟨(c, f), fun q hq => by cases hq; exact h⟩
    | 1 => by
      obtain ⟨c, f, h⟩ := u_known (ws := TB) (C := RX2) (T := TX2) (N := 3) (n := 3) hts inX2 (hts _ W1_206)
      exact ⟨(c, f), fun q hq => by cases hq; exact h⟩
    | 2 => by
      obtain ⟨c, f, h⟩ := u_known (ws := TB) (C := RX3) (T := TX3) (N := 13) (n := 13) hts inX3 (hts _ W1_67)
      exact ⟨(c, f), fun q hq => by cases hq; exact h⟩
    | 3 => by
      obtain ⟨c, f, h⟩ := u_known (ws := TB) (C := RX4) (T := TX4) (N := 5) (n := 5) hts inX4 (hts _ W2_88)
      exact ⟨(c, f), fun q hq => by cases hq; exact h⟩
    | 4 => by
      obtain ⟨c, f, h⟩ := u_known (ws := TB) (C := RX5) (T := TX5) (N := 14) (n := 14) hts inX5 (hts _ W1_29)
      exact ⟨(c, f), fun q hq => by cases hq; exact h⟩
    | 5 => by
      obtain ⟨c, f, h⟩ := u_known (ws := TB) (C := RX6) (T := TX6) (N := 5) (n := 5) hts inX6 (hts _ W2_38)
      exact ⟨(c, f), fun q hq => by cases hq; exact h⟩
    | 6 => by
      obtain ⟨c, f, h⟩ := u_known (ws := TB) (C := RX7) (T := TX7) (N := 6) (n := 6) hts inX7 (hts _ W1_35)
      exact ⟨(c, f), fun q hq => by cases hq; exact h⟩
    | 7 => by
      obtain ⟨c, f, h⟩ := u_known (ws := TB) (C := RX8) (T := TX8) (N := 8) (n := 8) hts inX8 (hts _ W1_235)
      exact ⟨(c, f), fun q hq => by cases hq; exact h⟩
    | 8 => by
      obtain ⟨c, f, h⟩ := u_known (ws := TB) (C := RX9) (T := TX9) (N := 2) (n := 2) hts inX9 (hts _ W1_214)
      exact ⟨(c, f), fun q hq => by cases hq; exact h⟩
    | 9 => by
      obtain ⟨c, f, h⟩ := u_known (ws := TB) (C := RX10) (T := TX10) (N := 9) (n := 9) hts inX10 (hts _ W1_21)
      exact ⟨(c, f), fun q hq => by cases hq; exact h⟩
    | 10 => by
      obtain ⟨c, f, h⟩ := u_known (ws := TB) (C := RX11) (T := TX11) (N := 46) (n := 46) hts inX11 (hts _ W4_145)
      exact ⟨(c, f), fun q hq => by cases hq; exact h⟩
    | k + 11 => ⟨(d0, fun _ => 0), fun q hq => by simp [classes] at hq⟩
  obtain ⟨D, hD⟩ := Classical.axiomOfChoice h0
  obtain ⟨t0, a0, r0⟩ := arr_start (hts0 _ (tb_lw W1_64)) (fun _ h => h)
  obtain ⟨t1, a1, r1⟩ := arr_start (hts0 _ (tb_lw W1_63)) (fun _ h => h)
  obtain ⟨t2, a2, r2⟩ := arr_start (hts0 _ (tb_lw W1_157)) (fun _ h => h)
  obtain ⟨t3, a3, r3⟩ := arr_start (hts0 _ (tb_lw W1_65)) (fun _ h => h)
  obtain ⟨cp4, t4, k4, p1, p2, p3, p4, p5⟩ := Cond.arrayOver_spec (hts0 _ W2_74)
  obtain ⟨cp5, t5, k5, u1, u2, u3, u4, u5⟩ := va_AOA_spec (t := .long) (hts0 _ W1_73)
  refine ⟨(fun k => (D k).1, fun k => (D k).2), fun i => match i with | 0 => t0 | 1 => t1 | 2 => t2 | 3 => t3 | 4 => t4 | _ => t5, fun l ad => ⟨fun k q hq => hD k q hq, fun k q hq => ?_⟩⟩
  match k, hq with
  | 0, hq => cases hq; exact ⟨a0, r0⟩
  | 1, hq => cases hq; exact ⟨a1, r1⟩
  | 2, hq => cases hq; exact ⟨a2, r2⟩
  | 3, hq => cases hq; exact ⟨a3, r3⟩
  | 4, hq => cases hq; exact ⟨fun N z => ⟨(fun k h => by cases h), k4, p3, cp4, p4⟩, k4, cp4, p3, p4, p1, p5⟩
  | 5, hq => cases hq; exact ⟨fun N z => ⟨(fun k h => by cases h), k5, u3, cp5, u4⟩, u5⟩
  | k + 6, hq => simp at hq
