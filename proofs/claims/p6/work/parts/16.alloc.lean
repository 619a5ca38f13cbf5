/-! what a constructor makes -/
def va_AOA (ty : FieldType) (U : State) : Prop := (Cond.arrayOver (.array ty)).before #[] U = true
theorem va_AOA.use {ty : FieldType} {A : Array Value} {U : State} (h : va_AOA ty U) : (Cond.arrayOver (.array ty)).before A U = true := h
theorem va_AOA_spec {s : State} {t : FieldType} (h : va_AOA t s) : ∃ comp c k, s.vm.findClass (FieldType.array t).toString = some comp ∧ (s.vm.classes.findIdx? fun x => match x.kind with | .array component _ => component == comp | _ => false) = some c ∧ s.vm.classes[c]? = some k ∧ k.kind = .array comp (.array t) ∧ s.vm.findClass ("[" ++ (FieldType.array t).toString) = some c := by
  unfold va_AOA Cond.before at h
  simp only [Cond.holds, Cond.value, beq_iff_eq] at h
  cases hc : s.vm.findClass (FieldType.array t).toString with
  | none => simp [hc] at h
  | some comp =>
    simp only [hc, Option.bind_some, Option.bind_eq_some_iff, Option.map_eq_some_iff] at h
    obtain ⟨c, hi, k, hk, hb⟩ := h
    obtain ⟨hlt, hp, -⟩ := Array.findIdx?_eq_some_iff_getElem.mp hi
    have hkk : s.vm.classes[c] = k := (Array.getElem?_eq_some_iff.mp hk).2
    rw [hkk] at hp
    cases hkind : k.kind with
    | array component ty =>
      rw [hkind] at hb hp
      simp at hb hp
      exact ⟨comp, c, k, rfl, hi, hk, by rw [hkind, hp, hb.1], hb.2⟩
    | _ => rw [hkind] at hb; simp at hb
theorem va_AOA.moved {C : FieldType} {u U : State} (hvm : u.vm.Alike U.vm) (h : va_AOA C u) : va_AOA C U := by
  obtain ⟨comp, c, k, h1, h2, h3, h4, h5⟩ := va_AOA_spec h
  obtain ⟨k', hk', he⟩ := hvm.2.2 _ _ h3
  have hi : (U.vm.classes.findIdx? fun (x : Class) => match x.kind with | .array component _ => component == comp | _ => false) = some c := by
    have e1 := va_idx_bare U.vm comp
    have e2 := va_idx_bare u.vm comp
    have hbq : U.vm.bare = u.vm.bare := by first | exact hvm.bare_eq | exact hvm.bare_eq.symm
    rw [hbq] at e1
    exact e1.symm.trans (e2.trans h2)
  have hkind : k'.kind = .array comp (.array C) := by rw [he]; exact h4
  have f1 : U.vm.findClass (FieldType.array C).toString = some comp := by rw [hvm.findClass]; exact h1
  have f2 : U.vm.findClass ("[" ++ (FieldType.array C).toString) = some c := by rw [hvm.findClass]; exact h5
  unfold va_AOA Cond.before Cond.holds
  simp only [Cond.value]
  rw [f1, Option.bind_some]
  refine (congrArg (fun o : Option Nat => (o.bind (fun c => (U.vm.classes[c]?).map fun (k : Class) => match k.kind with | .array _ ty => decide (ty = FieldType.array C) && decide (U.vm.findClass ("[" ++ (FieldType.array C).toString) = some c) | _ => false) == some true)) hi).trans ?_
  simp [hk', hkind, f2]
/-! ===== BEGIN new T[n][m]: the outer array a place, the inner ones among the pooled ===== -/
/-- f, but v at every address of l -/
def vr_up {α : Type} (f : Nat → α) (l : List Nat) (v : α) : Nat → α := fun a => if a ∈ l then v else f a
theorem vr_up_in {α : Type} {f : Nat → α} {l : List Nat} {v : α} {a : Nat} (h : a ∈ l) : vr_up f l v a = v := if_pos h
theorem vr_up_ne {α : Type} {f : Nat → α} {l : List Nat} {v : α} {a : Nat} (h : a ∉ l) : vr_up f l v a = f a := if_neg h
theorem vr_rows {L l : List Nat} {f : Nat → va_E} {e : va_E} (h : ∀ a, a ∈ l → a ∉ L) : va_pl L f ++ l.map (fun a => (a, e)) = va_pl (L ++ l) (vr_up f l e) := by
  unfold va_pl
  rw [List.map_append]
  congr 1
  · apply List.map_congr_left
    intro a ha
    rw [vr_up_ne (fun q => h a q ha)]
  · apply List.map_congr_left
    intro a ha
    rw [vr_up_in ha]
theorem vr_lay {X rows : va_W} {x : Nat × va_E} {pl : va_W} {D : va_G} {cl : List vw_C} {H : Heap} (hP : va_P D cl (((X ++ pl) ++ [x]) ++ rows) H) : va_P D cl ((X ++ [x]) ++ (pl ++ rows)) H := by
  rw [List.append_assoc (X ++ pl)] at hP
  have h := va_P.swap hP
  rw [← List.append_assoc X] at h
  have h2 := va_P.swap h
  rw [List.append_assoc (X ++ [x])] at h2
  exact h2
theorem vr_layD {X rows : va_W} {x : Nat × va_E} {pl : va_W} {A : Nat → Prop} (hD : va_D A (((X ++ pl) ++ [x]) ++ rows)) : va_D A ((X ++ [x]) ++ (pl ++ rows)) := by
  rw [List.append_assoc (X ++ pl)] at hD
  have h := va_D.swap hD
  rw [← List.append_assoc X] at h
  have h2 := va_D.swap h
  rw [List.append_assoc (X ++ [x])] at h2
  exact h2
theorem vr_outer (c : ClassId) (N h0 : Nat) : ∀ i : Nat, Jvm.Free.Multi.outerC c N h0 i = arrV c N (fun j => va_rf (if j < i then some (h0 + 1 + j) else none))
  | 0 => by
    show ({ cls := c, slots := Array.replicate N .null, vm := .none } : Cell) = _
    rw [arrV_new]
    refine congrArg (arrV c N) (funext fun j => ?_)
    simp [va_rf]
  | i + 1 => by
    show (Jvm.Free.Multi.outerC c N h0 i).setSlot i (.ref (h0 + 1 + i)) = _
    rw [vr_outer c N h0 i, arrV_store]
    refine congrArg (arrV c N) (funext fun j => ?_)
    by_cases e : j = i
    · subst e
      simp [updV, va_rf]
    · by_cases h : j < i
      · simp [updV, e, h, Nat.lt_succ_of_lt h]
      · simp [updV, e, h, show ¬ j < i + 1 by omega]
section VGM
variable {p : Program} {l : Launch} {e : Env} {R : Room} {s : State} {m : MethodId} {args : Array Value} {below : List Frame} {meth : Method} {c : Code} {H : Heap} {locs : List Loc} {cells slots : Nat} {Q : State → Prop}
variable {cc : ByteArray} {pc : Nat} {ls : Array Slot} {rest : List Value} {D : va_G} {cl : List vw_C} {A : Nat → Prop} {a : Nat} {tys : List (ClassId × FieldType)} {ws : va_W} {H0 : Heap}
theorem va_mna {X : va_W} {L : List Nat} {f : Nat → va_E} {cc : ByteArray} (hexec : p.tables.exec = Jvm.exec) (hb : c.code = cc) {own : String} {index : Nat} {ty : FieldType} {cy : ClassId} (hown : s.vm.findClass own = some m.cls) (hclink : (Cond.classLink own index ("[" ++ (FieldType.array ty).toString)).before args s = true) (hover : va_AOA ty s) (harr : (Cond.arrayClass ty).before args s = true) (hcy : s.vm.findClass (FieldType.array ty).toString = some cy)
    (hK : va_K D cl tys s) (hP : va_P D cl (X ++ va_pl L f) H) (hD : va_D A (X ++ va_pl L f)) (hS : va_S A H0 H locs) (hA : ∀ q, H0.size ≤ q → A q) {n k : Int32} {N' K' : Nat} {z : vp_A} (hn : ¬ n < 0) (hk : ¬ k < 0) (hN : n.toNatClampNeg = N') (hM : k.toNatClampNeg = K')
    (hb1 : N' * 4 ≤ 536870912) (hb2 : K' * componentBytes ty ≤ 536870912) (hb3 : K' ≤ 536870912) (hdf : fits ty (defaultValue ty) = true) (hdd : (defaultValue ty).isDefault = true) (hcells : cells + (1 + N') ≤ R.cells) (hslots : slots + (N' + N' * K') ≤ R.slots) (hz : ∀ c : ClassId, Jvm.Free.Multi.innerC c K' (defaultValue ty) = vp_cell c z) (hdg : decode cc pc = .ok (.multianewarray index 2, 4))
    (kk : ∀ (q : Nat) (r : Nat → Nat) (cA : ClassId) (H1 : Heap), (∀ i j : Nat, i < N' → j < N' → r i = r j → i = j) → (∀ i : Nat, i < N' → r i ∉ L) → va_K D cl (tys ++ [(cA, .array ty)]) s →
      va_P D cl ((X ++ [(q, .inl (cA, N', .inr (.inr (.inr (.inr (fun i => if i < N' then some (r i) else none))))))]) ++ va_pl (L ++ (List.range N').map r) (vr_up f ((List.range N').map r) (.inl (cy, z)))) H1 → va_D A ((X ++ [(q, .inl (cA, N', .inr (.inr (.inr (.inr (fun i => if i < N' then some (r i) else none))))))]) ++ va_pl (L ++ (List.range N').map r) (vr_up f ((List.range N').map r) (.inl (cy, z)))) → va_S A H0 H1 locs →
      W p l e R s m args below meth c H1 locs (cells + 1 + N') (slots + N' + N' * K') Q (F0 m (pc + 4) ls (.ref q :: rest))) : W p l e R s m args below meth c H locs cells slots Q (F0 m pc ls (.int k :: .int n :: rest)) := by
  subst hN
  subst hM
  intro T hT Xs
  obtain ⟨vm₁, cA, comp, -, fA, fC, hO, -, X', step⟩ := Xs.multianewarray2F hexec hown hclink (va_AOA.use hover) harr (g := F0 m pc ls (.int k :: .int n :: rest)) rfl (by rw [hb]; exact hdg) rfl hn hk hb1 hb2 hb3 hdf hdd hcells hslots
  have ec : some cy = some comp := hcy.symm.trans fC
  cases ec
  generalize hF : Jvm.Free.Multi.fill (T.setVm vm₁) cA cy n.toNatClampNeg k.toNatClampNeg (defaultValue ty) n.toNatClampNeg = F at X' step
  have hTh : (T.setVm vm₁).heap = H := hT
  obtain ⟨f1, f2, -, -⟩ := Jvm.Free.Multi.fill_facts (T.setVm vm₁) cA cy n.toNatClampNeg k.toNatClampNeg (defaultValue ty) n.toNatClampNeg
  rw [hF, hTh] at f1 f2
  have hold : ∀ x : Nat, x < H.size → F.heap[x]? = H[x]? := fun x hx => by
    have := Jvm.Free.Multi.fill_old (T.setVm vm₁) cA cy n.toNatClampNeg k.toNatClampNeg (defaultValue ty) (a := x) (by rw [hTh]; exact hx) n.toNatClampNeg
    rw [hF, hTh] at this
    exact this
  have hrow : ∀ j : Nat, j < n.toNatClampNeg → F.heap[H.size + 1 + j]? = some (vp_cell cy z) := fun j hj => by
    have := Jvm.Free.Multi.fill_inner (T.setVm vm₁) cA cy n.toNatClampNeg k.toNatClampNeg (defaultValue ty) n.toNatClampNeg j hj
    rw [hF, hTh, hz] at this
    exact this
  have hout : Jvm.Free.Multi.outerC cA n.toNatClampNeg H.size n.toNatClampNeg = vp_cell cA (n.toNatClampNeg, .inr (.inr (.inr (.inr (fun i => if i < n.toNatClampNeg then some (H.size + 1 + i) else none))))) := by
    rw [vp_cell_q]
    exact vr_outer cA n.toNatClampNeg H.size n.toNatClampNeg
  rw [hout] at f2
  have hlt : ∀ a, a ∈ L → a < H.size := fun a ha => by
    obtain ⟨k9, hk9⟩ := va_pl_get (X := X) (f := f) ha
    exact (hP k9 _ hk9).lt
  have hnl : ∀ i : Nat, i < n.toNatClampNeg → H.size + 1 + i ∉ L := fun i _ h => by
    have := hlt _ h
    omega
  have hnm : ∀ a, a ∈ (List.range n.toNatClampNeg).map (fun i => H.size + 1 + i) → a ∉ L := fun a ha h => by
    obtain ⟨i, -, rfl⟩ := List.mem_map.mp ha
    have := hlt _ h
    omega
  have hP0 : va_P D cl (X ++ va_pl L f) F.heap := hP.kept (fun k9 x hx => hold x.1 ((hP k9 x hx).lt))
  have hP1 : va_P D cl ((X ++ va_pl L f) ++ [(H.size, .inl (cA, n.toNatClampNeg, .inr (.inr (.inr (.inr (fun i => if i < n.toNatClampNeg then some (H.size + 1 + i) else none))))))]) F.heap := hP0.app (fun k9 x hx => by
    have h0 : k9 < 1 := (List.getElem?_eq_some_iff.mp hx).1
    rw [show k9 = 0 by omega] at hx
    cases hx
    exact f2)
  have hP2 : va_P D cl (((X ++ va_pl L f) ++ [(H.size, .inl (cA, n.toNatClampNeg, .inr (.inr (.inr (.inr (fun i => if i < n.toNatClampNeg then some (H.size + 1 + i) else none))))))]) ++ ((List.range n.toNatClampNeg).map (fun i => H.size + 1 + i)).map (fun a => (a, .inl (cy, z)))) F.heap := hP1.app (fun k9 x hx => by
    obtain ⟨a, ha, rfl⟩ := List.mem_map.mp (List.mem_of_getElem? hx)
    obtain ⟨i, hi, rfl⟩ := List.mem_map.mp ha
    exact hrow i (List.mem_range.mp hi))
  have hD2 : va_D A (((X ++ va_pl L f) ++ [(H.size, .inl (cA, n.toNatClampNeg, .inr (.inr (.inr (.inr (fun i => if i < n.toNatClampNeg then some (H.size + 1 + i) else none))))))]) ++ ((List.range n.toNatClampNeg).map (fun i => H.size + 1 + i)).map (fun a => (a, .inl (cy, z)))) := by
    have hD1 := hD.push (e := .inl (cA, n.toNatClampNeg, .inr (.inr (.inr (.inr (fun i => if i < n.toNatClampNeg then some (H.size + 1 + i) else none)))))) hP rfl (hA _ hS.1)
    generalize hW1 : (X ++ va_pl L f) ++ [(H.size, .inl (cA, n.toNatClampNeg, .inr (.inr (.inr (.inr (fun i => if i < n.toNatClampNeg then some (H.size + 1 + i) else none))))))] = W1 at hD1 hP1 ⊢
    have hle : ∀ (k9 : Nat) (x : Nat × va_E), W1[k9]? = some x → x.1 ≤ H.size := fun k9 x hx => by
      rw [← hW1] at hx
      by_cases hl : k9 < (X ++ va_pl L f).length
      · rw [List.getElem?_append_left hl] at hx
        exact Nat.le_of_lt ((hP k9 x hx).lt)
      · rw [List.getElem?_append_right (by omega)] at hx
        have h0 : k9 - (X ++ va_pl L f).length < 1 := (List.getElem?_eq_some_iff.mp hx).1
        rw [show k9 - (X ++ va_pl L f).length = 0 by omega] at hx
        cases hx
        exact Nat.le_refl _
    have hr : ∀ (k9 : Nat) (x : Nat × va_E), (((List.range n.toNatClampNeg).map (fun i => H.size + 1 + i)).map (fun a => ((a, .inl (cy, z)) : Nat × va_E)))[k9]? = some x → x.1 = H.size + 1 + k9 := fun k9 x hx => by
      rw [List.getElem?_map, List.getElem?_map] at hx
      by_cases h9 : k9 < n.toNatClampNeg
      · rw [List.getElem?_range h9] at hx
        cases hx
        rfl
      · have hn0 : (List.range n.toNatClampNeg)[k9]? = none := List.getElem?_eq_none (by rw [List.length_range]; omega)
        rw [hn0] at hx
        cases hx
    refine ⟨fun i j x y hi hj hxy => ?_, fun k9 x hx => ?_⟩
    · by_cases h1 : i < W1.length <;> by_cases h2 : j < W1.length
      · rw [List.getElem?_append_left h1] at hi
        rw [List.getElem?_append_left h2] at hj
        exact hD1.1 i j x y hi hj hxy
      · rw [List.getElem?_append_left h1] at hi
        rw [List.getElem?_append_right (by omega)] at hj
        have := hle _ _ hi
        have := hr _ _ hj
        omega
      · rw [List.getElem?_append_right (by omega)] at hi
        rw [List.getElem?_append_left h2] at hj
        have := hle _ _ hj
        have := hr _ _ hi
        omega
      · rw [List.getElem?_append_right (by omega)] at hi hj
        have := hr _ _ hi
        have := hr _ _ hj
        omega
    · by_cases h1 : k9 < W1.length
      · rw [List.getElem?_append_left h1] at hx
        exact hD1.2 k9 x hx
      · rw [List.getElem?_append_right (by omega)] at hx
        have := hr _ _ hx
        exact hA _ (by have := hS.1; omega)
  have hAr : ArrOfT s cA (.array ty) := fun N9 z9 => by
    obtain ⟨-, k9, hk9, cm9, hkk9⟩ := (hO 0 0 0).1
    exact ⟨(fun q hq => by cases hq), k9, hk9, cm9, hkk9⟩
  have hK2 : va_K D cl (tys ++ [(cA, .array ty)]) s := ⟨hK.1, fun k9 x hx => by
    by_cases hl : k9 < tys.length
    · rw [List.getElem?_append_left hl] at hx
      exact hK.2 k9 x hx
    · rw [List.getElem?_append_right (by omega)] at hx
      have h0 : k9 - tys.length < 1 := (List.getElem?_eq_some_iff.mp hx).1
      rw [show k9 - tys.length = 0 by omega] at hx
      cases hx
      exact ⟨hAr, fA⟩⟩
  obtain ⟨t, a1, b1⟩ := kk H.size (fun i => H.size + 1 + i) cA F.heap (fun i j _ _ h => by have h9 : H.size + 1 + i = H.size + 1 + j := h; omega) hnl hK2 (by rw [← vr_rows hnm]; exact vr_lay hP2) (by rw [← vr_rows hnm]; exact vr_layD hD2) ⟨by rw [f1]; have := hS.1; omega, fun x h1 h2 => (hold x (Nat.lt_of_lt_of_le h1 hS.1)).trans (hS.2.1 x h1 h2), hS.2.2⟩ F rfl X'
  refine ⟨t, step t ?_, b1⟩
  have e : T.heap.size = H.size := by rw [hT]
  rw [e]
  exact a1
end VGM
/-! ===== END ===== -/
def vO (U : State) : Prop := va_AO "CoilBench$State" U ∧ va_AOA .long U
def vOC : Cx → Prop
  | (_, _, _, s, _, _, _, meth, _, _, _) => vO s ∧ meth.name = "<init>"
def vQc (G : Gx) (A : Nat → Prop) (wn : (Nat → Nat → Nat) → va_W) : Array Value → State → Outcome → State → Prop := fun _ st oc t => (oc = .returned none ∧ ∃ qs : Nat → Nat → Nat, va_P G.2.1 classes (wn qs) t.heap ∧ va_D A (wn qs)) ∧ va_F A st t
def vRc (G : Gx) : Cx → Nat → Nat → ((Nat → Nat → Nat) → va_W) → Prop
  | (_, _, _, s, _, args, below, _, _, A, Q), k, n, wn => Q = MQ below (vQc G A wn) args s k n A
def vMc (G : Gx) (y : MethodName) (cc : ByteArray) (nL fr lo mc ms : Nat) (as : List Value) (ws : va_W) (wn : (Nat → Nat → Nat) → va_W) : Prop :=
  ∀ sz : Nat, Met G.1 y (Cond.code y cc nL none :: TB) { frames := fr, cells := mc, slots := ms, locals := lo } (va_Pc as (fun U => U.heap.size = sz ∧ va_P G.2.1 classes ws U.heap ∧ va_K G.2.1 classes (tysG G) U ∧ va_D (fun _ => True) ws ∧ vE G (va_A ws sz) U U.heap ∧ vO U)) (vQc G (va_A ws sz) wn) mc ms (va_A ws sz)
theorem vO.warm {s U : State} (h : s.vm.Alike U.vm) (hO : vO s) : vO U := ⟨va_AO.moved h hO.1, va_AOA.moved h hO.2⟩
theorem vMc_of {G : Gx} {y : MethodName} {cc : ByteArray} {nL fr lo mc ms : Nat} {as : List Value} {ws : va_W} {wn : (Nat → Nat → Nat) → va_W} (hy : plainName y.cls = true) (hyn : y.name = "<init>") (hn : (lg_sl as).length ≤ nL) (lv : List (Nat × Value)) (hlv : lv_args 0 as = lv)
    (body : ∀ C : Cx, vH G C cc y.cls nL none { frames := fr, cells := mc, slots := ms, locals := lo } → vOC C → vRc G C mc ms wn → vG G C 0 0 0 lv [] ws) : vMc G y cc nL fr lo mc ms as ws wn := by
  intro sz
  refine Met.ofW (cc := cc) (maxL := nL) (ret := none) hy rfl ?_
  intro p e s m args below meth c s₁ B hml hv
  obtain ⟨rfl, hsz, hP, hK, hD0, hE, hO⟩ := hv
  subst hsz
  have hD := hD0.self (sz := s.heap.size)
  have hts0 := atoms_spec (ws := Cond.code y cc nL none :: TB) B.pre
  have hl := lv_entry as (n := nL) hn
  rw [lg_entry_eq]
  generalize (lg_sl as ++ List.replicate (nL - (lg_sl as).length) Slot.unset).toArray = ls at hl ⊢
  subst hml
  subst hlv
  exact body (p, e, _, s, m, _, below, meth, c, va_A ws s.heap.size, _) ⟨B.exec, B.bytes, rfl, findClass_of_methodNamed B.named, fun w hw => hts0 w (List.mem_cons_of_mem _ hw), B.returns, B.notSynchronized, hK, fun q h => Or.inr h, hE, rfl⟩ ⟨hO, (name_of_methodNamed B.named B.method).1.trans hyn⟩ rfl s.heap [] ls hP hD va_S.rf hl
theorem vG_ws {G : Gx} {C : Cx} {k n pc : Nat} {lv : List (Nat × Value)} {st : List Value} {ws ws2 : va_W} (h : ws = ws2) (K : vG G C k n pc lv st ws2) : vG G C k n pc lv st ws := h ▸ K
/-- the same cells told otherwise -/
theorem vG_via {G : Gx} {C : Cx} {k n pc : Nat} {lv : List (Nat × Value)} {st : List Value} {ws ws2 : va_W} (hP : ∀ H, va_P G.2.1 classes ws H → va_P G.2.1 classes ws2 H) (hD : ∀ A, va_D A ws → va_D A ws2) (K : vG G C k n pc lv st ws2) : vG G C k n pc lv st ws := by
  obtain ⟨p, e, R, s, m, args, below, meth, c, A, Q⟩ := C
  intro H locs ls h1 h2 hS hl
  exact K H locs ls (hP H h1) (hD A h2) hS hl
theorem vG_perm {G : Gx} {C : Cx} {k n pc : Nat} {lv : List (Nat × Value)} {st : List Value} {ws ws2 : va_W} (is : List Nat) (h1 : is.filterMap (fun i => ws[i]?) = ws2) (h2 : va_nd is = true) (h3 : is.map (fun i => ws[i]?) = ws2.map some) (K : vG G C k n pc lv st ws2) : vG G C k n pc lv st ws :=
  vG_via (fun _ h => h.sub is h1) (fun _ h => h.sub is h2 h3) K
theorem g_cret {G : Gx} {C : Cx} {cc : ByteArray} {own : String} {nL : Nat} {R0 : Room} {k n pc : Nat} {lv : List (Nat × Value)} {ws : va_W} {wn : (Nat → Nat → Nat) → va_W} (hC : vH G C cc own nL none R0) (hQ : vRc G C k n wn) (d : decode cc pc = .ok (.return_, 1)) (qs : Nat → Nat → Nat) (hw : ws = wn qs) : vG G C k n pc lv [] ws := by
  obtain ⟨p, e, R, s, m, args, below, meth, c, A, Q⟩ := C
  obtain ⟨hx, hb, hml, hown, hts, hr, hlk, hK, hA, hE, hR⟩ := hC
  intro H locs ls hP hD hS hl
  subst hQ
  subst hw
  exact W.vret hx hb hr (fun t ht hW => ⟨⟨rfl, qs, by rw [ht]; exact hP, hD⟩, hS.F ht⟩) hS.2.2 d hlk
theorem g_objInit {G : Gx} {C : Cx} {cc : ByteArray} {own : String} {nL : Nat} {ret : Option FieldType} {R0 : Room} {k n pc : Nat} {lv : List (Nat × Value)} {st : List Value} {ws : va_W} {i a : Nat} (hC : vH G C cc own nL ret R0) (lk : Cond.methodLink own i objectInit ∈ TB) (l2 : Cond.instanceMethod objectInit ∈ TB) (l3 : Cond.code objectInit ⟨#[0xb1]⟩ 1 none ∈ TB) (d : decode cc pc = .ok (.invokespecial i, 3)) (hR1 : 1 ≤ R0.frames) (hR2 : (st.map fun v => v.category).sum + 12 ≤ R0.locals) (K : vG G C k n (pc + 3) lv st ws) : vG G C k n pc lv (.ref a :: st) ws := by
  obtain ⟨p, e, R, s, m, args, below, meth, c, A, Q⟩ := C
  obtain ⟨hx, hb, hml, hown, hts, hr, hlk, hK, hA, hE, hR⟩ := hC
  intro H locs ls hP hD hS hl
  subst hR
  refine W.objInit hx hb hown (hts _ lk) (hts _ l2) (hts _ l3) rfl hl.1 rfl d hR1 ?_ (K H locs ls hP hD hS hl)
  show 2 * (F0 m pc ls (.ref a :: st)).monitorRoom + _ + 12 ≤ _
  have h0 : (F0 m pc ls (.ref a :: st)).monitorRoom = 0 := rfl
  rw [h0]
  omega
theorem g_new {G : Gx} {C : Cx} {cc : ByteArray} {own : String} {nL : Nat} {ret : Option FieldType} {R0 : Room} {k n pc : Nat} {lv : List (Nat × Value)} {st : List Value} {ws : va_W} {Cn : String} {T : u_T} {N ci i : Nat} {ty0 : Nat → FieldType} (fs : List Value) (ws2 : Nat → va_W) (hC : vH G C cc own nL ret R0) (hin : ∀ w ∈ u_ws Cn T N, w ∈ TB) (hty : ∀ k, k < N → parseFieldDescriptor (T k).2.2.1 = some (ty0 k)) (lk : Cond.classLink own i Cn ∈ TB) (l2 : Cond.instantiable Cn N ∈ TB) (l3 : Cond.initialized Cn ∈ TB) (d : decode cc pc = .ok (.new i, 3)) (hc : classes[ci]? = some (Cn, T, N)) (hfs : ∀ j, j < N → defaultValue (ty0 j) = vp_V fs j) (hkn : k + 1 ≤ R0.cells ∧ n + N ≤ R0.slots) (h2 : ∀ q, ws ++ [(q, .inr (ci, fs))] = ws2 q) (K : ∀ q, vG G C (k + 1) (n + N) (pc + 3) lv (.ref q :: st) (ws2 q)) : vG G C k n pc lv st ws := by
  obtain ⟨p, e, R, s, m, args, below, meth, c, A, Q⟩ := C
  obtain ⟨hx, hb, hml, hown, hts, hr, hlk, hK, hA, hE, hR⟩ := hC
  intro H locs ls hP hD hS hl
  subst hR
  exact va_new hx hb hts hin ty0 hty hown (hts _ lk) (hts _ l2) (hts _ l3) hK hP hD hS hA hc hfs hkn.1 hkn.2 d (fun q H hP hD hS => K q H locs ls (by rw [← h2 q]; exact hP) (by rw [← h2 q]; exact hD) hS hl)
theorem g_newaI {G : Gx} {C : Cx} {cc : ByteArray} {own : String} {nL : Nat} {ret : Option FieldType} {R0 : Room} {k n pc : Nat} {lv : List (Nat × Value)} {st : List Value} {ws : va_W} {z : Int32} (N : Nat) (ws2 : Nat → va_W) (hC : vH G C cc own nL ret R0) (lk : Cond.arrayClass .int ∈ TB) (d : decode cc pc = .ok (.newarray .int, 2)) (hz : ¬ z < 0) (hN : z.toNatClampNeg = N) (hby : N * 8 ≤ 536870912) (hkn : k + 1 ≤ R0.cells ∧ n + N ≤ R0.slots) (h2 : ∀ q, ws ++ [(q, eI G N (fun _ => 0))] = ws2 q) (K : ∀ q, vG G C (k + 1) (n + N) (pc + 2) lv (.ref q :: st) (ws2 q)) : vG G C k n pc lv (.int z :: st) ws := by
  obtain ⟨p, e, R, s, m, args, below, meth, c, A, Q⟩ := C
  obtain ⟨hx, hb, hml, hown, hts, hr, hlk, hK, hA, hE, hR⟩ := hC
  intro H locs ls hP hD hS hl
  subst hR
  refine va_newa (atype := .int) (ty := .int) (a0 := (N, .inl (fun _ => 0))) hx hb (hts _ lk) rfl hK hP hD hS hA (fun cA => rfl) hz hN (Nat.le_trans (Nat.mul_le_mul_left N (by decide)) hby) hkn.1 hkn.2 d (fun q cA H hK2 hP hD hS => ?_)
  have e1 : s.vm.findClass _ = some (G.2.2.1 0) := (hK.2 0 (G.2.2.1 0, .int) rfl).2
  have e2 : s.vm.findClass _ = some cA := (hK2.2 6 (cA, .int) rfl).2
  have e : cA = G.2.2.1 0 := Option.some.inj (e2.symm.trans e1)
  subst e
  exact K q H locs ls (by rw [← h2 q]; exact hP) (by rw [← h2 q]; exact hD) hS hl
theorem g_newaB {G : Gx} {C : Cx} {cc : ByteArray} {own : String} {nL : Nat} {ret : Option FieldType} {R0 : Room} {k n pc : Nat} {lv : List (Nat × Value)} {st : List Value} {ws : va_W} {z : Int32} (N : Nat) (ws2 : Nat → va_W) (hC : vH G C cc own nL ret R0) (lk : Cond.arrayClass .byte ∈ TB) (d : decode cc pc = .ok (.newarray .byte, 2)) (hz : ¬ z < 0) (hN : z.toNatClampNeg = N) (hby : N * 8 ≤ 536870912) (hkn : k + 1 ≤ R0.cells ∧ n + N ≤ R0.slots) (h2 : ∀ q, ws ++ [(q, eB G N (fun _ => 0))] = ws2 q) (K : ∀ q, vG G C (k + 1) (n + N) (pc + 2) lv (.ref q :: st) (ws2 q)) : vG G C k n pc lv (.int z :: st) ws := by
  obtain ⟨p, e, R, s, m, args, below, meth, c, A, Q⟩ := C
  obtain ⟨hx, hb, hml, hown, hts, hr, hlk, hK, hA, hE, hR⟩ := hC
  intro H locs ls hP hD hS hl
  subst hR
  refine va_newa (atype := .byte) (ty := .byte) (a0 := (N, .inl (fun _ => 0))) hx hb (hts _ lk) rfl hK hP hD hS hA (fun cA => rfl) hz hN (Nat.le_trans (Nat.mul_le_mul_left N (by decide)) hby) hkn.1 hkn.2 d (fun q cA H hK2 hP hD hS => ?_)
  have e1 : s.vm.findClass _ = some (G.2.2.1 1) := (hK.2 1 (G.2.2.1 1, .byte) rfl).2
  have e2 : s.vm.findClass _ = some cA := (hK2.2 6 (cA, .byte) rfl).2
  have e : cA = G.2.2.1 1 := Option.some.inj (e2.symm.trans e1)
  subst e
  exact K q H locs ls (by rw [← h2 q]; exact hP) (by rw [← h2 q]; exact hD) hS hl
theorem g_newaZ {G : Gx} {C : Cx} {cc : ByteArray} {own : String} {nL : Nat} {ret : Option FieldType} {R0 : Room} {k n pc : Nat} {lv : List (Nat × Value)} {st : List Value} {ws : va_W} {z : Int32} (N : Nat) (ws2 : Nat → va_W) (hC : vH G C cc own nL ret R0) (lk : Cond.arrayClass .boolean ∈ TB) (d : decode cc pc = .ok (.newarray .boolean, 2)) (hz : ¬ z < 0) (hN : z.toNatClampNeg = N) (hby : N * 8 ≤ 536870912) (hkn : k + 1 ≤ R0.cells ∧ n + N ≤ R0.slots) (h2 : ∀ q, ws ++ [(q, eZ G N (fun _ => 0))] = ws2 q) (K : ∀ q, vG G C (k + 1) (n + N) (pc + 2) lv (.ref q :: st) (ws2 q)) : vG G C k n pc lv (.int z :: st) ws := by
  obtain ⟨p, e, R, s, m, args, below, meth, c, A, Q⟩ := C
  obtain ⟨hx, hb, hml, hown, hts, hr, hlk, hK, hA, hE, hR⟩ := hC
  intro H locs ls hP hD hS hl
  subst hR
  refine va_newa (atype := .boolean) (ty := .boolean) (a0 := (N, .inl (fun _ => 0))) hx hb (hts _ lk) rfl hK hP hD hS hA (fun cA => rfl) hz hN (Nat.le_trans (Nat.mul_le_mul_left N (by decide)) hby) hkn.1 hkn.2 d (fun q cA H hK2 hP hD hS => ?_)
  have e1 : s.vm.findClass _ = some (G.2.2.1 2) := (hK.2 2 (G.2.2.1 2, .boolean) rfl).2
  have e2 : s.vm.findClass _ = some cA := (hK2.2 6 (cA, .boolean) rfl).2
  have e : cA = G.2.2.1 2 := Option.some.inj (e2.symm.trans e1)
  subst e
  exact K q H locs ls (by rw [← h2 q]; exact hP) (by rw [← h2 q]; exact hD) hS hl
theorem g_newaJ {G : Gx} {C : Cx} {cc : ByteArray} {own : String} {nL : Nat} {ret : Option FieldType} {R0 : Room} {k n pc : Nat} {lv : List (Nat × Value)} {st : List Value} {ws : va_W} {z : Int32} (N : Nat) (ws2 : Nat → va_W) (hC : vH G C cc own nL ret R0) (lk : Cond.arrayClass .long ∈ TB) (d : decode cc pc = .ok (.newarray .long, 2)) (hz : ¬ z < 0) (hN : z.toNatClampNeg = N) (hby : N * 8 ≤ 536870912) (hkn : k + 1 ≤ R0.cells ∧ n + N ≤ R0.slots) (h2 : ∀ q, ws ++ [(q, eJ G N (fun _ => 0))] = ws2 q) (K : ∀ q, vG G C (k + 1) (n + N) (pc + 2) lv (.ref q :: st) (ws2 q)) : vG G C k n pc lv (.int z :: st) ws := by
  obtain ⟨p, e, R, s, m, args, below, meth, c, A, Q⟩ := C
  obtain ⟨hx, hb, hml, hown, hts, hr, hlk, hK, hA, hE, hR⟩ := hC
  intro H locs ls hP hD hS hl
  subst hR
  refine va_newa (atype := .long) (ty := .long) (a0 := (N, .inr (.inl (fun _ => 0)))) hx hb (hts _ lk) rfl hK hP hD hS hA (fun cA => rfl) hz hN (Nat.le_trans (Nat.mul_le_mul_left N (by decide)) hby) hkn.1 hkn.2 d (fun q cA H hK2 hP hD hS => ?_)
  have e1 : s.vm.findClass _ = some (G.2.2.1 3) := (hK.2 3 (G.2.2.1 3, .long) rfl).2
  have e2 : s.vm.findClass _ = some cA := (hK2.2 6 (cA, .long) rfl).2
  have e : cA = G.2.2.1 3 := Option.some.inj (e2.symm.trans e1)
  subst e
  exact K q H locs ls (by rw [← h2 q]; exact hP) (by rw [← h2 q]; exact hD) hS hl
theorem g_newaS {G : Gx} {C : Cx} {cc : ByteArray} {own : String} {nL : Nat} {ret : Option FieldType} {R0 : Room} {k n pc : Nat} {lv : List (Nat × Value)} {st : List Value} {ws : va_W} {z : Int32} {i : Nat} (N : Nat) (ws2 : Nat → va_W) (hC : vH G C cc own nL ret R0) (hO : vOC C) (lk : Cond.classLink own i "CoilBench$State" ∈ TB) (d : decode cc pc = .ok (.anewarray i, 3)) (hz : ¬ z < 0) (hN : z.toNatClampNeg = N) (hby : N * 4 ≤ 536870912) (hkn : k + 1 ≤ R0.cells ∧ n + N ≤ R0.slots) (h2 : ∀ q, ws ++ [(q, eS G N (fun _ => none))] = ws2 q) (K : ∀ q, vG G C (k + 1) (n + N) (pc + 3) lv (.ref q :: st) (ws2 q)) : vG G C k n pc lv (.int z :: st) ws := by
  obtain ⟨p, e, R, s, m, args, below, meth, c, A, Q⟩ := C
  obtain ⟨hx, hb, hml, hown, hts, hr, hlk, hK, hA, hE, hR⟩ := hC
  intro H locs ls hP hD hS hl
  subst hR
  refine va_newq hx hb hown (hts _ lk) hO.1.1 hK hP hD hS hA hz hN hby hkn.1 hkn.2 d (fun q cA H hK2 hP hD hS => ?_)
  obtain ⟨kA1, comp1, -, -, -, e1⟩ := (hK.2 4 (G.2.2.1 4, .object "CoilBench$State") rfl).2
  obtain ⟨kA2, comp2, -, -, -, e2⟩ := (hK2.2 6 (cA, .object "CoilBench$State") rfl).2
  have e : cA = G.2.2.1 4 := Option.some.inj (e2.symm.trans e1)
  subst e
  exact K q H locs ls (by rw [← h2 q]; exact hP) (by rw [← h2 q]; exact hD) hS hl
theorem va_at_q {D : va_G} {cl : List vw_C} {a : Nat} {cA : ClassId} {n : Nat} {f g : Nat → Option Nat} {H : Heap} (h : ∀ j, j < n → f j = g j) : va_at D cl (a, .inl (cA, n, .inr (.inr (.inr (.inr f))))) H ↔ va_at D cl (a, .inl (cA, n, .inr (.inr (.inr (.inr g))))) H := by
  have e : vp_cell cA (n, .inr (.inr (.inr (.inr f)))) = vp_cell cA (n, .inr (.inr (.inr (.inr g)))) := by
    rw [vp_cell_q, vp_cell_q]
    unfold arrV
    congr 2
    funext j
    show va_rf (f j.val) = va_rf (g j.val)
    rw [h j.val j.isLt]
  show H[a]? = some _ ↔ H[a]? = some _
  rw [e]
theorem g_mna {G : Gx} {C : Cx} {cc : ByteArray} {own : String} {nL : Nat} {ret : Option FieldType} {R0 : Room} {k n pc : Nat} {lv : List (Nat × Value)} {st : List Value} {ws : va_W} {z1 z2 : Int32} {i : Nat} (ws2 : Nat → (Nat → Nat) → va_W) (hC : vH G C cc own nL ret R0) (hO : vOC C) (lk : Cond.classLink own i "[[J" ∈ TB) (lk2 : Cond.arrayClass .long ∈ TB) (d : decode cc pc = .ok (.multianewarray i 2, 4)) (h1 : z1 = 5) (h0 : z2 = 40) (hkn : k + 6 ≤ R0.cells ∧ n + 205 ≤ R0.slots) (h2 : ∀ q r, ws ++ [(q, eL G 5 (fun i => some (r i))), (r 0, eJ G 40 (fun _ => 0)), (r 1, eJ G 40 (fun _ => 0)), (r 2, eJ G 40 (fun _ => 0)), (r 3, eJ G 40 (fun _ => 0)), (r 4, eJ G 40 (fun _ => 0))] = ws2 q r) (K : ∀ q r, vG G C (k + 1 + 5) (n + 5 + 5 * 40) (pc + 4) lv (.ref q :: st) (ws2 q r)) : vG G C k n pc lv (.int z2 :: .int z1 :: st) ws := by
  obtain ⟨p, e, R, s, m, args, below, meth, c, A, Q⟩ := C
  obtain ⟨hx, hb, hml, hown, hts, hr, hlk, hK, hA, hE, hR⟩ := hC
  intro H locs ls hP hD hS hl
  subst hR; subst h1; subst h0
  have hcy : s.vm.findClass (FieldType.array .long).toString = some (G.2.2.1 3) := (hK.2 3 (G.2.2.1 3, .long) rfl).2
  refine va_mna (X := ws) (L := []) (f := fun _ => .inr (0, [])) (N' := 5) (K' := 40) (z := (40, .inr (.inl (fun _ => 0)))) (ty := .long) hx hb hown (hts _ lk) hO.1.2 (hts _ lk2) hcy hK (by rw [show va_pl [] (fun _ => (.inr (0, []) : va_E)) = [] from rfl, List.append_nil]; exact hP) (by rw [show va_pl [] (fun _ => (.inr (0, []) : va_E)) = [] from rfl, List.append_nil]; exact hD) hS hA (by decide) (by decide) rfl rfl (by decide) (by decide) (by decide) (by decide) (by decide) (by omega) (by omega) (fun c => by rw [vp_cell_l]; unfold Jvm.Free.Multi.innerC; rw [arrV_new]; rfl) d (fun q r cA H hinj _ hK2 hP hD hS => ?_)
  have e1 : s.vm.findClass _ = some (G.2.2.1 5) := (hK.2 5 (G.2.2.1 5, .array .long) rfl).2
  have e2 : s.vm.findClass _ = some cA := (hK2.2 6 (cA, .array .long) rfl).2
  have e : cA = G.2.2.1 5 := Option.some.inj (e2.symm.trans e1)
  subst e
  have hc0 : ws ++ [(q, .inl (G.2.2.1 5, 5, .inr (.inr (.inr (.inr (fun i => if i < 5 then some (r i) else none))))))] ++ va_pl ([] ++ (List.range 5).map r) (vr_up (fun _ => .inr (0, [])) ((List.range 5).map r) (.inl (G.2.2.1 3, (40, .inr (.inl (fun _ => 0)))))) = ws ++ [(q, eL G 5 (fun i => if i < 5 then some (r i) else none)), (r 0, eJ G 40 (fun _ => 0)), (r 1, eJ G 40 (fun _ => 0)), (r 2, eJ G 40 (fun _ => 0)), (r 3, eJ G 40 (fun _ => 0)), (r 4, eJ G 40 (fun _ => 0))] := by
    rw [List.append_assoc]
    refine congrArg (ws ++ ·) ?_
    simp [va_pl, vr_up, List.range, List.range.loop]
  rw [hc0] at hP hD
  refine K q r H locs ls (h2 q r ▸ ?_) (h2 q r ▸ ?_) hS hl
  · intro j x hx
    by_cases hj : j = ws.length
    · subst hj
      rw [List.getElem?_append_right (Nat.le_refl _), Nat.sub_self] at hx
      cases hx
      exact (va_at_q (fun j hj => by rw [if_pos hj])).mp (hP ws.length (q, eL G 5 (fun i => if i < 5 then some (r i) else none)) (by rw [List.getElem?_append_right (Nat.le_refl _), Nat.sub_self]; rfl))
    · refine hP j x ?_
      by_cases h3 : j < ws.length
      · rw [List.getElem?_append_left h3] at hx ⊢
        exact hx
      · rw [List.getElem?_append_right (by omega)] at hx ⊢
        obtain ⟨i9, hi9⟩ : ∃ i9, j - ws.length = i9 + 1 := ⟨j - ws.length - 1, by omega⟩
        rw [hi9] at hx ⊢
        rw [List.getElem?_cons_succ] at hx ⊢
        exact hx
  · refine va_D_fst ?_ hD
    simp
theorem g_putF {G : Gx} {C : Cx} {cc : ByteArray} {own : String} {nL : Nat} {ret : Option FieldType} {R0 : Room} {k n pc : Nat} {lv : List (Nat × Value)} {st : List Value} {ws : va_W} {ref Cn : String} {T : u_T} {N ci i a : Nat} {fs : List Value} {v : Value} {ty : FieldType} {ty0 : Nat → FieldType} {ws2 : va_W} (q0 f : Nat) (hC : vH G C cc own nL ret R0) (hO : vOC C) (hin : ∀ w ∈ u_ws Cn T N, w ∈ TB) (hty : ∀ k, k < N → parseFieldDescriptor (T k).2.2.1 = some (ty0 k)) (hnm : ∀ a, a < N → ∀ b, b < N → a ≠ b → (T a).2.1 ≠ (T b).2.1) (d : decode cc pc = .ok (.putfield i, 3)) (lk : Cond.fieldLink own i ref (T f).2.1 (T f).2.2.1 ∈ TB) (he : ws[q0]? = some (a, .inr (ci, fs))) (hc : classes[ci]? = some (Cn, T, N)) (hf : f < N) (hs : (T f).1 = ref) (hs2 : (T f).1 = own) (hfin : (T f).2.2.2 = true) (he2 : ty0 f = ty) (hnw : narrow ty v = v) (hfit : fits ty v = true) (hlen : f < fs.length) (h2 : ws.set q0 (a, .inr (ci, fs.set f v)) = ws2) (K : vG G C k n (pc + 3) lv st ws2) : vG G C k n pc lv (v :: .ref a :: st) ws := by
  obtain ⟨p, e, R, s, m, args, below, meth, c, A, Q⟩ := C
  obtain ⟨hx, hb, hml, hown, hts, hr, hlk, hK, hA, hE, hR⟩ := hC
  intro H locs ls hP hD hS hl
  subst h2
  exact va_putF hx hb hts hin ty0 hty hnm hown hK hP hD hS q0 he hc f hf (hts _ lk) (by rw [hs]; exact fun _ h9 => h9) hfin hO.2 hs2 (by rw [hty f hf, he2]) hnw hfit hlen d (fun H locs hP hD hS => (K H locs ls hP hD hS hl))
theorem g_astS {G : Gx} {C : Cx} {cc : ByteArray} {own : String} {nL : Nat} {ret : Option FieldType} {R0 : Room} {k n pc : Nat} {lv : List (Nat × Value)} {st : List Value} {ws : va_W} {a N v : Nat} {vs : List Value} {f f2 : Nat → Option Nat} {i : Int32} {ws2 : va_W} (q0 qk : Nat) (hC : vH G C cc own nL ret R0) (d : decode cc pc = .ok (.aastore, 1)) (ha : ws[q0]? = some (a, eS G N f)) (hv : ws[qk]? = some (v, .inr (5, vs))) (hin : vp_in i N) (ef : f2 = va_up f i.toNatClampNeg (some v)) (h2 : ws.set q0 (a, eS G N f2) = ws2) (K : vG G C k n (pc + 1) lv st ws2) : vG G C k n pc lv (.ref v :: .int i :: .ref a :: st) ws := by
  obtain ⟨p, e, R, s, m, args, below, meth, c, A, Q⟩ := C
  obtain ⟨hx, hb, hml, hown, hts, hr, hlk, hK, hA, hE, hR⟩ := hC
  intro H locs ls hP hD hS hl
  subst h2; subst ef
  exact va_astq hx hb hK hP hD hS q0 4 qk 5 ha rfl hv rfl hin d (fun H locs hP hD hS => (K H locs ls hP hD hS hl))
theorem vnew_join {A0 : Nat → Prop} {D : va_G} {cl : List vw_C} {ws wc wh wt : va_W} {H H1 : Heap} (hP : va_P D cl ws H) (hD : va_D A0 ws) (is : List Nat) (hc : is.map (fun i => ws[i]?) = wc.map some) (hf : wh.map Prod.fst = wc.map Prod.fst)
    (hk : ∀ q : Nat, q < H.size → ¬ va_A wc H.size q → H1[q]? = H[q]?) (hF : ∀ q, va_A wc H.size q → A0 q) (hP1 : va_P D cl (wh ++ wt) H1) (hD1 : va_D (va_A wc H.size) (wh ++ wt)) : va_P D cl (vset ws is wh ++ wt) H1 ∧ va_D A0 (vset ws is wh ++ wt) := by
  have hPh : va_P D cl wh H1 := fun k q hq => hP1 k q (by rw [List.getElem?_append_left (List.getElem?_eq_some_iff.mp hq).1]; exact hq)
  have hPt : va_P D cl wt H1 := fun k q hq => hP1 (wh.length + k) q (by rw [List.getElem?_append_right (Nat.le_add_right _ _), Nat.add_sub_cancel_left]; exact hq)
  obtain ⟨hP2, hD2⟩ := vset_join hP hD is hc hf hk hPh
  have hDt : va_D (va_A wc H.size) wt := by
    refine ⟨fun i j p q hi hj hpq => ?_, fun k q hq => hD1.2 (wh.length + k) q (by rw [List.getElem?_append_right (Nat.le_add_right _ _), Nat.add_sub_cancel_left]; exact hq)⟩
    have := hD1.1 (wh.length + i) (wh.length + j) p q (by rw [List.getElem?_append_right (Nat.le_add_right _ _), Nat.add_sub_cancel_left]; exact hi) (by rw [List.getElem?_append_right (Nat.le_add_right _ _), Nat.add_sub_cancel_left]; exact hj) hpq
    omega
  have tail : ∀ (k : Nat) (q : Nat × va_E), wt[k]? = some q → H.size ≤ q.1 := by
    intro k q hq
    have hq2 : (wh ++ wt)[wh.length + k]? = some q := by rw [List.getElem?_append_right (Nat.le_add_right _ _), Nat.add_sub_cancel_left]; exact hq
    rcases hD1.2 _ q hq2 with ⟨k2, e2, h2⟩ | h2
    · exfalso
      have h3 : (wc.map Prod.fst)[k2]? = some q.1 := by rw [List.getElem?_map, h2]; rfl
      rw [← hf, List.getElem?_map] at h3
      cases hw : wh[k2]? with
      | none => rw [hw] at h3; cases h3
      | some x =>
        rw [hw] at h3
        have hx : x.1 = q.1 := Option.some.inj h3
        have hlt : k2 < wh.length := (List.getElem?_eq_some_iff.mp hw).1
        have hx2 : (wh ++ wt)[k2]? = some x := by rw [List.getElem?_append_left hlt]; exact hw
        have := hD1.1 k2 (wh.length + k) x q hx2 hq2 hx
        omega
    · exact h2
  refine ⟨hP2.app hPt, hD2.app (hDt.weaken (fun k q _ h => hF q.1 h)) (fun i j p q hi hj hpq => ?_)⟩
  have h1 : p.1 < H.size := by
    have hfst := vset_fst is wc wh ws (by
      have := congrArg (List.map (Option.map Prod.fst)) hc
      simpa [List.map_map, Function.comp_def, List.getElem?_map] using this) hf
    have h2 : ((vset ws is wh).map Prod.fst)[i]? = some p.1 := by rw [List.getElem?_map, hi]; rfl
    rw [hfst, List.getElem?_map] at h2
    cases hw : ws[i]? with
    | none => rw [hw] at h2; cases h2
    | some x =>
      rw [hw] at h2
      have hx : x.1 = p.1 := Option.some.inj h2
      rw [← hx]
      exact (hP i x hw).lt
  have h2 := tail j q hj
  omega
theorem vMc_pre {G : Gx} {sz : Nat} {as : List Value} {ws : va_W} : FrameBlind (va_Pc as (fun U => U.heap.size = sz ∧ va_P G.2.1 classes ws U.heap ∧ va_K G.2.1 classes (tysG G) U ∧ va_D (fun _ => True) ws ∧ vE G (va_A ws sz) U U.heap ∧ vO U)) := by
  intro a U g mk ⟨h0, h1, h2, h3, h4, h5, h6⟩
  exact ⟨h0, h1, h2, va_K.moved (u := U) (U := U.calling g mk a) (Vm.Alike.refl U.vm) h3, h4, vE.same (s := U) rfl h5, vO.warm (s := U) (Vm.Alike.refl U.vm) h6⟩
theorem vY_cbc {R : Room} {s : State} {args : Array Value} {own : String} {idx : Nat} {y : MethodName} {cc : ByteArray} {nL na fr lo mc ms : Nat} (hts : ∀ w ∈ TB, w.before args s = true) (hY : vY y cc nL none na) (hl : (Cond.methodLink own idx y).before args s = true) (hR : fr + 1 ≤ R.frames ∧ 8 + (nL + 11) + lo ≤ R.locals) :
    CallB R s args own idx y cc nL none (Cond.code y cc nL none :: TB) { frames := fr, cells := mc, slots := ms, locals := lo } mc ms na := by
  have hG : GoodIn TB (Cond.code y cc nL none :: TB) := fun w hw => by
    rcases List.mem_cons.mp hw with e | h
    · rw [e]; exact ⟨hY.1, good_of_word (tb_good hY.1)⟩
    · exact ⟨h, good_of_word (tb_good h)⟩
  refine ⟨rfl, rfl, hR.1, hR.2, pay_in hts hG, List.mem_cons_self, hts _ hY.1, hts _ hY.2.1, hY.2.2.1, fun sig h => ?_, hl⟩
  have h2 := hY.2.2.2
  rw [h] at h2
  exact (Option.some.inj h2).symm
theorem vY_cnc {R : Room} {s : State} {args : Array Value} {own host : String} {idx : Nat} {y : MethodName} {cc : ByteArray} {nL na fr lo mc ms : Nat} (hts : ∀ w ∈ TB, w.before args s = true) (hY : vY y cc nL none na) (hl : va_Nw (.methodLinkNest own idx y host) s) (hR : fr + 1 ≤ R.frames ∧ 8 + (nL + 11) + lo ≤ R.locals) :
    va_CN R s args own idx y host cc nL none (Cond.code y cc nL none :: TB) { frames := fr, cells := mc, slots := ms, locals := lo } mc ms na := by
  have hG : GoodIn TB (Cond.code y cc nL none :: TB) := fun w hw => by
    rcases List.mem_cons.mp hw with e | h
    · rw [e]; exact ⟨hY.1, good_of_word (tb_good hY.1)⟩
    · exact ⟨h, good_of_word (tb_good h)⟩
  exact va_cnB na hts hG rfl rfl rfl hl (hts _ hY.2.1) ⟨hY.2.2.1.1, hY.2.2.1.2, hY.2.2.2⟩ hR
theorem vG_backc {G : Gx} {p : Program} {e : Env} {R : Room} {s : State} {m : MethodId} {args : Array Value} {below : List Frame} {meth : Method} {c : Code} {A : Nat → Prop} {Q : State → Prop} {k n pc mc ms : Nat} {lv : List (Nat × Value)} {st stk : List Value} {ws wc : va_W} {wh wt ws2 : (Nat → Nat → Nat) → va_W} {a9 : Array Value} {H : Heap} {locs : List Loc} {ls : Array Slot}
    (hP : va_P G.2.1 classes ws H) (hD : va_D A ws) (hS : va_S A s.heap H locs) (hl : lv_has ls c.maxLocals lv) (hA : ∀ q, s.heap.size ≤ q → A q) (is : List Nat) (hc : is.map (fun i => ws[i]?) = wc.map some) (hf : ∀ qs, (wh qs).map Prod.fst = wc.map Prod.fst) (h2 : ∀ qs, vset ws is (wh qs) ++ wt qs = ws2 qs)
    (hr : va_Run p G.1 e R s m args below meth c H locs k n mc ms (F0 m pc ls stk) st (vQc G (va_A wc H.size) (fun qs => wh qs ++ wt qs) a9) (va_A wc H.size))
    (K : ∀ qs, vG G (p, e, R, s, m, args, below, meth, c, A, Q) (k + mc) (n + ms) (pc + 3) lv st (ws2 qs)) : W p G.1 e R s m args below meth c H locs k n Q (F0 m pc ls stk) := by
  have hF : ∀ q, va_A wc H.size q → A q := va_free hD hS hA is hc
  intro T hT X
  obtain ⟨v, st₀, t, T', L, h0, X', hL, e1, e2, ⟨⟨hv, qs, hP1, hD1⟩, hz, hk⟩, stp⟩ := hr T hT X
  cases hv
  rw [h0] at hz hk
  obtain ⟨hP2, hD2⟩ := vnew_join hP hD is hc (hf qs) hk hF hP1 hD1
  rw [h2 qs] at hP2 hD2
  obtain ⟨t2, a1, b1⟩ := K qs T'.heap (locs ++ L) ls (by rw [e1]; exact hP2) hD2
    ⟨Nat.le_trans hS.1 (by rw [e1]; exact hz), fun q q1 q2 => by rw [e1, hk q (Nat.lt_of_lt_of_le q1 hS.1) (fun z => q2 (hF q z))]; exact hS.2.1 q q1 q2, fun q hq => by
      rcases List.mem_append.mp hq with h | h
      · exact hS.2.2 q h
      · exact hF _ (hL q h)⟩ hl T' rfl X'
  exact ⟨t2, stp t2 a1, b1⟩
theorem g_callI {G : Gx} {C : Cx} {cc : ByteArray} {own : String} {nL : Nat} {ret : Option FieldType} {R0 : Room} {k n pc : Nat} {lv : List (Nat × Value)} {st : List Value} {ws : va_W} {y : MethodName} {cY : ByteArray} {nY : Nat} {fY lY na i a mc ms : Nat} {as : List Value} {wc : va_W} {wh wt ws2 : (Nat → Nat → Nat) → va_W} (is : List Nat) (hC : vH G C cc own nL ret R0) (hO : vOC C) (hM : vMc G y cY nY fY lY mc ms (.ref a :: as) wc (fun qs => wh qs ++ wt qs)) (hY : vY y cY nY none na) (hyn : y.name = "<init>") (hYi : Cond.instanceMethod y ∈ TB) (lk : Cond.methodLink own i y ∈ TB) (d : decode cc pc = .ok (.invokespecial i, 3)) (hnd : va_nd is = true) (hna : as.length = na) {stk : List Value} (hstk : as.reverse ++ .ref a :: st = stk) (hc : is.map (fun i => ws[i]?) = wc.map some) (hf : ∀ qs, (wh qs).map Prod.fst = wc.map Prod.fst) (h2 : ∀ qs, vset ws is (wh qs) ++ wt qs = ws2 qs) (hR1 : fY + 1 ≤ R0.frames ∧ 8 + (nY + 11) + lY ≤ R0.locals) (hkn : k + mc ≤ R0.cells ∧ n + ms ≤ R0.slots) (hsum : (st.map fun v => v.category).sum ≤ 8) (K : ∀ qs, vG G C (k + mc) (n + ms) (pc + 3) lv st (ws2 qs)) : vG G C k n pc lv stk ws := by
  obtain ⟨p, e, R, s, m, args, below, meth, c, A, Q⟩ := C
  obtain ⟨hx, hb, hml, hown, hts, hr, hlk, hK, hA, hE, hR⟩ := hC
  intro H locs ls hP hD hS hl
  subst hR
  have hF : ∀ q, va_A wc H.size q → A q := va_free hD hS hA is hc
  have hPc : va_P G.2.1 classes wc H := fun j q hj => by
    have h4 : (is.map (fun i => ws[i]?))[j]? = some (some q) := by rw [hc, List.getElem?_map, hj]; rfl
    rw [List.getElem?_map] at h4
    cases hi : is[j]? with
    | none => rw [hi] at h4; cases h4
    | some i9 => rw [hi] at h4; exact hP i9 q (Option.some.inj h4)
  have hDc : va_D (fun _ => True) wc := (hD.sub is hnd hc).weaken (fun _ _ _ _ => trivial)
  subst hstk
  exact vG_backc hP hD hS hl hA is hc hf h2 (va_runI (As := as) (rest := st) (nL := nL) ⟨hx, hb, hml, hown, hts⟩ (hM H.size) ⟨vY_cbc hts hY (hts _ lk) hR1, hyn, hts _ hYi⟩ ⟨vMc_pre, fun U hU hW => ⟨rfl, by rw [hU], by rw [hU]; exact hPc, va_K.moved hW.alike hK, hDc, by rw [hU]; exact ((hE.warm hW).kept hS.2.1).narrow hF, hO.1.warm hW.alike⟩⟩ rfl hna (hl.1.trans hml) rfl (lv_room hsum) d hkn) K
theorem g_callIN {G : Gx} {C : Cx} {cc : ByteArray} {own : String} {nL : Nat} {ret : Option FieldType} {R0 : Room} {k n pc : Nat} {lv : List (Nat × Value)} {st : List Value} {ws : va_W} {y : MethodName} {cY : ByteArray} {nY : Nat} {fY lY na i a mc ms : Nat} {as : List Value} {wc : va_W} {wh wt ws2 : (Nat → Nat → Nat) → va_W} (is : List Nat) (hC : vH G C cc own nL ret R0) (hO : vOC C) (hM : vMc G y cY nY fY lY mc ms (.ref a :: as) wc (fun qs => wh qs ++ wt qs)) (hY : vY y cY nY none na) (hyn : y.name = "<init>") (hYi : Cond.instanceMethod y ∈ TB) {host : String} (lk : (own, i, y, host) ∈ nwM) (d : decode cc pc = .ok (.invokespecial i, 3)) (hnd : va_nd is = true) (hna : as.length = na) {stk : List Value} (hstk : as.reverse ++ .ref a :: st = stk) (hc : is.map (fun i => ws[i]?) = wc.map some) (hf : ∀ qs, (wh qs).map Prod.fst = wc.map Prod.fst) (h2 : ∀ qs, vset ws is (wh qs) ++ wt qs = ws2 qs) (hR1 : fY + 1 ≤ R0.frames ∧ 8 + (nY + 11) + lY ≤ R0.locals) (hkn : k + mc ≤ R0.cells ∧ n + ms ≤ R0.slots) (hsum : (st.map fun v => v.category).sum ≤ 8) (K : ∀ qs, vG G C (k + mc) (n + ms) (pc + 3) lv st (ws2 qs)) : vG G C k n pc lv stk ws := by
  obtain ⟨p, e, R, s, m, args, below, meth, c, A, Q⟩ := C
  obtain ⟨hx, hb, hml, hown, hts, hr, hlk, hK, hA, hE, hR⟩ := hC
  intro H locs ls hP hD hS hl
  subst hR
  have hF : ∀ q, va_A wc H.size q → A q := va_free hD hS hA is hc
  have hPc : va_P G.2.1 classes wc H := fun j q hj => by
    have h4 : (is.map (fun i => ws[i]?))[j]? = some (some q) := by rw [hc, List.getElem?_map, hj]; rfl
    rw [List.getElem?_map] at h4
    cases hi : is[j]? with
    | none => rw [hi] at h4; cases h4
    | some i9 => rw [hi] at h4; exact hP i9 q (Option.some.inj h4)
  have hDc : va_D (fun _ => True) wc := (hD.sub is hnd hc).weaken (fun _ _ _ _ => trivial)
  subst hstk
  exact vG_backc hP hD hS hl hA is hc hf h2 (va_runIN (host := host) (As := as) (rest := st) (nL := nL) ⟨hx, hb, hml, hown, hts⟩ (hM H.size) ⟨vY_cnc hts hY (hE.2.2.2.2.2.2.2 _ lk) hR1, hyn, hts _ hYi⟩ ⟨vMc_pre, fun U hU hW => ⟨rfl, by rw [hU], by rw [hU]; exact hPc, va_K.moved hW.alike hK, hDc, by rw [hU]; exact ((hE.warm hW).kept hS.2.1).narrow hF, hO.1.warm hW.alike⟩⟩ rfl hna (hl.1.trans hml) rfl (lv_room hsum) d hkn) K
