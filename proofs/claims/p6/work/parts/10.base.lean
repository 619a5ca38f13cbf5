/-! the base: contexts, goals, one row an instruction -/
abbrev Gx : Type := Launch × va_G × (Nat → ClassId) × (Nat → Nat)
abbrev Cx : Type := Program × Env × Room × State × MethodId × Array Value × List Frame × Method × Code × (Nat → Prop) × (State → Prop)
abbrev classes : List vw_C := [(RX1, TX1, 3), (RX2, TX2, 3), (RX3, TX3, 13), (RX4, TX4, 5), (RX5, TX5, 14), (RX6, TX6, 5), (RX7, TX7, 6), (RX8, TX8, 8), (RX9, TX9, 2), (RX10, TX10, 9), (RX11, TX11, 46)]
abbrev tysG (G : Gx) : List (ClassId × FieldType) := [(G.2.2.1 0, .int), (G.2.2.1 1, .byte), (G.2.2.1 2, .boolean), (G.2.2.1 3, .long), (G.2.2.1 4, .object "CoilBench$State"), (G.2.2.1 5, .array .long)]
abbrev eI (G : Gx) (n : Nat) (f : Nat → Int32) : va_E := .inl (G.2.2.1 0, n, .inl f)
abbrev eB (G : Gx) (n : Nat) (f : Nat → Int32) : va_E := .inl (G.2.2.1 1, n, .inl f)
abbrev eZ (G : Gx) (n : Nat) (f : Nat → Int32) : va_E := .inl (G.2.2.1 2, n, .inl f)
abbrev eJ (G : Gx) (n : Nat) (f : Nat → Int64) : va_E := .inl (G.2.2.1 3, n, .inr (.inl f))
abbrev eS (G : Gx) (n : Nat) (f : Nat → Option Nat) : va_E := .inl (G.2.2.1 4, n, .inr (.inr (.inr (.inr f))))
abbrev eL (G : Gx) (n : Nat) (f : Nat → Option Nat) : va_E := .inl (G.2.2.1 5, n, .inr (.inr (.inr (.inr f))))
abbrev eO (ci : Nat) (fs : List Value) : va_E := .inr (ci, fs)
def cFE : Nat → Int32 := fun j => match j with | 0 => 0 | 1 => 800 | 2 => 848 | 3 => 896 | 4 => 904 | _ => 952
def cMO : Nat → Int32 := fun j => match j with | 0 => 40 | 1 => 24 | 2 => 24 | 3 => 4 | _ => 24
def sBy : List (List Int32) := [[119, 105, 114, 101], [112, 108, 117, 115], [109, 105, 110, 117, 115], [114, 101, 108, 97, 121], [98, 114, 101, 97, 107], [109, 97, 107, 101], [107, 101, 121], [108, 97, 109, 112], [99, 108, 111, 99, 107], [100, 105, 111, 100, 101], [107, 101, 121, 32, 97, 35, 59, 107, 101, 121, 32, 98, 35, 59], [114, 101, 108, 97, 121, 32, 65, 35, 32, 50, 32, 51, 32, 98, 114, 101, 97, 107, 32, 98, 114, 101, 97, 107, 32, 98, 114, 101, 97, 107, 32, 98, 114, 101, 97, 107, 32, 98, 114, 101, 97, 107, 59], [114, 101, 108, 97, 121, 32, 66, 35, 32, 50, 32, 51, 32, 98, 114, 101, 97, 107, 32, 98, 114, 101, 97, 107, 32, 98, 114, 101, 97, 107, 32, 98, 114, 101, 97, 107, 32, 98, 114, 101, 97, 107, 59], [108, 97, 109, 112, 32, 115, 35, 59], [119, 105, 114, 101, 32, 112, 108, 117, 115, 32, 97, 35, 46, 49, 32, 98, 35, 46, 49, 32, 65, 35, 46, 49, 59, 119, 105, 114, 101, 32, 97, 35, 46, 50, 32, 65, 35, 46, 112, 59, 119, 105, 114, 101, 32, 98, 35, 46, 50, 32, 66, 35, 46, 112, 59], [119, 105, 114, 101, 32, 109, 105, 110, 117, 115, 32, 65, 35, 46, 110, 32, 66, 35, 46, 110, 32, 115, 35, 46, 50, 59, 119, 105, 114, 101, 32, 65, 35, 46, 49, 43, 32, 66, 35, 46, 49, 59, 119, 105, 114, 101, 32, 65, 35, 46, 49, 45, 32, 66, 35, 46, 50, 59], [119, 105, 114, 101, 32, 66, 35, 46, 49, 43, 32, 66, 35, 46, 51, 32, 67, 64, 46, 49, 59, 119, 105, 114, 101, 32, 66, 35, 46, 50, 45, 32, 66, 35, 46, 52, 32, 78, 64, 46, 49, 59], [119, 105, 114, 101, 32, 65, 35, 46, 50, 43, 32, 66, 35, 46, 51, 45, 59, 119, 105, 114, 101, 32, 65, 35, 46, 50, 45, 32, 66, 35, 46, 51, 43, 59, 119, 105, 114, 101, 32, 65, 35, 46, 51, 43, 32, 66, 35, 46, 52, 45, 59, 119, 105, 114, 101, 32, 65, 35, 46, 51, 45, 32, 66, 35, 46, 52, 43, 59], [119, 105, 114, 101, 32, 67, 35, 46, 49, 32, 65, 35, 46, 50, 32, 65, 35, 46, 52, 59, 119, 105, 114, 101, 32, 78, 35, 46, 49, 32, 65, 35, 46, 51, 32, 65, 35, 46, 53, 59], [119, 105, 114, 101, 32, 66, 35, 46, 53, 43, 32, 65, 35, 46, 52, 43, 32, 65, 35, 46, 53, 45, 59, 119, 105, 114, 101, 32, 66, 35, 46, 53, 45, 32, 65, 35, 46, 52, 45, 32, 65, 35, 46, 53, 43, 59, 119, 105, 114, 101, 32, 66, 35, 46, 53, 32, 115, 35, 46, 49, 59], [108, 97, 109, 112, 32, 67, 35, 59, 108, 97, 109, 112, 32, 78, 35, 59], [119, 105, 114, 101, 32, 112, 108, 117, 115, 32, 78, 48, 46, 49, 59]]
def sLe : List Nat := [4, 4, 5, 5, 5, 4, 3, 4, 5, 5, 14, 43, 43, 8, 55, 58, 42, 68, 40, 61, 16, 15]
def sRf : List (String × Nat × String) := [("CoilBench$Tokens", 80, "wire"), ("CoilBench$Tokens", 86, "plus"), ("CoilBench$Tokens", 88, "minus"), ("CoilBench$Tokens", 90, "relay"), ("CoilBench$Tokens", 92, "break"), ("CoilBench$Tokens", 94, "make"), ("CoilBench$Tokens", 96, "key"), ("CoilBench$Tokens", 98, "lamp"), ("CoilBench$Tokens", 100, "clock"), ("CoilBench$Tokens", 102, "diode"), ("CoilBench$Adder", 14, "key a#;key b#;"), ("CoilBench$Adder", 20, "relay A# 2 3 break break break break break;"), ("CoilBench$Adder", 22, "relay B# 2 3 break break break break break;"), ("CoilBench$Adder", 24, "lamp s#;"), ("CoilBench$Adder", 26, "wire plus a#.1 b#.1 A#.1;wire a#.2 A#.p;wire b#.2 B#.p;"), ("CoilBench$Adder", 28, "wire minus A#.n B#.n s#.2;wire A#.1+ B#.1;wire A#.1- B#.2;"), ("CoilBench$Adder", 30, "wire B#.1+ B#.3 C@.1;wire B#.2- B#.4 N@.1;"), ("CoilBench$Adder", 32, "wire A#.2+ B#.3-;wire A#.2- B#.3+;wire A#.3+ B#.4-;wire A#.3- B#.4+;"), ("CoilBench$Adder", 34, "wire C#.1 A#.2 A#.4;wire N#.1 A#.3 A#.5;"), ("CoilBench$Adder", 36, "wire B#.5+ A#.4+ A#.5-;wire B#.5- A#.4- A#.5+;wire B#.5 s#.1;"), ("CoilBench$Adder", 38, "lamp C#;lamp N#;"), ("CoilBench$Adder", 40, "wire plus N0.1;")]
def nwF : List (String × Nat × String × String × String × String) := [("CoilBench$Reader", 155, "CoilBench$Tokens", "kinds", "[I", "CoilBench"), ("CoilBench$Reader", 81, "CoilBench$Tokens", "places", "[I", "CoilBench"), ("CoilBench$Reader", 127, "CoilBench$Tokens", "values", "[J", "CoilBench"), ("CoilBench$Reader", 152, "CoilBench$Tokens", "size", "I", "CoilBench"), ("CoilBench$Netlist", 72, "CoilBench", "FIRST_END", "[I", "CoilBench"), ("CoilBench$Machine", 42, "CoilBench$Netlist", "parts", "[I", "CoilBench"), ("CoilBench", 107, "CoilBench$Netlist", "parts", "[I", "CoilBench"), ("CoilBench", 133, "CoilBench$Netlist", "names", "[[J", "CoilBench"), ("CoilBench$Machine", 74, "CoilBench$Netlist", "pickTime", "[I", "CoilBench"), ("CoilBench", 170, "CoilBench$Netlist", "pickTime", "[I", "CoilBench"), ("CoilBench$Machine", 71, "CoilBench$Netlist", "dropTime", "[I", "CoilBench"), ("CoilBench", 173, "CoilBench$Netlist", "dropTime", "[I", "CoilBench"), ("CoilBench$Machine", 58, "CoilBench$Netlist", "contacts", "[I", "CoilBench"), ("CoilBench", 176, "CoilBench$Netlist", "contacts", "[I", "CoilBench"), ("CoilBench$Machine", 103, "CoilBench$Netlist", "netOf", "[I", "CoilBench"), ("CoilBench", 113, "CoilBench$Netlist", "toldNets", "I", "CoilBench"), ("CoilBench$Machine", 131, "CoilBench$Netlist", "toldNets", "I", "CoilBench"), ("CoilBench$Machine", 77, "CoilBench$Netlist", "nets", "I", "CoilBench"), ("CoilBench", 62, "CoilBench$Reader", "tokens", "LCoilBench$Tokens;", "CoilBench"), ("CoilBench", 92, "CoilBench$Reader", "draft", "LCoilBench$Netlist;", "CoilBench"), ("CoilBench", 76, "CoilBench$Reader", "fault", "I", "CoilBench"), ("CoilBench", 77, "CoilBench$Reader", "faultPlace", "I", "CoilBench"), ("CoilBench$Machine", 117, "CoilBench$Wear", "stuckAt", "[I", "CoilBench"), ("CoilBench", 196, "CoilBench$Wear", "stuckAt", "[I", "CoilBench"), ("CoilBench$Machine", 113, "CoilBench$Wear", "dusty", "[Z", "CoilBench"), ("CoilBench", 203, "CoilBench$Wear", "dusty", "[Z", "CoilBench"), ("CoilBench", 88, "CoilBench$Machine", "netlist", "LCoilBench$Netlist;", "CoilBench"), ("CoilBench", 95, "CoilBench$Machine", "wear", "LCoilBench$Wear;", "CoilBench"), ("CoilBench$Races", 42, "CoilBench$State", "picked", "J", "CoilBench"), ("CoilBench$Machine", 68, "CoilBench$State", "counts", "[I", "CoilBench"), ("CoilBench", 164, "CoilBench$State", "counts", "[I", "CoilBench"), ("CoilBench$Machine", 83, "CoilBench$State", "positions", "[I", "CoilBench"), ("CoilBench", 186, "CoilBench$State", "positions", "[I", "CoilBench"), ("CoilBench", 141, "CoilBench$State", "keys", "I", "CoilBench"), ("CoilBench$Machine", 32, "CoilBench$State", "time", "I", "CoilBench"), ("CoilBench", 116, "CoilBench$State", "time", "I", "CoilBench"), ("CoilBench", 126, "CoilBench$History", "size", "I", "CoilBench"), ("CoilBench$Netlist", 61, "CoilBench", "MOST", "[I", "CoilBench"), ("CoilBench$Machine", 93, "CoilBench", "FIRST_END", "[I", "CoilBench")]
def nwM : List (String × Nat × MethodName × String) := [("CoilBench", 25, yX5_init, "CoilBench"), ("CoilBench$Reader", 11, yX7_init, "CoilBench"), ("CoilBench", 32, yX2_init, "CoilBench"), ("CoilBench$Machine", 27, yX8_init, "CoilBench"), ("CoilBench", 39, yX6_init, "CoilBench"), ("CoilBench$History", 24, yX6_init, "CoilBench"), ("CoilBench", 53, yX4_init, "CoilBench"), ("CoilBench$Races", 11, yX6_init, "CoilBench"), ("CoilBench$Machine", 109, yX10_contactNumber, "CoilBench")]
def sK (G : Gx) (i : Nat) : Nat := G.2.2.2 (2 + 2 * i)
def sV (G : Gx) (i : Nat) : Nat := G.2.2.2 (3 + 2 * i)
/-- what stands outside every world and stays: static arrays, String constants, links of nest mates -/
def vE (G : Gx) (A : Nat → Prop) (U : State) (H : Heap) : Prop :=
  (va_Z "CoilBench" "FIRST_END" "[I" (.ref (G.2.2.2 0)) A U H ∧ va_T .int (G.2.2.2 0) 6 (fun j => .int (cFE j)) A U H) ∧
  (va_Z "CoilBench" "MOST" "[I" (.ref (G.2.2.2 1)) A U H ∧ va_T .int (G.2.2.2 1) 5 (fun j => .int (cMO j)) A U H) ∧
  va_Z "java/lang/String" "COMPACT_STRINGS" "Z" (.int 1) A U H ∧ va_Zq "jdk/internal/util/Preconditions" "SIOOBE_FORMATTER" "Ljava/util/function/BiFunction;" A U H ∧
  vk_S 22 sLe sBy (sK G) (sV G) A U H ∧ (∀ (i : Nat) (q : String × Nat × String), sRf[i]? = some q → vk_R q.1 q.2.1 q.2.2 (sK G i) U) ∧
  (∀ q ∈ nwF, va_Nw (.fieldLinkNest q.1 q.2.1 q.2.2.1 q.2.2.2.1 q.2.2.2.2.1 q.2.2.2.2.2) U) ∧ (∀ q ∈ nwM, va_Nw (.methodLinkNest q.1 q.2.1 q.2.2.1 q.2.2.2) U)
theorem vE.warm {G : Gx} {A : Nat → Prop} {s U : State} {H : Heap} (hW : s.WarmedH U.vm) (h : vE G A s H) : vE G A U H := by
  obtain ⟨⟨h1, h2⟩, ⟨h3, h4⟩, h5, h6, h7, h8, h9, h10⟩ := h
  exact ⟨⟨va_Z.moved hW.alike h1, va_T.moved hW.alike h2⟩, ⟨va_Z.moved hW.alike h3, va_T.moved hW.alike h4⟩, va_Z.moved hW.alike h5, va_Zq.moved hW.alike h6, vk_S.moved hW.alike h7, fun i q hq => vk_R.warm hW (h8 i q hq), fun q hq => va_Nw.warmF hW (h9 q hq), fun q hq => va_Nw.warmM hW (h10 q hq)⟩
theorem vE.same {G : Gx} {A : Nat → Prop} {s U : State} {H : Heap} (hv : U.vm = s.vm) (h : vE G A s H) : vE G A U H := by
  obtain ⟨⟨h1, h2⟩, ⟨h3, h4⟩, h5, h6, h7, h8, h9, h10⟩ := h
  have ha : s.vm.Alike U.vm := by rw [hv]; exact Vm.Alike.refl _
  exact ⟨⟨va_Z.moved ha h1, va_T.moved ha h2⟩, ⟨va_Z.moved ha h3, va_T.moved ha h4⟩, va_Z.moved ha h5, va_Zq.moved ha h6, vk_S.moved ha h7, fun i q hq => vk_R.same hv (h8 i q hq), fun q hq => va_Nw.same rfl hv.symm (h9 q hq), fun q hq => va_Nw.same rfl hv.symm (h10 q hq)⟩
theorem vE.kept {G : Gx} {A : Nat → Prop} {U : State} {H H1 : Heap} (h : vE G A U H) (hq : ∀ a : Nat, a < H.size → ¬ A a → H1[a]? = H[a]?) : vE G A U H1 := by
  obtain ⟨⟨h1, h2⟩, ⟨h3, h4⟩, h5, h6, h7, h8, h9, h10⟩ := h
  exact ⟨⟨h1.kept hq, h2.kept hq⟩, ⟨h3.kept hq, h4.kept hq⟩, h5.kept hq, h6.kept hq, h7.kept hq, h8, h9, h10⟩
theorem vE.narrow {G : Gx} {A B : Nat → Prop} {U : State} {H : Heap} (h : vE G A U H) (hAB : ∀ q, B q → A q) : vE G B U H := by
  obtain ⟨⟨h1, h2⟩, ⟨h3, h4⟩, h5, h6, h7, h8, h9, h10⟩ := h
  exact ⟨⟨h1.narrow hAB, h2.narrow hAB⟩, ⟨h3.narrow hAB, h4.narrow hAB⟩, h5.narrow hAB, h6.narrow hAB, h7.narrow hAB, h8, h9, h10⟩
/-- a frame's fixed facts -/
def vH (G : Gx) : Cx → ByteArray → String → Nat → Option FieldType → Room → Prop
  | (p, _, R, s, m, args, _, meth, c, A, _), cc, own, nL, ret, R0 => p.tables.exec = Jvm.exec ∧ c.code = cc ∧ c.maxLocals = nL ∧ s.vm.findClass own = some m.cls ∧ (∀ w ∈ TB, w.before args s = true) ∧ meth.sig.returnType = ret ∧ meth.locks = false ∧ va_K G.2.1 classes (tysG G) s ∧ (∀ q, s.heap.size ≤ q → A q) ∧ vE G A s s.heap ∧ R = R0
/-- the machine, at pc with these locals, this stack and this world, comes to the frame's end -/
def vG (G : Gx) : Cx → Nat → Nat → Nat → List (Nat × Value) → List Value → va_W → Prop
  | (p, e, R, s, m, args, below, meth, c, A, Q), k, n, pc, lv, st, ws => ∀ (H : Heap) (locs : List Loc) (ls : Array Slot), va_P G.2.1 classes ws H → va_D A ws → va_S A s.heap H locs → lv_has ls c.maxLocals lv → W p G.1 e R s m args below meth c H locs k n Q (F0 m pc ls st)
/-- how a method ends: its answer and its world -/
def vQ (G : Gx) (A : Nat → Prop) (o : Option Value) (ws' : va_W) : Array Value → State → Outcome → State → Prop := fun _ st oc t => (oc = .returned o ∧ va_P G.2.1 classes ws' t.heap ∧ va_D A ws') ∧ va_F A st t
def vR (G : Gx) : Cx → Nat → Nat → Option Value → va_W → Prop
  | (_, _, _, s, _, args, below, _, _, A, Q), k, n, o, ws' => Q = MQ below (vQ G A o ws') args s k n A
/-- a method's contract: at these arguments and this world it answers o and leaves ws' -/
def vM (G : Gx) (y : MethodName) (cc : ByteArray) (nL : Nat) (ret : Option FieldType) (fr lo : Nat) (as : List Value) (ws : va_W) (o : Option Value) (ws' : va_W) : Prop :=
  ∀ sz : Nat, Met G.1 y (Cond.code y cc nL ret :: TB) { frames := fr, cells := 0, slots := 0, locals := lo } (va_Pc as (fun U => U.heap.size = sz ∧ va_P G.2.1 classes ws U.heap ∧ va_K G.2.1 classes (tysG G) U ∧ va_D (fun _ => True) ws ∧ vE G (va_A ws sz) U U.heap)) (vQ G (va_A ws sz) o ws') 0 0 (va_A ws sz)
theorem vM_of {G : Gx} {y : MethodName} {cc : ByteArray} {nL : Nat} {ret : Option FieldType} {fr lo : Nat} {as : List Value} {ws : va_W} {o : Option Value} {ws' : va_W} (hy : plainName y.cls = true) (hn : (lg_sl as).length ≤ nL) (lv : List (Nat × Value)) (hlv : lv_args 0 as = lv)
    (body : ∀ C : Cx, vH G C cc y.cls nL ret { frames := fr, cells := 0, slots := 0, locals := lo } → vR G C 0 0 o ws' → vG G C 0 0 0 lv [] ws) : vM G y cc nL ret fr lo as ws o ws' := by
  intro sz
  refine Met.ofW (cc := cc) (maxL := nL) (ret := ret) hy rfl ?_
  intro p e s m args below meth c s₁ B hml hv
  obtain ⟨rfl, hsz, hP, hK, hD0, hE⟩ := hv
  subst hsz
  have hD := hD0.self (sz := s.heap.size)
  have hts0 := atoms_spec (ws := Cond.code y cc nL ret :: TB) B.pre
  have hl := lv_entry as (n := nL) hn
  rw [lg_entry_eq]
  generalize (lg_sl as ++ List.replicate (nL - (lg_sl as).length) Slot.unset).toArray = ls at hl ⊢
  subst hml
  subst hlv
  exact body (p, e, _, s, m, _, below, meth, c, va_A ws s.heap.size, _) ⟨B.exec, B.bytes, rfl, findClass_of_methodNamed B.named, fun w hw => hts0 w (List.mem_cons_of_mem _ hw), B.returns, B.notSynchronized, hK, fun q h => Or.inr h, hE, rfl⟩ rfl s.heap [] ls hP hD va_S.rf hl
theorem g_iconst {G : Gx} {C : Cx} {cc : ByteArray} {own : String} {nL : Nat} {ret : Option FieldType} {R0 : Room} {k n pc : Nat} {lv : List (Nat × Value)} {st : List Value} {ws : va_W} {z : Int} (v : Int32) (hC : vH G C cc own nL ret R0) (d : decode cc pc = .ok (.iconst z, 1)) (hv : Int32.ofInt z = v) (K : vG G C k n (pc + 1) lv (.int v :: st) ws) : vG G C k n pc lv st ws := by
  obtain ⟨p, e, R, s, m, args, below, meth, c, A, Q⟩ := C
  obtain ⟨hx, hb, hml, hown, hts, hr, hlk, hK, hA, hE, hR⟩ := hC
  intro H locs ls hP hD hS hl
  exact lv_iconst hx hb d hv (K H locs ls hP hD hS hl)
theorem g_bipush {G : Gx} {C : Cx} {cc : ByteArray} {own : String} {nL : Nat} {ret : Option FieldType} {R0 : Room} {k n pc : Nat} {lv : List (Nat × Value)} {st : List Value} {ws : va_W} {z : Int} (v : Int32) (hC : vH G C cc own nL ret R0) (d : decode cc pc = .ok (.bipush z, 2)) (hv : (Int8.ofInt z).toInt32 = v) (K : vG G C k n (pc + 2) lv (.int v :: st) ws) : vG G C k n pc lv st ws := by
  obtain ⟨p, e, R, s, m, args, below, meth, c, A, Q⟩ := C
  obtain ⟨hx, hb, hml, hown, hts, hr, hlk, hK, hA, hE, hR⟩ := hC
  intro H locs ls hP hD hS hl
  exact lv_bipush hx hb d hv (K H locs ls hP hD hS hl)
theorem g_sipush {G : Gx} {C : Cx} {cc : ByteArray} {own : String} {nL : Nat} {ret : Option FieldType} {R0 : Room} {k n pc : Nat} {lv : List (Nat × Value)} {st : List Value} {ws : va_W} {z : Int} (v : Int32) (hC : vH G C cc own nL ret R0) (d : decode cc pc = .ok (.sipush z, 3)) (hv : (Int16.ofInt z).toInt32 = v) (K : vG G C k n (pc + 3) lv (.int v :: st) ws) : vG G C k n pc lv st ws := by
  obtain ⟨p, e, R, s, m, args, below, meth, c, A, Q⟩ := C
  obtain ⟨hx, hb, hml, hown, hts, hr, hlk, hK, hA, hE, hR⟩ := hC
  intro H locs ls hP hD hS hl
  exact lv_sipush hx hb d hv (K H locs ls hP hD hS hl)
theorem g_lconst {G : Gx} {C : Cx} {cc : ByteArray} {own : String} {nL : Nat} {ret : Option FieldType} {R0 : Room} {k n pc : Nat} {lv : List (Nat × Value)} {st : List Value} {ws : va_W} {z : Fin 2} (v : Int64) (hC : vH G C cc own nL ret R0) (d : decode cc pc = .ok (.lconst z, 1)) (hv : Int64.ofNat (z : Nat) = v) (K : vG G C k n (pc + 1) lv (.long v :: st) ws) : vG G C k n pc lv st ws := by
  obtain ⟨p, e, R, s, m, args, below, meth, c, A, Q⟩ := C
  obtain ⟨hx, hb, hml, hown, hts, hr, hlk, hK, hA, hE, hR⟩ := hC
  intro H locs ls hP hD hS hl
  exact lv_lconst hx hb d hv (K H locs ls hP hD hS hl)
theorem g_ldc {G : Gx} {C : Cx} {cc : ByteArray} {own : String} {nL : Nat} {ret : Option FieldType} {R0 : Room} {k n pc : Nat} {lv : List (Nat × Value)} {st : List Value} {ws : va_W} {i : Nat} {v : Int32} (hC : vH G C cc own nL ret R0) (d : decode cc pc = .ok (.ldc i, 2)) (hv : Cond.constant own i v ∈ TB) (K : vG G C k n (pc + 2) lv (.int v :: st) ws) : vG G C k n pc lv st ws := by
  obtain ⟨p, e, R, s, m, args, below, meth, c, A, Q⟩ := C
  obtain ⟨hx, hb, hml, hown, hts, hr, hlk, hK, hA, hE, hR⟩ := hC
  intro H locs ls hP hD hS hl
  exact lv_ldc hx hb hown (hts _ hv) d (K H locs ls hP hD hS hl)
theorem g_ldc2 {G : Gx} {C : Cx} {cc : ByteArray} {own : String} {nL : Nat} {ret : Option FieldType} {R0 : Room} {k n pc : Nat} {lv : List (Nat × Value)} {st : List Value} {ws : va_W} {i : Nat} {v : Int64} (hC : vH G C cc own nL ret R0) (d : decode cc pc = .ok (.ldc2_w i, 3)) (hv : Cond.constantLong own i v ∈ TB) (K : vG G C k n (pc + 3) lv (.long v :: st) ws) : vG G C k n pc lv st ws := by
  obtain ⟨p, e, R, s, m, args, below, meth, c, A, Q⟩ := C
  obtain ⟨hx, hb, hml, hown, hts, hr, hlk, hK, hA, hE, hR⟩ := hC
  intro H locs ls hP hD hS hl
  exact lv_ldc2 hx hb hown (hts _ hv) d (K H locs ls hP hD hS hl)
theorem g_ldcS {G : Gx} {C : Cx} {cc : ByteArray} {own : String} {nL : Nat} {ret : Option FieldType} {R0 : Room} {k n pc : Nat} {lv : List (Nat × Value)} {st : List Value} {ws : va_W} {i j : Nat} {tx : String} (hC : vH G C cc own nL ret R0) (d : decode cc pc = .ok (.ldc i, 2)) (hv : sRf[j]? = some (own, i, tx)) (K : vG G C k n (pc + 2) lv (.ref (sK G j) :: st) ws) : vG G C k n pc lv st ws := by
  obtain ⟨p, e, R, s, m, args, below, meth, c, A, Q⟩ := C
  obtain ⟨hx, hb, hml, hown, hts, hr, hlk, hK, hA, hE, hR⟩ := hC
  intro H locs ls hP hD hS hl
  exact va_ldcS hx hb hown (hE.2.2.2.2.2.1 j _ hv) d (K H locs ls hP hD hS hl)
theorem g_iload {G : Gx} {C : Cx} {cc : ByteArray} {own : String} {nL : Nat} {ret : Option FieldType} {R0 : Room} {k n pc : Nat} {lv : List (Nat × Value)} {st : List Value} {ws : va_W} {i : Nat} {x : Int32} (j : Nat) (hC : vH G C cc own nL ret R0) (d : decode cc pc = .ok (.iload i, 2)) (h : lv[j]? = some (i, .int x)) (K : vG G C k n (pc + 2) lv (.int x :: st) ws) : vG G C k n pc lv st ws := by
  obtain ⟨p, e, R, s, m, args, below, meth, c, A, Q⟩ := C
  obtain ⟨hx, hb, hml, hown, hts, hr, hlk, hK, hA, hE, hR⟩ := hC
  intro H locs ls hP hD hS hl
  exact lv_iload hx hb d (lv_at hl j h) (K H locs ls hP hD hS hl)
theorem g_iload_n {G : Gx} {C : Cx} {cc : ByteArray} {own : String} {nL : Nat} {ret : Option FieldType} {R0 : Room} {k n pc : Nat} {lv : List (Nat × Value)} {st : List Value} {ws : va_W} {i : Fin 4} {x : Int32} (j : Nat) (hC : vH G C cc own nL ret R0) (d : decode cc pc = .ok (.iload_n i, 1)) (h : lv[j]? = some ((i : Nat), .int x)) (K : vG G C k n (pc + 1) lv (.int x :: st) ws) : vG G C k n pc lv st ws := by
  obtain ⟨p, e, R, s, m, args, below, meth, c, A, Q⟩ := C
  obtain ⟨hx, hb, hml, hown, hts, hr, hlk, hK, hA, hE, hR⟩ := hC
  intro H locs ls hP hD hS hl
  exact lv_iload_n hx hb d rfl (lv_at hl j h) (K H locs ls hP hD hS hl)
theorem g_lload {G : Gx} {C : Cx} {cc : ByteArray} {own : String} {nL : Nat} {ret : Option FieldType} {R0 : Room} {k n pc : Nat} {lv : List (Nat × Value)} {st : List Value} {ws : va_W} {i : Nat} {x : Int64} (j : Nat) (hC : vH G C cc own nL ret R0) (d : decode cc pc = .ok (.lload i, 2)) (h : lv[j]? = some (i, .long x)) (K : vG G C k n (pc + 2) lv (.long x :: st) ws) : vG G C k n pc lv st ws := by
  obtain ⟨p, e, R, s, m, args, below, meth, c, A, Q⟩ := C
  obtain ⟨hx, hb, hml, hown, hts, hr, hlk, hK, hA, hE, hR⟩ := hC
  intro H locs ls hP hD hS hl
  exact lv_lload hx hb d (lv_at hl j h) (K H locs ls hP hD hS hl)
theorem g_lload_n {G : Gx} {C : Cx} {cc : ByteArray} {own : String} {nL : Nat} {ret : Option FieldType} {R0 : Room} {k n pc : Nat} {lv : List (Nat × Value)} {st : List Value} {ws : va_W} {i : Fin 4} {x : Int64} (j : Nat) (hC : vH G C cc own nL ret R0) (d : decode cc pc = .ok (.lload_n i, 1)) (h : lv[j]? = some ((i : Nat), .long x)) (K : vG G C k n (pc + 1) lv (.long x :: st) ws) : vG G C k n pc lv st ws := by
  obtain ⟨p, e, R, s, m, args, below, meth, c, A, Q⟩ := C
  obtain ⟨hx, hb, hml, hown, hts, hr, hlk, hK, hA, hE, hR⟩ := hC
  intro H locs ls hP hD hS hl
  exact lv_lload_n hx hb d rfl (lv_at hl j h) (K H locs ls hP hD hS hl)
theorem g_aload {G : Gx} {C : Cx} {cc : ByteArray} {own : String} {nL : Nat} {ret : Option FieldType} {R0 : Room} {k n pc : Nat} {lv : List (Nat × Value)} {st : List Value} {ws : va_W} {i : Nat} {x : Nat} (j : Nat) (hC : vH G C cc own nL ret R0) (d : decode cc pc = .ok (.aload i, 2)) (h : lv[j]? = some (i, .ref x)) (K : vG G C k n (pc + 2) lv (.ref x :: st) ws) : vG G C k n pc lv st ws := by
  obtain ⟨p, e, R, s, m, args, below, meth, c, A, Q⟩ := C
  obtain ⟨hx, hb, hml, hown, hts, hr, hlk, hK, hA, hE, hR⟩ := hC
  intro H locs ls hP hD hS hl
  exact lv_aload hx hb d (lv_at hl j h) (K H locs ls hP hD hS hl)
theorem g_aload_n {G : Gx} {C : Cx} {cc : ByteArray} {own : String} {nL : Nat} {ret : Option FieldType} {R0 : Room} {k n pc : Nat} {lv : List (Nat × Value)} {st : List Value} {ws : va_W} {i : Fin 4} {x : Nat} (j : Nat) (hC : vH G C cc own nL ret R0) (d : decode cc pc = .ok (.aload_n i, 1)) (h : lv[j]? = some ((i : Nat), .ref x)) (K : vG G C k n (pc + 1) lv (.ref x :: st) ws) : vG G C k n pc lv st ws := by
  obtain ⟨p, e, R, s, m, args, below, meth, c, A, Q⟩ := C
  obtain ⟨hx, hb, hml, hown, hts, hr, hlk, hK, hA, hE, hR⟩ := hC
  intro H locs ls hP hD hS hl
  exact lv_aload_n hx hb d rfl (lv_at hl j h) (K H locs ls hP hD hS hl)
theorem g_istore {G : Gx} {C : Cx} {cc : ByteArray} {own : String} {nL : Nat} {ret : Option FieldType} {R0 : Room} {k n pc : Nat} {lv : List (Nat × Value)} {st : List Value} {ws : va_W} {i : Nat} {x : Int32} (lv2 : List (Nat × Value)) (hC : vH G C cc own nL ret R0) (d : decode cc pc = .ok (.istore i, 2)) (hn : i < nL) (h : (i, Value.int x) :: lv.filter (fun q => !(q.1 == i) && !(q.1 + 1 == i && q.2.category == 2)) = lv2) (K : vG G C k n (pc + 2) lv2 st ws) : vG G C k n pc lv (.int x :: st) ws := by
  obtain ⟨p, e, R, s, m, args, below, meth, c, A, Q⟩ := C
  obtain ⟨hx, hb, hml, hown, hts, hr, hlk, hK, hA, hE, hR⟩ := hC
  intro H locs ls hP hD hS hl
  exact lv_istore hx hb d hl (by rw [hml]; exact hn) h (fun ls hl => (K H locs ls hP hD hS hl))
theorem g_istore_n {G : Gx} {C : Cx} {cc : ByteArray} {own : String} {nL : Nat} {ret : Option FieldType} {R0 : Room} {k n pc : Nat} {lv : List (Nat × Value)} {st : List Value} {ws : va_W} {i : Fin 4} {x : Int32} (lv2 : List (Nat × Value)) (hC : vH G C cc own nL ret R0) (d : decode cc pc = .ok (.istore_n i, 1)) (hn : (i : Nat) < nL) (h : ((i : Nat), Value.int x) :: lv.filter (fun q => !(q.1 == (i : Nat)) && !(q.1 + 1 == (i : Nat) && q.2.category == 2)) = lv2) (K : vG G C k n (pc + 1) lv2 st ws) : vG G C k n pc lv (.int x :: st) ws := by
  obtain ⟨p, e, R, s, m, args, below, meth, c, A, Q⟩ := C
  obtain ⟨hx, hb, hml, hown, hts, hr, hlk, hK, hA, hE, hR⟩ := hC
  intro H locs ls hP hD hS hl
  exact lv_istore_n hx hb d rfl hl (by rw [hml]; exact hn) h (fun ls hl => (K H locs ls hP hD hS hl))
theorem g_lstore {G : Gx} {C : Cx} {cc : ByteArray} {own : String} {nL : Nat} {ret : Option FieldType} {R0 : Room} {k n pc : Nat} {lv : List (Nat × Value)} {st : List Value} {ws : va_W} {i : Nat} {x : Int64} (lv2 : List (Nat × Value)) (hC : vH G C cc own nL ret R0) (d : decode cc pc = .ok (.lstore i, 2)) (hn : i + 1 < nL) (h : (i, Value.long x) :: lv.filter (fun q => !(q.1 == i) && (!(q.1 == i + 1) && !(q.1 + 1 == i && q.2.category == 2))) = lv2) (K : vG G C k n (pc + 2) lv2 st ws) : vG G C k n pc lv (.long x :: st) ws := by
  obtain ⟨p, e, R, s, m, args, below, meth, c, A, Q⟩ := C
  obtain ⟨hx, hb, hml, hown, hts, hr, hlk, hK, hA, hE, hR⟩ := hC
  intro H locs ls hP hD hS hl
  exact lv_lstore hx hb d hl (by rw [hml]; exact hn) h (fun ls hl => (K H locs ls hP hD hS hl))
theorem g_lstore_n {G : Gx} {C : Cx} {cc : ByteArray} {own : String} {nL : Nat} {ret : Option FieldType} {R0 : Room} {k n pc : Nat} {lv : List (Nat × Value)} {st : List Value} {ws : va_W} {i : Fin 4} {x : Int64} (lv2 : List (Nat × Value)) (hC : vH G C cc own nL ret R0) (d : decode cc pc = .ok (.lstore_n i, 1)) (hn : (i : Nat) + 1 < nL) (h : ((i : Nat), Value.long x) :: lv.filter (fun q => !(q.1 == (i : Nat)) && (!(q.1 == (i : Nat) + 1) && !(q.1 + 1 == (i : Nat) && q.2.category == 2))) = lv2) (K : vG G C k n (pc + 1) lv2 st ws) : vG G C k n pc lv (.long x :: st) ws := by
  obtain ⟨p, e, R, s, m, args, below, meth, c, A, Q⟩ := C
  obtain ⟨hx, hb, hml, hown, hts, hr, hlk, hK, hA, hE, hR⟩ := hC
  intro H locs ls hP hD hS hl
  exact lv_lstore_n hx hb d rfl hl (by rw [hml]; exact hn) h (fun ls hl => (K H locs ls hP hD hS hl))
theorem g_astore {G : Gx} {C : Cx} {cc : ByteArray} {own : String} {nL : Nat} {ret : Option FieldType} {R0 : Room} {k n pc : Nat} {lv : List (Nat × Value)} {st : List Value} {ws : va_W} {i : Nat} {x : Nat} (lv2 : List (Nat × Value)) (hC : vH G C cc own nL ret R0) (d : decode cc pc = .ok (.astore i, 2)) (hn : i < nL) (h : (i, Value.ref x) :: lv.filter (fun q => !(q.1 == i) && !(q.1 + 1 == i && q.2.category == 2)) = lv2) (K : vG G C k n (pc + 2) lv2 st ws) : vG G C k n pc lv (.ref x :: st) ws := by
  obtain ⟨p, e, R, s, m, args, below, meth, c, A, Q⟩ := C
  obtain ⟨hx, hb, hml, hown, hts, hr, hlk, hK, hA, hE, hR⟩ := hC
  intro H locs ls hP hD hS hl
  exact lv_astore hx hb d hl (by rw [hml]; exact hn) h (fun ls hl => (K H locs ls hP hD hS hl))
theorem g_astore_n {G : Gx} {C : Cx} {cc : ByteArray} {own : String} {nL : Nat} {ret : Option FieldType} {R0 : Room} {k n pc : Nat} {lv : List (Nat × Value)} {st : List Value} {ws : va_W} {i : Fin 4} {x : Nat} (lv2 : List (Nat × Value)) (hC : vH G C cc own nL ret R0) (d : decode cc pc = .ok (.astore_n i, 1)) (hn : (i : Nat) < nL) (h : ((i : Nat), Value.ref x) :: lv.filter (fun q => !(q.1 == (i : Nat)) && !(q.1 + 1 == (i : Nat) && q.2.category == 2)) = lv2) (K : vG G C k n (pc + 1) lv2 st ws) : vG G C k n pc lv (.ref x :: st) ws := by
  obtain ⟨p, e, R, s, m, args, below, meth, c, A, Q⟩ := C
  obtain ⟨hx, hb, hml, hown, hts, hr, hlk, hK, hA, hE, hR⟩ := hC
  intro H locs ls hP hD hS hl
  exact lv_astore_n hx hb d rfl hl (by rw [hml]; exact hn) h (fun ls hl => (K H locs ls hP hD hS hl))
theorem g_iinc {G : Gx} {C : Cx} {cc : ByteArray} {own : String} {nL : Nat} {ret : Option FieldType} {R0 : Room} {k n pc : Nat} {lv : List (Nat × Value)} {st : List Value} {ws : va_W} {i : Nat} {z : Int} {x v : Int32} (j : Nat) (lv2 : List (Nat × Value)) (hC : vH G C cc own nL ret R0) (d : decode cc pc = .ok (.iinc i z, 3)) (hj : lv[j]? = some (i, .int x)) (hv : x + Int32.ofInt z = v) (hn : i < nL) (h : (i, Value.int v) :: lv.filter (fun q => !(q.1 == i) && !(q.1 + 1 == i && q.2.category == 2)) = lv2) (K : vG G C k n (pc + 3) lv2 st ws) : vG G C k n pc lv st ws := by
  obtain ⟨p, e, R, s, m, args, below, meth, c, A, Q⟩ := C
  obtain ⟨hx, hb, hml, hown, hts, hr, hlk, hK, hA, hE, hR⟩ := hC
  intro H locs ls hP hD hS hl
  exact lv_iinc hx hb d hl hj hv (by rw [hml]; exact hn) h (fun ls hl => (K H locs ls hP hD hS hl))
theorem g_nmi {G : Gx} {C : Cx} {k n pc : Nat} {lv : List (Nat × Value)} {st : List Value} {ws : va_W} {x y : Int32} (ex : y = x) (K : vG G C k n pc lv (.int y :: st) ws) : vG G C k n pc lv (.int x :: st) ws := by
  rw [← ex]; exact K
theorem g_nml {G : Gx} {C : Cx} {k n pc : Nat} {lv : List (Nat × Value)} {st : List Value} {ws : va_W} {x y : Int64} (ex : y = x) (K : vG G C k n pc lv (.long y :: st) ws) : vG G C k n pc lv (.long x :: st) ws := by
  rw [← ex]; exact K
theorem g_iadd {G : Gx} {C : Cx} {cc : ByteArray} {own : String} {nL : Nat} {ret : Option FieldType} {R0 : Room} {k n pc : Nat} {lv : List (Nat × Value)} {st : List Value} {ws : va_W} {x y : Int32} (hC : vH G C cc own nL ret R0) (d : decode cc pc = .ok (.iadd, 1)) (K : vG G C k n (pc + 1) lv (.int (x + y) :: st) ws) : vG G C k n pc lv (.int y :: .int x :: st) ws := by
  obtain ⟨p, e, R, s, m, args, below, meth, c, A, Q⟩ := C
  obtain ⟨hx, hb, hml, hown, hts, hr, hlk, hK, hA, hE, hR⟩ := hC
  intro H locs ls hP hD hS hl
  exact lv_iadd hx hb d (K H locs ls hP hD hS hl)
theorem g_isub {G : Gx} {C : Cx} {cc : ByteArray} {own : String} {nL : Nat} {ret : Option FieldType} {R0 : Room} {k n pc : Nat} {lv : List (Nat × Value)} {st : List Value} {ws : va_W} {x y : Int32} (hC : vH G C cc own nL ret R0) (d : decode cc pc = .ok (.isub, 1)) (K : vG G C k n (pc + 1) lv (.int (x - y) :: st) ws) : vG G C k n pc lv (.int y :: .int x :: st) ws := by
  obtain ⟨p, e, R, s, m, args, below, meth, c, A, Q⟩ := C
  obtain ⟨hx, hb, hml, hown, hts, hr, hlk, hK, hA, hE, hR⟩ := hC
  intro H locs ls hP hD hS hl
  exact lv_isub hx hb d (K H locs ls hP hD hS hl)
theorem g_imul {G : Gx} {C : Cx} {cc : ByteArray} {own : String} {nL : Nat} {ret : Option FieldType} {R0 : Room} {k n pc : Nat} {lv : List (Nat × Value)} {st : List Value} {ws : va_W} {x y : Int32} (hC : vH G C cc own nL ret R0) (d : decode cc pc = .ok (.imul, 1)) (K : vG G C k n (pc + 1) lv (.int (x * y) :: st) ws) : vG G C k n pc lv (.int y :: .int x :: st) ws := by
  obtain ⟨p, e, R, s, m, args, below, meth, c, A, Q⟩ := C
  obtain ⟨hx, hb, hml, hown, hts, hr, hlk, hK, hA, hE, hR⟩ := hC
  intro H locs ls hP hD hS hl
  exact lv_imul hx hb d (K H locs ls hP hD hS hl)
theorem g_iand {G : Gx} {C : Cx} {cc : ByteArray} {own : String} {nL : Nat} {ret : Option FieldType} {R0 : Room} {k n pc : Nat} {lv : List (Nat × Value)} {st : List Value} {ws : va_W} {x y : Int32} (hC : vH G C cc own nL ret R0) (d : decode cc pc = .ok (.iand, 1)) (K : vG G C k n (pc + 1) lv (.int (x &&& y) :: st) ws) : vG G C k n pc lv (.int y :: .int x :: st) ws := by
  obtain ⟨p, e, R, s, m, args, below, meth, c, A, Q⟩ := C
  obtain ⟨hx, hb, hml, hown, hts, hr, hlk, hK, hA, hE, hR⟩ := hC
  intro H locs ls hP hD hS hl
  exact lv_iand hx hb d (K H locs ls hP hD hS hl)
theorem g_ior {G : Gx} {C : Cx} {cc : ByteArray} {own : String} {nL : Nat} {ret : Option FieldType} {R0 : Room} {k n pc : Nat} {lv : List (Nat × Value)} {st : List Value} {ws : va_W} {x y : Int32} (hC : vH G C cc own nL ret R0) (d : decode cc pc = .ok (.ior, 1)) (K : vG G C k n (pc + 1) lv (.int (x ||| y) :: st) ws) : vG G C k n pc lv (.int y :: .int x :: st) ws := by
  obtain ⟨p, e, R, s, m, args, below, meth, c, A, Q⟩ := C
  obtain ⟨hx, hb, hml, hown, hts, hr, hlk, hK, hA, hE, hR⟩ := hC
  intro H locs ls hP hD hS hl
  exact lv_ior hx hb d (K H locs ls hP hD hS hl)
theorem g_ixor {G : Gx} {C : Cx} {cc : ByteArray} {own : String} {nL : Nat} {ret : Option FieldType} {R0 : Room} {k n pc : Nat} {lv : List (Nat × Value)} {st : List Value} {ws : va_W} {x y : Int32} (hC : vH G C cc own nL ret R0) (d : decode cc pc = .ok (.ixor, 1)) (K : vG G C k n (pc + 1) lv (.int (x ^^^ y) :: st) ws) : vG G C k n pc lv (.int y :: .int x :: st) ws := by
  obtain ⟨p, e, R, s, m, args, below, meth, c, A, Q⟩ := C
  obtain ⟨hx, hb, hml, hown, hts, hr, hlk, hK, hA, hE, hR⟩ := hC
  intro H locs ls hP hD hS hl
  exact lv_ixor hx hb d (K H locs ls hP hD hS hl)
theorem g_ladd {G : Gx} {C : Cx} {cc : ByteArray} {own : String} {nL : Nat} {ret : Option FieldType} {R0 : Room} {k n pc : Nat} {lv : List (Nat × Value)} {st : List Value} {ws : va_W} {x y : Int64} (hC : vH G C cc own nL ret R0) (d : decode cc pc = .ok (.ladd, 1)) (K : vG G C k n (pc + 1) lv (.long (x + y) :: st) ws) : vG G C k n pc lv (.long y :: .long x :: st) ws := by
  obtain ⟨p, e, R, s, m, args, below, meth, c, A, Q⟩ := C
  obtain ⟨hx, hb, hml, hown, hts, hr, hlk, hK, hA, hE, hR⟩ := hC
  intro H locs ls hP hD hS hl
  exact lv_ladd hx hb d (K H locs ls hP hD hS hl)
theorem g_lsub {G : Gx} {C : Cx} {cc : ByteArray} {own : String} {nL : Nat} {ret : Option FieldType} {R0 : Room} {k n pc : Nat} {lv : List (Nat × Value)} {st : List Value} {ws : va_W} {x y : Int64} (hC : vH G C cc own nL ret R0) (d : decode cc pc = .ok (.lsub, 1)) (K : vG G C k n (pc + 1) lv (.long (x - y) :: st) ws) : vG G C k n pc lv (.long y :: .long x :: st) ws := by
  obtain ⟨p, e, R, s, m, args, below, meth, c, A, Q⟩ := C
  obtain ⟨hx, hb, hml, hown, hts, hr, hlk, hK, hA, hE, hR⟩ := hC
  intro H locs ls hP hD hS hl
  exact lv_lsub hx hb d (K H locs ls hP hD hS hl)
theorem g_lmul {G : Gx} {C : Cx} {cc : ByteArray} {own : String} {nL : Nat} {ret : Option FieldType} {R0 : Room} {k n pc : Nat} {lv : List (Nat × Value)} {st : List Value} {ws : va_W} {x y : Int64} (hC : vH G C cc own nL ret R0) (d : decode cc pc = .ok (.lmul, 1)) (K : vG G C k n (pc + 1) lv (.long (x * y) :: st) ws) : vG G C k n pc lv (.long y :: .long x :: st) ws := by
  obtain ⟨p, e, R, s, m, args, below, meth, c, A, Q⟩ := C
  obtain ⟨hx, hb, hml, hown, hts, hr, hlk, hK, hA, hE, hR⟩ := hC
  intro H locs ls hP hD hS hl
  exact lv_lmul hx hb d (K H locs ls hP hD hS hl)
theorem g_land {G : Gx} {C : Cx} {cc : ByteArray} {own : String} {nL : Nat} {ret : Option FieldType} {R0 : Room} {k n pc : Nat} {lv : List (Nat × Value)} {st : List Value} {ws : va_W} {x y : Int64} (hC : vH G C cc own nL ret R0) (d : decode cc pc = .ok (.land, 1)) (K : vG G C k n (pc + 1) lv (.long (x &&& y) :: st) ws) : vG G C k n pc lv (.long y :: .long x :: st) ws := by
  obtain ⟨p, e, R, s, m, args, below, meth, c, A, Q⟩ := C
  obtain ⟨hx, hb, hml, hown, hts, hr, hlk, hK, hA, hE, hR⟩ := hC
  intro H locs ls hP hD hS hl
  exact lv_land hx hb d (K H locs ls hP hD hS hl)
theorem g_lor {G : Gx} {C : Cx} {cc : ByteArray} {own : String} {nL : Nat} {ret : Option FieldType} {R0 : Room} {k n pc : Nat} {lv : List (Nat × Value)} {st : List Value} {ws : va_W} {x y : Int64} (hC : vH G C cc own nL ret R0) (d : decode cc pc = .ok (.lor, 1)) (K : vG G C k n (pc + 1) lv (.long (x ||| y) :: st) ws) : vG G C k n pc lv (.long y :: .long x :: st) ws := by
  obtain ⟨p, e, R, s, m, args, below, meth, c, A, Q⟩ := C
  obtain ⟨hx, hb, hml, hown, hts, hr, hlk, hK, hA, hE, hR⟩ := hC
  intro H locs ls hP hD hS hl
  exact lv_lor hx hb d (K H locs ls hP hD hS hl)
theorem g_lxor {G : Gx} {C : Cx} {cc : ByteArray} {own : String} {nL : Nat} {ret : Option FieldType} {R0 : Room} {k n pc : Nat} {lv : List (Nat × Value)} {st : List Value} {ws : va_W} {x y : Int64} (hC : vH G C cc own nL ret R0) (d : decode cc pc = .ok (.lxor, 1)) (K : vG G C k n (pc + 1) lv (.long (x ^^^ y) :: st) ws) : vG G C k n pc lv (.long y :: .long x :: st) ws := by
  obtain ⟨p, e, R, s, m, args, below, meth, c, A, Q⟩ := C
  obtain ⟨hx, hb, hml, hown, hts, hr, hlk, hK, hA, hE, hR⟩ := hC
  intro H locs ls hP hD hS hl
  exact lv_lxor hx hb d (K H locs ls hP hD hS hl)
def xrem (x y : Int32) : Int32 := x - x / y * y
def xshl (x y : Int32) : Int32 := x <<< (y &&& 31)
def xshr (x y : Int32) : Int32 := x >>> (y &&& 31)
def xlshl (x : Int64) (y : Int32) : Int64 := x <<< (y.toInt64 &&& 63)
def xlshr (x : Int64) (y : Int32) : Int64 := x >>> (y.toInt64 &&& 63)
def xlushr (x : Int64) (y : Int32) : Int64 := (x.toUInt64 >>> (y.toInt64.toUInt64 &&& Int64.toUInt64 63)).toInt64
def xi2b (x : Int32) : Int32 := x.toInt8.toInt32
def xi2c (x : Int32) : Int32 := (x.toUInt32 % 65536).toInt32
theorem g_irem {G : Gx} {C : Cx} {cc : ByteArray} {own : String} {nL : Nat} {ret : Option FieldType} {R0 : Room} {k n pc : Nat} {lv : List (Nat × Value)} {st : List Value} {ws : va_W} {x y : Int32} (h0 : ¬ y = 0) (hC : vH G C cc own nL ret R0) (d : decode cc pc = .ok (.irem, 1)) (K : vG G C k n (pc + 1) lv (.int (xrem x y) :: st) ws) : vG G C k n pc lv (.int y :: .int x :: st) ws := by
  obtain ⟨p, e, R, s, m, args, below, meth, c, A, Q⟩ := C
  obtain ⟨hx, hb, hml, hown, hts, hr, hlk, hK, hA, hE, hR⟩ := hC
  intro H locs ls hP hD hS hl
  exact lv_irem hx hb d h0 (K H locs ls hP hD hS hl)
theorem g_idiv {G : Gx} {C : Cx} {cc : ByteArray} {own : String} {nL : Nat} {ret : Option FieldType} {R0 : Room} {k n pc : Nat} {lv : List (Nat × Value)} {st : List Value} {ws : va_W} {x y : Int32} (h0 : ¬ y = 0) (hC : vH G C cc own nL ret R0) (d : decode cc pc = .ok (.idiv, 1)) (K : vG G C k n (pc + 1) lv (.int (x / y) :: st) ws) : vG G C k n pc lv (.int y :: .int x :: st) ws := by
  obtain ⟨p, e, R, s, m, args, below, meth, c, A, Q⟩ := C
  obtain ⟨hx, hb, hml, hown, hts, hr, hlk, hK, hA, hE, hR⟩ := hC
  intro H locs ls hP hD hS hl
  exact lv_idiv hx hb d h0 (K H locs ls hP hD hS hl)
theorem g_ishl {G : Gx} {C : Cx} {cc : ByteArray} {own : String} {nL : Nat} {ret : Option FieldType} {R0 : Room} {k n pc : Nat} {lv : List (Nat × Value)} {st : List Value} {ws : va_W} {x y : Int32} (hC : vH G C cc own nL ret R0) (d : decode cc pc = .ok (.ishl, 1)) (K : vG G C k n (pc + 1) lv (.int (xshl x y) :: st) ws) : vG G C k n pc lv (.int y :: .int x :: st) ws := by
  obtain ⟨p, e, R, s, m, args, below, meth, c, A, Q⟩ := C
  obtain ⟨hx, hb, hml, hown, hts, hr, hlk, hK, hA, hE, hR⟩ := hC
  intro H locs ls hP hD hS hl
  exact lv_ishl hx hb d (K H locs ls hP hD hS hl)
theorem g_ishr {G : Gx} {C : Cx} {cc : ByteArray} {own : String} {nL : Nat} {ret : Option FieldType} {R0 : Room} {k n pc : Nat} {lv : List (Nat × Value)} {st : List Value} {ws : va_W} {x y : Int32} (hC : vH G C cc own nL ret R0) (d : decode cc pc = .ok (.ishr, 1)) (K : vG G C k n (pc + 1) lv (.int (xshr x y) :: st) ws) : vG G C k n pc lv (.int y :: .int x :: st) ws := by
  obtain ⟨p, e, R, s, m, args, below, meth, c, A, Q⟩ := C
  obtain ⟨hx, hb, hml, hown, hts, hr, hlk, hK, hA, hE, hR⟩ := hC
  intro H locs ls hP hD hS hl
  exact lv_ishr hx hb d (K H locs ls hP hD hS hl)
theorem g_lshl {G : Gx} {C : Cx} {cc : ByteArray} {own : String} {nL : Nat} {ret : Option FieldType} {R0 : Room} {k n pc : Nat} {lv : List (Nat × Value)} {st : List Value} {ws : va_W} {x : Int64} {y : Int32} (hC : vH G C cc own nL ret R0) (d : decode cc pc = .ok (.lshl, 1)) (K : vG G C k n (pc + 1) lv (.long (xlshl x y) :: st) ws) : vG G C k n pc lv (.int y :: .long x :: st) ws := by
  obtain ⟨p, e, R, s, m, args, below, meth, c, A, Q⟩ := C
  obtain ⟨hx, hb, hml, hown, hts, hr, hlk, hK, hA, hE, hR⟩ := hC
  intro H locs ls hP hD hS hl
  exact lv_lshl hx hb d rfl (K H locs ls hP hD hS hl)
theorem g_lshr {G : Gx} {C : Cx} {cc : ByteArray} {own : String} {nL : Nat} {ret : Option FieldType} {R0 : Room} {k n pc : Nat} {lv : List (Nat × Value)} {st : List Value} {ws : va_W} {x : Int64} {y : Int32} (hC : vH G C cc own nL ret R0) (d : decode cc pc = .ok (.lshr, 1)) (K : vG G C k n (pc + 1) lv (.long (xlshr x y) :: st) ws) : vG G C k n pc lv (.int y :: .long x :: st) ws := by
  obtain ⟨p, e, R, s, m, args, below, meth, c, A, Q⟩ := C
  obtain ⟨hx, hb, hml, hown, hts, hr, hlk, hK, hA, hE, hR⟩ := hC
  intro H locs ls hP hD hS hl
  exact lv_lshr hx hb d rfl (K H locs ls hP hD hS hl)
theorem g_lushr {G : Gx} {C : Cx} {cc : ByteArray} {own : String} {nL : Nat} {ret : Option FieldType} {R0 : Room} {k n pc : Nat} {lv : List (Nat × Value)} {st : List Value} {ws : va_W} {x : Int64} {y : Int32} (hC : vH G C cc own nL ret R0) (d : decode cc pc = .ok (.lushr, 1)) (K : vG G C k n (pc + 1) lv (.long (xlushr x y) :: st) ws) : vG G C k n pc lv (.int y :: .long x :: st) ws := by
  obtain ⟨p, e, R, s, m, args, below, meth, c, A, Q⟩ := C
  obtain ⟨hx, hb, hml, hown, hts, hr, hlk, hK, hA, hE, hR⟩ := hC
  intro H locs ls hP hD hS hl
  exact lv_lushr hx hb d rfl (K H locs ls hP hD hS hl)
theorem g_i2l {G : Gx} {C : Cx} {cc : ByteArray} {own : String} {nL : Nat} {ret : Option FieldType} {R0 : Room} {k n pc : Nat} {lv : List (Nat × Value)} {st : List Value} {ws : va_W} {x : Int32} (hC : vH G C cc own nL ret R0) (d : decode cc pc = .ok (.i2l, 1)) (K : vG G C k n (pc + 1) lv (.long x.toInt64 :: st) ws) : vG G C k n pc lv (.int x :: st) ws := by
  obtain ⟨p, e, R, s, m, args, below, meth, c, A, Q⟩ := C
  obtain ⟨hx, hb, hml, hown, hts, hr, hlk, hK, hA, hE, hR⟩ := hC
  intro H locs ls hP hD hS hl
  exact lv_i2l hx hb d rfl (K H locs ls hP hD hS hl)
theorem g_l2i {G : Gx} {C : Cx} {cc : ByteArray} {own : String} {nL : Nat} {ret : Option FieldType} {R0 : Room} {k n pc : Nat} {lv : List (Nat × Value)} {st : List Value} {ws : va_W} {x : Int64} (hC : vH G C cc own nL ret R0) (d : decode cc pc = .ok (.l2i, 1)) (K : vG G C k n (pc + 1) lv (.int x.toInt32 :: st) ws) : vG G C k n pc lv (.long x :: st) ws := by
  obtain ⟨p, e, R, s, m, args, below, meth, c, A, Q⟩ := C
  obtain ⟨hx, hb, hml, hown, hts, hr, hlk, hK, hA, hE, hR⟩ := hC
  intro H locs ls hP hD hS hl
  exact lv_l2i hx hb d rfl (K H locs ls hP hD hS hl)
theorem g_i2b {G : Gx} {C : Cx} {cc : ByteArray} {own : String} {nL : Nat} {ret : Option FieldType} {R0 : Room} {k n pc : Nat} {lv : List (Nat × Value)} {st : List Value} {ws : va_W} {x : Int32} (hC : vH G C cc own nL ret R0) (d : decode cc pc = .ok (.i2b, 1)) (K : vG G C k n (pc + 1) lv (.int (xi2b x) :: st) ws) : vG G C k n pc lv (.int x :: st) ws := by
  obtain ⟨p, e, R, s, m, args, below, meth, c, A, Q⟩ := C
  obtain ⟨hx, hb, hml, hown, hts, hr, hlk, hK, hA, hE, hR⟩ := hC
  intro H locs ls hP hD hS hl
  exact lv_i2b hx hb d rfl (K H locs ls hP hD hS hl)
theorem g_i2c {G : Gx} {C : Cx} {cc : ByteArray} {own : String} {nL : Nat} {ret : Option FieldType} {R0 : Room} {k n pc : Nat} {lv : List (Nat × Value)} {st : List Value} {ws : va_W} {x : Int32} (hC : vH G C cc own nL ret R0) (d : decode cc pc = .ok (.i2c, 1)) (K : vG G C k n (pc + 1) lv (.int (xi2c x) :: st) ws) : vG G C k n pc lv (.int x :: st) ws := by
  obtain ⟨p, e, R, s, m, args, below, meth, c, A, Q⟩ := C
  obtain ⟨hx, hb, hml, hown, hts, hr, hlk, hK, hA, hE, hR⟩ := hC
  intro H locs ls hP hD hS hl
  exact lv_i2c hx hb d rfl (K H locs ls hP hD hS hl)
theorem g_lcmp {G : Gx} {C : Cx} {cc : ByteArray} {own : String} {nL : Nat} {ret : Option FieldType} {R0 : Room} {k n pc : Nat} {lv : List (Nat × Value)} {st : List Value} {ws : va_W} {x y : Int64} (hC : vH G C cc own nL ret R0) (d : decode cc pc = .ok (.lcmp, 1)) (K : vG G C k n (pc + 1) lv (.int (lg_cmp x y) :: st) ws) : vG G C k n pc lv (.long y :: .long x :: st) ws := by
  obtain ⟨p, e, R, s, m, args, below, meth, c, A, Q⟩ := C
  obtain ⟨hx, hb, hml, hown, hts, hr, hlk, hK, hA, hE, hR⟩ := hC
  intro H locs ls hP hD hS hl
  exact W.lcmp hx hb d (K H locs ls hP hD hS hl)
theorem g_dup {G : Gx} {C : Cx} {cc : ByteArray} {own : String} {nL : Nat} {ret : Option FieldType} {R0 : Room} {k n pc : Nat} {lv : List (Nat × Value)} {st : List Value} {ws : va_W} {va : Value} (hv : va.category = 1) (hC : vH G C cc own nL ret R0) (d : decode cc pc = .ok (.dup, 1)) (K : vG G C k n (pc + 1) lv (va :: va :: st) ws) : vG G C k n pc lv (va :: st) ws := by
  obtain ⟨p, e, R, s, m, args, below, meth, c, A, Q⟩ := C
  obtain ⟨hx, hb, hml, hown, hts, hr, hlk, hK, hA, hE, hR⟩ := hC
  intro H locs ls hP hD hS hl
  exact lv_dup hx hb d hv (K H locs ls hP hD hS hl)
theorem g_pop {G : Gx} {C : Cx} {cc : ByteArray} {own : String} {nL : Nat} {ret : Option FieldType} {R0 : Room} {k n pc : Nat} {lv : List (Nat × Value)} {st : List Value} {ws : va_W} {va : Value} (hv : va.category = 1) (hC : vH G C cc own nL ret R0) (d : decode cc pc = .ok (.pop, 1)) (K : vG G C k n (pc + 1) lv st ws) : vG G C k n pc lv (va :: st) ws := by
  obtain ⟨p, e, R, s, m, args, below, meth, c, A, Q⟩ := C
  obtain ⟨hx, hb, hml, hown, hts, hr, hlk, hK, hA, hE, hR⟩ := hC
  intro H locs ls hP hD hS hl
  exact lv_pop hx hb d hv (K H locs ls hP hD hS hl)
theorem g_dup_x1 {G : Gx} {C : Cx} {cc : ByteArray} {own : String} {nL : Nat} {ret : Option FieldType} {R0 : Room} {k n pc : Nat} {lv : List (Nat × Value)} {st : List Value} {ws : va_W} {va vb : Value} (hv : va.category = 1) (hw : vb.category = 1) (hC : vH G C cc own nL ret R0) (d : decode cc pc = .ok (.dup_x1, 1)) (K : vG G C k n (pc + 1) lv (va :: vb :: va :: st) ws) : vG G C k n pc lv (va :: vb :: st) ws := by
  obtain ⟨p, e, R, s, m, args, below, meth, c, A, Q⟩ := C
  obtain ⟨hx, hb, hml, hown, hts, hr, hlk, hK, hA, hE, hR⟩ := hC
  intro H locs ls hP hD hS hl
  exact lv_dup_x1 hx hb d hv hw (K H locs ls hP hD hS hl)
theorem g_dup2_11 {G : Gx} {C : Cx} {cc : ByteArray} {own : String} {nL : Nat} {ret : Option FieldType} {R0 : Room} {k n pc : Nat} {lv : List (Nat × Value)} {st : List Value} {ws : va_W} {va vb : Value} (hv : va.category = 1) (hw : vb.category = 1) (hC : vH G C cc own nL ret R0) (d : decode cc pc = .ok (.dup2, 1)) (K : vG G C k n (pc + 1) lv (va :: vb :: va :: vb :: st) ws) : vG G C k n pc lv (va :: vb :: st) ws := by
  obtain ⟨p, e, R, s, m, args, below, meth, c, A, Q⟩ := C
  obtain ⟨hx, hb, hml, hown, hts, hr, hlk, hK, hA, hE, hR⟩ := hC
  intro H locs ls hP hD hS hl
  exact lv_dup2_11 hx hb d hv hw (K H locs ls hP hD hS hl)
theorem g_dup2_2 {G : Gx} {C : Cx} {cc : ByteArray} {own : String} {nL : Nat} {ret : Option FieldType} {R0 : Room} {k n pc : Nat} {lv : List (Nat × Value)} {st : List Value} {ws : va_W} {va : Value} (hv : va.category = 2) (hC : vH G C cc own nL ret R0) (d : decode cc pc = .ok (.dup2, 1)) (K : vG G C k n (pc + 1) lv (va :: va :: st) ws) : vG G C k n pc lv (va :: st) ws := by
  obtain ⟨p, e, R, s, m, args, below, meth, c, A, Q⟩ := C
  obtain ⟨hx, hb, hml, hown, hts, hr, hlk, hK, hA, hE, hR⟩ := hC
  intro H locs ls hP hD hS hl
  exact lv_dup2_2 hx hb d hv (K H locs ls hP hD hS hl)
theorem g_icmp_eq {G : Gx} {C : Cx} {cc : ByteArray} {own : String} {nL : Nat} {ret : Option FieldType} {R0 : Room} {k n pc : Nat} {lv : List (Nat × Value)} {st : List Value} {ws : va_W} {x y : Int32} {off : Int} (tgt : Nat) (hC : vH G C cc own nL ret R0) (d : decode cc pc = .ok (.if_icmp .eq off, 3)) (ht : (pc : Int) + off = (tgt : Int)) (kt : x = y → vG G C k n tgt lv st ws) (kf : ¬ x = y → vG G C k n (pc + 3) lv st ws) : vG G C k n pc lv (.int y :: .int x :: st) ws := by
  obtain ⟨p, e, R, s, m, args, below, meth, c, A, Q⟩ := C
  obtain ⟨hx, hb, hml, hown, hts, hr, hlk, hK, hA, hE, hR⟩ := hC
  intro H locs ls hP hD hS hl
  exact lv_icmp_eq hx hb d ht (fun h => kt h H locs ls hP hD hS hl) (fun h => kf h H locs ls hP hD hS hl)
theorem g_if_eq {G : Gx} {C : Cx} {cc : ByteArray} {own : String} {nL : Nat} {ret : Option FieldType} {R0 : Room} {k n pc : Nat} {lv : List (Nat × Value)} {st : List Value} {ws : va_W} {x : Int32} {off : Int} (tgt : Nat) (hC : vH G C cc own nL ret R0) (d : decode cc pc = .ok (.ifCond .eq off, 3)) (ht : (pc : Int) + off = (tgt : Int)) (kt : x = 0 → vG G C k n tgt lv st ws) (kf : ¬ x = 0 → vG G C k n (pc + 3) lv st ws) : vG G C k n pc lv (.int x :: st) ws := by
  obtain ⟨p, e, R, s, m, args, below, meth, c, A, Q⟩ := C
  obtain ⟨hx, hb, hml, hown, hts, hr, hlk, hK, hA, hE, hR⟩ := hC
  intro H locs ls hP hD hS hl
  exact lv_if_eq hx hb d ht (fun h => kt h H locs ls hP hD hS hl) (fun h => kf h H locs ls hP hD hS hl)
theorem g_icmp_ne {G : Gx} {C : Cx} {cc : ByteArray} {own : String} {nL : Nat} {ret : Option FieldType} {R0 : Room} {k n pc : Nat} {lv : List (Nat × Value)} {st : List Value} {ws : va_W} {x y : Int32} {off : Int} (tgt : Nat) (hC : vH G C cc own nL ret R0) (d : decode cc pc = .ok (.if_icmp .ne off, 3)) (ht : (pc : Int) + off = (tgt : Int)) (kt : ¬ x = y → vG G C k n tgt lv st ws) (kf : x = y → vG G C k n (pc + 3) lv st ws) : vG G C k n pc lv (.int y :: .int x :: st) ws := by
  obtain ⟨p, e, R, s, m, args, below, meth, c, A, Q⟩ := C
  obtain ⟨hx, hb, hml, hown, hts, hr, hlk, hK, hA, hE, hR⟩ := hC
  intro H locs ls hP hD hS hl
  exact lv_icmp_ne hx hb d ht (fun h => kt h H locs ls hP hD hS hl) (fun h => kf h H locs ls hP hD hS hl)
theorem g_if_ne {G : Gx} {C : Cx} {cc : ByteArray} {own : String} {nL : Nat} {ret : Option FieldType} {R0 : Room} {k n pc : Nat} {lv : List (Nat × Value)} {st : List Value} {ws : va_W} {x : Int32} {off : Int} (tgt : Nat) (hC : vH G C cc own nL ret R0) (d : decode cc pc = .ok (.ifCond .ne off, 3)) (ht : (pc : Int) + off = (tgt : Int)) (kt : ¬ x = 0 → vG G C k n tgt lv st ws) (kf : x = 0 → vG G C k n (pc + 3) lv st ws) : vG G C k n pc lv (.int x :: st) ws := by
  obtain ⟨p, e, R, s, m, args, below, meth, c, A, Q⟩ := C
  obtain ⟨hx, hb, hml, hown, hts, hr, hlk, hK, hA, hE, hR⟩ := hC
  intro H locs ls hP hD hS hl
  exact lv_if_ne hx hb d ht (fun h => kt h H locs ls hP hD hS hl) (fun h => kf h H locs ls hP hD hS hl)
theorem g_icmp_lt {G : Gx} {C : Cx} {cc : ByteArray} {own : String} {nL : Nat} {ret : Option FieldType} {R0 : Room} {k n pc : Nat} {lv : List (Nat × Value)} {st : List Value} {ws : va_W} {x y : Int32} {off : Int} (tgt : Nat) (hC : vH G C cc own nL ret R0) (d : decode cc pc = .ok (.if_icmp .lt off, 3)) (ht : (pc : Int) + off = (tgt : Int)) (kt : x < y → vG G C k n tgt lv st ws) (kf : ¬ x < y → vG G C k n (pc + 3) lv st ws) : vG G C k n pc lv (.int y :: .int x :: st) ws := by
  obtain ⟨p, e, R, s, m, args, below, meth, c, A, Q⟩ := C
  obtain ⟨hx, hb, hml, hown, hts, hr, hlk, hK, hA, hE, hR⟩ := hC
  intro H locs ls hP hD hS hl
  exact lv_icmp_lt hx hb d ht (fun h => kt h H locs ls hP hD hS hl) (fun h => kf h H locs ls hP hD hS hl)
theorem g_if_lt {G : Gx} {C : Cx} {cc : ByteArray} {own : String} {nL : Nat} {ret : Option FieldType} {R0 : Room} {k n pc : Nat} {lv : List (Nat × Value)} {st : List Value} {ws : va_W} {x : Int32} {off : Int} (tgt : Nat) (hC : vH G C cc own nL ret R0) (d : decode cc pc = .ok (.ifCond .lt off, 3)) (ht : (pc : Int) + off = (tgt : Int)) (kt : x < 0 → vG G C k n tgt lv st ws) (kf : ¬ x < 0 → vG G C k n (pc + 3) lv st ws) : vG G C k n pc lv (.int x :: st) ws := by
  obtain ⟨p, e, R, s, m, args, below, meth, c, A, Q⟩ := C
  obtain ⟨hx, hb, hml, hown, hts, hr, hlk, hK, hA, hE, hR⟩ := hC
  intro H locs ls hP hD hS hl
  exact lv_if_lt hx hb d ht (fun h => kt h H locs ls hP hD hS hl) (fun h => kf h H locs ls hP hD hS hl)
theorem g_icmp_ge {G : Gx} {C : Cx} {cc : ByteArray} {own : String} {nL : Nat} {ret : Option FieldType} {R0 : Room} {k n pc : Nat} {lv : List (Nat × Value)} {st : List Value} {ws : va_W} {x y : Int32} {off : Int} (tgt : Nat) (hC : vH G C cc own nL ret R0) (d : decode cc pc = .ok (.if_icmp .ge off, 3)) (ht : (pc : Int) + off = (tgt : Int)) (kt : y ≤ x → vG G C k n tgt lv st ws) (kf : ¬ y ≤ x → vG G C k n (pc + 3) lv st ws) : vG G C k n pc lv (.int y :: .int x :: st) ws := by
  obtain ⟨p, e, R, s, m, args, below, meth, c, A, Q⟩ := C
  obtain ⟨hx, hb, hml, hown, hts, hr, hlk, hK, hA, hE, hR⟩ := hC
  intro H locs ls hP hD hS hl
  exact lv_icmp_ge hx hb d ht (fun h => kt h H locs ls hP hD hS hl) (fun h => kf h H locs ls hP hD hS hl)
theorem g_if_ge {G : Gx} {C : Cx} {cc : ByteArray} {own : String} {nL : Nat} {ret : Option FieldType} {R0 : Room} {k n pc : Nat} {lv : List (Nat × Value)} {st : List Value} {ws : va_W} {x : Int32} {off : Int} (tgt : Nat) (hC : vH G C cc own nL ret R0) (d : decode cc pc = .ok (.ifCond .ge off, 3)) (ht : (pc : Int) + off = (tgt : Int)) (kt : 0 ≤ x → vG G C k n tgt lv st ws) (kf : ¬ 0 ≤ x → vG G C k n (pc + 3) lv st ws) : vG G C k n pc lv (.int x :: st) ws := by
  obtain ⟨p, e, R, s, m, args, below, meth, c, A, Q⟩ := C
  obtain ⟨hx, hb, hml, hown, hts, hr, hlk, hK, hA, hE, hR⟩ := hC
  intro H locs ls hP hD hS hl
  exact lv_if_ge hx hb d ht (fun h => kt h H locs ls hP hD hS hl) (fun h => kf h H locs ls hP hD hS hl)
theorem g_icmp_gt {G : Gx} {C : Cx} {cc : ByteArray} {own : String} {nL : Nat} {ret : Option FieldType} {R0 : Room} {k n pc : Nat} {lv : List (Nat × Value)} {st : List Value} {ws : va_W} {x y : Int32} {off : Int} (tgt : Nat) (hC : vH G C cc own nL ret R0) (d : decode cc pc = .ok (.if_icmp .gt off, 3)) (ht : (pc : Int) + off = (tgt : Int)) (kt : y < x → vG G C k n tgt lv st ws) (kf : ¬ y < x → vG G C k n (pc + 3) lv st ws) : vG G C k n pc lv (.int y :: .int x :: st) ws := by
  obtain ⟨p, e, R, s, m, args, below, meth, c, A, Q⟩ := C
  obtain ⟨hx, hb, hml, hown, hts, hr, hlk, hK, hA, hE, hR⟩ := hC
  intro H locs ls hP hD hS hl
  exact lv_icmp_gt hx hb d ht (fun h => kt h H locs ls hP hD hS hl) (fun h => kf h H locs ls hP hD hS hl)
theorem g_if_gt {G : Gx} {C : Cx} {cc : ByteArray} {own : String} {nL : Nat} {ret : Option FieldType} {R0 : Room} {k n pc : Nat} {lv : List (Nat × Value)} {st : List Value} {ws : va_W} {x : Int32} {off : Int} (tgt : Nat) (hC : vH G C cc own nL ret R0) (d : decode cc pc = .ok (.ifCond .gt off, 3)) (ht : (pc : Int) + off = (tgt : Int)) (kt : 0 < x → vG G C k n tgt lv st ws) (kf : ¬ 0 < x → vG G C k n (pc + 3) lv st ws) : vG G C k n pc lv (.int x :: st) ws := by
  obtain ⟨p, e, R, s, m, args, below, meth, c, A, Q⟩ := C
  obtain ⟨hx, hb, hml, hown, hts, hr, hlk, hK, hA, hE, hR⟩ := hC
  intro H locs ls hP hD hS hl
  exact lv_if_gt hx hb d ht (fun h => kt h H locs ls hP hD hS hl) (fun h => kf h H locs ls hP hD hS hl)
theorem g_icmp_le {G : Gx} {C : Cx} {cc : ByteArray} {own : String} {nL : Nat} {ret : Option FieldType} {R0 : Room} {k n pc : Nat} {lv : List (Nat × Value)} {st : List Value} {ws : va_W} {x y : Int32} {off : Int} (tgt : Nat) (hC : vH G C cc own nL ret R0) (d : decode cc pc = .ok (.if_icmp .le off, 3)) (ht : (pc : Int) + off = (tgt : Int)) (kt : x ≤ y → vG G C k n tgt lv st ws) (kf : ¬ x ≤ y → vG G C k n (pc + 3) lv st ws) : vG G C k n pc lv (.int y :: .int x :: st) ws := by
  obtain ⟨p, e, R, s, m, args, below, meth, c, A, Q⟩ := C
  obtain ⟨hx, hb, hml, hown, hts, hr, hlk, hK, hA, hE, hR⟩ := hC
  intro H locs ls hP hD hS hl
  exact lv_icmp_le hx hb d ht (fun h => kt h H locs ls hP hD hS hl) (fun h => kf h H locs ls hP hD hS hl)
theorem g_if_le {G : Gx} {C : Cx} {cc : ByteArray} {own : String} {nL : Nat} {ret : Option FieldType} {R0 : Room} {k n pc : Nat} {lv : List (Nat × Value)} {st : List Value} {ws : va_W} {x : Int32} {off : Int} (tgt : Nat) (hC : vH G C cc own nL ret R0) (d : decode cc pc = .ok (.ifCond .le off, 3)) (ht : (pc : Int) + off = (tgt : Int)) (kt : x ≤ 0 → vG G C k n tgt lv st ws) (kf : ¬ x ≤ 0 → vG G C k n (pc + 3) lv st ws) : vG G C k n pc lv (.int x :: st) ws := by
  obtain ⟨p, e, R, s, m, args, below, meth, c, A, Q⟩ := C
  obtain ⟨hx, hb, hml, hown, hts, hr, hlk, hK, hA, hE, hR⟩ := hC
  intro H locs ls hP hD hS hl
  exact lv_if_le hx hb d ht (fun h => kt h H locs ls hP hD hS hl) (fun h => kf h H locs ls hP hD hS hl)
theorem g_goto {G : Gx} {C : Cx} {cc : ByteArray} {own : String} {nL : Nat} {ret : Option FieldType} {R0 : Room} {k n pc : Nat} {lv : List (Nat × Value)} {st : List Value} {ws : va_W} {off : Int} (tgt : Nat) (hC : vH G C cc own nL ret R0) (d : decode cc pc = .ok (.goto off, 3)) (ht : (pc : Int) + off = (tgt : Int)) (K : vG G C k n tgt lv st ws) : vG G C k n pc lv st ws := by
  obtain ⟨p, e, R, s, m, args, below, meth, c, A, Q⟩ := C
  obtain ⟨hx, hb, hml, hown, hts, hr, hlk, hK, hA, hE, hR⟩ := hC
  intro H locs ls hP hD hS hl
  exact lv_goto hx hb d ht (K H locs ls hP hD hS hl)
theorem g_tableIn {G : Gx} {C : Cx} {cc : ByteArray} {own : String} {nL : Nat} {ret : Option FieldType} {R0 : Room} {k n pc : Nat} {lv : List (Nat × Value)} {st : List Value} {ws : va_W} {dflt lo hi : Int} {offs : Array Int} {len : Nat} {x : Int32} {off : Int} (tgt : Nat) (hC : vH G C cc own nL ret R0) (d : decode cc pc = .ok (.tableswitch dflt lo hi offs, len)) (h1 : ¬ x.toInt < lo) (h2 : ¬ hi < x.toInt) (ho : offs[(x.toInt - lo).toNat]? = some off) (ht : (pc : Int) + off = (tgt : Int)) (K : vG G C k n tgt lv st ws) : vG G C k n pc lv (.int x :: st) ws := by
  obtain ⟨p, e, R, s, m, args, below, meth, c, A, Q⟩ := C
  obtain ⟨hx, hb, hml, hown, hts, hr, hlk, hK, hA, hE, hR⟩ := hC
  intro H locs ls hP hD hS hl
  exact lv_tableIn hx hb d h1 h2 ho ht (K H locs ls hP hD hS hl)
theorem g_tableOut {G : Gx} {C : Cx} {cc : ByteArray} {own : String} {nL : Nat} {ret : Option FieldType} {R0 : Room} {k n pc : Nat} {lv : List (Nat × Value)} {st : List Value} {ws : va_W} {dflt lo hi : Int} {offs : Array Int} {len : Nat} {x : Int32} (tgt : Nat) (hC : vH G C cc own nL ret R0) (d : decode cc pc = .ok (.tableswitch dflt lo hi offs, len)) (h : x.toInt < lo ∨ hi < x.toInt) (ht : (pc : Int) + dflt = (tgt : Int)) (K : vG G C k n tgt lv st ws) : vG G C k n pc lv (.int x :: st) ws := by
  obtain ⟨p, e, R, s, m, args, below, meth, c, A, Q⟩ := C
  obtain ⟨hx, hb, hml, hown, hts, hr, hlk, hK, hA, hE, hR⟩ := hC
  intro H locs ls hP hD hS hl
  exact lv_tableOut hx hb d h ht (K H locs ls hP hD hS hl)
theorem g_lookup {G : Gx} {C : Cx} {cc : ByteArray} {own : String} {nL : Nat} {ret : Option FieldType} {R0 : Room} {k n pc : Nat} {lv : List (Nat × Value)} {st : List Value} {ws : va_W} {dflt : Int} {ps : Array (Int × Int)} {len : Nat} {x : Int32} {off : Int} (tgt : Nat) (hC : vH G C cc own nL ret R0) (d : decode cc pc = .ok (.lookupswitch dflt ps, len)) (hp : (ps.toList.zip (ps.toList.drop 1)).all (fun (a, next) => a.1 < next.1) = true) (ho : Op.lookupswitch.offset ps.toList dflt x.toInt = off) (ht : (pc : Int) + off = (tgt : Int)) (K : vG G C k n tgt lv st ws) : vG G C k n pc lv (.int x :: st) ws := by
  obtain ⟨p, e, R, s, m, args, below, meth, c, A, Q⟩ := C
  obtain ⟨hx, hb, hml, hown, hts, hr, hlk, hK, hA, hE, hR⟩ := hC
  intro H locs ls hP hD hS hl
  exact lv_lookup hx hb d hp ho ht (K H locs ls hP hD hS hl)
theorem g_get {G : Gx} {C : Cx} {cc : ByteArray} {own : String} {nL : Nat} {ret : Option FieldType} {R0 : Room} {k n pc : Nat} {lv : List (Nat × Value)} {st : List Value} {ws : va_W} {ref Cn : String} {T : u_T} {N ci i a : Nat} {fs : List Value} {v : Value} (q0 f : Nat) (hC : vH G C cc own nL ret R0) (hin : ∀ w ∈ u_ws Cn T N, w ∈ TB) (d : decode cc pc = .ok (.getfield i, 3)) (lk : Cond.fieldLink own i ref (T f).2.1 (T f).2.2.1 ∈ TB) (he : ws[q0]? = some (a, .inr (ci, fs))) (hc : classes[ci]? = some (Cn, T, N)) (hf : f < N) (hs : (T f).1 = ref) (hv : fs[f]? = some v) (K : vG G C k n (pc + 3) lv (v :: st) ws) : vG G C k n pc lv (.ref a :: st) ws := by
  obtain ⟨p, e, R, s, m, args, below, meth, c, A, Q⟩ := C
  obtain ⟨hx, hb, hml, hown, hts, hr, hlk, hK, hA, hE, hR⟩ := hC
  intro H locs ls hP hD hS hl
  exact va_get hx hb hts hin hown hK hP q0 he hc f hf (hts _ lk) (by rw [hs]; exact fun _ h9 => h9) hv d (K H locs ls hP hD hS hl)
theorem g_getN {G : Gx} {C : Cx} {cc : ByteArray} {own : String} {nL : Nat} {ret : Option FieldType} {R0 : Room} {k n pc : Nat} {lv : List (Nat × Value)} {st : List Value} {ws : va_W} {ref Cn : String} {T : u_T} {N ci i a : Nat} {fs : List Value} {v : Value} (q0 f : Nat) (hC : vH G C cc own nL ret R0) (hin : ∀ w ∈ u_ws Cn T N, w ∈ TB) (d : decode cc pc = .ok (.getfield i, 3)) {host : String} (lk : (own, i, ref, (T f).2.1, (T f).2.2.1, host) ∈ nwF) (he : ws[q0]? = some (a, .inr (ci, fs))) (hc : classes[ci]? = some (Cn, T, N)) (hf : f < N) (hs : (T f).1 = ref) (hv : fs[f]? = some v) (K : vG G C k n (pc + 3) lv (v :: st) ws) : vG G C k n pc lv (.ref a :: st) ws := by
  obtain ⟨p, e, R, s, m, args, below, meth, c, A, Q⟩ := C
  obtain ⟨hx, hb, hml, hown, hts, hr, hlk, hK, hA, hE, hR⟩ := hC
  intro H locs ls hP hD hS hl
  exact va_getN hx hb hts hin hown hK hP q0 he hc f hf ((hE.2.2.2.2.2.2.1 _ lk).use rfl) (by rw [hs]; exact fun _ h9 => h9) hv d (K H locs ls hP hD hS hl)
theorem g_put {G : Gx} {C : Cx} {cc : ByteArray} {own : String} {nL : Nat} {ret : Option FieldType} {R0 : Room} {k n pc : Nat} {lv : List (Nat × Value)} {st : List Value} {ws : va_W} {ref Cn : String} {T : u_T} {N ci i a : Nat} {fs : List Value} {v : Value} {ty : FieldType} {ty0 : Nat → FieldType} {ws2 : va_W} (q0 f : Nat) (hC : vH G C cc own nL ret R0) (hin : ∀ w ∈ u_ws Cn T N, w ∈ TB) (hty : ∀ k, k < N → parseFieldDescriptor (T k).2.2.1 = some (ty0 k)) (hnm : ∀ a, a < N → ∀ b, b < N → a ≠ b → (T a).2.1 ≠ (T b).2.1) (d : decode cc pc = .ok (.putfield i, 3)) (lk : Cond.fieldLink own i ref (T f).2.1 (T f).2.2.1 ∈ TB) (he : ws[q0]? = some (a, .inr (ci, fs))) (hc : classes[ci]? = some (Cn, T, N)) (hf : f < N) (hs : (T f).1 = ref) (hfin : (T f).2.2.2 = false) (he2 : ty0 f = ty) (hnw : narrow ty v = v) (hfit : fits ty v = true) (hlen : f < fs.length) (h2 : ws.set q0 (a, .inr (ci, fs.set f v)) = ws2) (K : vG G C k n (pc + 3) lv st ws2) : vG G C k n pc lv (v :: .ref a :: st) ws := by
  obtain ⟨p, e, R, s, m, args, below, meth, c, A, Q⟩ := C
  obtain ⟨hx, hb, hml, hown, hts, hr, hlk, hK, hA, hE, hR⟩ := hC
  intro H locs ls hP hD hS hl
  subst h2
  exact va_put hx hb hts hin ty0 hty hnm hown hK hP hD hS q0 he hc f hf (hts _ lk) (by rw [hs]; exact fun _ h9 => h9) hfin (by rw [hty f hf, he2]) hnw hfit hlen d (fun H locs hP hD hS => (K H locs ls hP hD hS hl))
theorem g_putN {G : Gx} {C : Cx} {cc : ByteArray} {own : String} {nL : Nat} {ret : Option FieldType} {R0 : Room} {k n pc : Nat} {lv : List (Nat × Value)} {st : List Value} {ws : va_W} {ref Cn : String} {T : u_T} {N ci i a : Nat} {fs : List Value} {v : Value} {ty : FieldType} {ty0 : Nat → FieldType} {ws2 : va_W} (q0 f : Nat) (hC : vH G C cc own nL ret R0) (hin : ∀ w ∈ u_ws Cn T N, w ∈ TB) (hty : ∀ k, k < N → parseFieldDescriptor (T k).2.2.1 = some (ty0 k)) (hnm : ∀ a, a < N → ∀ b, b < N → a ≠ b → (T a).2.1 ≠ (T b).2.1) (d : decode cc pc = .ok (.putfield i, 3)) {host : String} (lk : (own, i, ref, (T f).2.1, (T f).2.2.1, host) ∈ nwF) (he : ws[q0]? = some (a, .inr (ci, fs))) (hc : classes[ci]? = some (Cn, T, N)) (hf : f < N) (hs : (T f).1 = ref) (hfin : (T f).2.2.2 = false) (he2 : ty0 f = ty) (hnw : narrow ty v = v) (hfit : fits ty v = true) (hlen : f < fs.length) (h2 : ws.set q0 (a, .inr (ci, fs.set f v)) = ws2) (K : vG G C k n (pc + 3) lv st ws2) : vG G C k n pc lv (v :: .ref a :: st) ws := by
  obtain ⟨p, e, R, s, m, args, below, meth, c, A, Q⟩ := C
  obtain ⟨hx, hb, hml, hown, hts, hr, hlk, hK, hA, hE, hR⟩ := hC
  intro H locs ls hP hD hS hl
  subst h2
  exact va_putN hx hb hts hin ty0 hty hnm hown hK hP hD hS q0 he hc f hf ((hE.2.2.2.2.2.2.1 _ lk).use rfl) (by rw [hs]; exact fun _ h9 => h9) hfin (by rw [hty f hf, he2]) hnw hfit hlen d (fun H locs hP hD hS => (K H locs ls hP hD hS hl))
theorem g_iald {G : Gx} {C : Cx} {cc : ByteArray} {own : String} {nL : Nat} {ret : Option FieldType} {R0 : Room} {k n pc : Nat} {lv : List (Nat × Value)} {st : List Value} {ws : va_W} {a N : Nat} {f : Nat → Int32} {i : Int32} (q0 : Nat) (hC : vH G C cc own nL ret R0) (d : decode cc pc = .ok (.iaload, 1)) (ha : ws[q0]? = some (a, eI G N f)) (hin : vp_in i N) (K : vG G C k n (pc + 1) lv (.int (f i.toNatClampNeg) :: st) ws) : vG G C k n pc lv (.int i :: .ref a :: st) ws := by
  obtain ⟨p, e, R, s, m, args, below, meth, c, A, Q⟩ := C
  obtain ⟨hx, hb, hml, hown, hts, hr, hlk, hK, hA, hE, hR⟩ := hC
  intro H locs ls hP hD hS hl
  exact va_iald hx hb hK hP q0 0 ha rfl hin d (K H locs ls hP hD hS hl)
theorem g_bald {G : Gx} {C : Cx} {cc : ByteArray} {own : String} {nL : Nat} {ret : Option FieldType} {R0 : Room} {k n pc : Nat} {lv : List (Nat × Value)} {st : List Value} {ws : va_W} {a N : Nat} {f : Nat → Int32} {i : Int32} (q0 : Nat) (hC : vH G C cc own nL ret R0) (d : decode cc pc = .ok (.baload, 1)) (ha : ws[q0]? = some (a, eB G N f)) (hin : vp_in i N) (K : vG G C k n (pc + 1) lv (.int (f i.toNatClampNeg) :: st) ws) : vG G C k n pc lv (.int i :: .ref a :: st) ws := by
  obtain ⟨p, e, R, s, m, args, below, meth, c, A, Q⟩ := C
  obtain ⟨hx, hb, hml, hown, hts, hr, hlk, hK, hA, hE, hR⟩ := hC
  intro H locs ls hP hD hS hl
  exact va_bald hx hb hK hP q0 1 ha rfl hin d (K H locs ls hP hD hS hl)
theorem g_zald {G : Gx} {C : Cx} {cc : ByteArray} {own : String} {nL : Nat} {ret : Option FieldType} {R0 : Room} {k n pc : Nat} {lv : List (Nat × Value)} {st : List Value} {ws : va_W} {a N : Nat} {f : Nat → Int32} {i : Int32} (q0 : Nat) (hC : vH G C cc own nL ret R0) (d : decode cc pc = .ok (.baload, 1)) (ha : ws[q0]? = some (a, eZ G N f)) (hin : vp_in i N) (K : vG G C k n (pc + 1) lv (.int (f i.toNatClampNeg) :: st) ws) : vG G C k n pc lv (.int i :: .ref a :: st) ws := by
  obtain ⟨p, e, R, s, m, args, below, meth, c, A, Q⟩ := C
  obtain ⟨hx, hb, hml, hown, hts, hr, hlk, hK, hA, hE, hR⟩ := hC
  intro H locs ls hP hD hS hl
  exact va_zald hx hb hK hP q0 2 ha rfl hin d (K H locs ls hP hD hS hl)
theorem g_lald {G : Gx} {C : Cx} {cc : ByteArray} {own : String} {nL : Nat} {ret : Option FieldType} {R0 : Room} {k n pc : Nat} {lv : List (Nat × Value)} {st : List Value} {ws : va_W} {a N : Nat} {f : Nat → Int64} {i : Int32} (q0 : Nat) (hC : vH G C cc own nL ret R0) (d : decode cc pc = .ok (.laload, 1)) (ha : ws[q0]? = some (a, eJ G N f)) (hin : vp_in i N) (K : vG G C k n (pc + 1) lv (.long (f i.toNatClampNeg) :: st) ws) : vG G C k n pc lv (.int i :: .ref a :: st) ws := by
  obtain ⟨p, e, R, s, m, args, below, meth, c, A, Q⟩ := C
  obtain ⟨hx, hb, hml, hown, hts, hr, hlk, hK, hA, hE, hR⟩ := hC
  intro H locs ls hP hD hS hl
  exact va_lald hx hb hK hP q0 3 ha rfl hin d (K H locs ls hP hD hS hl)
theorem g_iast {G : Gx} {C : Cx} {cc : ByteArray} {own : String} {nL : Nat} {ret : Option FieldType} {R0 : Room} {k n pc : Nat} {lv : List (Nat × Value)} {st : List Value} {ws : va_W} {a N : Nat} {f f2 : Nat → Int32} {i x : Int32} {ws2 : va_W} (q0 : Nat) (hC : vH G C cc own nL ret R0) (d : decode cc pc = .ok (.iastore, 1)) (ha : ws[q0]? = some (a, eI G N f)) (hin : vp_in i N) (ef : f2 = upd f i.toNatClampNeg x) (h2 : ws.set q0 (a, eI G N f2) = ws2) (K : vG G C k n (pc + 1) lv st ws2) : vG G C k n pc lv (.int x :: .int i :: .ref a :: st) ws := by
  obtain ⟨p, e, R, s, m, args, below, meth, c, A, Q⟩ := C
  obtain ⟨hx, hb, hml, hown, hts, hr, hlk, hK, hA, hE, hR⟩ := hC
  intro H locs ls hP hD hS hl
  subst h2; subst ef
  exact va_iast hx hb hK hP hD hS q0 0 ha rfl hin d (fun H locs hP hD hS => (K H locs ls hP hD hS hl))
theorem g_bast {G : Gx} {C : Cx} {cc : ByteArray} {own : String} {nL : Nat} {ret : Option FieldType} {R0 : Room} {k n pc : Nat} {lv : List (Nat × Value)} {st : List Value} {ws : va_W} {a N : Nat} {f f2 : Nat → Int32} {i x : Int32} {ws2 : va_W} (q0 : Nat) (hC : vH G C cc own nL ret R0) (d : decode cc pc = .ok (.bastore, 1)) (ha : ws[q0]? = some (a, eB G N f)) (hin : vp_in i N) (ef : f2 = upd f i.toNatClampNeg (vp_nar .byte x)) (h2 : ws.set q0 (a, eB G N f2) = ws2) (K : vG G C k n (pc + 1) lv st ws2) : vG G C k n pc lv (.int x :: .int i :: .ref a :: st) ws := by
  obtain ⟨p, e, R, s, m, args, below, meth, c, A, Q⟩ := C
  obtain ⟨hx, hb, hml, hown, hts, hr, hlk, hK, hA, hE, hR⟩ := hC
  intro H locs ls hP hD hS hl
  subst h2; subst ef
  exact va_bast hx hb hK hP hD hS q0 1 ha rfl hin d (fun H locs hP hD hS => (K H locs ls hP hD hS hl))
theorem g_zast {G : Gx} {C : Cx} {cc : ByteArray} {own : String} {nL : Nat} {ret : Option FieldType} {R0 : Room} {k n pc : Nat} {lv : List (Nat × Value)} {st : List Value} {ws : va_W} {a N : Nat} {f f2 : Nat → Int32} {i x : Int32} {ws2 : va_W} (q0 : Nat) (hC : vH G C cc own nL ret R0) (d : decode cc pc = .ok (.bastore, 1)) (ha : ws[q0]? = some (a, eZ G N f)) (hin : vp_in i N) (ef : f2 = upd f i.toNatClampNeg (vp_nar .boolean x)) (h2 : ws.set q0 (a, eZ G N f2) = ws2) (K : vG G C k n (pc + 1) lv st ws2) : vG G C k n pc lv (.int x :: .int i :: .ref a :: st) ws := by
  obtain ⟨p, e, R, s, m, args, below, meth, c, A, Q⟩ := C
  obtain ⟨hx, hb, hml, hown, hts, hr, hlk, hK, hA, hE, hR⟩ := hC
  intro H locs ls hP hD hS hl
  subst h2; subst ef
  exact va_zast hx hb hK hP hD hS q0 2 ha rfl hin d (fun H locs hP hD hS => (K H locs ls hP hD hS hl))
theorem g_last {G : Gx} {C : Cx} {cc : ByteArray} {own : String} {nL : Nat} {ret : Option FieldType} {R0 : Room} {k n pc : Nat} {lv : List (Nat × Value)} {st : List Value} {ws : va_W} {a N : Nat} {f f2 : Nat → Int64} {i : Int32} {x : Int64} {ws2 : va_W} (q0 : Nat) (hC : vH G C cc own nL ret R0) (d : decode cc pc = .ok (.lastore, 1)) (ha : ws[q0]? = some (a, eJ G N f)) (hin : vp_in i N) (ef : f2 = vp_updL f i.toNatClampNeg x) (h2 : ws.set q0 (a, eJ G N f2) = ws2) (K : vG G C k n (pc + 1) lv st ws2) : vG G C k n pc lv (.long x :: .int i :: .ref a :: st) ws := by
  obtain ⟨p, e, R, s, m, args, below, meth, c, A, Q⟩ := C
  obtain ⟨hx, hb, hml, hown, hts, hr, hlk, hK, hA, hE, hR⟩ := hC
  intro H locs ls hP hD hS hl
  subst h2; subst ef
  exact va_last hx hb hK hP hD hS q0 3 ha rfl hin d (fun H locs hP hD hS => (K H locs ls hP hD hS hl))
theorem g_alen {G : Gx} {C : Cx} {cc : ByteArray} {own : String} {nL : Nat} {ret : Option FieldType} {R0 : Room} {k n pc : Nat} {lv : List (Nat × Value)} {st : List Value} {ws : va_W} {a : Nat} {cA : ClassId} {x : vp_A} {v : Int32} {ty : FieldType} (q0 t0 : Nat) (hC : vH G C cc own nL ret R0) (d : decode cc pc = .ok (.arraylength, 1)) (ha : ws[q0]? = some (a, .inl (cA, x))) (ht : (tysG G)[t0]? = some (cA, ty)) (hv : Int32.ofNat x.1 = v) (K : vG G C k n (pc + 1) lv (.int v :: st) ws) : vG G C k n pc lv (.ref a :: st) ws := by
  obtain ⟨p, e, R, s, m, args, below, meth, c, A, Q⟩ := C
  obtain ⟨hx, hb, hml, hown, hts, hr, hlk, hK, hA, hE, hR⟩ := hC
  intro H locs ls hP hD hS hl
  exact va_alen hx hb hK hP q0 t0 ha ht hv d (K H locs ls hP hD hS hl)
theorem g_getsFE {G : Gx} {C : Cx} {cc : ByteArray} {own : String} {nL : Nat} {ret : Option FieldType} {R0 : Room} {k n pc : Nat} {lv : List (Nat × Value)} {st : List Value} {ws : va_W} {i : Nat} (hC : vH G C cc own nL ret R0) (d : decode cc pc = .ok (.getstatic i, 3)) (lk : Cond.fieldLink own i "CoilBench" "FIRST_END" "[I" ∈ TB) (K : vG G C k n (pc + 3) lv (.ref (G.2.2.2 0) :: st) ws) : vG G C k n pc lv st ws := by
  obtain ⟨p, e, R, s, m, args, below, meth, c, A, Q⟩ := C
  obtain ⟨hx, hb, hml, hown, hts, hr, hlk, hK, hA, hE, hR⟩ := hC
  intro H locs ls hP hD hS hl
  exact va_gets hx hb hE.1.1 hS hown (hts _ lk) (fun _ h9 => h9) d (K H locs ls hP hD hS hl)
theorem g_getsNFE {G : Gx} {C : Cx} {cc : ByteArray} {own : String} {nL : Nat} {ret : Option FieldType} {R0 : Room} {k n pc : Nat} {lv : List (Nat × Value)} {st : List Value} {ws : va_W} {i : Nat} {host : String} (hC : vH G C cc own nL ret R0) (d : decode cc pc = .ok (.getstatic i, 3)) (lk : (own, i, "CoilBench", "FIRST_END", "[I", host) ∈ nwF) (K : vG G C k n (pc + 3) lv (.ref (G.2.2.2 0) :: st) ws) : vG G C k n pc lv st ws := by
  obtain ⟨p, e, R, s, m, args, below, meth, c, A, Q⟩ := C
  obtain ⟨hx, hb, hml, hown, hts, hr, hlk, hK, hA, hE, hR⟩ := hC
  intro H locs ls hP hD hS hl
  exact va_getsN hx hb hE.1.1 hS hown ((hE.2.2.2.2.2.2.1 _ lk).use rfl) (fun _ h9 => h9) d (K H locs ls hP hD hS hl)
theorem g_tabFE {G : Gx} {C : Cx} {cc : ByteArray} {own : String} {nL : Nat} {ret : Option FieldType} {R0 : Room} {k n pc : Nat} {lv : List (Nat × Value)} {st : List Value} {ws : va_W} {i : Int32} (hC : vH G C cc own nL ret R0) (d : decode cc pc = .ok (.iaload, 1)) (hin : vp_in i 6) (K : vG G C k n (pc + 1) lv (.int (cFE i.toNatClampNeg) :: st) ws) : vG G C k n pc lv (.int i :: .ref (G.2.2.2 0) :: st) ws := by
  obtain ⟨p, e, R, s, m, args, below, meth, c, A, Q⟩ := C
  obtain ⟨hx, hb, hml, hown, hts, hr, hlk, hK, hA, hE, hR⟩ := hC
  intro H locs ls hP hD hS hl
  exact va_ti hx hb hE.1.2 hS hin rfl d (K H locs ls hP hD hS hl)
theorem g_getsMO {G : Gx} {C : Cx} {cc : ByteArray} {own : String} {nL : Nat} {ret : Option FieldType} {R0 : Room} {k n pc : Nat} {lv : List (Nat × Value)} {st : List Value} {ws : va_W} {i : Nat} (hC : vH G C cc own nL ret R0) (d : decode cc pc = .ok (.getstatic i, 3)) (lk : Cond.fieldLink own i "CoilBench" "MOST" "[I" ∈ TB) (K : vG G C k n (pc + 3) lv (.ref (G.2.2.2 1) :: st) ws) : vG G C k n pc lv st ws := by
  obtain ⟨p, e, R, s, m, args, below, meth, c, A, Q⟩ := C
  obtain ⟨hx, hb, hml, hown, hts, hr, hlk, hK, hA, hE, hR⟩ := hC
  intro H locs ls hP hD hS hl
  exact va_gets hx hb hE.2.1.1 hS hown (hts _ lk) (fun _ h9 => h9) d (K H locs ls hP hD hS hl)
theorem g_getsNMO {G : Gx} {C : Cx} {cc : ByteArray} {own : String} {nL : Nat} {ret : Option FieldType} {R0 : Room} {k n pc : Nat} {lv : List (Nat × Value)} {st : List Value} {ws : va_W} {i : Nat} {host : String} (hC : vH G C cc own nL ret R0) (d : decode cc pc = .ok (.getstatic i, 3)) (lk : (own, i, "CoilBench", "MOST", "[I", host) ∈ nwF) (K : vG G C k n (pc + 3) lv (.ref (G.2.2.2 1) :: st) ws) : vG G C k n pc lv st ws := by
  obtain ⟨p, e, R, s, m, args, below, meth, c, A, Q⟩ := C
  obtain ⟨hx, hb, hml, hown, hts, hr, hlk, hK, hA, hE, hR⟩ := hC
  intro H locs ls hP hD hS hl
  exact va_getsN hx hb hE.2.1.1 hS hown ((hE.2.2.2.2.2.2.1 _ lk).use rfl) (fun _ h9 => h9) d (K H locs ls hP hD hS hl)
theorem g_tabMO {G : Gx} {C : Cx} {cc : ByteArray} {own : String} {nL : Nat} {ret : Option FieldType} {R0 : Room} {k n pc : Nat} {lv : List (Nat × Value)} {st : List Value} {ws : va_W} {i : Int32} (hC : vH G C cc own nL ret R0) (d : decode cc pc = .ok (.iaload, 1)) (hin : vp_in i 5) (K : vG G C k n (pc + 1) lv (.int (cMO i.toNatClampNeg) :: st) ws) : vG G C k n pc lv (.int i :: .ref (G.2.2.2 1) :: st) ws := by
  obtain ⟨p, e, R, s, m, args, below, meth, c, A, Q⟩ := C
  obtain ⟨hx, hb, hml, hown, hts, hr, hlk, hK, hA, hE, hR⟩ := hC
  intro H locs ls hP hD hS hl
  exact va_ti hx hb hE.2.1.2 hS hin rfl d (K H locs ls hP hD hS hl)
