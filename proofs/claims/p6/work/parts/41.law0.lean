/-! THE CLAIM OUT OF ONE WALK OF THE LAW'S BODY. Your part is whole_start (and what it stands on); all else here is the same for every law, but numbers. -/
def R_law : String := "CoilBenchLaw"
def lw_P (b : Addr) (xs : List Int32) (args : Array Value) (s : State) : Prop := args = #[.ref b] ∧ s.IntsAt b xs ∧ xs.length ≤ 3072 ∧ (Jvm.Cond.and given_1 narrow_1).before args s = true
def lw_Q (_ : Array Value) (s : State) (o : Outcome) (t : State) : Prop := o = .returned (some (.int 1)) ∧ Framed s o t [] 600000 7302250
def lw_Z (below : List Frame) (a : Array Value) (s : State) : State → Prop := fun t => ∃ o, t.status = .running ∧ Ended t below o ∧ lw_Q a s o t
/-- the law's own end, with 1 on the stack, nothing written that was there before, its room as the claim has it -/
theorem lw_ret {p : Program} {l : Launch} {e : Env} {s : State} {m : MethodId} {below : List Frame} {meth : Method} {c : Code} {b : Nat} (hx : p.tables.exec = Jvm.exec) (hb : c.code = code) (hr : meth.sig.returnType = ret) (hlocks : meth.locks = false) {pc : Nat} {H : Heap} {ls : Array Slot} (hdg : decode code pc = .ok (.ireturn, 1)) : W p l e room_1 s m #[Value.ref b] below meth c H [] 600000 7302250 (lw_Z below #[Value.ref b] s) (F0 m pc ls [.int 1]) := by
  intro T hT X
  obtain ⟨fs, hret, hrun, hended, hW, hframe⟩ := X.leave (v := some (.int 1)) (hlocks := hlocks) (fun h => by rw [hr] at h; cases h)
  have hmeth' : T.vm.method? m = some meth := X.method'
  refine ⟨T.setFrames fs, ?_, .returned (some (.int 1)), hrun, hended, rfl, ⟨_, rfl⟩, hW, hframe⟩
  jvm_step X.here [X.here.top, hx, hb, hdg, hmeth', hr, ret, narrow_b1]
  (try refine ⟨rfl, ?_⟩); (try refine ⟨rfl, ?_⟩)
  first | (intro acts; rw [hret _ acts rfl rfl rfl]) | rw [hret _ _ rfl rfl rfl]
  exact Steps.refl _
/-- what holds at the law's entry: the machine, the code, the tables' words (any of lw_tbl by 'hts w (by decide +kernel)'), the script of L ints xs at the cell b, what the Statement gives of the start (any of its parts by flat_of_before) -/
def lw_At (p : Program) (s : State) (m : MethodId) (meth : Method) (c : Code) (b L : Nat) (xs : Nat → Int32) : Prop :=
  p.tables.exec = Jvm.exec ∧ c.code = code ∧ meth.sig.returnType = ret ∧ c.maxLocals = 4 ∧ s.vm.findClass R_law = some m.cls ∧ (∀ w ∈ lw_tbl, w.before #[Value.ref b] s = true) ∧ va_X b L xs s s.heap ∧ b < s.heap.size ∧ meth.locks = false ∧ (Jvm.Cond.and given_1 narrow_1).before #[Value.ref b] s = true
abbrev wXF (G : Gx) (q : Nat) (qs : Nat → Nat → Nat) (u v : Nat) (s : XS) : va_W := [(q, eO 9 [.ref (qs 0 0), .int s.1, .int s.2.1, .int s.2.2.1, .ref (qs 1 0), .ref (qs 23 0), .ref (qs 47 0), .ref (qs 50 0), .ref (qs 55 0)]), ((qs 0 0), eB G 4000 s.2.2.2.1), ((qs 1 0), eO 4 [.ref (qs 2 0), .ref v, .int s.2.2.2.2.1, .int s.2.2.2.2.2.1, .int s.2.2.2.2.2.2.1, .int s.2.2.2.2.2.2.2.1, .int s.2.2.2.2.2.2.2.2.1, .int s.2.2.2.2.2.2.2.2.2.1, .int s.2.2.2.2.2.2.2.2.2.2.1, .ref (qs 20 0), .ref (qs 21 0), .ref (qs 22 0), .int s.2.2.2.2.2.2.2.2.2.2.2.1, .int s.2.2.2.2.2.2.2.2.2.2.2.2.1]), ((qs 2 0), eO 6 [.ref (qs 3 0), .int s.2.2.2.2.2.2.2.2.2.2.2.2.2.1, .ref (qs 4 0), .ref (qs 5 0), .ref (qs 6 0), .int s.2.2.2.2.2.2.2.2.2.2.2.2.2.2.1]), ((qs 3 0), eB G 4000 s.2.2.2.2.2.2.2.2.2.2.2.2.2.2.2.1), ((qs 4 0), eI G 4001 s.2.2.2.2.2.2.2.2.2.2.2.2.2.2.2.2.1), ((qs 5 0), eI G 4001 s.2.2.2.2.2.2.2.2.2.2.2.2.2.2.2.2.2.1), ((qs 6 0), eJ G 4001 s.2.2.2.2.2.2.2.2.2.2.2.2.2.2.2.2.2.2.1), ((qs 7 0), eO 2 [.ref (qs 8 0), .ref (qs 9 0), .ref (qs 11 0), .ref (qs 12 0), .ref (qs 13 0), .ref (qs 14 0), .ref (qs 15 0), .ref (qs 16 0), .ref (qs 17 0), .ref (qs 18 0), .ref (qs 19 0), .int s.2.2.2.2.2.2.2.2.2.2.2.2.2.2.2.2.2.2.2.1, .int s.2.2.2.2.2.2.2.2.2.2.2.2.2.2.2.2.2.2.2.2.1]), ((qs 8 0), eI G 5 s.2.2.2.2.2.2.2.2.2.2.2.2.2.2.2.2.2.2.2.2.2.1), ((qs 9 0), eL G 5 (fun i => some ((qs 10) i))), ((qs 10) 0, eJ G 40 (s.2.2.2.2.2.2.2.2.2.2.2.2.2.2.2.2.2.2.2.2.2.2.1 0)), ((qs 10) 1, eJ G 40 (s.2.2.2.2.2.2.2.2.2.2.2.2.2.2.2.2.2.2.2.2.2.2.1 1)), ((qs 10) 2, eJ G 40 (s.2.2.2.2.2.2.2.2.2.2.2.2.2.2.2.2.2.2.2.2.2.2.1 2)), ((qs 10) 3, eJ G 40 (s.2.2.2.2.2.2.2.2.2.2.2.2.2.2.2.2.2.2.2.2.2.2.1 3)), ((qs 10) 4, eJ G 40 (s.2.2.2.2.2.2.2.2.2.2.2.2.2.2.2.2.2.2.2.2.2.2.1 4)), ((qs 11 0), eI G 40 s.2.2.2.2.2.2.2.2.2.2.2.2.2.2.2.2.2.2.2.2.2.2.2.1), ((qs 12 0), eI G 40 s.2.2.2.2.2.2.2.2.2.2.2.2.2.2.2.2.2.2.2.2.2.2.2.2.1), ((qs 13 0), eI G 40 s.2.2.2.2.2.2.2.2.2.2.2.2.2.2.2.2.2.2.2.2.2.2.2.2.2.1), ((qs 14 0), eI G 40 s.2.2.2.2.2.2.2.2.2.2.2.2.2.2.2.2.2.2.2.2.2.2.2.2.2.2.1), ((qs 15 0), eI G 4 s.2.2.2.2.2.2.2.2.2.2.2.2.2.2.2.2.2.2.2.2.2.2.2.2.2.2.2.1), ((qs 16 0), eI G 4 s.2.2.2.2.2.2.2.2.2.2.2.2.2.2.2.2.2.2.2.2.2.2.2.2.2.2.2.2.1), ((qs 17 0), eZ G 954 s.2.2.2.2.2.2.2.2.2.2.2.2.2.2.2.2.2.2.2.2.2.2.2.2.2.2.2.2.2.1), ((qs 18 0), eI G 954 s.2.2.2.2.2.2.2.2.2.2.2.2.2.2.2.2.2.2.2.2.2.2.2.2.2.2.2.2.2.2.1), ((qs 19 0), eI G 954 s.2.2.2.2.2.2.2.2.2.2.2.2.2.2.2.2.2.2.2.2.2.2.2.2.2.2.2.2.2.2.2.1), ((qs 20 0), eI G 1334 s.2.2.2.2.2.2.2.2.2.2.2.2.2.2.2.2.2.2.2.2.2.2.2.2.2.2.2.2.2.2.2.2.1), ((qs 21 0), eI G 1334 s.2.2.2.2.2.2.2.2.2.2.2.2.2.2.2.2.2.2.2.2.2.2.2.2.2.2.2.2.2.2.2.2.2.1), ((qs 22 0), eI G 1334 s.2.2.2.2.2.2.2.2.2.2.2.2.2.2.2.2.2.2.2.2.2.2.2.2.2.2.2.2.2.2.2.2.2.2.1), ((qs 23 0), eO 1 [.ref u, .ref (qs 37 0), .ref (qs 40 0)]), ((qs 24 0), eO 2 [.ref (qs 25 0), .ref (qs 26 0), .ref (qs 28 0), .ref (qs 29 0), .ref (qs 30 0), .ref (qs 31 0), .ref (qs 32 0), .ref (qs 33 0), .ref (qs 34 0), .ref (qs 35 0), .ref (qs 36 0), .int s.2.2.2.2.2.2.2.2.2.2.2.2.2.2.2.2.2.2.2.2.2.2.2.2.2.2.2.2.2.2.2.2.2.2.2.1, .int s.2.2.2.2.2.2.2.2.2.2.2.2.2.2.2.2.2.2.2.2.2.2.2.2.2.2.2.2.2.2.2.2.2.2.2.2.1]), ((qs 25 0), eI G 5 s.2.2.2.2.2.2.2.2.2.2.2.2.2.2.2.2.2.2.2.2.2.2.2.2.2.2.2.2.2.2.2.2.2.2.2.2.2.1), ((qs 26 0), eL G 5 (fun i => some ((qs 27) i))), ((qs 27) 0, eJ G 40 (s.2.2.2.2.2.2.2.2.2.2.2.2.2.2.2.2.2.2.2.2.2.2.2.2.2.2.2.2.2.2.2.2.2.2.2.2.2.2.1 0)), ((qs 27) 1, eJ G 40 (s.2.2.2.2.2.2.2.2.2.2.2.2.2.2.2.2.2.2.2.2.2.2.2.2.2.2.2.2.2.2.2.2.2.2.2.2.2.2.1 1)), ((qs 27) 2, eJ G 40 (s.2.2.2.2.2.2.2.2.2.2.2.2.2.2.2.2.2.2.2.2.2.2.2.2.2.2.2.2.2.2.2.2.2.2.2.2.2.2.1 2)), ((qs 27) 3, eJ G 40 (s.2.2.2.2.2.2.2.2.2.2.2.2.2.2.2.2.2.2.2.2.2.2.2.2.2.2.2.2.2.2.2.2.2.2.2.2.2.2.1 3)), ((qs 27) 4, eJ G 40 (s.2.2.2.2.2.2.2.2.2.2.2.2.2.2.2.2.2.2.2.2.2.2.2.2.2.2.2.2.2.2.2.2.2.2.2.2.2.2.1 4)), ((qs 28 0), eI G 40 s.2.2.2.2.2.2.2.2.2.2.2.2.2.2.2.2.2.2.2.2.2.2.2.2.2.2.2.2.2.2.2.2.2.2.2.2.2.2.2.1), ((qs 29 0), eI G 40 s.2.2.2.2.2.2.2.2.2.2.2.2.2.2.2.2.2.2.2.2.2.2.2.2.2.2.2.2.2.2.2.2.2.2.2.2.2.2.2.2.1), ((qs 30 0), eI G 40 s.2.2.2.2.2.2.2.2.2.2.2.2.2.2.2.2.2.2.2.2.2.2.2.2.2.2.2.2.2.2.2.2.2.2.2.2.2.2.2.2.2.1), ((qs 31 0), eI G 40 s.2.2.2.2.2.2.2.2.2.2.2.2.2.2.2.2.2.2.2.2.2.2.2.2.2.2.2.2.2.2.2.2.2.2.2.2.2.2.2.2.2.2.1), ((qs 32 0), eI G 4 s.2.2.2.2.2.2.2.2.2.2.2.2.2.2.2.2.2.2.2.2.2.2.2.2.2.2.2.2.2.2.2.2.2.2.2.2.2.2.2.2.2.2.2.1), ((qs 33 0), eI G 4 s.2.2.2.2.2.2.2.2.2.2.2.2.2.2.2.2.2.2.2.2.2.2.2.2.2.2.2.2.2.2.2.2.2.2.2.2.2.2.2.2.2.2.2.2.1), ((qs 34 0), eZ G 954 s.2.2.2.2.2.2.2.2.2.2.2.2.2.2.2.2.2.2.2.2.2.2.2.2.2.2.2.2.2.2.2.2.2.2.2.2.2.2.2.2.2.2.2.2.2.1), ((qs 35 0), eI G 954 s.2.2.2.2.2.2.2.2.2.2.2.2.2.2.2.2.2.2.2.2.2.2.2.2.2.2.2.2.2.2.2.2.2.2.2.2.2.2.2.2.2.2.2.2.2.2.1), ((qs 36 0), eI G 954 s.2.2.2.2.2.2.2.2.2.2.2.2.2.2.2.2.2.2.2.2.2.2.2.2.2.2.2.2.2.2.2.2.2.2.2.2.2.2.2.2.2.2.2.2.2.2.2.1), ((qs 37 0), eO 8 [.ref (qs 38 0), .ref (qs 39 0)]), ((qs 38 0), eI G 240 s.2.2.2.2.2.2.2.2.2.2.2.2.2.2.2.2.2.2.2.2.2.2.2.2.2.2.2.2.2.2.2.2.2.2.2.2.2.2.2.2.2.2.2.2.2.2.2.2.1), ((qs 39 0), eZ G 240 s.2.2.2.2.2.2.2.2.2.2.2.2.2.2.2.2.2.2.2.2.2.2.2.2.2.2.2.2.2.2.2.2.2.2.2.2.2.2.2.2.2.2.2.2.2.2.2.2.2.1), ((qs 40 0), eO 7 [.int s.2.2.2.2.2.2.2.2.2.2.2.2.2.2.2.2.2.2.2.2.2.2.2.2.2.2.2.2.2.2.2.2.2.2.2.2.2.2.2.2.2.2.2.2.2.2.2.2.2.2.1, .int s.2.2.2.2.2.2.2.2.2.2.2.2.2.2.2.2.2.2.2.2.2.2.2.2.2.2.2.2.2.2.2.2.2.2.2.2.2.2.2.2.2.2.2.2.2.2.2.2.2.2.2.1, .ref (qs 41 0), .ref (qs 42 0), .ref (qs 43 0), .ref (qs 44 0), .ref (qs 45 0), .ref (qs 46 0)]), ((qs 41 0), eI G 954 s.2.2.2.2.2.2.2.2.2.2.2.2.2.2.2.2.2.2.2.2.2.2.2.2.2.2.2.2.2.2.2.2.2.2.2.2.2.2.2.2.2.2.2.2.2.2.2.2.2.2.2.2.1), ((qs 42 0), eI G 1200 s.2.2.2.2.2.2.2.2.2.2.2.2.2.2.2.2.2.2.2.2.2.2.2.2.2.2.2.2.2.2.2.2.2.2.2.2.2.2.2.2.2.2.2.2.2.2.2.2.2.2.2.2.2.1), ((qs 43 0), eI G 1200 s.2.2.2.2.2.2.2.2.2.2.2.2.2.2.2.2.2.2.2.2.2.2.2.2.2.2.2.2.2.2.2.2.2.2.2.2.2.2.2.2.2.2.2.2.2.2.2.2.2.2.2.2.2.2.1), ((qs 44 0), eI G 1200 s.2.2.2.2.2.2.2.2.2.2.2.2.2.2.2.2.2.2.2.2.2.2.2.2.2.2.2.2.2.2.2.2.2.2.2.2.2.2.2.2.2.2.2.2.2.2.2.2.2.2.2.2.2.2.2.1), ((qs 45 0), eI G 954 s.2.2.2.2.2.2.2.2.2.2.2.2.2.2.2.2.2.2.2.2.2.2.2.2.2.2.2.2.2.2.2.2.2.2.2.2.2.2.2.2.2.2.2.2.2.2.2.2.2.2.2.2.2.2.2.2.1), ((qs 46 0), eI G 954 s.2.2.2.2.2.2.2.2.2.2.2.2.2.2.2.2.2.2.2.2.2.2.2.2.2.2.2.2.2.2.2.2.2.2.2.2.2.2.2.2.2.2.2.2.2.2.2.2.2.2.2.2.2.2.2.2.2.1), ((qs 47 0), eO 5 [.long s.2.2.2.2.2.2.2.2.2.2.2.2.2.2.2.2.2.2.2.2.2.2.2.2.2.2.2.2.2.2.2.2.2.2.2.2.2.2.2.2.2.2.2.2.2.2.2.2.2.2.2.2.2.2.2.2.2.2.1, .ref (qs 48 0), .ref (qs 49 0), .int s.2.2.2.2.2.2.2.2.2.2.2.2.2.2.2.2.2.2.2.2.2.2.2.2.2.2.2.2.2.2.2.2.2.2.2.2.2.2.2.2.2.2.2.2.2.2.2.2.2.2.2.2.2.2.2.2.2.2.2.1, .int s.2.2.2.2.2.2.2.2.2.2.2.2.2.2.2.2.2.2.2.2.2.2.2.2.2.2.2.2.2.2.2.2.2.2.2.2.2.2.2.2.2.2.2.2.2.2.2.2.2.2.2.2.2.2.2.2.2.2.2.2.1]), ((qs 48 0), eI G 40 s.2.2.2.2.2.2.2.2.2.2.2.2.2.2.2.2.2.2.2.2.2.2.2.2.2.2.2.2.2.2.2.2.2.2.2.2.2.2.2.2.2.2.2.2.2.2.2.2.2.2.2.2.2.2.2.2.2.2.2.2.2.1), ((qs 49 0), eI G 40 s.2.2.2.2.2.2.2.2.2.2.2.2.2.2.2.2.2.2.2.2.2.2.2.2.2.2.2.2.2.2.2.2.2.2.2.2.2.2.2.2.2.2.2.2.2.2.2.2.2.2.2.2.2.2.2.2.2.2.2.2.2.2.1), ((qs 50 0), eO 0 [.ref (qs 51 0), .int s.2.2.2.2.2.2.2.2.2.2.2.2.2.2.2.2.2.2.2.2.2.2.2.2.2.2.2.2.2.2.2.2.2.2.2.2.2.2.2.2.2.2.2.2.2.2.2.2.2.2.2.2.2.2.2.2.2.2.2.2.2.2.2.1, .int s.2.2.2.2.2.2.2.2.2.2.2.2.2.2.2.2.2.2.2.2.2.2.2.2.2.2.2.2.2.2.2.2.2.2.2.2.2.2.2.2.2.2.2.2.2.2.2.2.2.2.2.2.2.2.2.2.2.2.2.2.2.2.2.2.1]), ((qs 51 0), eS G 100 (fun i => some ((qs 52) i))), ((qs 55 0), eO 3 [.ref (qs 56 0), .ref (qs 59 0), .ref (qs 62 0), .long s.2.2.2.2.2.2.2.2.2.2.2.2.2.2.2.2.2.2.2.2.2.2.2.2.2.2.2.2.2.2.2.2.2.2.2.2.2.2.2.2.2.2.2.2.2.2.2.2.2.2.2.2.2.2.2.2.2.2.2.2.2.2.2.2.2.2.2.2.2.2.1, .int s.2.2.2.2.2.2.2.2.2.2.2.2.2.2.2.2.2.2.2.2.2.2.2.2.2.2.2.2.2.2.2.2.2.2.2.2.2.2.2.2.2.2.2.2.2.2.2.2.2.2.2.2.2.2.2.2.2.2.2.2.2.2.2.2.2.2.2.2.2.2.2.1]), ((qs 56 0), eO 5 [.long s.2.2.2.2.2.2.2.2.2.2.2.2.2.2.2.2.2.2.2.2.2.2.2.2.2.2.2.2.2.2.2.2.2.2.2.2.2.2.2.2.2.2.2.2.2.2.2.2.2.2.2.2.2.2.2.2.2.2.2.2.2.2.2.2.2.2.2.2.2.2.2.2.1, .ref (qs 57 0), .ref (qs 58 0), .int s.2.2.2.2.2.2.2.2.2.2.2.2.2.2.2.2.2.2.2.2.2.2.2.2.2.2.2.2.2.2.2.2.2.2.2.2.2.2.2.2.2.2.2.2.2.2.2.2.2.2.2.2.2.2.2.2.2.2.2.2.2.2.2.2.2.2.2.2.2.2.2.2.2.1, .int s.2.2.2.2.2.2.2.2.2.2.2.2.2.2.2.2.2.2.2.2.2.2.2.2.2.2.2.2.2.2.2.2.2.2.2.2.2.2.2.2.2.2.2.2.2.2.2.2.2.2.2.2.2.2.2.2.2.2.2.2.2.2.2.2.2.2.2.2.2.2.2.2.2.2.1]), ((qs 57 0), eI G 40 s.2.2.2.2.2.2.2.2.2.2.2.2.2.2.2.2.2.2.2.2.2.2.2.2.2.2.2.2.2.2.2.2.2.2.2.2.2.2.2.2.2.2.2.2.2.2.2.2.2.2.2.2.2.2.2.2.2.2.2.2.2.2.2.2.2.2.2.2.2.2.2.2.2.2.2.1), ((qs 58 0), eI G 40 s.2.2.2.2.2.2.2.2.2.2.2.2.2.2.2.2.2.2.2.2.2.2.2.2.2.2.2.2.2.2.2.2.2.2.2.2.2.2.2.2.2.2.2.2.2.2.2.2.2.2.2.2.2.2.2.2.2.2.2.2.2.2.2.2.2.2.2.2.2.2.2.2.2.2.2.2.1), ((qs 59 0), eO 5 [.long s.2.2.2.2.2.2.2.2.2.2.2.2.2.2.2.2.2.2.2.2.2.2.2.2.2.2.2.2.2.2.2.2.2.2.2.2.2.2.2.2.2.2.2.2.2.2.2.2.2.2.2.2.2.2.2.2.2.2.2.2.2.2.2.2.2.2.2.2.2.2.2.2.2.2.2.2.2.1, .ref (qs 60 0), .ref (qs 61 0), .int s.2.2.2.2.2.2.2.2.2.2.2.2.2.2.2.2.2.2.2.2.2.2.2.2.2.2.2.2.2.2.2.2.2.2.2.2.2.2.2.2.2.2.2.2.2.2.2.2.2.2.2.2.2.2.2.2.2.2.2.2.2.2.2.2.2.2.2.2.2.2.2.2.2.2.2.2.2.2.1, .int s.2.2.2.2.2.2.2.2.2.2.2.2.2.2.2.2.2.2.2.2.2.2.2.2.2.2.2.2.2.2.2.2.2.2.2.2.2.2.2.2.2.2.2.2.2.2.2.2.2.2.2.2.2.2.2.2.2.2.2.2.2.2.2.2.2.2.2.2.2.2.2.2.2.2.2.2.2.2.2.1]), ((qs 60 0), eI G 40 s.2.2.2.2.2.2.2.2.2.2.2.2.2.2.2.2.2.2.2.2.2.2.2.2.2.2.2.2.2.2.2.2.2.2.2.2.2.2.2.2.2.2.2.2.2.2.2.2.2.2.2.2.2.2.2.2.2.2.2.2.2.2.2.2.2.2.2.2.2.2.2.2.2.2.2.2.2.2.2.2.1), ((qs 61 0), eI G 40 s.2.2.2.2.2.2.2.2.2.2.2.2.2.2.2.2.2.2.2.2.2.2.2.2.2.2.2.2.2.2.2.2.2.2.2.2.2.2.2.2.2.2.2.2.2.2.2.2.2.2.2.2.2.2.2.2.2.2.2.2.2.2.2.2.2.2.2.2.2.2.2.2.2.2.2.2.2.2.2.2.2.1), ((qs 62 0), eO 5 [.long s.2.2.2.2.2.2.2.2.2.2.2.2.2.2.2.2.2.2.2.2.2.2.2.2.2.2.2.2.2.2.2.2.2.2.2.2.2.2.2.2.2.2.2.2.2.2.2.2.2.2.2.2.2.2.2.2.2.2.2.2.2.2.2.2.2.2.2.2.2.2.2.2.2.2.2.2.2.2.2.2.2.2.1, .ref (qs 63 0), .ref (qs 64 0), .int s.2.2.2.2.2.2.2.2.2.2.2.2.2.2.2.2.2.2.2.2.2.2.2.2.2.2.2.2.2.2.2.2.2.2.2.2.2.2.2.2.2.2.2.2.2.2.2.2.2.2.2.2.2.2.2.2.2.2.2.2.2.2.2.2.2.2.2.2.2.2.2.2.2.2.2.2.2.2.2.2.2.2.2.1, .int s.2.2.2.2.2.2.2.2.2.2.2.2.2.2.2.2.2.2.2.2.2.2.2.2.2.2.2.2.2.2.2.2.2.2.2.2.2.2.2.2.2.2.2.2.2.2.2.2.2.2.2.2.2.2.2.2.2.2.2.2.2.2.2.2.2.2.2.2.2.2.2.2.2.2.2.2.2.2.2.2.2.2.2.2.1]), ((qs 63 0), eI G 40 s.2.2.2.2.2.2.2.2.2.2.2.2.2.2.2.2.2.2.2.2.2.2.2.2.2.2.2.2.2.2.2.2.2.2.2.2.2.2.2.2.2.2.2.2.2.2.2.2.2.2.2.2.2.2.2.2.2.2.2.2.2.2.2.2.2.2.2.2.2.2.2.2.2.2.2.2.2.2.2.2.2.2.2.2.2.1), ((qs 64 0), eI G 40 s.2.2.2.2.2.2.2.2.2.2.2.2.2.2.2.2.2.2.2.2.2.2.2.2.2.2.2.2.2.2.2.2.2.2.2.2.2.2.2.2.2.2.2.2.2.2.2.2.2.2.2.2.2.2.2.2.2.2.2.2.2.2.2.2.2.2.2.2.2.2.2.2.2.2.2.2.2.2.2.2.2.2.2.2.2.2)]
abbrev wX (G : Gx) (q : Nat) (qs : Nat → Nat → Nat) (s : XS) : va_W := wXF G q qs (qs 24 0) (qs 7 0) s
abbrev wM (G : Gx) (q : Nat) (qs : Nat → Nat → Nat) (t : MS) : va_W := [(q, eO 10 [.ref (qs 0 0), .ref (qs 1 0), .int t.1, .int t.2.1, .ref (qs 2 0), .ref (qs 3 0), .ref (qs 4 0), .ref (qs 5 0), .int t.2.2.1, .int t.2.2.2.1, .int t.2.2.2.2.1, .int t.2.2.2.2.2.1, .int t.2.2.2.2.2.2.1, .int t.2.2.2.2.2.2.2.1, .int t.2.2.2.2.2.2.2.2.1, .ref (qs 6 0), .ref (qs 7 0), .ref (qs 8 0), .ref (qs 9 0), .ref (qs 10 0), .ref (qs 11 0), .ref (qs 12 0), .ref (qs 13 0), .ref (qs 14 0), .int t.2.2.2.2.2.2.2.2.2.1, .ref (qs 15 0), .ref (qs 16 0), .ref (qs 17 0), .ref (qs 18 0), .ref (qs 19 0), .ref (qs 20 0), .ref (qs 21 0), .ref (qs 22 0), .ref (qs 23 0), .int t.2.2.2.2.2.2.2.2.2.2.1, .int t.2.2.2.2.2.2.2.2.2.2.2.1, .ref (qs 24 0), .ref (qs 25 0), .ref (qs 26 0), .ref (qs 27 0), .ref (qs 28 0), .int t.2.2.2.2.2.2.2.2.2.2.2.2.1, .int t.2.2.2.2.2.2.2.2.2.2.2.2.2.1, .ref (qs 29 0), .ref (qs 30 0), .ref (qs 31 0)]), ((qs 0 0), eB G 4000 t.2.2.2.2.2.2.2.2.2.2.2.2.2.2.1), ((qs 1 0), eB G 4000 t.2.2.2.2.2.2.2.2.2.2.2.2.2.2.2.1), ((qs 2 0), eI G 4001 t.2.2.2.2.2.2.2.2.2.2.2.2.2.2.2.2.1), ((qs 3 0), eI G 4001 t.2.2.2.2.2.2.2.2.2.2.2.2.2.2.2.2.2.1), ((qs 4 0), eI G 4001 t.2.2.2.2.2.2.2.2.2.2.2.2.2.2.2.2.2.2.1), ((qs 5 0), eJ G 4001 t.2.2.2.2.2.2.2.2.2.2.2.2.2.2.2.2.2.2.2.1), ((qs 6 0), eI G 10 t.2.2.2.2.2.2.2.2.2.2.2.2.2.2.2.2.2.2.2.2.1), ((qs 7 0), eI G 232 t.2.2.2.2.2.2.2.2.2.2.2.2.2.2.2.2.2.2.2.2.2.1), ((qs 8 0), eI G 232 t.2.2.2.2.2.2.2.2.2.2.2.2.2.2.2.2.2.2.2.2.2.2.1), ((qs 9 0), eI G 232 t.2.2.2.2.2.2.2.2.2.2.2.2.2.2.2.2.2.2.2.2.2.2.2.1), ((qs 10 0), eI G 232 t.2.2.2.2.2.2.2.2.2.2.2.2.2.2.2.2.2.2.2.2.2.2.2.2.1), ((qs 11 0), eI G 232 t.2.2.2.2.2.2.2.2.2.2.2.2.2.2.2.2.2.2.2.2.2.2.2.2.2.1), ((qs 12 0), eB G 1856 t.2.2.2.2.2.2.2.2.2.2.2.2.2.2.2.2.2.2.2.2.2.2.2.2.2.2.1), ((qs 13 0), eI G 1908 t.2.2.2.2.2.2.2.2.2.2.2.2.2.2.2.2.2.2.2.2.2.2.2.2.2.2.2.1), ((qs 14 0), eZ G 1908 t.2.2.2.2.2.2.2.2.2.2.2.2.2.2.2.2.2.2.2.2.2.2.2.2.2.2.2.2.1), ((qs 15 0), eI G 5 t.2.2.2.2.2.2.2.2.2.2.2.2.2.2.2.2.2.2.2.2.2.2.2.2.2.2.2.2.2.1), ((qs 16 0), eI G 345 t.2.2.2.2.2.2.2.2.2.2.2.2.2.2.2.2.2.2.2.2.2.2.2.2.2.2.2.2.2.2.1), ((qs 17 0), eI G 240 t.2.2.2.2.2.2.2.2.2.2.2.2.2.2.2.2.2.2.2.2.2.2.2.2.2.2.2.2.2.2.2.1), ((qs 18 0), eZ G 240 t.2.2.2.2.2.2.2.2.2.2.2.2.2.2.2.2.2.2.2.2.2.2.2.2.2.2.2.2.2.2.2.2.1), ((qs 19 0), eI G 954 t.2.2.2.2.2.2.2.2.2.2.2.2.2.2.2.2.2.2.2.2.2.2.2.2.2.2.2.2.2.2.2.2.2.1), ((qs 20 0), eZ G 954 t.2.2.2.2.2.2.2.2.2.2.2.2.2.2.2.2.2.2.2.2.2.2.2.2.2.2.2.2.2.2.2.2.2.2.1), ((qs 21 0), eZ G 954 t.2.2.2.2.2.2.2.2.2.2.2.2.2.2.2.2.2.2.2.2.2.2.2.2.2.2.2.2.2.2.2.2.2.2.2.1), ((qs 22 0), eI G 40 t.2.2.2.2.2.2.2.2.2.2.2.2.2.2.2.2.2.2.2.2.2.2.2.2.2.2.2.2.2.2.2.2.2.2.2.2.1), ((qs 23 0), eI G 34500 t.2.2.2.2.2.2.2.2.2.2.2.2.2.2.2.2.2.2.2.2.2.2.2.2.2.2.2.2.2.2.2.2.2.2.2.2.2.1), ((qs 24 0), eI G 345 t.2.2.2.2.2.2.2.2.2.2.2.2.2.2.2.2.2.2.2.2.2.2.2.2.2.2.2.2.2.2.2.2.2.2.2.2.2.2.1), ((qs 25 0), eI G 345 t.2.2.2.2.2.2.2.2.2.2.2.2.2.2.2.2.2.2.2.2.2.2.2.2.2.2.2.2.2.2.2.2.2.2.2.2.2.2.2.1), ((qs 26 0), eI G 40 t.2.2.2.2.2.2.2.2.2.2.2.2.2.2.2.2.2.2.2.2.2.2.2.2.2.2.2.2.2.2.2.2.2.2.2.2.2.2.2.2.1), ((qs 27 0), eI G 4 t.2.2.2.2.2.2.2.2.2.2.2.2.2.2.2.2.2.2.2.2.2.2.2.2.2.2.2.2.2.2.2.2.2.2.2.2.2.2.2.2.2.1), ((qs 28 0), eI G 40 t.2.2.2.2.2.2.2.2.2.2.2.2.2.2.2.2.2.2.2.2.2.2.2.2.2.2.2.2.2.2.2.2.2.2.2.2.2.2.2.2.2.2.1), ((qs 29 0), eI G 4 t.2.2.2.2.2.2.2.2.2.2.2.2.2.2.2.2.2.2.2.2.2.2.2.2.2.2.2.2.2.2.2.2.2.2.2.2.2.2.2.2.2.2.2.1), ((qs 30 0), eI G 345 t.2.2.2.2.2.2.2.2.2.2.2.2.2.2.2.2.2.2.2.2.2.2.2.2.2.2.2.2.2.2.2.2.2.2.2.2.2.2.2.2.2.2.2.2.1), ((qs 31 0), eZ G 4 t.2.2.2.2.2.2.2.2.2.2.2.2.2.2.2.2.2.2.2.2.2.2.2.2.2.2.2.2.2.2.2.2.2.2.2.2.2.2.2.2.2.2.2.2.2)]
abbrev wP (G : Gx) (qs : Nat → Nat → Nat) (s : XS) : va_W := hpool G (qs 52) (qs 53) (qs 54) s.2.2.2.2.2.2.2.2.2.2.2.2.2.2.2.2.2.2.2.2.2.2.2.2.2.2.2.2.2.2.2.2.2.2.2.2.2.2.2.2.2.2.2.2.2.2.2.2.2.2.2.2.2.2.2.2.2.2.2.2.2.2.2.2.2.1 s.2.2.2.2.2.2.2.2.2.2.2.2.2.2.2.2.2.2.2.2.2.2.2.2.2.2.2.2.2.2.2.2.2.2.2.2.2.2.2.2.2.2.2.2.2.2.2.2.2.2.2.2.2.2.2.2.2.2.2.2.2.2.2.2.2.2.1 s.2.2.2.2.2.2.2.2.2.2.2.2.2.2.2.2.2.2.2.2.2.2.2.2.2.2.2.2.2.2.2.2.2.2.2.2.2.2.2.2.2.2.2.2.2.2.2.2.2.2.2.2.2.2.2.2.2.2.2.2.2.2.2.2.2.2.2.1 s.2.2.2.2.2.2.2.2.2.2.2.2.2.2.2.2.2.2.2.2.2.2.2.2.2.2.2.2.2.2.2.2.2.2.2.2.2.2.2.2.2.2.2.2.2.2.2.2.2.2.2.2.2.2.2.2.2.2.2.2.2.2.2.2.2.2.2.2.1 s.2.2.2.2.2.2.2.2.2.2.2.2.2.2.2.2.2.2.2.2.2.2.2.2.2.2.2.2.2.2.2.2.2.2.2.2.2.2.2.2.2.2.2.2.2.2.2.2.2.2.2.2.2.2.2.2.2.2.2.2.2.2.2.2.2.2.2.2.2.1 100
abbrev WL (G : Gx) (qx qm : Nat) (ax am : Nat → Nat → Nat) (s : XS) (t : MS) : va_W := (wX G qx ax s ++ wM G qm am t) ++ wP G ax s
def vX (b L : Nat) (xs : Nat → Int32) : Cx → Prop
  | (_, _, _, s, _, _, _, _, _, A, _) => va_X b L xs s s.heap ∧ b < s.heap.size ∧ ¬ A b
theorem g_sld {G : Gx} {C : Cx} {cc : ByteArray} {own : String} {nL : Nat} {ret : Option FieldType} {R0 : Room} {k n pc : Nat} {lv : List (Nat × Value)} {st : List Value} {ws : va_W} {b L : Nat} {xs : Nat → Int32} {i : Int32} (hC : vH G C cc own nL ret R0) (hX : vX b L xs C) (d : decode cc pc = .ok (.iaload, 1)) (hin : vp_in i L) (K : vG G C k n (pc + 1) lv (.int (xs i.toNatClampNeg) :: st) ws) : vG G C k n pc lv (.int i :: .ref b :: st) ws := by
  obtain ⟨p, e, R, s, m, args, below, meth, c, A, Q⟩ := C
  obtain ⟨hx, hb, hml, hown, hts, hr, hlk, hK, hA, hE, hR⟩ := hC
  intro H locs ls hP hD hS hl
  exact va_sld hx hb hX.1 hX.2.1 hX.2.2 hS hin d (K H locs ls hP hD hS hl)
theorem g_slen {G : Gx} {C : Cx} {cc : ByteArray} {own : String} {nL : Nat} {ret : Option FieldType} {R0 : Room} {k n pc : Nat} {lv : List (Nat × Value)} {st : List Value} {ws : va_W} {b L : Nat} {xs : Nat → Int32} (hC : vH G C cc own nL ret R0) (hX : vX b L xs C) (d : decode cc pc = .ok (.arraylength, 1)) (K : vG G C k n (pc + 1) lv (.int (Int32.ofNat L) :: st) ws) : vG G C k n pc lv (.ref b :: st) ws := by
  obtain ⟨p, e, R, s, m, args, below, meth, c, A, Q⟩ := C
  obtain ⟨hx, hb, hml, hown, hts, hr, hlk, hK, hA, hE, hR⟩ := hC
  intro H locs ls hP hD hS hl
  exact va_slen hx hb hX.1 hX.2.1 hX.2.2 hS d (K H locs ls hP hD hS hl)
/-- the same cells of a world's first piece told otherwise -/
theorem vG_permP {G : Gx} {C : Cx} {k n pc : Nat} {lv : List (Nat × Value)} {st : List Value} {X X2 P : va_W} (is : List Nat) (h1 : is.filterMap (fun i => X[i]?) = X2) (h2 : va_nd is = true) (h3 : is.map (fun i => X[i]?) = X2.map some) (K : vG G C k n pc lv st (X2 ++ P)) : vG G C k n pc lv st (X ++ P) := by
  refine vG_via (fun H hP => ?_) (fun A hD => ?_) K
  · have hX : va_P G.2.1 classes X H := fun j q hj => hP j q (by rw [List.getElem?_append_left (List.getElem?_eq_some_iff.mp hj).1]; exact hj)
    have hPP : va_P G.2.1 classes P H := fun j q hj => hP (X.length + j) q (by rw [List.getElem?_append_right (Nat.le_add_right _ _), Nat.add_sub_cancel_left]; exact hj)
    exact (hX.sub is h1).app hPP
  · have hX : va_D A X := ⟨fun i j p q hi hj e => hD.1 i j p q (by rw [List.getElem?_append_left (List.getElem?_eq_some_iff.mp hi).1]; exact hi) (by rw [List.getElem?_append_left (List.getElem?_eq_some_iff.mp hj).1]; exact hj) e, fun j q hj => hD.2 j q (by rw [List.getElem?_append_left (List.getElem?_eq_some_iff.mp hj).1]; exact hj)⟩
    have hPP : va_D A P := ⟨fun i j p q hi hj e => by
      have := hD.1 (X.length + i) (X.length + j) p q (by rw [List.getElem?_append_right (Nat.le_add_right _ _), Nat.add_sub_cancel_left]; exact hi) (by rw [List.getElem?_append_right (Nat.le_add_right _ _), Nat.add_sub_cancel_left]; exact hj) e
      omega, fun j q hj => hD.2 (X.length + j) q (by rw [List.getElem?_append_right (Nat.le_add_right _ _), Nat.add_sub_cancel_left]; exact hj)⟩
    refine (hX.sub is h2 h3).app hPP (fun i j p q hi hj e => ?_)
    have h4 : (is.map (fun i => X[i]?))[i]? = some (some p) := by rw [h3, List.getElem?_map, hi]; rfl
    rw [List.getElem?_map] at h4
    cases hz : is[i]? with
    | none => rw [hz] at h4; cases h4
    | some z =>
      rw [hz] at h4
      have h5 : X[z]? = some p := Option.some.inj h4
      have hlt := (List.getElem?_eq_some_iff.mp h5).1
      have := hD.1 z (X.length + j) p q (by rw [List.getElem?_append_left hlt]; exact h5) (by rw [List.getElem?_append_right (Nat.le_add_right _ _), Nat.add_sub_cancel_left]; exact hj) e
      omega
/-- the whole pool goes along -/
theorem pall_hc {X P wc1 : va_W} {is1 : List Nat} {L M : Nat} (hX : X.length = L) (hM : P.length = M) (hb : is1.all (fun i => decide (i < L)) = true) (h1 : is1.map (fun i => X[i]?) = wc1.map some) : (is1 ++ (List.range M).map (fun i => L + i)).map (fun i => (X ++ P)[i]?) = (wc1 ++ P).map some := by
  rw [List.map_append, List.map_append, vmap_app L hX hb h1]
  refine congrArg (wc1.map some ++ ·) ?_
  subst hM
  apply List.ext_getElem?
  intro j
  rw [List.map_map, List.getElem?_map, List.getElem?_map]
  by_cases hj : j < P.length
  · rw [List.getElem?_range hj]
    show some ((X ++ P)[L + j]?) = _
    rw [List.getElem?_append_right (by omega), show L + j - X.length = j by omega, List.getElem?_eq_getElem hj]
    rfl
  · rw [List.getElem?_eq_none (by rw [List.length_range]; omega), List.getElem?_eq_none (by omega)]
    rfl
theorem pall_nd {is1 : List Nat} {L : Nat} (M : Nat) (h : va_nd is1 = true) (hb : is1.all (fun i => decide (i < L)) = true) : va_nd (is1 ++ (List.range M).map (fun i => L + i)) = true := by
  rw [va_nd_iff] at h ⊢
  rw [List.nodup_append]
  refine ⟨h, ?_, fun a ha b hb2 => ?_⟩
  · rw [← va_nd_iff] at h
    have : ∀ M, ((List.range M).map (fun i => L + i)).Nodup := by
      intro M
      induction M with
      | zero => simp
      | succ M ih =>
        rw [List.range_succ, List.map_append, List.nodup_append]
        refine ⟨ih, by simp, fun a ha b hb => ?_⟩
        obtain ⟨i, hi, rfl⟩ := List.mem_map.mp ha
        have := List.mem_range.mp hi
        simp only [List.map_cons, List.map_nil, List.mem_singleton] at hb
        omega
    exact this M
  · have h1 : a < L := of_decide_eq_true (List.all_eq_true.mp hb a ha)
    obtain ⟨i, hi, rfl⟩ := List.mem_map.mp hb2
    omega
theorem vrep_all {L : Nat} : ∀ (P P2 : va_W) (d : Nat), P.length = P2.length → vrep ((List.range P.length).map (fun i => L + d + i)) P2 (L + d) P = P2
  | [], [], _, _ => rfl
  | [], _ :: _, _, h => by simp at h
  | _ :: _, [], _, h => by simp at h
  | w :: P, q :: P2, d, h => by
    have hl : P.length = P2.length := by simpa using h
    have e : (List.range (w :: P).length).map (fun i => L + d + i) = (L + d) :: (List.range P.length).map (fun i => L + (d + 1) + i) := by
      rw [List.length_cons, List.range_succ_eq_map, List.map_cons, List.map_map]
      rw [Nat.add_zero]
      refine congrArg (fun l => (L + d) :: l) (List.map_congr_left (fun i _ => ?_))
      show L + d + (i + 1) = L + (d + 1) + i
      omega
    rw [e, vrep]
    have hv : vpick (L + d) ((L + d) :: (List.range P.length).map (fun i => L + (d + 1) + i)) (q :: P2) w = q := by simp [vpick]
    rw [hv]
    have ih := vrep_all (L := L) P P2 (d + 1) hl
    refine congrArg (fun l => q :: l) ?_
    rw [show L + d + 1 = L + (d + 1) by omega]
    refine Eq.trans (vrep_congr P _ (fun i w9 hi => ?_)) ih
    have hb : Nat.beq (L + d) i = false := beq_ne (by omega)
    simp [vpick, hb]
theorem pall_set {X X2 P P2 wc2 : va_W} {is1 : List Nat} {L M : Nat} (hX : X.length = L) (hM : P.length = M) (hM2 : P2.length = M) (hb : is1.all (fun i => decide (i < L)) = true) (hl : is1.length = wc2.length) (h2 : vset X is1 wc2 = X2) : vset (X ++ P) (is1 ++ (List.range M).map (fun i => L + i)) (wc2 ++ P2) = X2 ++ P2 := by
  have hlt : ∀ i ∈ is1, i < L := fun i hi => of_decide_eq_true (List.all_eq_true.mp hb i hi)
  unfold vset at h2 ⊢
  rw [vrep_app, Nat.zero_add, hX]
  have e1 : vrep (is1 ++ (List.range M).map (fun i => L + i)) (wc2 ++ P2) 0 X = X2 := by
    rw [← h2]
    have key : ∀ (Y : va_W) (a : Nat), a + Y.length = L → vrep (is1 ++ (List.range M).map (fun i => L + i)) (wc2 ++ P2) a Y = vrep is1 wc2 a Y := by
      intro Y
      induction Y with
      | nil => intro a _; rfl
      | cons y Y ih =>
        intro a ha
        simp only [List.length_cons] at ha
        rw [vrep, vrep, ih (a + 1) (by omega)]
        refine congrArg (· :: _) ?_
        have gen : ∀ (is1 : List Nat) (q1 : va_W), is1.length = q1.length → vpick a (is1 ++ (List.range M).map (fun i => L + i)) (q1 ++ P2) y = vpick a is1 q1 y := by
          intro is1
          induction is1 with
          | nil =>
            intro q1 hq
            cases q1 with
            | nil =>
              show vpick a ((List.range M).map (fun i => L + i)) P2 y = _
              rw [vpick_no _ _ _ (fun hm => by obtain ⟨i, -, hi⟩ := List.mem_map.mp hm; omega)]
              simp [vpick]
            | cons _ _ => simp at hq
          | cons i is1 ih2 =>
            intro q1 hq
            cases q1 with
            | nil => simp at hq
            | cons q q1 =>
              simp only [List.cons_append, vpick]
              cases Nat.beq i a with
              | true => rfl
              | false => exact ih2 q1 (by simpa using hq)
        exact gen is1 wc2 hl
    exact key X 0 (by omega)
  rw [e1]
  refine congrArg (X2 ++ ·) ?_
  refine Eq.trans (vrep_congr P L (fun i w hi => vpick_skip is1 _ wc2 _ w (fun hm => by have := hlt i hm; omega) hl)) ?_
  have := vrep_all (L := L) P P2 0 (by rw [hM, hM2])
  rw [hM] at this
  simpa using this
theorem hpool_fst (G : Gx) (sa ca pa : Nat → Nat) {pk pk' : Nat → Int64} {ky tm ky' tm' : Nat → Int32} {cn po cn' po' : Nat → Nat → Int32} : ∀ n, (hpool G sa ca pa pk ky tm cn po n).map Prod.fst = (hpool G sa ca pa pk' ky' tm' cn' po' n).map Prod.fst
  | 0 => by rw [hpool, hpool]
  | n + 1 => by rw [hpool, hpool, List.map_append, List.map_append, hpool_fst G sa ca pa n]; rfl
