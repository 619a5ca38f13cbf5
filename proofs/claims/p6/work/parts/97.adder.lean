/-! the adder's TEXT: both write the same bytes -/
set_option maxHeartbeats 400000 in
theorem gD_l {l r : List Nat} {i : Nat} (h : i < l.length) : (l ++ r).getD i 0 = l.getD i 0 := by
  rw [List.getD_eq_getElem?_getD, List.getD_eq_getElem?_getD, List.getElem?_append_left h]
set_option maxHeartbeats 400000 in
theorem gD_r {l r : List Nat} {i : Nat} (h : l.length ≤ i) : (l ++ r).getD i 0 = r.getD (i - l.length) 0 := by
  rw [List.getD_eq_getElem?_getD, List.getD_eq_getElem?_getD, List.getElem?_append_right h]
def CT (l : List Nat) (size : Int32) (text : Nat → Int32) : Prop := size.toInt = l.length ∧ ∀ i : Nat, i < l.length → (text i).toInt = ((l.getD i 0 : Nat) : Int)
set_option maxHeartbeats 400000 in
theorem CT_push {l : List Nat} {size : Int32} {text : Nat → Int32} {b : Int32} (h : CT l size text) (hl : l.length < 4000) (hb : 0 ≤ b.toInt) : CT (l ++ [b.toInt.toNat]) (size + 1) (upd text size.toInt.toNat b) := by
  obtain ⟨h1, h2⟩ := h
  refine ⟨?_, fun i hi => ?_⟩
  · rw [List.length_append]
    show _ = ((l.length + 1 : Nat) : Int)
    ((try simp only [tI_lt, tI_le, tI_eq, tI_add, tI_sub, tI_mul, tI_nat, Int32.reduceToInt, Int.reduceToNat, fe_0, fe_1, fe_2, fe_3, fe_4, fe_5]) <;> (try simp (disch := omega) only [tI_bm]) <;> omega)
  · rw [List.length_append] at hi
    have hi' : i < l.length + 1 := hi
    have es : size.toInt.toNat = l.length := by omega
    rw [upd_at, es]
    by_cases z : i = l.length
    · rw [if_pos z, z, gD_r (Nat.le_refl _), Nat.sub_self]
      show b.toInt = (b.toInt.toNat : Int)
      omega
    · rw [if_neg z, gD_l (by omega)]
      exact h2 i (by omega)
set_option maxHeartbeats 400000 in
theorem s_put (x1 : Int32) (c_size : Int32) (c_text : Nat → Int32) (l : List Nat) (h : CT l c_size c_text) (hl : l.length < 4000) (hb : 0 ≤ x1.toInt) (hb2 : x1.toInt < 128) : Ok (f_X11_put x1 c_size c_text) (fun r => CT (l ++ [x1.toInt.toNat]) r.1 r.2) := by
  unfold f_X11_put
  have h1 := h.1
  have e : xi2b x1 = x1 := i2b_id (by omega) hb2
  rw [e]
  have nb : vp_nar .byte x1 = x1 := by
    rw [nar_byte]
    exact e
  refine ok_vlet (ok_bad (by omega) (ok_vlet (ok_vlet ?_)))
  rw [nb, tI_nat]
  exact ok_some (CT_push h hl hb)
def wdB (x : Int64) (k : Int32) : Int32 := ((xlshr x k) &&& (255 : Int64)).toInt32
def wdR (x : Int64) : Nat → List Nat
  | 0 => []
  | m + 1 => (if (lg_cmp ((xlshr x (Int32.ofNat (8 * m))) &&& (255 : Int64)) (0 : Int64)) = 0 then [] else [(wdB x (Int32.ofNat (8 * m))).toInt.toNat]) ++ wdR x m
def wdK (x : Int64) : Bool := [0, 1, 2, 3, 4, 5, 6].all (fun m => decide (0 ≤ (wdB x (Int32.ofNat (8 * m))).toInt) && decide ((wdB x (Int32.ofNat (8 * m))).toInt < 128))
set_option maxHeartbeats 400000 in
theorem s_word_3 : ∀ (n : Nat) (x1 : Int64) (x3 : Int32) (c_size : Int32) (c_text : Nat → Int32) (m : Nat) (l : List Nat), x3.toInt = 8 * m - 8 → m ≤ 7 → m < n → wdK x1 = true → CT l c_size c_text → l.length + (wdR x1 m).length ≤ 4000 → Ok (f_X11_word_3 n x1 x3 c_size c_text) (fun r => CT (l ++ wdR x1 m) r.1 r.2)
  | 0, x1, x3, c_size, c_text, m, l, h1, h2, h3, h4, h5, h6 => absurd h3 (Nat.not_lt_zero _)
  | n + 1, x1, x3, c_size, c_text, 0, l, h1, h2, h3, h4, h5, h6 => by
    unfold f_X11_word_3
    rw [if_pos (by rw [tI_lt, show (0 : Int32).toInt = 0 from by decide]; omega)]
    rw [show wdR x1 0 = [] from rfl, List.append_nil]
    exact ok_some h5
  | n + 1, x1, x3, c_size, c_text, m + 1, l, h1, h2, h3, h4, h5, h6 => by
    unfold f_X11_word_3
    rw [if_neg (by rw [tI_lt, show (0 : Int32).toInt = 0 from by decide]; omega)]
    have e3 : x3 = Int32.ofNat (8 * m) := Int32.toInt_inj.mp (by rw [Int32.toInt_ofNat_of_lt (show 8 * m < 2 ^ 31 by omega)]; omega)
    have em : (x3 + (-8 : Int32)).toInt = 8 * m - 8 := by
      rw [tI_add, show (-8 : Int32).toInt = -8 from by decide]; omega
    have hb : 0 ≤ (wdB x1 (Int32.ofNat (8 * m))).toInt ∧ (wdB x1 (Int32.ofNat (8 * m))).toInt < 128 := by
      unfold wdK at h4
      rw [List.all_eq_true] at h4
      have := h4 m (by
        have : m = 0 ∨ m = 1 ∨ m = 2 ∨ m = 3 ∨ m = 4 ∨ m = 5 ∨ m = 6 := by omega
        rcases this with q | q | q | q | q | q | q <;> subst q <;> decide)
      rw [Bool.and_eq_true, decide_eq_true_eq, decide_eq_true_eq] at this
      exact this
    rw [e3]
    have er : wdR x1 (m + 1) = (if (lg_cmp ((xlshr x1 (Int32.ofNat (8 * m))) &&& (255 : Int64)) (0 : Int64)) = 0 then [] else [(wdB x1 (Int32.ofNat (8 * m))).toInt.toNat]) ++ wdR x1 m := rfl
    rw [er] at h6 ⊢
    rw [e3] at em
    by_cases z : (lg_cmp ((xlshr x1 (Int32.ofNat (8 * m))) &&& (255 : Int64)) (0 : Int64)) = 0
    · rw [if_pos z] at h6 ⊢
      rw [if_pos z]
      unfold f_X11_word_31
      rw [List.nil_append] at h6 ⊢
      exact ok_vlet (s_word_3 n _ _ _ _ m l em (by omega) (by omega) h4 h5 h6)
    · rw [if_neg z] at h6 ⊢
      rw [if_neg z]
      rw [List.length_append] at h6
      have h6' : l.length + (1 + (wdR x1 m).length) ≤ 4000 := h6
      refine ok_bind (s_put (x1 := wdB x1 (Int32.ofNat (8 * m))) (c_size := c_size) (c_text := c_text) l h5 (by omega) hb.1 hb.2) (fun r hr => ?_)
      unfold f_X11_word_31
      rw [← List.append_assoc]
      exact ok_vlet (s_word_3 n _ _ _ _ m _ em (by omega) (by omega) h4 hr (by rw [List.length_append]; show l.length + 1 + _ ≤ 4000; omega))
/-! rows of what is put -/
def opR (x : Int32) (o : Int64 × Nat) (size : Int32) (text : Nat → Int32) : Option (Int32 × (Nat → Int32)) := if o.2 = 0 then f_X11_word o.1 size text else if o.2 = 1 then f_X11_put ((48 : Int32) + x) size text else f_X11_put ((49 : Int32) + x) size text
def opB (i : Nat) (o : Int64 × Nat) : List Nat := if o.2 = 0 then wdR o.1 7 else if o.2 = 1 then [48 + i] else [49 + i]
def opsR (x : Int32) : List (Int64 × Nat) → Int32 → (Nat → Int32) → Option (Int32 × (Nat → Int32))
  | [], size, text => some (size, text)
  | o :: r, size, text => (opR x o size text).bind fun q => opsR x r q.1 q.2
def opsB (i : Nat) : List (Int64 × Nat) → List Nat
  | [] => []
  | o :: r => opB i o ++ opsB i r
set_option maxHeartbeats 400000 in
theorem s_op (x : Int32) (i : Nat) (hx : x.toInt = i) (hi : i ≤ 7) (o : Int64 × Nat) (ho : wdK o.1 = true) (size : Int32) (text : Nat → Int32) (l : List Nat) (h : CT l size text) (hl : l.length + (opB i o).length ≤ 4000) : Ok (opR x o size text) (fun r => CT (l ++ opB i o) r.1 r.2) := by
  unfold opR
  unfold opB at hl ⊢
  by_cases a : o.2 = 0
  · rw [if_pos a] at hl ⊢
    rw [if_pos a]
    unfold f_X11_word
    exact s_word_3 FU _ _ _ _ 7 l (by decide) (Nat.le_refl _) (by rw [FU_eq]; decide) ho h hl
  rw [if_neg a] at hl ⊢
  rw [if_neg a]
  by_cases b : o.2 = 1
  · rw [if_pos b] at hl ⊢
    rw [if_pos b]
    have e : (48 + x).toInt = ((48 + i : Nat) : Int) := by ((try simp only [tI_lt, tI_le, tI_eq, tI_add, tI_sub, tI_mul, tI_nat, Int32.reduceToInt, Int.reduceToNat, fe_0, fe_1, fe_2, fe_3, fe_4, fe_5]) <;> (try simp (disch := omega) only [tI_bm]) <;> omega)
    have hl' : l.length + 1 ≤ 4000 := hl
    have := s_put (48 + x) size text l h (by omega) (by omega) (by omega)
    rw [e] at this
    exact this
  · rw [if_neg b] at hl ⊢
    rw [if_neg b]
    have e : (49 + x).toInt = ((49 + i : Nat) : Int) := by ((try simp only [tI_lt, tI_le, tI_eq, tI_add, tI_sub, tI_mul, tI_nat, Int32.reduceToInt, Int.reduceToNat, fe_0, fe_1, fe_2, fe_3, fe_4, fe_5]) <;> (try simp (disch := omega) only [tI_bm]) <;> omega)
    have hl' : l.length + 1 ≤ 4000 := hl
    have := s_put (49 + x) size text l h (by omega) (by omega) (by omega)
    rw [e] at this
    exact this
set_option maxHeartbeats 400000 in
theorem s_ops (x : Int32) (i : Nat) (hx : x.toInt = i) (hi : i ≤ 7) : ∀ (os : List (Int64 × Nat)) (size : Int32) (text : Nat → Int32) (l : List Nat), os.all (fun o => wdK o.1) = true → CT l size text → l.length + (opsB i os).length ≤ 4000 → Ok (opsR x os size text) (fun r => CT (l ++ opsB i os) r.1 r.2)
  | [], size, text, l, _, h, _ => by
    show Ok (some (size, text)) (fun r => CT (l ++ []) r.1 r.2)
    rw [List.append_nil]
    exact ok_some h
  | o :: r, size, text, l, ho, h, hl => by
    have ho' : (wdK o.1 && r.all (fun o => wdK o.1)) = true := ho
    rw [Bool.and_eq_true] at ho'
    have e : opsB i (o :: r) = opB i o ++ opsB i r := rfl
    rw [e] at hl ⊢
    rw [List.length_append] at hl
    show Ok ((opR x o size text).bind fun q => opsR x r q.1 q.2) _
    refine ok_bind (s_op x i hx hi o ho'.1 size text l h (by omega)) (fun q hq => ?_)
    rw [← List.append_assoc]
    exact s_ops x i hx hi r q.1 q.2 _ ho'.2 hq (by rw [List.length_append]; omega)
def bitO : List (Int64 × Nat) := [((461263937633 : Int64), 0), ((0 : Int64), 1), ((65332449976418 : Int64), 0), ((0 : Int64), 1), ((16732803561519392 : Int64), 0), ((65 : Int64), 0), ((0 : Int64), 1), ((9062313132843634 : Int64), 0), ((28536085380493925 : Int64), 0), ((27420859575723361 : Int64), 0), ((30153429706170731 : Int64), 0), ((9115442721418043 : Int64), 0), ((32199663511216194 : Int64), 0), ((0 : Int64), 1), ((9062313132843634 : Int64), 0), ((28536085380493925 : Int64), 0), ((27420859575723361 : Int64), 0), ((30153429706170731 : Int64), 0), ((9115442721418043 : Int64), 0), ((119165703692403 : Int64), 0), ((0 : Int64), 1), ((16738318400430192 : Int64), 0), ((465826947169 : Int64), 0), ((0 : Int64), 1), ((774971490 : Int64), 0), ((0 : Int64), 1), ((774971457 : Int64), 0), ((0 : Int64), 1), ((13001980404920933 : Int64), 0), ((8289 : Int64), 0), ((0 : Int64), 1), ((775036993 : Int64), 0), ((0 : Int64), 1), ((13071249637470821 : Int64), 0), ((8290 : Int64), 0), ((0 : Int64), 1), ((775036994 : Int64), 0), ((0 : Int64), 1), ((13071249637470821 : Int64), 0), ((9127498846925600 : Int64), 0), ((65 : Int64), 0), ((0 : Int64), 1), ((778969154 : Int64), 0), ((0 : Int64), 1), ((778969203 : Int64), 0), ((0 : Int64), 1), ((13003079916548709 : Int64), 0), ((8257 : Int64), 0), ((0 : Int64), 1), ((198393405506 : Int64), 0), ((0 : Int64), 1), ((13001980404920933 : Int64), 0), ((8257 : Int64), 0), ((0 : Int64), 1), ((198393536578 : Int64), 0), ((0 : Int64), 1), ((13003079916548709 : Int64), 0), ((8258 : Int64), 0), ((0 : Int64), 1), ((198393405506 : Int64), 0), ((0 : Int64), 1), ((775102531 : Int64), 0), ((0 : Int64), 2), ((13001980404920933 : Int64), 0), ((8258 : Int64), 0), ((0 : Int64), 1), ((198410313794 : Int64), 0), ((0 : Int64), 1), ((775168078 : Int64), 0), ((0 : Int64), 2), ((13001980404920933 : Int64), 0), ((8257 : Int64), 0), ((0 : Int64), 1), ((198410182722 : Int64), 0), ((0 : Int64), 1), ((13004118292916594 : Int64), 0), ((6627393 : Int64), 0), ((0 : Int64), 1), ((198410313794 : Int64), 0), ((0 : Int64), 1), ((13004109702982002 : Int64), 0), ((6627393 : Int64), 0), ((0 : Int64), 1), ((198426959938 : Int64), 0), ((0 : Int64), 1), ((13005217804544370 : Int64), 0), ((6627393 : Int64), 0), ((0 : Int64), 1), ((198427091010 : Int64), 0), ((0 : Int64), 1), ((13005209214609778 : Int64), 0), ((6627395 : Int64), 0), ((0 : Int64), 1), ((774971457 : Int64), 0), ((0 : Int64), 1), ((775036993 : Int64), 0), ((0 : Int64), 1), ((13005278939804261 : Int64), 0), ((8270 : Int64), 0), ((0 : Int64), 1), ((774971457 : Int64), 0), ((0 : Int64), 1), ((775102529 : Int64), 0), ((0 : Int64), 1), ((13006378451432037 : Int64), 0), ((8258 : Int64), 0), ((0 : Int64), 1), ((198460514369 : Int64), 0), ((0 : Int64), 1), ((198443737153 : Int64), 0), ((0 : Int64), 1), ((13006317316172146 : Int64), 0), ((6627394 : Int64), 0), ((0 : Int64), 1), ((198460645441 : Int64), 0), ((0 : Int64), 1), ((198443868225 : Int64), 0), ((0 : Int64), 1), ((13006308726237554 : Int64), 0), ((6627394 : Int64), 0), ((0 : Int64), 1), ((775233651 : Int64), 0), ((0 : Int64), 1), ((13001980219846000 : Int64), 0), ((8259 : Int64), 0), ((0 : Int64), 1), ((16726189329621070 : Int64), 0), ((0 : Int64), 1), ((59 : Int64), 0)]
def endO : List (Int64 × Nat) := [((119165703692355 : Int64), 0), ((0 : Int64), 1), ((16726189329621070 : Int64), 0), ((0 : Int64), 1), ((16738318400430192 : Int64), 0), ((30528434808434734 : Int64), 0), ((12603 : Int64), 0)]
set_option maxHeartbeats 400000 in
theorem opR_0 (x : Int32) (w : Int64) (size : Int32) (text : Nat → Int32) : opR x (w, 0) size text = f_X11_word w size text := if_pos rfl
set_option maxHeartbeats 400000 in
theorem opR_1 (x : Int32) (w : Int64) (size : Int32) (text : Nat → Int32) : opR x (w, 1) size text = f_X11_put ((48 : Int32) + x) size text := by
  unfold opR
  rw [if_neg (show ¬ (1 : Nat) = 0 by decide), if_pos rfl]
set_option maxHeartbeats 400000 in
theorem opR_2 (x : Int32) (w : Int64) (size : Int32) (text : Nat → Int32) : opR x (w, 2) size text = f_X11_put ((49 : Int32) + x) size text := by
  unfold opR
  rw [if_neg (show ¬ (2 : Nat) = 0 by decide), if_neg (show ¬ (2 : Nat) = 1 by decide)]
set_option maxRecDepth 50000 in
set_option maxHeartbeats 400000 in
theorem bitO_eq (x1 c_size : Int32) (c_text : Nat → Int32) : (f_X11_bit x1 c_size c_text) = opsR x1 bitO c_size c_text := by
  unfold f_X11_bit bitO
  simp only [opsR, opR_0, opR_1, opR_2]
set_option maxHeartbeats 400000 in
theorem endO_eq (x1 c_size : Int32) (c_text : Nat → Int32) : (f_X11_ending x1 c_size c_text) = opsR x1 endO c_size c_text := by
  unfold f_X11_ending endO
  simp only [opsR, opR_0, opR_1, opR_2]
set_option maxHeartbeats 400000 in
theorem bitO_ok : bitO.all (fun o => wdK o.1) = true := by decide +kernel
set_option maxHeartbeats 400000 in
theorem endO_ok : endO.all (fun o => wdK o.1) = true := by decide +kernel
set_option maxHeartbeats 400000 in
theorem bitO_len : ∀ i, i < 8 → (opsB i bitO).length = 448 := by decide +kernel
set_option maxHeartbeats 400000 in
theorem endO_len : ∀ i, i < 8 → (opsB i endO).length = 31 := by decide +kernel
/-! the class's rows -/
def patB (i : Nat) (c : Int32) : Nat := if c = 35 then 48 + i else if c = 64 then 49 + i else (c &&& 255).toInt.toNat
def patL (i : Nat) (j : Nat) : List Nat := (sBy.getD j []).map (patB i)
def bitL (i : Nat) : List Nat := patL i 10 ++ (patL i 11 ++ (patL i 12 ++ (patL i 13 ++ (patL i 14 ++ (patL i 15 ++ (patL i 16 ++ (patL i 17 ++ (patL i 18 ++ (patL i 19 ++ patL i 20)))))))))
def endL (i : Nat) : List Nat := patL i 20 ++ patL i 21
set_option maxHeartbeats 400000 in
theorem bit_eq : ∀ i, i < 8 → opsB i bitO = bitL i := by decide +kernel
set_option maxHeartbeats 400000 in
theorem end_eq : ∀ i, i < 8 → opsB i endO = endL i := by decide +kernel
