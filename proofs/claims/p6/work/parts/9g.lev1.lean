/-! the first level: every call ends and keeps the invariant; seven are compared -/
def EL1 : Nat → Prop
  | 0 => True
  | 1 => True
  | 2 => True
  | 5 => True
  | 6 => True
  | 13 => True
  | 14 => True
  | _ => False
set_option maxHeartbeats 400000 in
theorem lev1 : HOPS EL1 INV0 INV0 := ⟨hop_feed, hop_load, hop_adder, hop_wrong, hop_count, hop_letter, hop_key, hop_tick, hop_quiet, hop_relay, hop_contact, hop_lamp, hop_net, hop_stuck, hop_dust, hop_race, hop_raced, hop_back, hop_init⟩
