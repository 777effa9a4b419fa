def md_noteDown (N : Nat → Nat → Nat) (t : Nat) (s : Nat) : Nat → Nat → Nat := if 7 ≤ N 21 0 then (md_set (md_set (md_set (md_set (md_set (md_set (md_set (md_set (md_set (md_set (md_set (md_set (md_set (md_set (md_set N 22 13 (N 22 11)) 22 12 (N 22 10)) 22 11 (N 22 9)) 22 10 (N 22 8)) 22 9 (N 22 7)) 22 8 (N 22 6)) 22 7 (N 22 5)) 22 6 (N 22 4)) 22 5 (N 22 3)) 22 4 (N 22 2)) 22 3 (N 22 1)) 22 2 (N 22 0)) 22 0 t) 22 1 s) 21 0 7) else (md_set (md_set (md_set (md_set (md_set (md_set (md_set (md_set (md_set (md_set (md_set (md_set (md_set (md_set (md_set N 22 13 (N 22 11)) 22 12 (N 22 10)) 22 11 (N 22 9)) 22 10 (N 22 8)) 22 9 (N 22 7)) 22 8 (N 22 6)) 22 7 (N 22 5)) 22 6 (N 22 4)) 22 5 (N 22 3)) 22 4 (N 22 2)) 22 3 (N 22 1)) 22 2 (N 22 0)) 22 0 t) 22 1 s) 21 0 ((N 21 0) + 1))
set_option maxHeartbeats 4000000 in
set_option maxRecDepth 100000 in
theorem mm_noteDown {l : Launch} {G : sg_G} {d : Nat} {M0 M : sg_M} {x : Nat} {ad : Nat → Nat} {N : Nat → Nat → Nat} {kr : Option Value → sg_M → Prop} {kx : String → sg_M → Prop} (htr : l.stackTraces = false) (hI : md_I M0 M x ad N) (t : Nat) (s : Nat) (ht : t < 4) (hs : s < 6) (hk : ∀ M', md_I M0 M' x ad (md_noteDown N t s) → kr none M') : sg_Met l G yX7_noteDown cX7_noteDown 4 none (d + 0) 0 0 [.ref x, .int (nI t), .int (nI s)] M kr kx := by
  refine sg_enter [some (.ref x), some (.int (nI t)), some (.int (nI s)), none] (by decide) htr (Nat.le_of_ble_eq_true rfl) rfl ?_
  intro X hC hR
  have hC : sg_C X l G cX7_noteDown RX7 4 (d + 0) := hC
  refine sg_bipush (pc := 0) (nI 13) hC dX7_noteDown_0 (by decide) ?_
  refine sg_istore_n (pc := 2) (x := nI 13) hC dX7_noteDown_2 (by decide) ?_
  show sg_W X M 0 0 3 [some (.ref x), some (.int (nI t)), some (.int (nI s)), some (.int (nI 13))] []
  refine sg_iload_n (pc := 3) (x := nI 13) hC dX7_noteDown_3 rfl ?_
  refine sg_iconst (pc := 4) (nI 1) hC dX7_noteDown_4 (by decide) ?_
  refine sg_icmpN_le (pc := 5) (a := 13) (b := 1) 28 hC dX7_noteDown_5 (by decide) (by decide) (by decide) (fun h1 => absurd h1 (by decide)) (fun _ => ?_)
  refine sg_aload_n (pc := 8) (v := .ref x) hC dX7_noteDown_8 rfl rfl ?_
  refine md_get (pc := 9) (i := 22) hC (by decide) tw_1208 dX7_noteDown_9 hI rfl ?_
  refine sg_iload_n (pc := 12) (x := nI 13) hC dX7_noteDown_12 rfl ?_
  refine sg_aload_n (pc := 13) (v := .ref x) hC dX7_noteDown_13 rfl rfl ?_
  refine md_get (pc := 14) (i := 22) hC (by decide) tw_1208 dX7_noteDown_14 hI rfl ?_
  refine sg_iload_n (pc := 17) (x := nI 13) hC dX7_noteDown_17 rfl ?_
  refine sg_iconst (pc := 18) (nI 2) hC dX7_noteDown_18 (by decide) ?_
  refine sg_isubN (pc := 19) (a := 13) (b := 2) hC dX7_noteDown_19 (by first | omega | exact Nat.lt_of_le_of_lt Nat.and_le_left (by omega) | exact Nat.or_lt_two_pow (n := 16) (by omega) (by omega) | (simp [md_set, va_up]; done) | (simp [md_set, va_up]; omega) | exact Nat.or_lt_two_pow (n := 6) (by omega) (by omega)) ?_
  refine md_iald (pc := 20) (i := 22) (j := 11) hC dX7_noteDown_20 hI rfl (by first | omega | exact Nat.lt_of_le_of_lt Nat.and_le_left (by omega) | exact Nat.or_lt_two_pow (n := 16) (by omega) (by omega) | (simp [md_set, va_up]; done) | (simp [md_set, va_up]; omega) | exact Nat.or_lt_two_pow (n := 6) (by omega) (by omega)) (by decide) (fun hv2 => ?_)
  show sg_W X M 0 0 21 [some (.ref x), some (.int (nI t)), some (.int (nI s)), some (.int (nI 13))] [.int (nI (N 22 11)), .int (nI 13), .ref (ad 22)]
  refine md_iast (pc := 21) (i := 22) (j := 13) (v := N 22 11) hC dX7_noteDown_21 hI rfl (by first | omega | exact Nat.lt_of_le_of_lt Nat.and_le_left (by omega) | exact Nat.or_lt_two_pow (n := 16) (by omega) (by omega) | (simp [md_set, va_up]; done) | (simp [md_set, va_up]; omega) | exact Nat.or_lt_two_pow (n := 6) (by omega) (by omega)) (by decide) (by first | omega | exact Nat.lt_of_le_of_lt Nat.and_le_left (by omega) | exact Nat.or_lt_two_pow (n := 16) (by omega) (by omega) | (simp [md_set, va_up]; done) | (simp [md_set, va_up]; omega) | exact Nat.or_lt_two_pow (n := 6) (by omega) (by omega)) (fun M hI => ?_)
  refine sg_iinc (pc := 22) (nI 12) hC dX7_noteDown_22 rfl (by decide) (by decide) ?_
  show sg_W X M 0 0 25 [some (.ref x), some (.int (nI t)), some (.int (nI s)), some (.int (nI 12))] []
  refine sg_goto (pc := 25) 3 hC dX7_noteDown_25 (by decide) ?_
  refine sg_iload_n (pc := 3) (x := nI 12) hC dX7_noteDown_3 rfl ?_
  refine sg_iconst (pc := 4) (nI 1) hC dX7_noteDown_4 (by decide) ?_
  refine sg_icmpN_le (pc := 5) (a := 12) (b := 1) 28 hC dX7_noteDown_5 (by decide) (by decide) (by decide) (fun h3 => absurd h3 (by decide)) (fun _ => ?_)
  refine sg_aload_n (pc := 8) (v := .ref x) hC dX7_noteDown_8 rfl rfl ?_
  refine md_get (pc := 9) (i := 22) hC (by decide) tw_1208 dX7_noteDown_9 hI rfl ?_
  refine sg_iload_n (pc := 12) (x := nI 12) hC dX7_noteDown_12 rfl ?_
  refine sg_aload_n (pc := 13) (v := .ref x) hC dX7_noteDown_13 rfl rfl ?_
  refine md_get (pc := 14) (i := 22) hC (by decide) tw_1208 dX7_noteDown_14 hI rfl ?_
  refine sg_iload_n (pc := 17) (x := nI 12) hC dX7_noteDown_17 rfl ?_
  refine sg_iconst (pc := 18) (nI 2) hC dX7_noteDown_18 (by decide) ?_
  refine sg_isubN (pc := 19) (a := 12) (b := 2) hC dX7_noteDown_19 (by first | omega | exact Nat.lt_of_le_of_lt Nat.and_le_left (by omega) | exact Nat.or_lt_two_pow (n := 16) (by omega) (by omega) | (simp [md_set, va_up]; done) | (simp [md_set, va_up]; omega) | exact Nat.or_lt_two_pow (n := 6) (by omega) (by omega)) ?_
  refine md_iald (pc := 20) (i := 22) (j := 10) hC dX7_noteDown_20 hI rfl (by first | omega | exact Nat.lt_of_le_of_lt Nat.and_le_left (by omega) | exact Nat.or_lt_two_pow (n := 16) (by omega) (by omega) | (simp [md_set, va_up]; done) | (simp [md_set, va_up]; omega) | exact Nat.or_lt_two_pow (n := 6) (by omega) (by omega)) (by decide) (fun hv4 => ?_)
  have hv4 : N 22 10 < 65536 := hv4
  show sg_W X M 0 0 21 [some (.ref x), some (.int (nI t)), some (.int (nI s)), some (.int (nI 12))] [.int (nI (N 22 10)), .int (nI 12), .ref (ad 22)]
  refine md_iast (pc := 21) (i := 22) (j := 12) (v := N 22 10) hC dX7_noteDown_21 hI rfl (by first | omega | exact Nat.lt_of_le_of_lt Nat.and_le_left (by omega) | exact Nat.or_lt_two_pow (n := 16) (by omega) (by omega) | (simp [md_set, va_up]; done) | (simp [md_set, va_up]; omega) | exact Nat.or_lt_two_pow (n := 6) (by omega) (by omega)) (by decide) (by first | omega | exact Nat.lt_of_le_of_lt Nat.and_le_left (by omega) | exact Nat.or_lt_two_pow (n := 16) (by omega) (by omega) | (simp [md_set, va_up]; done) | (simp [md_set, va_up]; omega) | exact Nat.or_lt_two_pow (n := 6) (by omega) (by omega)) (fun M hI => ?_)
  refine sg_iinc (pc := 22) (nI 11) hC dX7_noteDown_22 rfl (by decide) (by decide) ?_
  show sg_W X M 0 0 25 [some (.ref x), some (.int (nI t)), some (.int (nI s)), some (.int (nI 11))] []
  refine sg_goto (pc := 25) 3 hC dX7_noteDown_25 (by decide) ?_
  refine sg_iload_n (pc := 3) (x := nI 11) hC dX7_noteDown_3 rfl ?_
  refine sg_iconst (pc := 4) (nI 1) hC dX7_noteDown_4 (by decide) ?_
  refine sg_icmpN_le (pc := 5) (a := 11) (b := 1) 28 hC dX7_noteDown_5 (by decide) (by decide) (by decide) (fun h5 => absurd h5 (by decide)) (fun _ => ?_)
  refine sg_aload_n (pc := 8) (v := .ref x) hC dX7_noteDown_8 rfl rfl ?_
  refine md_get (pc := 9) (i := 22) hC (by decide) tw_1208 dX7_noteDown_9 hI rfl ?_
  refine sg_iload_n (pc := 12) (x := nI 11) hC dX7_noteDown_12 rfl ?_
  refine sg_aload_n (pc := 13) (v := .ref x) hC dX7_noteDown_13 rfl rfl ?_
  refine md_get (pc := 14) (i := 22) hC (by decide) tw_1208 dX7_noteDown_14 hI rfl ?_
  refine sg_iload_n (pc := 17) (x := nI 11) hC dX7_noteDown_17 rfl ?_
  refine sg_iconst (pc := 18) (nI 2) hC dX7_noteDown_18 (by decide) ?_
  refine sg_isubN (pc := 19) (a := 11) (b := 2) hC dX7_noteDown_19 (by first | omega | exact Nat.lt_of_le_of_lt Nat.and_le_left (by omega) | exact Nat.or_lt_two_pow (n := 16) (by omega) (by omega) | (simp [md_set, va_up]; done) | (simp [md_set, va_up]; omega) | exact Nat.or_lt_two_pow (n := 6) (by omega) (by omega)) ?_
  refine md_iald (pc := 20) (i := 22) (j := 9) hC dX7_noteDown_20 hI rfl (by first | omega | exact Nat.lt_of_le_of_lt Nat.and_le_left (by omega) | exact Nat.or_lt_two_pow (n := 16) (by omega) (by omega) | (simp [md_set, va_up]; done) | (simp [md_set, va_up]; omega) | exact Nat.or_lt_two_pow (n := 6) (by omega) (by omega)) (by decide) (fun hv6 => ?_)
  have hv6 : N 22 9 < 65536 := hv6
  show sg_W X M 0 0 21 [some (.ref x), some (.int (nI t)), some (.int (nI s)), some (.int (nI 11))] [.int (nI (N 22 9)), .int (nI 11), .ref (ad 22)]
  refine md_iast (pc := 21) (i := 22) (j := 11) (v := N 22 9) hC dX7_noteDown_21 hI rfl (by first | omega | exact Nat.lt_of_le_of_lt Nat.and_le_left (by omega) | exact Nat.or_lt_two_pow (n := 16) (by omega) (by omega) | (simp [md_set, va_up]; done) | (simp [md_set, va_up]; omega) | exact Nat.or_lt_two_pow (n := 6) (by omega) (by omega)) (by decide) (by first | omega | exact Nat.lt_of_le_of_lt Nat.and_le_left (by omega) | exact Nat.or_lt_two_pow (n := 16) (by omega) (by omega) | (simp [md_set, va_up]; done) | (simp [md_set, va_up]; omega) | exact Nat.or_lt_two_pow (n := 6) (by omega) (by omega)) (fun M hI => ?_)
  refine sg_iinc (pc := 22) (nI 10) hC dX7_noteDown_22 rfl (by decide) (by decide) ?_
  show sg_W X M 0 0 25 [some (.ref x), some (.int (nI t)), some (.int (nI s)), some (.int (nI 10))] []
  refine sg_goto (pc := 25) 3 hC dX7_noteDown_25 (by decide) ?_
  refine sg_iload_n (pc := 3) (x := nI 10) hC dX7_noteDown_3 rfl ?_
  refine sg_iconst (pc := 4) (nI 1) hC dX7_noteDown_4 (by decide) ?_
  refine sg_icmpN_le (pc := 5) (a := 10) (b := 1) 28 hC dX7_noteDown_5 (by decide) (by decide) (by decide) (fun h7 => absurd h7 (by decide)) (fun _ => ?_)
  refine sg_aload_n (pc := 8) (v := .ref x) hC dX7_noteDown_8 rfl rfl ?_
  refine md_get (pc := 9) (i := 22) hC (by decide) tw_1208 dX7_noteDown_9 hI rfl ?_
  refine sg_iload_n (pc := 12) (x := nI 10) hC dX7_noteDown_12 rfl ?_
  refine sg_aload_n (pc := 13) (v := .ref x) hC dX7_noteDown_13 rfl rfl ?_
  refine md_get (pc := 14) (i := 22) hC (by decide) tw_1208 dX7_noteDown_14 hI rfl ?_
  refine sg_iload_n (pc := 17) (x := nI 10) hC dX7_noteDown_17 rfl ?_
  refine sg_iconst (pc := 18) (nI 2) hC dX7_noteDown_18 (by decide) ?_
  refine sg_isubN (pc := 19) (a := 10) (b := 2) hC dX7_noteDown_19 (by first | omega | exact Nat.lt_of_le_of_lt Nat.and_le_left (by omega) | exact Nat.or_lt_two_pow (n := 16) (by omega) (by omega) | (simp [md_set, va_up]; done) | (simp [md_set, va_up]; omega) | exact Nat.or_lt_two_pow (n := 6) (by omega) (by omega)) ?_
  refine md_iald (pc := 20) (i := 22) (j := 8) hC dX7_noteDown_20 hI rfl (by first | omega | exact Nat.lt_of_le_of_lt Nat.and_le_left (by omega) | exact Nat.or_lt_two_pow (n := 16) (by omega) (by omega) | (simp [md_set, va_up]; done) | (simp [md_set, va_up]; omega) | exact Nat.or_lt_two_pow (n := 6) (by omega) (by omega)) (by decide) (fun hv8 => ?_)
  have hv8 : N 22 8 < 65536 := hv8
  show sg_W X M 0 0 21 [some (.ref x), some (.int (nI t)), some (.int (nI s)), some (.int (nI 10))] [.int (nI (N 22 8)), .int (nI 10), .ref (ad 22)]
  refine md_iast (pc := 21) (i := 22) (j := 10) (v := N 22 8) hC dX7_noteDown_21 hI rfl (by first | omega | exact Nat.lt_of_le_of_lt Nat.and_le_left (by omega) | exact Nat.or_lt_two_pow (n := 16) (by omega) (by omega) | (simp [md_set, va_up]; done) | (simp [md_set, va_up]; omega) | exact Nat.or_lt_two_pow (n := 6) (by omega) (by omega)) (by decide) (by first | omega | exact Nat.lt_of_le_of_lt Nat.and_le_left (by omega) | exact Nat.or_lt_two_pow (n := 16) (by omega) (by omega) | (simp [md_set, va_up]; done) | (simp [md_set, va_up]; omega) | exact Nat.or_lt_two_pow (n := 6) (by omega) (by omega)) (fun M hI => ?_)
  refine sg_iinc (pc := 22) (nI 9) hC dX7_noteDown_22 rfl (by decide) (by decide) ?_
  show sg_W X M 0 0 25 [some (.ref x), some (.int (nI t)), some (.int (nI s)), some (.int (nI 9))] []
  refine sg_goto (pc := 25) 3 hC dX7_noteDown_25 (by decide) ?_
  refine sg_iload_n (pc := 3) (x := nI 9) hC dX7_noteDown_3 rfl ?_
  refine sg_iconst (pc := 4) (nI 1) hC dX7_noteDown_4 (by decide) ?_
  refine sg_icmpN_le (pc := 5) (a := 9) (b := 1) 28 hC dX7_noteDown_5 (by decide) (by decide) (by decide) (fun h9 => absurd h9 (by decide)) (fun _ => ?_)
  refine sg_aload_n (pc := 8) (v := .ref x) hC dX7_noteDown_8 rfl rfl ?_
  refine md_get (pc := 9) (i := 22) hC (by decide) tw_1208 dX7_noteDown_9 hI rfl ?_
  refine sg_iload_n (pc := 12) (x := nI 9) hC dX7_noteDown_12 rfl ?_
  refine sg_aload_n (pc := 13) (v := .ref x) hC dX7_noteDown_13 rfl rfl ?_
  refine md_get (pc := 14) (i := 22) hC (by decide) tw_1208 dX7_noteDown_14 hI rfl ?_
  refine sg_iload_n (pc := 17) (x := nI 9) hC dX7_noteDown_17 rfl ?_
  refine sg_iconst (pc := 18) (nI 2) hC dX7_noteDown_18 (by decide) ?_
  refine sg_isubN (pc := 19) (a := 9) (b := 2) hC dX7_noteDown_19 (by first | omega | exact Nat.lt_of_le_of_lt Nat.and_le_left (by omega) | exact Nat.or_lt_two_pow (n := 16) (by omega) (by omega) | (simp [md_set, va_up]; done) | (simp [md_set, va_up]; omega) | exact Nat.or_lt_two_pow (n := 6) (by omega) (by omega)) ?_
  refine md_iald (pc := 20) (i := 22) (j := 7) hC dX7_noteDown_20 hI rfl (by first | omega | exact Nat.lt_of_le_of_lt Nat.and_le_left (by omega) | exact Nat.or_lt_two_pow (n := 16) (by omega) (by omega) | (simp [md_set, va_up]; done) | (simp [md_set, va_up]; omega) | exact Nat.or_lt_two_pow (n := 6) (by omega) (by omega)) (by decide) (fun hv10 => ?_)
  have hv10 : N 22 7 < 65536 := hv10
  show sg_W X M 0 0 21 [some (.ref x), some (.int (nI t)), some (.int (nI s)), some (.int (nI 9))] [.int (nI (N 22 7)), .int (nI 9), .ref (ad 22)]
  refine md_iast (pc := 21) (i := 22) (j := 9) (v := N 22 7) hC dX7_noteDown_21 hI rfl (by first | omega | exact Nat.lt_of_le_of_lt Nat.and_le_left (by omega) | exact Nat.or_lt_two_pow (n := 16) (by omega) (by omega) | (simp [md_set, va_up]; done) | (simp [md_set, va_up]; omega) | exact Nat.or_lt_two_pow (n := 6) (by omega) (by omega)) (by decide) (by first | omega | exact Nat.lt_of_le_of_lt Nat.and_le_left (by omega) | exact Nat.or_lt_two_pow (n := 16) (by omega) (by omega) | (simp [md_set, va_up]; done) | (simp [md_set, va_up]; omega) | exact Nat.or_lt_two_pow (n := 6) (by omega) (by omega)) (fun M hI => ?_)
  refine sg_iinc (pc := 22) (nI 8) hC dX7_noteDown_22 rfl (by decide) (by decide) ?_
  show sg_W X M 0 0 25 [some (.ref x), some (.int (nI t)), some (.int (nI s)), some (.int (nI 8))] []
  refine sg_goto (pc := 25) 3 hC dX7_noteDown_25 (by decide) ?_
  refine sg_iload_n (pc := 3) (x := nI 8) hC dX7_noteDown_3 rfl ?_
  refine sg_iconst (pc := 4) (nI 1) hC dX7_noteDown_4 (by decide) ?_
  refine sg_icmpN_le (pc := 5) (a := 8) (b := 1) 28 hC dX7_noteDown_5 (by decide) (by decide) (by decide) (fun h11 => absurd h11 (by decide)) (fun _ => ?_)
  refine sg_aload_n (pc := 8) (v := .ref x) hC dX7_noteDown_8 rfl rfl ?_
  refine md_get (pc := 9) (i := 22) hC (by decide) tw_1208 dX7_noteDown_9 hI rfl ?_
  refine sg_iload_n (pc := 12) (x := nI 8) hC dX7_noteDown_12 rfl ?_
  refine sg_aload_n (pc := 13) (v := .ref x) hC dX7_noteDown_13 rfl rfl ?_
  refine md_get (pc := 14) (i := 22) hC (by decide) tw_1208 dX7_noteDown_14 hI rfl ?_
  refine sg_iload_n (pc := 17) (x := nI 8) hC dX7_noteDown_17 rfl ?_
  refine sg_iconst (pc := 18) (nI 2) hC dX7_noteDown_18 (by decide) ?_
  refine sg_isubN (pc := 19) (a := 8) (b := 2) hC dX7_noteDown_19 (by first | omega | exact Nat.lt_of_le_of_lt Nat.and_le_left (by omega) | exact Nat.or_lt_two_pow (n := 16) (by omega) (by omega) | (simp [md_set, va_up]; done) | (simp [md_set, va_up]; omega) | exact Nat.or_lt_two_pow (n := 6) (by omega) (by omega)) ?_
  refine md_iald (pc := 20) (i := 22) (j := 6) hC dX7_noteDown_20 hI rfl (by first | omega | exact Nat.lt_of_le_of_lt Nat.and_le_left (by omega) | exact Nat.or_lt_two_pow (n := 16) (by omega) (by omega) | (simp [md_set, va_up]; done) | (simp [md_set, va_up]; omega) | exact Nat.or_lt_two_pow (n := 6) (by omega) (by omega)) (by decide) (fun hv12 => ?_)
  have hv12 : N 22 6 < 65536 := hv12
  show sg_W X M 0 0 21 [some (.ref x), some (.int (nI t)), some (.int (nI s)), some (.int (nI 8))] [.int (nI (N 22 6)), .int (nI 8), .ref (ad 22)]
  refine md_iast (pc := 21) (i := 22) (j := 8) (v := N 22 6) hC dX7_noteDown_21 hI rfl (by first | omega | exact Nat.lt_of_le_of_lt Nat.and_le_left (by omega) | exact Nat.or_lt_two_pow (n := 16) (by omega) (by omega) | (simp [md_set, va_up]; done) | (simp [md_set, va_up]; omega) | exact Nat.or_lt_two_pow (n := 6) (by omega) (by omega)) (by decide) (by first | omega | exact Nat.lt_of_le_of_lt Nat.and_le_left (by omega) | exact Nat.or_lt_two_pow (n := 16) (by omega) (by omega) | (simp [md_set, va_up]; done) | (simp [md_set, va_up]; omega) | exact Nat.or_lt_two_pow (n := 6) (by omega) (by omega)) (fun M hI => ?_)
  refine sg_iinc (pc := 22) (nI 7) hC dX7_noteDown_22 rfl (by decide) (by decide) ?_
  show sg_W X M 0 0 25 [some (.ref x), some (.int (nI t)), some (.int (nI s)), some (.int (nI 7))] []
  refine sg_goto (pc := 25) 3 hC dX7_noteDown_25 (by decide) ?_
  refine sg_iload_n (pc := 3) (x := nI 7) hC dX7_noteDown_3 rfl ?_
  refine sg_iconst (pc := 4) (nI 1) hC dX7_noteDown_4 (by decide) ?_
  refine sg_icmpN_le (pc := 5) (a := 7) (b := 1) 28 hC dX7_noteDown_5 (by decide) (by decide) (by decide) (fun h13 => absurd h13 (by decide)) (fun _ => ?_)
  refine sg_aload_n (pc := 8) (v := .ref x) hC dX7_noteDown_8 rfl rfl ?_
  refine md_get (pc := 9) (i := 22) hC (by decide) tw_1208 dX7_noteDown_9 hI rfl ?_
  refine sg_iload_n (pc := 12) (x := nI 7) hC dX7_noteDown_12 rfl ?_
  refine sg_aload_n (pc := 13) (v := .ref x) hC dX7_noteDown_13 rfl rfl ?_
  refine md_get (pc := 14) (i := 22) hC (by decide) tw_1208 dX7_noteDown_14 hI rfl ?_
  refine sg_iload_n (pc := 17) (x := nI 7) hC dX7_noteDown_17 rfl ?_
  refine sg_iconst (pc := 18) (nI 2) hC dX7_noteDown_18 (by decide) ?_
  refine sg_isubN (pc := 19) (a := 7) (b := 2) hC dX7_noteDown_19 (by first | omega | exact Nat.lt_of_le_of_lt Nat.and_le_left (by omega) | exact Nat.or_lt_two_pow (n := 16) (by omega) (by omega) | (simp [md_set, va_up]; done) | (simp [md_set, va_up]; omega) | exact Nat.or_lt_two_pow (n := 6) (by omega) (by omega)) ?_
  refine md_iald (pc := 20) (i := 22) (j := 5) hC dX7_noteDown_20 hI rfl (by first | omega | exact Nat.lt_of_le_of_lt Nat.and_le_left (by omega) | exact Nat.or_lt_two_pow (n := 16) (by omega) (by omega) | (simp [md_set, va_up]; done) | (simp [md_set, va_up]; omega) | exact Nat.or_lt_two_pow (n := 6) (by omega) (by omega)) (by decide) (fun hv14 => ?_)
  have hv14 : N 22 5 < 65536 := hv14
  show sg_W X M 0 0 21 [some (.ref x), some (.int (nI t)), some (.int (nI s)), some (.int (nI 7))] [.int (nI (N 22 5)), .int (nI 7), .ref (ad 22)]
  refine md_iast (pc := 21) (i := 22) (j := 7) (v := N 22 5) hC dX7_noteDown_21 hI rfl (by first | omega | exact Nat.lt_of_le_of_lt Nat.and_le_left (by omega) | exact Nat.or_lt_two_pow (n := 16) (by omega) (by omega) | (simp [md_set, va_up]; done) | (simp [md_set, va_up]; omega) | exact Nat.or_lt_two_pow (n := 6) (by omega) (by omega)) (by decide) (by first | omega | exact Nat.lt_of_le_of_lt Nat.and_le_left (by omega) | exact Nat.or_lt_two_pow (n := 16) (by omega) (by omega) | (simp [md_set, va_up]; done) | (simp [md_set, va_up]; omega) | exact Nat.or_lt_two_pow (n := 6) (by omega) (by omega)) (fun M hI => ?_)
  refine sg_iinc (pc := 22) (nI 6) hC dX7_noteDown_22 rfl (by decide) (by decide) ?_
  show sg_W X M 0 0 25 [some (.ref x), some (.int (nI t)), some (.int (nI s)), some (.int (nI 6))] []
  refine sg_goto (pc := 25) 3 hC dX7_noteDown_25 (by decide) ?_
  refine sg_iload_n (pc := 3) (x := nI 6) hC dX7_noteDown_3 rfl ?_
  refine sg_iconst (pc := 4) (nI 1) hC dX7_noteDown_4 (by decide) ?_
  refine sg_icmpN_le (pc := 5) (a := 6) (b := 1) 28 hC dX7_noteDown_5 (by decide) (by decide) (by decide) (fun h15 => absurd h15 (by decide)) (fun _ => ?_)
  refine sg_aload_n (pc := 8) (v := .ref x) hC dX7_noteDown_8 rfl rfl ?_
  refine md_get (pc := 9) (i := 22) hC (by decide) tw_1208 dX7_noteDown_9 hI rfl ?_
  refine sg_iload_n (pc := 12) (x := nI 6) hC dX7_noteDown_12 rfl ?_
  refine sg_aload_n (pc := 13) (v := .ref x) hC dX7_noteDown_13 rfl rfl ?_
  refine md_get (pc := 14) (i := 22) hC (by decide) tw_1208 dX7_noteDown_14 hI rfl ?_
  refine sg_iload_n (pc := 17) (x := nI 6) hC dX7_noteDown_17 rfl ?_
  refine sg_iconst (pc := 18) (nI 2) hC dX7_noteDown_18 (by decide) ?_
  refine sg_isubN (pc := 19) (a := 6) (b := 2) hC dX7_noteDown_19 (by first | omega | exact Nat.lt_of_le_of_lt Nat.and_le_left (by omega) | exact Nat.or_lt_two_pow (n := 16) (by omega) (by omega) | (simp [md_set, va_up]; done) | (simp [md_set, va_up]; omega) | exact Nat.or_lt_two_pow (n := 6) (by omega) (by omega)) ?_
  refine md_iald (pc := 20) (i := 22) (j := 4) hC dX7_noteDown_20 hI rfl (by first | omega | exact Nat.lt_of_le_of_lt Nat.and_le_left (by omega) | exact Nat.or_lt_two_pow (n := 16) (by omega) (by omega) | (simp [md_set, va_up]; done) | (simp [md_set, va_up]; omega) | exact Nat.or_lt_two_pow (n := 6) (by omega) (by omega)) (by decide) (fun hv16 => ?_)
  have hv16 : N 22 4 < 65536 := hv16
  show sg_W X M 0 0 21 [some (.ref x), some (.int (nI t)), some (.int (nI s)), some (.int (nI 6))] [.int (nI (N 22 4)), .int (nI 6), .ref (ad 22)]
  refine md_iast (pc := 21) (i := 22) (j := 6) (v := N 22 4) hC dX7_noteDown_21 hI rfl (by first | omega | exact Nat.lt_of_le_of_lt Nat.and_le_left (by omega) | exact Nat.or_lt_two_pow (n := 16) (by omega) (by omega) | (simp [md_set, va_up]; done) | (simp [md_set, va_up]; omega) | exact Nat.or_lt_two_pow (n := 6) (by omega) (by omega)) (by decide) (by first | omega | exact Nat.lt_of_le_of_lt Nat.and_le_left (by omega) | exact Nat.or_lt_two_pow (n := 16) (by omega) (by omega) | (simp [md_set, va_up]; done) | (simp [md_set, va_up]; omega) | exact Nat.or_lt_two_pow (n := 6) (by omega) (by omega)) (fun M hI => ?_)
  refine sg_iinc (pc := 22) (nI 5) hC dX7_noteDown_22 rfl (by decide) (by decide) ?_
  show sg_W X M 0 0 25 [some (.ref x), some (.int (nI t)), some (.int (nI s)), some (.int (nI 5))] []
  refine sg_goto (pc := 25) 3 hC dX7_noteDown_25 (by decide) ?_
  refine sg_iload_n (pc := 3) (x := nI 5) hC dX7_noteDown_3 rfl ?_
  refine sg_iconst (pc := 4) (nI 1) hC dX7_noteDown_4 (by decide) ?_
  refine sg_icmpN_le (pc := 5) (a := 5) (b := 1) 28 hC dX7_noteDown_5 (by decide) (by decide) (by decide) (fun h17 => absurd h17 (by decide)) (fun _ => ?_)
  refine sg_aload_n (pc := 8) (v := .ref x) hC dX7_noteDown_8 rfl rfl ?_
  refine md_get (pc := 9) (i := 22) hC (by decide) tw_1208 dX7_noteDown_9 hI rfl ?_
  refine sg_iload_n (pc := 12) (x := nI 5) hC dX7_noteDown_12 rfl ?_
  refine sg_aload_n (pc := 13) (v := .ref x) hC dX7_noteDown_13 rfl rfl ?_
  refine md_get (pc := 14) (i := 22) hC (by decide) tw_1208 dX7_noteDown_14 hI rfl ?_
  refine sg_iload_n (pc := 17) (x := nI 5) hC dX7_noteDown_17 rfl ?_
  refine sg_iconst (pc := 18) (nI 2) hC dX7_noteDown_18 (by decide) ?_
  refine sg_isubN (pc := 19) (a := 5) (b := 2) hC dX7_noteDown_19 (by first | omega | exact Nat.lt_of_le_of_lt Nat.and_le_left (by omega) | exact Nat.or_lt_two_pow (n := 16) (by omega) (by omega) | (simp [md_set, va_up]; done) | (simp [md_set, va_up]; omega) | exact Nat.or_lt_two_pow (n := 6) (by omega) (by omega)) ?_
  refine md_iald (pc := 20) (i := 22) (j := 3) hC dX7_noteDown_20 hI rfl (by first | omega | exact Nat.lt_of_le_of_lt Nat.and_le_left (by omega) | exact Nat.or_lt_two_pow (n := 16) (by omega) (by omega) | (simp [md_set, va_up]; done) | (simp [md_set, va_up]; omega) | exact Nat.or_lt_two_pow (n := 6) (by omega) (by omega)) (by decide) (fun hv18 => ?_)
  have hv18 : N 22 3 < 65536 := hv18
  show sg_W X M 0 0 21 [some (.ref x), some (.int (nI t)), some (.int (nI s)), some (.int (nI 5))] [.int (nI (N 22 3)), .int (nI 5), .ref (ad 22)]
  refine md_iast (pc := 21) (i := 22) (j := 5) (v := N 22 3) hC dX7_noteDown_21 hI rfl (by first | omega | exact Nat.lt_of_le_of_lt Nat.and_le_left (by omega) | exact Nat.or_lt_two_pow (n := 16) (by omega) (by omega) | (simp [md_set, va_up]; done) | (simp [md_set, va_up]; omega) | exact Nat.or_lt_two_pow (n := 6) (by omega) (by omega)) (by decide) (by first | omega | exact Nat.lt_of_le_of_lt Nat.and_le_left (by omega) | exact Nat.or_lt_two_pow (n := 16) (by omega) (by omega) | (simp [md_set, va_up]; done) | (simp [md_set, va_up]; omega) | exact Nat.or_lt_two_pow (n := 6) (by omega) (by omega)) (fun M hI => ?_)
  refine sg_iinc (pc := 22) (nI 4) hC dX7_noteDown_22 rfl (by decide) (by decide) ?_
  show sg_W X M 0 0 25 [some (.ref x), some (.int (nI t)), some (.int (nI s)), some (.int (nI 4))] []
  refine sg_goto (pc := 25) 3 hC dX7_noteDown_25 (by decide) ?_
  refine sg_iload_n (pc := 3) (x := nI 4) hC dX7_noteDown_3 rfl ?_
  refine sg_iconst (pc := 4) (nI 1) hC dX7_noteDown_4 (by decide) ?_
  refine sg_icmpN_le (pc := 5) (a := 4) (b := 1) 28 hC dX7_noteDown_5 (by decide) (by decide) (by decide) (fun h19 => absurd h19 (by decide)) (fun _ => ?_)
  refine sg_aload_n (pc := 8) (v := .ref x) hC dX7_noteDown_8 rfl rfl ?_
  refine md_get (pc := 9) (i := 22) hC (by decide) tw_1208 dX7_noteDown_9 hI rfl ?_
  refine sg_iload_n (pc := 12) (x := nI 4) hC dX7_noteDown_12 rfl ?_
  refine sg_aload_n (pc := 13) (v := .ref x) hC dX7_noteDown_13 rfl rfl ?_
  refine md_get (pc := 14) (i := 22) hC (by decide) tw_1208 dX7_noteDown_14 hI rfl ?_
  refine sg_iload_n (pc := 17) (x := nI 4) hC dX7_noteDown_17 rfl ?_
  refine sg_iconst (pc := 18) (nI 2) hC dX7_noteDown_18 (by decide) ?_
  refine sg_isubN (pc := 19) (a := 4) (b := 2) hC dX7_noteDown_19 (by first | omega | exact Nat.lt_of_le_of_lt Nat.and_le_left (by omega) | exact Nat.or_lt_two_pow (n := 16) (by omega) (by omega) | (simp [md_set, va_up]; done) | (simp [md_set, va_up]; omega) | exact Nat.or_lt_two_pow (n := 6) (by omega) (by omega)) ?_
  refine md_iald (pc := 20) (i := 22) (j := 2) hC dX7_noteDown_20 hI rfl (by first | omega | exact Nat.lt_of_le_of_lt Nat.and_le_left (by omega) | exact Nat.or_lt_two_pow (n := 16) (by omega) (by omega) | (simp [md_set, va_up]; done) | (simp [md_set, va_up]; omega) | exact Nat.or_lt_two_pow (n := 6) (by omega) (by omega)) (by decide) (fun hv20 => ?_)
  have hv20 : N 22 2 < 65536 := hv20
  show sg_W X M 0 0 21 [some (.ref x), some (.int (nI t)), some (.int (nI s)), some (.int (nI 4))] [.int (nI (N 22 2)), .int (nI 4), .ref (ad 22)]
  refine md_iast (pc := 21) (i := 22) (j := 4) (v := N 22 2) hC dX7_noteDown_21 hI rfl (by first | omega | exact Nat.lt_of_le_of_lt Nat.and_le_left (by omega) | exact Nat.or_lt_two_pow (n := 16) (by omega) (by omega) | (simp [md_set, va_up]; done) | (simp [md_set, va_up]; omega) | exact Nat.or_lt_two_pow (n := 6) (by omega) (by omega)) (by decide) (by first | omega | exact Nat.lt_of_le_of_lt Nat.and_le_left (by omega) | exact Nat.or_lt_two_pow (n := 16) (by omega) (by omega) | (simp [md_set, va_up]; done) | (simp [md_set, va_up]; omega) | exact Nat.or_lt_two_pow (n := 6) (by omega) (by omega)) (fun M hI => ?_)
  refine sg_iinc (pc := 22) (nI 3) hC dX7_noteDown_22 rfl (by decide) (by decide) ?_
  show sg_W X M 0 0 25 [some (.ref x), some (.int (nI t)), some (.int (nI s)), some (.int (nI 3))] []
  refine sg_goto (pc := 25) 3 hC dX7_noteDown_25 (by decide) ?_
  refine sg_iload_n (pc := 3) (x := nI 3) hC dX7_noteDown_3 rfl ?_
  refine sg_iconst (pc := 4) (nI 1) hC dX7_noteDown_4 (by decide) ?_
  refine sg_icmpN_le (pc := 5) (a := 3) (b := 1) 28 hC dX7_noteDown_5 (by decide) (by decide) (by decide) (fun h21 => absurd h21 (by decide)) (fun _ => ?_)
  refine sg_aload_n (pc := 8) (v := .ref x) hC dX7_noteDown_8 rfl rfl ?_
  refine md_get (pc := 9) (i := 22) hC (by decide) tw_1208 dX7_noteDown_9 hI rfl ?_
  refine sg_iload_n (pc := 12) (x := nI 3) hC dX7_noteDown_12 rfl ?_
  refine sg_aload_n (pc := 13) (v := .ref x) hC dX7_noteDown_13 rfl rfl ?_
  refine md_get (pc := 14) (i := 22) hC (by decide) tw_1208 dX7_noteDown_14 hI rfl ?_
  refine sg_iload_n (pc := 17) (x := nI 3) hC dX7_noteDown_17 rfl ?_
  refine sg_iconst (pc := 18) (nI 2) hC dX7_noteDown_18 (by decide) ?_
  refine sg_isubN (pc := 19) (a := 3) (b := 2) hC dX7_noteDown_19 (by first | omega | exact Nat.lt_of_le_of_lt Nat.and_le_left (by omega) | exact Nat.or_lt_two_pow (n := 16) (by omega) (by omega) | (simp [md_set, va_up]; done) | (simp [md_set, va_up]; omega) | exact Nat.or_lt_two_pow (n := 6) (by omega) (by omega)) ?_
  refine md_iald (pc := 20) (i := 22) (j := 1) hC dX7_noteDown_20 hI rfl (by first | omega | exact Nat.lt_of_le_of_lt Nat.and_le_left (by omega) | exact Nat.or_lt_two_pow (n := 16) (by omega) (by omega) | (simp [md_set, va_up]; done) | (simp [md_set, va_up]; omega) | exact Nat.or_lt_two_pow (n := 6) (by omega) (by omega)) (by decide) (fun hv22 => ?_)
  have hv22 : N 22 1 < 65536 := hv22
  show sg_W X M 0 0 21 [some (.ref x), some (.int (nI t)), some (.int (nI s)), some (.int (nI 3))] [.int (nI (N 22 1)), .int (nI 3), .ref (ad 22)]
  refine md_iast (pc := 21) (i := 22) (j := 3) (v := N 22 1) hC dX7_noteDown_21 hI rfl (by first | omega | exact Nat.lt_of_le_of_lt Nat.and_le_left (by omega) | exact Nat.or_lt_two_pow (n := 16) (by omega) (by omega) | (simp [md_set, va_up]; done) | (simp [md_set, va_up]; omega) | exact Nat.or_lt_two_pow (n := 6) (by omega) (by omega)) (by decide) (by first | omega | exact Nat.lt_of_le_of_lt Nat.and_le_left (by omega) | exact Nat.or_lt_two_pow (n := 16) (by omega) (by omega) | (simp [md_set, va_up]; done) | (simp [md_set, va_up]; omega) | exact Nat.or_lt_two_pow (n := 6) (by omega) (by omega)) (fun M hI => ?_)
  refine sg_iinc (pc := 22) (nI 2) hC dX7_noteDown_22 rfl (by decide) (by decide) ?_
  show sg_W X M 0 0 25 [some (.ref x), some (.int (nI t)), some (.int (nI s)), some (.int (nI 2))] []
  refine sg_goto (pc := 25) 3 hC dX7_noteDown_25 (by decide) ?_
  refine sg_iload_n (pc := 3) (x := nI 2) hC dX7_noteDown_3 rfl ?_
  refine sg_iconst (pc := 4) (nI 1) hC dX7_noteDown_4 (by decide) ?_
  refine sg_icmpN_le (pc := 5) (a := 2) (b := 1) 28 hC dX7_noteDown_5 (by decide) (by decide) (by decide) (fun h23 => absurd h23 (by decide)) (fun _ => ?_)
  refine sg_aload_n (pc := 8) (v := .ref x) hC dX7_noteDown_8 rfl rfl ?_
  refine md_get (pc := 9) (i := 22) hC (by decide) tw_1208 dX7_noteDown_9 hI rfl ?_
  refine sg_iload_n (pc := 12) (x := nI 2) hC dX7_noteDown_12 rfl ?_
  refine sg_aload_n (pc := 13) (v := .ref x) hC dX7_noteDown_13 rfl rfl ?_
  refine md_get (pc := 14) (i := 22) hC (by decide) tw_1208 dX7_noteDown_14 hI rfl ?_
  refine sg_iload_n (pc := 17) (x := nI 2) hC dX7_noteDown_17 rfl ?_
  refine sg_iconst (pc := 18) (nI 2) hC dX7_noteDown_18 (by decide) ?_
  refine sg_isubN (pc := 19) (a := 2) (b := 2) hC dX7_noteDown_19 (by first | omega | exact Nat.lt_of_le_of_lt Nat.and_le_left (by omega) | exact Nat.or_lt_two_pow (n := 16) (by omega) (by omega) | (simp [md_set, va_up]; done) | (simp [md_set, va_up]; omega) | exact Nat.or_lt_two_pow (n := 6) (by omega) (by omega)) ?_
  refine md_iald (pc := 20) (i := 22) (j := 0) hC dX7_noteDown_20 hI rfl (by first | omega | exact Nat.lt_of_le_of_lt Nat.and_le_left (by omega) | exact Nat.or_lt_two_pow (n := 16) (by omega) (by omega) | (simp [md_set, va_up]; done) | (simp [md_set, va_up]; omega) | exact Nat.or_lt_two_pow (n := 6) (by omega) (by omega)) (by decide) (fun hv24 => ?_)
  have hv24 : N 22 0 < 65536 := hv24
  show sg_W X M 0 0 21 [some (.ref x), some (.int (nI t)), some (.int (nI s)), some (.int (nI 2))] [.int (nI (N 22 0)), .int (nI 2), .ref (ad 22)]
  refine md_iast (pc := 21) (i := 22) (j := 2) (v := N 22 0) hC dX7_noteDown_21 hI rfl (by first | omega | exact Nat.lt_of_le_of_lt Nat.and_le_left (by omega) | exact Nat.or_lt_two_pow (n := 16) (by omega) (by omega) | (simp [md_set, va_up]; done) | (simp [md_set, va_up]; omega) | exact Nat.or_lt_two_pow (n := 6) (by omega) (by omega)) (by decide) (by first | omega | exact Nat.lt_of_le_of_lt Nat.and_le_left (by omega) | exact Nat.or_lt_two_pow (n := 16) (by omega) (by omega) | (simp [md_set, va_up]; done) | (simp [md_set, va_up]; omega) | exact Nat.or_lt_two_pow (n := 6) (by omega) (by omega)) (fun M hI => ?_)
  refine sg_iinc (pc := 22) (nI 1) hC dX7_noteDown_22 rfl (by decide) (by decide) ?_
  show sg_W X M 0 0 25 [some (.ref x), some (.int (nI t)), some (.int (nI s)), some (.int (nI 1))] []
  refine sg_goto (pc := 25) 3 hC dX7_noteDown_25 (by decide) ?_
  refine sg_iload_n (pc := 3) (x := nI 1) hC dX7_noteDown_3 rfl ?_
  refine sg_iconst (pc := 4) (nI 1) hC dX7_noteDown_4 (by decide) ?_
  refine sg_icmpN_le (pc := 5) (a := 1) (b := 1) 28 hC dX7_noteDown_5 (by decide) (by decide) (by decide) (fun _ => ?_) (fun h25 => absurd h25 (by decide))
  refine sg_aload_n (pc := 28) (v := .ref x) hC dX7_noteDown_28 rfl rfl ?_
  refine md_get (pc := 29) (i := 22) hC (by decide) tw_1208 dX7_noteDown_29 hI rfl ?_
  refine sg_iconst (pc := 32) (nI 0) hC dX7_noteDown_32 (by decide) ?_
  refine sg_iload_n (pc := 33) (x := nI t) hC dX7_noteDown_33 rfl ?_
  refine md_iast (pc := 34) (i := 22) (j := 0) (v := t) hC dX7_noteDown_34 hI rfl (by first | omega | exact Nat.lt_of_le_of_lt Nat.and_le_left (by omega) | exact Nat.or_lt_two_pow (n := 16) (by omega) (by omega) | (simp [md_set, va_up]; done) | (simp [md_set, va_up]; omega) | exact Nat.or_lt_two_pow (n := 6) (by omega) (by omega)) (by decide) (by first | omega | exact Nat.lt_of_le_of_lt Nat.and_le_left (by omega) | exact Nat.or_lt_two_pow (n := 16) (by omega) (by omega) | (simp [md_set, va_up]; done) | (simp [md_set, va_up]; omega) | exact Nat.or_lt_two_pow (n := 6) (by omega) (by omega)) (fun M hI => ?_)
  refine sg_aload_n (pc := 35) (v := .ref x) hC dX7_noteDown_35 rfl rfl ?_
  refine md_get (pc := 36) (i := 22) hC (by decide) tw_1208 dX7_noteDown_36 hI rfl ?_
  refine sg_iconst (pc := 39) (nI 1) hC dX7_noteDown_39 (by decide) ?_
  refine sg_iload_n (pc := 40) (x := nI s) hC dX7_noteDown_40 rfl ?_
  refine md_iast (pc := 41) (i := 22) (j := 1) (v := s) hC dX7_noteDown_41 hI rfl (by first | omega | exact Nat.lt_of_le_of_lt Nat.and_le_left (by omega) | exact Nat.or_lt_two_pow (n := 16) (by omega) (by omega) | (simp [md_set, va_up]; done) | (simp [md_set, va_up]; omega) | exact Nat.or_lt_two_pow (n := 6) (by omega) (by omega)) (by decide) (by first | omega | exact Nat.lt_of_le_of_lt Nat.and_le_left (by omega) | exact Nat.or_lt_two_pow (n := 16) (by omega) (by omega) | (simp [md_set, va_up]; done) | (simp [md_set, va_up]; omega) | exact Nat.or_lt_two_pow (n := 6) (by omega) (by omega)) (fun M hI => ?_)
  refine sg_aload_n (pc := 42) (v := .ref x) hC dX7_noteDown_42 rfl rfl ?_
  refine sg_aload_n (pc := 43) (v := .ref x) hC dX7_noteDown_43 rfl rfl ?_
  refine md_get (pc := 44) (i := 21) hC (by decide) tw_1207 dX7_noteDown_44 hI rfl ?_
  have hb26 : N 21 0 < 65536 := hI.lt 21 0
  show sg_W X M 0 0 47 [some (.ref x), some (.int (nI t)), some (.int (nI s)), some (.int (nI 1))] [.int (nI (N 21 0)), .ref x]
  refine sg_bipush (pc := 47) (nI 7) hC dX7_noteDown_47 (by decide) ?_
  refine sg_icmpN_ge (pc := 49) (a := N 21 0) (b := 7) 61 hC dX7_noteDown_49 (by decide) (by first | omega | exact Nat.lt_of_le_of_lt Nat.and_le_left (by omega) | exact Nat.or_lt_two_pow (n := 16) (by omega) (by omega) | (simp [md_set, va_up]; done) | (simp [md_set, va_up]; omega) | exact Nat.or_lt_two_pow (n := 6) (by omega) (by omega)) (by first | omega | exact Nat.lt_of_le_of_lt Nat.and_le_left (by omega) | exact Nat.or_lt_two_pow (n := 16) (by omega) (by omega) | (simp [md_set, va_up]; done) | (simp [md_set, va_up]; omega) | exact Nat.or_lt_two_pow (n := 6) (by omega) (by omega)) (fun h27 => ?_) (fun h27 => ?_)
  · refine sg_bipush (pc := 61) (nI 7) hC dX7_noteDown_61 (by decide) ?_
    refine md_put21 (pc := 63) (v := 7) hC tw_1207 dX7_noteDown_63 hI (by first | omega | exact Nat.lt_of_le_of_lt Nat.and_le_left (by omega) | exact Nat.or_lt_two_pow (n := 16) (by omega) (by omega) | (simp [md_set, va_up]; done) | (simp [md_set, va_up]; omega) | exact Nat.or_lt_two_pow (n := 6) (by omega) (by omega)) (fun M hI => ?_)
    have e9 : md_noteDown N t s = (md_set (md_set (md_set (md_set (md_set (md_set (md_set (md_set (md_set (md_set (md_set (md_set (md_set (md_set (md_set N 22 13 (N 22 11)) 22 12 (N 22 10)) 22 11 (N 22 9)) 22 10 (N 22 8)) 22 9 (N 22 7)) 22 8 (N 22 6)) 22 7 (N 22 5)) 22 6 (N 22 4)) 22 5 (N 22 3)) 22 4 (N 22 2)) 22 3 (N 22 1)) 22 2 (N 22 0)) 22 0 t) 22 1 s) 21 0 7) := by rw [md_noteDown]; simp only [if_pos h27]
    rw [e9] at hk
    exact sg_vreturn (st := []) (pc := 66) hC hR dX7_noteDown_66 (hk M hI)
  · refine sg_aload_n (pc := 52) (v := .ref x) hC dX7_noteDown_52 rfl rfl ?_
    refine md_get (pc := 53) (i := 21) hC (by decide) tw_1207 dX7_noteDown_53 hI rfl ?_
    have hb28 : N 21 0 < 65536 := hI.lt 21 0
    show sg_W X M 0 0 56 [some (.ref x), some (.int (nI t)), some (.int (nI s)), some (.int (nI 1))] [.int (nI (N 21 0)), .ref x]
    refine sg_iconst (pc := 56) (nI 1) hC dX7_noteDown_56 (by decide) ?_
    refine sg_iaddN (pc := 57) (a := N 21 0) (b := 1) hC dX7_noteDown_57 ?_
    refine sg_goto (pc := 58) 63 hC dX7_noteDown_58 (by decide) ?_
    refine md_put21 (pc := 63) (v := (N 21 0) + 1) hC tw_1207 dX7_noteDown_63 hI (by first | omega | exact Nat.lt_of_le_of_lt Nat.and_le_left (by omega) | exact Nat.or_lt_two_pow (n := 16) (by omega) (by omega) | (simp [md_set, va_up]; done) | (simp [md_set, va_up]; omega) | exact Nat.or_lt_two_pow (n := 6) (by omega) (by omega)) (fun M hI => ?_)
    have e9 : md_noteDown N t s = (md_set (md_set (md_set (md_set (md_set (md_set (md_set (md_set (md_set (md_set (md_set (md_set (md_set (md_set (md_set N 22 13 (N 22 11)) 22 12 (N 22 10)) 22 11 (N 22 9)) 22 10 (N 22 8)) 22 9 (N 22 7)) 22 8 (N 22 6)) 22 7 (N 22 5)) 22 6 (N 22 4)) 22 5 (N 22 3)) 22 4 (N 22 2)) 22 3 (N 22 1)) 22 2 (N 22 0)) 22 0 t) 22 1 s) 21 0 ((N 21 0) + 1)) := by rw [md_noteDown]; simp only [if_neg (Nat.not_le.mpr h27)]
    rw [e9] at hk
    exact sg_vreturn (st := []) (pc := 66) hC hR dX7_noteDown_66 (hk M hI)

def md_enter (N : Nat → Nat → Nat) (t : Int32) (src : Int32) : Nat × (Nat → Nat → Nat) := if (md_isThread (md_set N 0 0 0) t) = true then if (md_in src (nI 0) (nI 5)) = true then if N 15 t.toNatClampNeg = 10 then ((md_fail (md_set N 0 0 0) 2).1, (md_fail (md_set N 0 0 0) 2).2) else ((N 15 t.toNatClampNeg) + 1, (md_set (md_set (md_set (md_set N 0 0 0) 16 ((10 * t.toNatClampNeg) + (N 15 t.toNatClampNeg)) src.toNatClampNeg) 17 ((10 * t.toNatClampNeg) + (N 15 t.toNatClampNeg)) 0) 15 t.toNatClampNeg ((N 15 t.toNatClampNeg) + 1))) else ((md_fail (md_set N 0 0 0) 1).1, (md_fail (md_set N 0 0 0) 1).2) else ((md_fail (md_set N 0 0 0) 1).1, (md_fail (md_set N 0 0 0) 1).2)
set_option maxHeartbeats 4000000 in
set_option maxRecDepth 100000 in
theorem mm_enter {l : Launch} {G : sg_G} {d : Nat} {M0 M : sg_M} {x : Nat} {ad : Nat → Nat} {N : Nat → Nat → Nat} {kr : Option Value → sg_M → Prop} {kx : String → sg_M → Prop} (htr : l.stackTraces = false) (hI : md_I M0 M x ad N) (t : Int32) (src : Int32) (hfr : ∀ r, N 15 r ≤ 10) (hk : ∀ M', md_I M0 M' x ad (md_enter N t src).2 → kr (some (.int (nI (md_enter N t src).1))) M') : sg_Met l G yX7_enter cX7_enter 4 (some .int) (d + 2) 0 0 [.ref x, .int t, .int src] M kr kx := by
  refine sg_enter [some (.ref x), some (.int t), some (.int src), none] (by decide) htr (Nat.le_of_ble_eq_true rfl) rfl ?_
  intro X hC hR
  have hC : sg_C X l G cX7_enter RX7 4 (d + 2) := hC
  refine sg_aload_n (pc := 0) (v := .ref x) hC dX7_enter_0 rfl rfl ?_
  refine sg_iconst (pc := 1) (nI 0) hC dX7_enter_1 (by decide) ?_
  refine md_put0 (pc := 2) (v := 0) hC tw_1186 dX7_enter_2 hI (by first | omega | exact Nat.lt_of_le_of_lt Nat.and_le_left (by omega) | exact Nat.or_lt_two_pow (n := 16) (by omega) (by omega) | (simp [md_set, va_up]; done) | (simp [md_set, va_up]; omega) | exact Nat.or_lt_two_pow (n := 6) (by omega) (by omega)) (fun M hI => ?_)
  refine sg_aload_n (pc := 5) (v := .ref x) hC dX7_enter_5 rfl rfl ?_
  refine sg_iload_n (pc := 6) (x := t) hC dX7_enter_6 rfl ?_
  refine sg_callV (pc := 7) (As := [.int t]) (rest := []) (mc := 0) (ms := 0) hC tw_1401 tw_1403 tw_56 tw_72 tw_1404 yd_X7_isThread (by decide) (ci := 10) rfl dX7_enter_7 hI.x rfl (Nat.le_of_ble_eq_true rfl) (Nat.zero_le _) (Nat.zero_le _) ?_
  refine mm_isThread htr hI t  ?_
  show sg_W X M 0 0 10 [some (.ref x), some (.int t), some (.int src), none] [.int (md_b ((md_isThread (md_set N 0 0 0) t)))]
  refine sg_ifB_eq (pc := 10) (b := (md_isThread (md_set N 0 0 0) t)) 22 hC dX7_enter_10 (by decide) (fun h1 => ?_) (fun h1 => ?_)
  · refine sg_aload_n (pc := 22) (v := .ref x) hC dX7_enter_22 rfl rfl ?_
    refine sg_iconst (pc := 23) (nI 1) hC dX7_enter_23 (by decide) ?_
    refine sg_callV (pc := 24) (As := [.int (nI 1)]) (rest := []) (mc := 0) (ms := 0) hC tw_1273 tw_1275 tw_33 tw_72 tw_1276 yd_X7_fail (by decide) (ci := 10) rfl dX7_enter_24 hI.x rfl (Nat.le_of_ble_eq_true rfl) (Nat.zero_le _) (Nat.zero_le _) ?_
    refine mm_fail htr hI 1 (by first | omega | exact Nat.lt_of_le_of_lt Nat.and_le_left (by omega) | exact Nat.or_lt_two_pow (n := 16) (by omega) (by omega) | (simp [md_set, va_up]; done) | (simp [md_set, va_up]; omega) | exact Nat.or_lt_two_pow (n := 6) (by omega) (by omega)) (fun M hI => ?_)
    show sg_W X M 0 0 27 [some (.ref x), some (.int t), some (.int src), none] [.int (nI ((md_fail (md_set N 0 0 0) 1).1))]
    have e9 : md_enter N t src = ((md_fail (md_set N 0 0 0) 1).1, (md_fail (md_set N 0 0 0) 1).2) := by rw [md_enter]; simp only [if_neg (ts9 h1)]
    rw [e9] at hk
    exact sg_ireturn (st := []) (v := nI ((md_fail (md_set N 0 0 0) 1).1)) (pc := 27) hC hR dX7_enter_27 (hk M hI)
  · obtain ⟨hs2, hs3⟩ := md_isThread_nat h1
    rw [hs2]
    show sg_W X M 0 0 13 [some (.ref x), some (.int (nI t.toNatClampNeg)), some (.int src), none] []
    obtain ⟨hs4, hs5⟩ := hs3
    refine sg_iload_n (pc := 13) (x := src) hC dX7_enter_13 rfl ?_
    refine sg_iconst (pc := 14) (nI 0) hC dX7_enter_14 (by decide) ?_
    refine sg_iconst (pc := 15) (nI 5) hC dX7_enter_15 (by decide) ?_
    refine sg_callS (pc := 16) (As := [.int src, .int (nI 0), .int (nI 5)]) (rest := []) (mc := 0) (ms := 0) hC tw_1270 tw_1271 tw_72 tw_1272 yd_X7_in (by decide) dX7_enter_16 rfl (Nat.le_of_ble_eq_true rfl) (Nat.zero_le _) (Nat.zero_le _) ?_
    refine mm_in htr  src (nI 0) (nI 5)  ?_
    show sg_W X M 0 0 19 [some (.ref x), some (.int (nI t.toNatClampNeg)), some (.int src), none] [.int (md_b ((md_in src (nI 0) (nI 5))))]
    refine sg_ifB_ne (pc := 19) (b := (md_in src (nI 0) (nI 5))) 28 hC dX7_enter_19 (by decide) (fun h6 => ?_) (fun h6 => ?_)
    · obtain ⟨hs7, hs8⟩ := md_in_nat h6 (by first | omega | exact Nat.lt_of_le_of_lt Nat.and_le_left (by omega) | exact Nat.or_lt_two_pow (n := 16) (by omega) (by omega) | (simp [md_set, va_up]; done) | (simp [md_set, va_up]; omega) | exact Nat.or_lt_two_pow (n := 6) (by omega) (by omega))
      rw [hs7]
      show sg_W X M 0 0 28 [some (.ref x), some (.int (nI t.toNatClampNeg)), some (.int (nI src.toNatClampNeg)), none] []
      refine sg_aload_n (pc := 28) (v := .ref x) hC dX7_enter_28 rfl rfl ?_
      refine md_get (pc := 29) (i := 15) hC (by decide) tw_1201 dX7_enter_29 hI rfl ?_
      refine sg_iload_n (pc := 32) (x := nI t.toNatClampNeg) hC dX7_enter_32 rfl ?_
      refine md_iald (pc := 33) (i := 15) (j := t.toNatClampNeg) hC dX7_enter_33 hI rfl (by first | omega | exact Nat.lt_of_le_of_lt Nat.and_le_left (by omega) | exact Nat.or_lt_two_pow (n := 16) (by omega) (by omega) | (simp [md_set, va_up]; done) | (simp [md_set, va_up]; omega) | exact Nat.or_lt_two_pow (n := 6) (by omega) (by omega)) (by decide) (fun hv9 => ?_)
      have hv9 : N 15 t.toNatClampNeg < 65536 := hv9
      show sg_W X M 0 0 34 [some (.ref x), some (.int (nI t.toNatClampNeg)), some (.int (nI src.toNatClampNeg)), none] [.int (nI (N 15 t.toNatClampNeg))]
      have hW10 := hfr t.toNatClampNeg
      refine sg_bipush (pc := 34) (nI 10) hC dX7_enter_34 (by decide) ?_
      refine sg_icmpN_ne (pc := 36) (a := N 15 t.toNatClampNeg) (b := 10) 45 hC dX7_enter_36 (by decide) (by first | omega | exact Nat.lt_of_le_of_lt Nat.and_le_left (by omega) | exact Nat.or_lt_two_pow (n := 16) (by omega) (by omega) | (simp [md_set, va_up]; done) | (simp [md_set, va_up]; omega) | exact Nat.or_lt_two_pow (n := 6) (by omega) (by omega)) (by first | omega | exact Nat.lt_of_le_of_lt Nat.and_le_left (by omega) | exact Nat.or_lt_two_pow (n := 16) (by omega) (by omega) | (simp [md_set, va_up]; done) | (simp [md_set, va_up]; omega) | exact Nat.or_lt_two_pow (n := 6) (by omega) (by omega)) (fun h11 => ?_) (fun h11 => ?_)
      · refine sg_bipush (pc := 45) (nI 10) hC dX7_enter_45 (by decide) ?_
        refine sg_iload_n (pc := 47) (x := nI t.toNatClampNeg) hC dX7_enter_47 rfl ?_
        refine sg_imulN (pc := 48) (a := 10) (b := t.toNatClampNeg) hC dX7_enter_48 ?_
        refine sg_aload_n (pc := 49) (v := .ref x) hC dX7_enter_49 rfl rfl ?_
        refine md_get (pc := 50) (i := 15) hC (by decide) tw_1201 dX7_enter_50 hI rfl ?_
        refine sg_iload_n (pc := 53) (x := nI t.toNatClampNeg) hC dX7_enter_53 rfl ?_
        refine md_iald (pc := 54) (i := 15) (j := t.toNatClampNeg) hC dX7_enter_54 hI rfl (by first | omega | exact Nat.lt_of_le_of_lt Nat.and_le_left (by omega) | exact Nat.or_lt_two_pow (n := 16) (by omega) (by omega) | (simp [md_set, va_up]; done) | (simp [md_set, va_up]; omega) | exact Nat.or_lt_two_pow (n := 6) (by omega) (by omega)) (by decide) (fun hv12 => ?_)
        have hv12 : N 15 t.toNatClampNeg < 65536 := hv12
        show sg_W X M 0 0 55 [some (.ref x), some (.int (nI t.toNatClampNeg)), some (.int (nI src.toNatClampNeg)), none] [.int (nI (N 15 t.toNatClampNeg)), .int (nI (10 * t.toNatClampNeg))]
        have hW13 := hfr t.toNatClampNeg
        refine sg_iaddN (pc := 55) (a := 10 * t.toNatClampNeg) (b := N 15 t.toNatClampNeg) hC dX7_enter_55 ?_
        refine sg_istore_n (pc := 56) (x := nI ((10 * t.toNatClampNeg) + (N 15 t.toNatClampNeg))) hC dX7_enter_56 (by decide) ?_
        show sg_W X M 0 0 57 [some (.ref x), some (.int (nI t.toNatClampNeg)), some (.int (nI src.toNatClampNeg)), some (.int (nI ((10 * t.toNatClampNeg) + (N 15 t.toNatClampNeg))))] []
        refine sg_aload_n (pc := 57) (v := .ref x) hC dX7_enter_57 rfl rfl ?_
        refine md_get (pc := 58) (i := 16) hC (by decide) tw_1202 dX7_enter_58 hI rfl ?_
        refine sg_iload_n (pc := 61) (x := nI ((10 * t.toNatClampNeg) + (N 15 t.toNatClampNeg))) hC dX7_enter_61 rfl ?_
        refine sg_iload_n (pc := 62) (x := nI src.toNatClampNeg) hC dX7_enter_62 rfl ?_
        refine md_iast (pc := 63) (i := 16) (j := (10 * t.toNatClampNeg) + (N 15 t.toNatClampNeg)) (v := src.toNatClampNeg) hC dX7_enter_63 hI rfl (by first | omega | exact Nat.lt_of_le_of_lt Nat.and_le_left (by omega) | exact Nat.or_lt_two_pow (n := 16) (by omega) (by omega) | (simp [md_set, va_up]; done) | (simp [md_set, va_up]; omega) | exact Nat.or_lt_two_pow (n := 6) (by omega) (by omega)) (by decide) (by first | omega | exact Nat.lt_of_le_of_lt Nat.and_le_left (by omega) | exact Nat.or_lt_two_pow (n := 16) (by omega) (by omega) | (simp [md_set, va_up]; done) | (simp [md_set, va_up]; omega) | exact Nat.or_lt_two_pow (n := 6) (by omega) (by omega)) (fun M hI => ?_)
        refine sg_aload_n (pc := 64) (v := .ref x) hC dX7_enter_64 rfl rfl ?_
        refine md_get (pc := 65) (i := 17) hC (by decide) tw_1203 dX7_enter_65 hI rfl ?_
        refine sg_iload_n (pc := 68) (x := nI ((10 * t.toNatClampNeg) + (N 15 t.toNatClampNeg))) hC dX7_enter_68 rfl ?_
        refine sg_iconst (pc := 69) (nI 0) hC dX7_enter_69 (by decide) ?_
        refine md_zast (pc := 70) (i := 17) (j := (10 * t.toNatClampNeg) + (N 15 t.toNatClampNeg)) (v := 0) hC dX7_enter_70 hI rfl (by first | omega | exact Nat.lt_of_le_of_lt Nat.and_le_left (by omega) | exact Nat.or_lt_two_pow (n := 16) (by omega) (by omega) | (simp [md_set, va_up]; done) | (simp [md_set, va_up]; omega) | exact Nat.or_lt_two_pow (n := 6) (by omega) (by omega)) (by decide) (by first | omega | exact Nat.lt_of_le_of_lt Nat.and_le_left (by omega) | exact Nat.or_lt_two_pow (n := 16) (by omega) (by omega) | (simp [md_set, va_up]; done) | (simp [md_set, va_up]; omega) | exact Nat.or_lt_two_pow (n := 6) (by omega) (by omega)) (fun M hI => ?_)
        refine sg_aload_n (pc := 71) (v := .ref x) hC dX7_enter_71 rfl rfl ?_
        refine md_get (pc := 72) (i := 15) hC (by decide) tw_1201 dX7_enter_72 hI rfl ?_
        refine sg_iload_n (pc := 75) (x := nI t.toNatClampNeg) hC dX7_enter_75 rfl ?_
        refine sg_dup2 (pc := 76) hC dX7_enter_76 rfl rfl ?_
        refine md_iald (pc := 77) (i := 15) (j := t.toNatClampNeg) hC dX7_enter_77 hI rfl (by first | omega | exact Nat.lt_of_le_of_lt Nat.and_le_left (by omega) | exact Nat.or_lt_two_pow (n := 16) (by omega) (by omega) | (simp [md_set, va_up]; done) | (simp [md_set, va_up]; omega) | exact Nat.or_lt_two_pow (n := 6) (by omega) (by omega)) (by decide) (fun hv14 => ?_)
        have hv14 : N 15 t.toNatClampNeg < 65536 := hv14
        show sg_W X M 0 0 78 [some (.ref x), some (.int (nI t.toNatClampNeg)), some (.int (nI src.toNatClampNeg)), some (.int (nI ((10 * t.toNatClampNeg) + (N 15 t.toNatClampNeg))))] [.int (nI (N 15 t.toNatClampNeg)), .int (nI t.toNatClampNeg), .ref (ad 15)]
        have hW15 := hfr t.toNatClampNeg
        refine sg_iconst (pc := 78) (nI 1) hC dX7_enter_78 (by decide) ?_
        refine sg_iaddN (pc := 79) (a := N 15 t.toNatClampNeg) (b := 1) hC dX7_enter_79 ?_
        refine md_iast (pc := 80) (i := 15) (j := t.toNatClampNeg) (v := (N 15 t.toNatClampNeg) + 1) hC dX7_enter_80 hI rfl (by first | omega | exact Nat.lt_of_le_of_lt Nat.and_le_left (by omega) | exact Nat.or_lt_two_pow (n := 16) (by omega) (by omega) | (simp [md_set, va_up]; done) | (simp [md_set, va_up]; omega) | exact Nat.or_lt_two_pow (n := 6) (by omega) (by omega)) (by decide) (by first | omega | exact Nat.lt_of_le_of_lt Nat.and_le_left (by omega) | exact Nat.or_lt_two_pow (n := 16) (by omega) (by omega) | (simp [md_set, va_up]; done) | (simp [md_set, va_up]; omega) | exact Nat.or_lt_two_pow (n := 6) (by omega) (by omega)) (fun M hI => ?_)
        refine sg_aload_n (pc := 81) (v := .ref x) hC dX7_enter_81 rfl rfl ?_
        refine md_get (pc := 82) (i := 15) hC (by decide) tw_1201 dX7_enter_82 hI rfl ?_
        refine sg_iload_n (pc := 85) (x := nI t.toNatClampNeg) hC dX7_enter_85 rfl ?_
        refine md_iald (pc := 86) (i := 15) (j := t.toNatClampNeg) hC dX7_enter_86 hI rfl (by first | omega | exact Nat.lt_of_le_of_lt Nat.and_le_left (by omega) | exact Nat.or_lt_two_pow (n := 16) (by omega) (by omega) | (simp [md_set, va_up]; done) | (simp [md_set, va_up]; omega) | exact Nat.or_lt_two_pow (n := 6) (by omega) (by omega)) (by decide) (fun hv16 => ?_)
        rw [show (md_set (md_set (md_set (md_set N 0 0 0) 16 ((10 * t.toNatClampNeg) + (N 15 t.toNatClampNeg)) src.toNatClampNeg) 17 ((10 * t.toNatClampNeg) + (N 15 t.toNatClampNeg)) 0) 15 t.toNatClampNeg ((N 15 t.toNatClampNeg) + 1)) 15 t.toNatClampNeg = (N 15 t.toNatClampNeg) + 1 from by simp [md_set, va_up]]
        show sg_W X M 0 0 87 [some (.ref x), some (.int (nI t.toNatClampNeg)), some (.int (nI src.toNatClampNeg)), some (.int (nI ((10 * t.toNatClampNeg) + (N 15 t.toNatClampNeg))))] [.int (nI ((N 15 t.toNatClampNeg) + 1))]
        have e9 : md_enter N t src = ((N 15 t.toNatClampNeg) + 1, (md_set (md_set (md_set (md_set N 0 0 0) 16 ((10 * t.toNatClampNeg) + (N 15 t.toNatClampNeg)) src.toNatClampNeg) 17 ((10 * t.toNatClampNeg) + (N 15 t.toNatClampNeg)) 0) 15 t.toNatClampNeg ((N 15 t.toNatClampNeg) + 1))) := by rw [md_enter]; simp only [if_pos h1, if_pos h6, if_neg h11]
        rw [e9] at hk
        exact sg_ireturn (st := []) (v := nI ((N 15 t.toNatClampNeg) + 1)) (pc := 87) hC hR dX7_enter_87 (hk M hI)
      · refine sg_aload_n (pc := 39) (v := .ref x) hC dX7_enter_39 rfl rfl ?_
        refine sg_iconst (pc := 40) (nI 2) hC dX7_enter_40 (by decide) ?_
        refine sg_callV (pc := 41) (As := [.int (nI 2)]) (rest := []) (mc := 0) (ms := 0) hC tw_1273 tw_1275 tw_33 tw_72 tw_1276 yd_X7_fail (by decide) (ci := 10) rfl dX7_enter_41 hI.x rfl (Nat.le_of_ble_eq_true rfl) (Nat.zero_le _) (Nat.zero_le _) ?_
        refine mm_fail htr hI 2 (by first | omega | exact Nat.lt_of_le_of_lt Nat.and_le_left (by omega) | exact Nat.or_lt_two_pow (n := 16) (by omega) (by omega) | (simp [md_set, va_up]; done) | (simp [md_set, va_up]; omega) | exact Nat.or_lt_two_pow (n := 6) (by omega) (by omega)) (fun M hI => ?_)
        show sg_W X M 0 0 44 [some (.ref x), some (.int (nI t.toNatClampNeg)), some (.int (nI src.toNatClampNeg)), none] [.int (nI ((md_fail (md_set N 0 0 0) 2).1))]
        have e9 : md_enter N t src = ((md_fail (md_set N 0 0 0) 2).1, (md_fail (md_set N 0 0 0) 2).2) := by rw [md_enter]; simp only [if_pos h1, if_pos h6, if_pos h11]
        rw [e9] at hk
        exact sg_ireturn (st := []) (v := nI ((md_fail (md_set N 0 0 0) 2).1)) (pc := 44) hC hR dX7_enter_44 (hk M hI)
    · refine sg_aload_n (pc := 22) (v := .ref x) hC dX7_enter_22 rfl rfl ?_
      refine sg_iconst (pc := 23) (nI 1) hC dX7_enter_23 (by decide) ?_
      refine sg_callV (pc := 24) (As := [.int (nI 1)]) (rest := []) (mc := 0) (ms := 0) hC tw_1273 tw_1275 tw_33 tw_72 tw_1276 yd_X7_fail (by decide) (ci := 10) rfl dX7_enter_24 hI.x rfl (Nat.le_of_ble_eq_true rfl) (Nat.zero_le _) (Nat.zero_le _) ?_
      refine mm_fail htr hI 1 (by first | omega | exact Nat.lt_of_le_of_lt Nat.and_le_left (by omega) | exact Nat.or_lt_two_pow (n := 16) (by omega) (by omega) | (simp [md_set, va_up]; done) | (simp [md_set, va_up]; omega) | exact Nat.or_lt_two_pow (n := 6) (by omega) (by omega)) (fun M hI => ?_)
      show sg_W X M 0 0 27 [some (.ref x), some (.int (nI t.toNatClampNeg)), some (.int src), none] [.int (nI ((md_fail (md_set N 0 0 0) 1).1))]
      have e9 : md_enter N t src = ((md_fail (md_set N 0 0 0) 1).1, (md_fail (md_set N 0 0 0) 1).2) := by rw [md_enter]; simp only [if_pos h1, if_neg (ts9 h6)]
      rw [e9] at hk
      exact sg_ireturn (st := []) (v := nI ((md_fail (md_set N 0 0 0) 1).1)) (pc := 27) hC hR dX7_enter_27 (hk M hI)

def md_leave (N : Nat → Nat → Nat) (t : Int32) : Nat × (Nat → Nat → Nat) := if (md_isThread (md_set N 0 0 0) t) = true then if N 15 t.toNatClampNeg = 0 then ((md_fail (md_set N 0 0 0) 2).1, (md_fail (md_set N 0 0 0) 2).2) else if (N 15 t.toNatClampNeg) - 1 ≤ 0 then (N 16 ((10 * t.toNatClampNeg) + ((N 15 t.toNatClampNeg) - 1)), (md_set (md_set N 0 0 0) 15 t.toNatClampNeg ((N 15 t.toNatClampNeg) - 1))) else (N 16 ((10 * t.toNatClampNeg) + ((N 15 t.toNatClampNeg) - 1)), (md_set (md_set (md_set N 0 0 0) 15 t.toNatClampNeg ((N 15 t.toNatClampNeg) - 1)) 17 (((10 * t.toNatClampNeg) + ((N 15 t.toNatClampNeg) - 1)) - 1) 0)) else ((md_fail (md_set N 0 0 0) 1).1, (md_fail (md_set N 0 0 0) 1).2)
set_option maxHeartbeats 4000000 in
set_option maxRecDepth 100000 in
theorem mm_leave {l : Launch} {G : sg_G} {d : Nat} {M0 M : sg_M} {x : Nat} {ad : Nat → Nat} {N : Nat → Nat → Nat} {kr : Option Value → sg_M → Prop} {kx : String → sg_M → Prop} (htr : l.stackTraces = false) (hI : md_I M0 M x ad N) (t : Int32) (hfr : ∀ r, N 15 r ≤ 10) (hsr : ∀ r, N 16 r < 6) (hk : ∀ M', md_I M0 M' x ad (md_leave N t).2 → kr (some (.int (nI (md_leave N t).1))) M') : sg_Met l G yX7_leave cX7_leave 3 (some .int) (d + 2) 0 0 [.ref x, .int t] M kr kx := by
  refine sg_enter [some (.ref x), some (.int t), none] (by decide) htr (Nat.le_of_ble_eq_true rfl) rfl ?_
  intro X hC hR
  have hC : sg_C X l G cX7_leave RX7 3 (d + 2) := hC
  refine sg_aload_n (pc := 0) (v := .ref x) hC dX7_leave_0 rfl rfl ?_
  refine sg_iconst (pc := 1) (nI 0) hC dX7_leave_1 (by decide) ?_
  refine md_put0 (pc := 2) (v := 0) hC tw_1186 dX7_leave_2 hI (by first | omega | exact Nat.lt_of_le_of_lt Nat.and_le_left (by omega) | exact Nat.or_lt_two_pow (n := 16) (by omega) (by omega) | (simp [md_set, va_up]; done) | (simp [md_set, va_up]; omega) | exact Nat.or_lt_two_pow (n := 6) (by omega) (by omega)) (fun M hI => ?_)
  refine sg_aload_n (pc := 5) (v := .ref x) hC dX7_leave_5 rfl rfl ?_
  refine sg_iload_n (pc := 6) (x := t) hC dX7_leave_6 rfl ?_
  refine sg_callV (pc := 7) (As := [.int t]) (rest := []) (mc := 0) (ms := 0) hC tw_1401 tw_1403 tw_56 tw_72 tw_1404 yd_X7_isThread (by decide) (ci := 10) rfl dX7_leave_7 hI.x rfl (Nat.le_of_ble_eq_true rfl) (Nat.zero_le _) (Nat.zero_le _) ?_
  refine mm_isThread htr hI t  ?_
  show sg_W X M 0 0 10 [some (.ref x), some (.int t), none] [.int (md_b ((md_isThread (md_set N 0 0 0) t)))]
  refine sg_ifB_ne (pc := 10) (b := (md_isThread (md_set N 0 0 0) t)) 19 hC dX7_leave_10 (by decide) (fun h1 => ?_) (fun h1 => ?_)
  · obtain ⟨hs2, hs3⟩ := md_isThread_nat h1
    rw [hs2]
    show sg_W X M 0 0 19 [some (.ref x), some (.int (nI t.toNatClampNeg)), none] []
    obtain ⟨hs4, hs5⟩ := hs3
    refine sg_aload_n (pc := 19) (v := .ref x) hC dX7_leave_19 rfl rfl ?_
    refine md_get (pc := 20) (i := 15) hC (by decide) tw_1201 dX7_leave_20 hI rfl ?_
    refine sg_iload_n (pc := 23) (x := nI t.toNatClampNeg) hC dX7_leave_23 rfl ?_
    refine md_iald (pc := 24) (i := 15) (j := t.toNatClampNeg) hC dX7_leave_24 hI rfl (by first | omega | exact Nat.lt_of_le_of_lt Nat.and_le_left (by omega) | exact Nat.or_lt_two_pow (n := 16) (by omega) (by omega) | (simp [md_set, va_up]; done) | (simp [md_set, va_up]; omega) | exact Nat.or_lt_two_pow (n := 6) (by omega) (by omega)) (by decide) (fun hv6 => ?_)
    have hv6 : N 15 t.toNatClampNeg < 65536 := hv6
    show sg_W X M 0 0 25 [some (.ref x), some (.int (nI t.toNatClampNeg)), none] [.int (nI (N 15 t.toNatClampNeg))]
    have hW7 := hfr t.toNatClampNeg
    refine sg_ifN_ne (pc := 25) (a := N 15 t.toNatClampNeg) 34 hC dX7_leave_25 (by decide) (by first | omega | exact Nat.lt_of_le_of_lt Nat.and_le_left (by omega) | exact Nat.or_lt_two_pow (n := 16) (by omega) (by omega) | (simp [md_set, va_up]; done) | (simp [md_set, va_up]; omega) | exact Nat.or_lt_two_pow (n := 6) (by omega) (by omega)) (fun h8 => ?_) (fun h8 => ?_)
    · refine sg_aload_n (pc := 34) (v := .ref x) hC dX7_leave_34 rfl rfl ?_
      refine md_get (pc := 35) (i := 15) hC (by decide) tw_1201 dX7_leave_35 hI rfl ?_
      refine sg_iload_n (pc := 38) (x := nI t.toNatClampNeg) hC dX7_leave_38 rfl ?_
      refine sg_dup2 (pc := 39) hC dX7_leave_39 rfl rfl ?_
      refine md_iald (pc := 40) (i := 15) (j := t.toNatClampNeg) hC dX7_leave_40 hI rfl (by first | omega | exact Nat.lt_of_le_of_lt Nat.and_le_left (by omega) | exact Nat.or_lt_two_pow (n := 16) (by omega) (by omega) | (simp [md_set, va_up]; done) | (simp [md_set, va_up]; omega) | exact Nat.or_lt_two_pow (n := 6) (by omega) (by omega)) (by decide) (fun hv9 => ?_)
      have hv9 : N 15 t.toNatClampNeg < 65536 := hv9
      show sg_W X M 0 0 41 [some (.ref x), some (.int (nI t.toNatClampNeg)), none] [.int (nI (N 15 t.toNatClampNeg)), .int (nI t.toNatClampNeg), .ref (ad 15)]
      have hW10 := hfr t.toNatClampNeg
      refine sg_iconst (pc := 41) (nI 1) hC dX7_leave_41 (by decide) ?_
      refine sg_isubN (pc := 42) (a := N 15 t.toNatClampNeg) (b := 1) hC dX7_leave_42 (by first | omega | exact Nat.lt_of_le_of_lt Nat.and_le_left (by omega) | exact Nat.or_lt_two_pow (n := 16) (by omega) (by omega) | (simp [md_set, va_up]; done) | (simp [md_set, va_up]; omega) | exact Nat.or_lt_two_pow (n := 6) (by omega) (by omega)) ?_
      refine md_iast (pc := 43) (i := 15) (j := t.toNatClampNeg) (v := (N 15 t.toNatClampNeg) - 1) hC dX7_leave_43 hI rfl (by first | omega | exact Nat.lt_of_le_of_lt Nat.and_le_left (by omega) | exact Nat.or_lt_two_pow (n := 16) (by omega) (by omega) | (simp [md_set, va_up]; done) | (simp [md_set, va_up]; omega) | exact Nat.or_lt_two_pow (n := 6) (by omega) (by omega)) (by decide) (by first | omega | exact Nat.lt_of_le_of_lt Nat.and_le_left (by omega) | exact Nat.or_lt_two_pow (n := 16) (by omega) (by omega) | (simp [md_set, va_up]; done) | (simp [md_set, va_up]; omega) | exact Nat.or_lt_two_pow (n := 6) (by omega) (by omega)) (fun M hI => ?_)
      refine sg_bipush (pc := 44) (nI 10) hC dX7_leave_44 (by decide) ?_
      refine sg_iload_n (pc := 46) (x := nI t.toNatClampNeg) hC dX7_leave_46 rfl ?_
      refine sg_imulN (pc := 47) (a := 10) (b := t.toNatClampNeg) hC dX7_leave_47 ?_
      refine sg_aload_n (pc := 48) (v := .ref x) hC dX7_leave_48 rfl rfl ?_
      refine md_get (pc := 49) (i := 15) hC (by decide) tw_1201 dX7_leave_49 hI rfl ?_
      refine sg_iload_n (pc := 52) (x := nI t.toNatClampNeg) hC dX7_leave_52 rfl ?_
      refine md_iald (pc := 53) (i := 15) (j := t.toNatClampNeg) hC dX7_leave_53 hI rfl (by first | omega | exact Nat.lt_of_le_of_lt Nat.and_le_left (by omega) | exact Nat.or_lt_two_pow (n := 16) (by omega) (by omega) | (simp [md_set, va_up]; done) | (simp [md_set, va_up]; omega) | exact Nat.or_lt_two_pow (n := 6) (by omega) (by omega)) (by decide) (fun hv11 => ?_)
      rw [show (md_set (md_set N 0 0 0) 15 t.toNatClampNeg ((N 15 t.toNatClampNeg) - 1)) 15 t.toNatClampNeg = (N 15 t.toNatClampNeg) - 1 from by simp [md_set, va_up]]
      show sg_W X M 0 0 54 [some (.ref x), some (.int (nI t.toNatClampNeg)), none] [.int (nI ((N 15 t.toNatClampNeg) - 1)), .int (nI (10 * t.toNatClampNeg))]
      refine sg_iaddN (pc := 54) (a := 10 * t.toNatClampNeg) (b := (N 15 t.toNatClampNeg) - 1) hC dX7_leave_54 ?_
      refine sg_istore_n (pc := 55) (x := nI ((10 * t.toNatClampNeg) + ((N 15 t.toNatClampNeg) - 1))) hC dX7_leave_55 (by decide) ?_
      show sg_W X M 0 0 56 [some (.ref x), some (.int (nI t.toNatClampNeg)), some (.int (nI ((10 * t.toNatClampNeg) + ((N 15 t.toNatClampNeg) - 1))))] []
      refine sg_aload_n (pc := 56) (v := .ref x) hC dX7_leave_56 rfl rfl ?_
      refine md_get (pc := 57) (i := 15) hC (by decide) tw_1201 dX7_leave_57 hI rfl ?_
      refine sg_iload_n (pc := 60) (x := nI t.toNatClampNeg) hC dX7_leave_60 rfl ?_
      refine md_iald (pc := 61) (i := 15) (j := t.toNatClampNeg) hC dX7_leave_61 hI rfl (by first | omega | exact Nat.lt_of_le_of_lt Nat.and_le_left (by omega) | exact Nat.or_lt_two_pow (n := 16) (by omega) (by omega) | (simp [md_set, va_up]; done) | (simp [md_set, va_up]; omega) | exact Nat.or_lt_two_pow (n := 6) (by omega) (by omega)) (by decide) (fun hv12 => ?_)
      rw [show (md_set (md_set N 0 0 0) 15 t.toNatClampNeg ((N 15 t.toNatClampNeg) - 1)) 15 t.toNatClampNeg = (N 15 t.toNatClampNeg) - 1 from by simp [md_set, va_up]]
      show sg_W X M 0 0 62 [some (.ref x), some (.int (nI t.toNatClampNeg)), some (.int (nI ((10 * t.toNatClampNeg) + ((N 15 t.toNatClampNeg) - 1))))] [.int (nI ((N 15 t.toNatClampNeg) - 1))]
      refine sg_ifN_le (pc := 62) (a := (N 15 t.toNatClampNeg) - 1) 74 hC dX7_leave_62 (by decide) (by first | omega | exact Nat.lt_of_le_of_lt Nat.and_le_left (by omega) | exact Nat.or_lt_two_pow (n := 16) (by omega) (by omega) | (simp [md_set, va_up]; done) | (simp [md_set, va_up]; omega) | exact Nat.or_lt_two_pow (n := 6) (by omega) (by omega)) (fun h13 => ?_) (fun h13 => ?_)
      · refine sg_aload_n (pc := 74) (v := .ref x) hC dX7_leave_74 rfl rfl ?_
        refine md_get (pc := 75) (i := 16) hC (by decide) tw_1202 dX7_leave_75 hI rfl ?_
        refine sg_iload_n (pc := 78) (x := nI ((10 * t.toNatClampNeg) + ((N 15 t.toNatClampNeg) - 1))) hC dX7_leave_78 rfl ?_
        refine md_iald (pc := 79) (i := 16) (j := (10 * t.toNatClampNeg) + ((N 15 t.toNatClampNeg) - 1)) hC dX7_leave_79 hI rfl (by first | omega | exact Nat.lt_of_le_of_lt Nat.and_le_left (by omega) | exact Nat.or_lt_two_pow (n := 16) (by omega) (by omega) | (simp [md_set, va_up]; done) | (simp [md_set, va_up]; omega) | exact Nat.or_lt_two_pow (n := 6) (by omega) (by omega)) (by decide) (fun hv14 => ?_)
        have hv14 : N 16 ((10 * t.toNatClampNeg) + ((N 15 t.toNatClampNeg) - 1)) < 65536 := hv14
        show sg_W X M 0 0 80 [some (.ref x), some (.int (nI t.toNatClampNeg)), some (.int (nI ((10 * t.toNatClampNeg) + ((N 15 t.toNatClampNeg) - 1))))] [.int (nI (N 16 ((10 * t.toNatClampNeg) + ((N 15 t.toNatClampNeg) - 1))))]
        have hW15 := hsr ((10 * t.toNatClampNeg) + ((N 15 t.toNatClampNeg) - 1))
        have e9 : md_leave N t = (N 16 ((10 * t.toNatClampNeg) + ((N 15 t.toNatClampNeg) - 1)), (md_set (md_set N 0 0 0) 15 t.toNatClampNeg ((N 15 t.toNatClampNeg) - 1))) := by rw [md_leave]; simp only [if_pos h1, if_neg h8, if_pos h13]
        rw [e9] at hk
        exact sg_ireturn (st := []) (v := nI (N 16 ((10 * t.toNatClampNeg) + ((N 15 t.toNatClampNeg) - 1)))) (pc := 80) hC hR dX7_leave_80 (hk M hI)
      · refine sg_aload_n (pc := 65) (v := .ref x) hC dX7_leave_65 rfl rfl ?_
        refine md_get (pc := 66) (i := 17) hC (by decide) tw_1203 dX7_leave_66 hI rfl ?_
        refine sg_iload_n (pc := 69) (x := nI ((10 * t.toNatClampNeg) + ((N 15 t.toNatClampNeg) - 1))) hC dX7_leave_69 rfl ?_
        refine sg_iconst (pc := 70) (nI 1) hC dX7_leave_70 (by decide) ?_
        refine sg_isubN (pc := 71) (a := (10 * t.toNatClampNeg) + ((N 15 t.toNatClampNeg) - 1)) (b := 1) hC dX7_leave_71 (by first | omega | exact Nat.lt_of_le_of_lt Nat.and_le_left (by omega) | exact Nat.or_lt_two_pow (n := 16) (by omega) (by omega) | (simp [md_set, va_up]; done) | (simp [md_set, va_up]; omega) | exact Nat.or_lt_two_pow (n := 6) (by omega) (by omega)) ?_
        refine sg_iconst (pc := 72) (nI 0) hC dX7_leave_72 (by decide) ?_
        refine md_zast (pc := 73) (i := 17) (j := ((10 * t.toNatClampNeg) + ((N 15 t.toNatClampNeg) - 1)) - 1) (v := 0) hC dX7_leave_73 hI rfl (by first | omega | exact Nat.lt_of_le_of_lt Nat.and_le_left (by omega) | exact Nat.or_lt_two_pow (n := 16) (by omega) (by omega) | (simp [md_set, va_up]; done) | (simp [md_set, va_up]; omega) | exact Nat.or_lt_two_pow (n := 6) (by omega) (by omega)) (by decide) (by first | omega | exact Nat.lt_of_le_of_lt Nat.and_le_left (by omega) | exact Nat.or_lt_two_pow (n := 16) (by omega) (by omega) | (simp [md_set, va_up]; done) | (simp [md_set, va_up]; omega) | exact Nat.or_lt_two_pow (n := 6) (by omega) (by omega)) (fun M hI => ?_)
        refine sg_aload_n (pc := 74) (v := .ref x) hC dX7_leave_74 rfl rfl ?_
        refine md_get (pc := 75) (i := 16) hC (by decide) tw_1202 dX7_leave_75 hI rfl ?_
        refine sg_iload_n (pc := 78) (x := nI ((10 * t.toNatClampNeg) + ((N 15 t.toNatClampNeg) - 1))) hC dX7_leave_78 rfl ?_
        refine md_iald (pc := 79) (i := 16) (j := (10 * t.toNatClampNeg) + ((N 15 t.toNatClampNeg) - 1)) hC dX7_leave_79 hI rfl (by first | omega | exact Nat.lt_of_le_of_lt Nat.and_le_left (by omega) | exact Nat.or_lt_two_pow (n := 16) (by omega) (by omega) | (simp [md_set, va_up]; done) | (simp [md_set, va_up]; omega) | exact Nat.or_lt_two_pow (n := 6) (by omega) (by omega)) (by decide) (fun hv16 => ?_)
        have hv16 : N 16 ((10 * t.toNatClampNeg) + ((N 15 t.toNatClampNeg) - 1)) < 65536 := hv16
        show sg_W X M 0 0 80 [some (.ref x), some (.int (nI t.toNatClampNeg)), some (.int (nI ((10 * t.toNatClampNeg) + ((N 15 t.toNatClampNeg) - 1))))] [.int (nI (N 16 ((10 * t.toNatClampNeg) + ((N 15 t.toNatClampNeg) - 1))))]
        have hW17 := hsr ((10 * t.toNatClampNeg) + ((N 15 t.toNatClampNeg) - 1))
        have e9 : md_leave N t = (N 16 ((10 * t.toNatClampNeg) + ((N 15 t.toNatClampNeg) - 1)), (md_set (md_set (md_set N 0 0 0) 15 t.toNatClampNeg ((N 15 t.toNatClampNeg) - 1)) 17 (((10 * t.toNatClampNeg) + ((N 15 t.toNatClampNeg) - 1)) - 1) 0)) := by rw [md_leave]; simp only [if_pos h1, if_neg h8, if_neg (Nat.not_le.mpr h13)]
        rw [e9] at hk
        exact sg_ireturn (st := []) (v := nI (N 16 ((10 * t.toNatClampNeg) + ((N 15 t.toNatClampNeg) - 1)))) (pc := 80) hC hR dX7_leave_80 (hk M hI)
    · refine sg_aload_n (pc := 28) (v := .ref x) hC dX7_leave_28 rfl rfl ?_
      refine sg_iconst (pc := 29) (nI 2) hC dX7_leave_29 (by decide) ?_
      refine sg_callV (pc := 30) (As := [.int (nI 2)]) (rest := []) (mc := 0) (ms := 0) hC tw_1273 tw_1275 tw_33 tw_72 tw_1276 yd_X7_fail (by decide) (ci := 10) rfl dX7_leave_30 hI.x rfl (Nat.le_of_ble_eq_true rfl) (Nat.zero_le _) (Nat.zero_le _) ?_
      refine mm_fail htr hI 2 (by first | omega | exact Nat.lt_of_le_of_lt Nat.and_le_left (by omega) | exact Nat.or_lt_two_pow (n := 16) (by omega) (by omega) | (simp [md_set, va_up]; done) | (simp [md_set, va_up]; omega) | exact Nat.or_lt_two_pow (n := 6) (by omega) (by omega)) (fun M hI => ?_)
      show sg_W X M 0 0 33 [some (.ref x), some (.int (nI t.toNatClampNeg)), none] [.int (nI ((md_fail (md_set N 0 0 0) 2).1))]
      have e9 : md_leave N t = ((md_fail (md_set N 0 0 0) 2).1, (md_fail (md_set N 0 0 0) 2).2) := by rw [md_leave]; simp only [if_pos h1, if_pos h8]
      rw [e9] at hk
      exact sg_ireturn (st := []) (v := nI ((md_fail (md_set N 0 0 0) 2).1)) (pc := 33) hC hR dX7_leave_33 (hk M hI)
  · refine sg_aload_n (pc := 13) (v := .ref x) hC dX7_leave_13 rfl rfl ?_
    refine sg_iconst (pc := 14) (nI 1) hC dX7_leave_14 (by decide) ?_
    refine sg_callV (pc := 15) (As := [.int (nI 1)]) (rest := []) (mc := 0) (ms := 0) hC tw_1273 tw_1275 tw_33 tw_72 tw_1276 yd_X7_fail (by decide) (ci := 10) rfl dX7_leave_15 hI.x rfl (Nat.le_of_ble_eq_true rfl) (Nat.zero_le _) (Nat.zero_le _) ?_
    refine mm_fail htr hI 1 (by first | omega | exact Nat.lt_of_le_of_lt Nat.and_le_left (by omega) | exact Nat.or_lt_two_pow (n := 16) (by omega) (by omega) | (simp [md_set, va_up]; done) | (simp [md_set, va_up]; omega) | exact Nat.or_lt_two_pow (n := 6) (by omega) (by omega)) (fun M hI => ?_)
    show sg_W X M 0 0 18 [some (.ref x), some (.int t), none] [.int (nI ((md_fail (md_set N 0 0 0) 1).1))]
    have e9 : md_leave N t = ((md_fail (md_set N 0 0 0) 1).1, (md_fail (md_set N 0 0 0) 1).2) := by rw [md_leave]; simp only [if_neg (ts9 h1)]
    rw [e9] at hk
    exact sg_ireturn (st := []) (v := nI ((md_fail (md_set N 0 0 0) 1).1)) (pc := 18) hC hR dX7_leave_18 (hk M hI)

def md_guard (N : Nat → Nat → Nat) (t : Int32) (ctx : Int32) (slot : Int32) : Nat → Nat → Nat := if (md_isThread (md_set N 0 0 0) t) = true then if ctx = ((-1)) then if slot = ((-1)) then if N 15 t.toNatClampNeg = 0 then (md_set (md_set N 0 0 0) 0 0 2) else (md_set (md_set (md_set (md_set N 0 0 0) 17 (((10 * t.toNatClampNeg) + (N 15 t.toNatClampNeg)) - 1) 1) 18 (((10 * t.toNatClampNeg) + (N 15 t.toNatClampNeg)) - 1) 0) 3 (44 + (((10 * t.toNatClampNeg) + (N 15 t.toNatClampNeg)) - 1)) 0) else if (md_isSlot (md_set N 0 0 0) slot) = true then if N 15 t.toNatClampNeg = 0 then (md_set (md_set N 0 0 0) 0 0 2) else if slot.toNatClampNeg < 0 then (md_set (md_set (md_set (md_set N 0 0 0) 17 (((10 * t.toNatClampNeg) + (N 15 t.toNatClampNeg)) - 1) 1) 18 (((10 * t.toNatClampNeg) + (N 15 t.toNatClampNeg)) - 1) 0) 3 (44 + (((10 * t.toNatClampNeg) + (N 15 t.toNatClampNeg)) - 1)) 0) else (md_copy (md_set (md_set (md_set (md_set N 0 0 0) 17 (((10 * t.toNatClampNeg) + (N 15 t.toNatClampNeg)) - 1) 1) 18 (((10 * t.toNatClampNeg) + (N 15 t.toNatClampNeg)) - 1) 0) 3 (44 + (((10 * t.toNatClampNeg) + (N 15 t.toNatClampNeg)) - 1)) 0) slot.toNatClampNeg (44 + (((10 * t.toNatClampNeg) + (N 15 t.toNatClampNeg)) - 1))) else (md_set (md_set N 0 0 0) 0 0 1) else if (md_isContext (md_set N 0 0 0) ctx) = true then if slot = ((-1)) then if N 15 t.toNatClampNeg = 0 then (md_set (md_set N 0 0 0) 0 0 2) else if 0 ≤ ctx.toNatClampNeg then (md_set (md_set (md_set (md_set N 0 0 0) 17 (((10 * t.toNatClampNeg) + (N 15 t.toNatClampNeg)) - 1) 1) 18 (((10 * t.toNatClampNeg) + (N 15 t.toNatClampNeg)) - 1) (N 20 ctx.toNatClampNeg)) 3 (44 + (((10 * t.toNatClampNeg) + (N 15 t.toNatClampNeg)) - 1)) 0) else (md_set (md_set (md_set (md_set N 0 0 0) 17 (((10 * t.toNatClampNeg) + (N 15 t.toNatClampNeg)) - 1) 1) 18 (((10 * t.toNatClampNeg) + (N 15 t.toNatClampNeg)) - 1) 0) 3 (44 + (((10 * t.toNatClampNeg) + (N 15 t.toNatClampNeg)) - 1)) 0) else if (md_isSlot (md_set N 0 0 0) slot) = true then if N 15 t.toNatClampNeg = 0 then (md_set (md_set N 0 0 0) 0 0 2) else if 0 ≤ ctx.toNatClampNeg then if slot.toNatClampNeg < 0 then (md_set (md_set (md_set (md_set N 0 0 0) 17 (((10 * t.toNatClampNeg) + (N 15 t.toNatClampNeg)) - 1) 1) 18 (((10 * t.toNatClampNeg) + (N 15 t.toNatClampNeg)) - 1) (N 20 ctx.toNatClampNeg)) 3 (44 + (((10 * t.toNatClampNeg) + (N 15 t.toNatClampNeg)) - 1)) 0) else (md_copy (md_set (md_set (md_set (md_set N 0 0 0) 17 (((10 * t.toNatClampNeg) + (N 15 t.toNatClampNeg)) - 1) 1) 18 (((10 * t.toNatClampNeg) + (N 15 t.toNatClampNeg)) - 1) (N 20 ctx.toNatClampNeg)) 3 (44 + (((10 * t.toNatClampNeg) + (N 15 t.toNatClampNeg)) - 1)) 0) slot.toNatClampNeg (44 + (((10 * t.toNatClampNeg) + (N 15 t.toNatClampNeg)) - 1))) else if slot.toNatClampNeg < 0 then (md_set (md_set (md_set (md_set N 0 0 0) 17 (((10 * t.toNatClampNeg) + (N 15 t.toNatClampNeg)) - 1) 1) 18 (((10 * t.toNatClampNeg) + (N 15 t.toNatClampNeg)) - 1) 0) 3 (44 + (((10 * t.toNatClampNeg) + (N 15 t.toNatClampNeg)) - 1)) 0) else (md_copy (md_set (md_set (md_set (md_set N 0 0 0) 17 (((10 * t.toNatClampNeg) + (N 15 t.toNatClampNeg)) - 1) 1) 18 (((10 * t.toNatClampNeg) + (N 15 t.toNatClampNeg)) - 1) 0) 3 (44 + (((10 * t.toNatClampNeg) + (N 15 t.toNatClampNeg)) - 1)) 0) slot.toNatClampNeg (44 + (((10 * t.toNatClampNeg) + (N 15 t.toNatClampNeg)) - 1))) else (md_set (md_set N 0 0 0) 0 0 1) else (md_set (md_set N 0 0 0) 0 0 1) else (md_set (md_set N 0 0 0) 0 0 1)
set_option maxHeartbeats 4000000 in
set_option maxRecDepth 100000 in
theorem mm_guard {l : Launch} {G : sg_G} {d : Nat} {M0 M : sg_M} {x : Nat} {ad : Nat → Nat} {N : Nat → Nat → Nat} {kr : Option Value → sg_M → Prop} {kx : String → sg_M → Prop} (htr : l.stackTraces = false) (hI : md_I M0 M x ad N) (t : Int32) (ctx : Int32) (slot : Int32) (hw : ∀ r, N 4 r ≤ 3) (hg : ∀ r, N 12 r ≤ 6) (hfr : ∀ r, N 15 r ≤ 10) (hcx : ∀ r, N 20 r < 64) (hk : ∀ M', md_I M0 M' x ad (md_guard N t ctx slot) → kr none M') : sg_Met l G yX7_guard cX7_guard 5 none (d + 2) 0 0 [.ref x, .int t, .int ctx, .int slot] M kr kx := by
  refine sg_enter [some (.ref x), some (.int t), some (.int ctx), some (.int slot), none] (by decide) htr (Nat.le_of_ble_eq_true rfl) rfl ?_
  intro X hC hR
  have hC : sg_C X l G cX7_guard RX7 5 (d + 2) := hC
  refine sg_aload_n (pc := 0) (v := .ref x) hC dX7_guard_0 rfl rfl ?_
  refine sg_iconst (pc := 1) (nI 0) hC dX7_guard_1 (by decide) ?_
  refine md_put0 (pc := 2) (v := 0) hC tw_1186 dX7_guard_2 hI (by first | omega | exact Nat.lt_of_le_of_lt Nat.and_le_left (by omega) | exact Nat.or_lt_two_pow (n := 16) (by omega) (by omega) | (simp [md_set, va_up]; done) | (simp [md_set, va_up]; omega) | exact Nat.or_lt_two_pow (n := 6) (by omega) (by omega)) (fun M hI => ?_)
  refine sg_aload_n (pc := 5) (v := .ref x) hC dX7_guard_5 rfl rfl ?_
  refine sg_iload_n (pc := 6) (x := t) hC dX7_guard_6 rfl ?_
  refine sg_callV (pc := 7) (As := [.int t]) (rest := []) (mc := 0) (ms := 0) hC tw_1401 tw_1403 tw_56 tw_72 tw_1404 yd_X7_isThread (by decide) (ci := 10) rfl dX7_guard_7 hI.x rfl (Nat.le_of_ble_eq_true rfl) (Nat.zero_le _) (Nat.zero_le _) ?_
  refine mm_isThread htr hI t  ?_
  show sg_W X M 0 0 10 [some (.ref x), some (.int t), some (.int ctx), some (.int slot), none] [.int (md_b ((md_isThread (md_set N 0 0 0) t)))]
  refine sg_ifB_eq (pc := 10) (b := (md_isThread (md_set N 0 0 0) t)) 39 hC dX7_guard_10 (by decide) (fun h1 => ?_) (fun h1 => ?_)
  · refine sg_aload_n (pc := 39) (v := .ref x) hC dX7_guard_39 rfl rfl ?_
    refine sg_iconst (pc := 40) (nI 1) hC dX7_guard_40 (by decide) ?_
    refine md_put0 (pc := 41) (v := 1) hC tw_1186 dX7_guard_41 hI (by first | omega | exact Nat.lt_of_le_of_lt Nat.and_le_left (by omega) | exact Nat.or_lt_two_pow (n := 16) (by omega) (by omega) | (simp [md_set, va_up]; done) | (simp [md_set, va_up]; omega) | exact Nat.or_lt_two_pow (n := 6) (by omega) (by omega)) (fun M hI => ?_)
    have e9 : md_guard N t ctx slot = (md_set (md_set N 0 0 0) 0 0 1) := by rw [md_guard]; simp only [if_neg (ts9 h1)]
    rw [e9] at hk
    exact sg_vreturn (st := []) (pc := 44) hC hR dX7_guard_44 (hk M hI)
  · obtain ⟨hs2, hs3⟩ := md_isThread_nat h1
    rw [hs2]
    show sg_W X M 0 0 13 [some (.ref x), some (.int (nI t.toNatClampNeg)), some (.int ctx), some (.int slot), none] []
    obtain ⟨hs4, hs5⟩ := hs3
    refine sg_iload_n (pc := 13) (x := ctx) hC dX7_guard_13 rfl ?_
    refine sg_iconst (pc := 14) (((-1))) hC dX7_guard_14 (by decide) ?_
    refine sg_icmp_eq (pc := 15) (x := ctx) (y := ((-1))) 26 hC dX7_guard_15 (by decide) (fun h6 => ?_) (fun h6 => ?_)
    · rw [h6]
      show sg_W X M 0 0 26 [some (.ref x), some (.int (nI t.toNatClampNeg)), some (.int ((-1))), some (.int slot), none] []
      refine sg_iload_n (pc := 26) (x := slot) hC dX7_guard_26 rfl ?_
      refine sg_iconst (pc := 27) (((-1))) hC dX7_guard_27 (by decide) ?_
      refine sg_icmp_eq (pc := 28) (x := slot) (y := ((-1))) 45 hC dX7_guard_28 (by decide) (fun h7 => ?_) (fun h7 => ?_)
      · rw [h7]
        show sg_W X M 0 0 45 [some (.ref x), some (.int (nI t.toNatClampNeg)), some (.int ((-1))), some (.int ((-1))), none] []
        refine sg_aload_n (pc := 45) (v := .ref x) hC dX7_guard_45 rfl rfl ?_
        refine md_get (pc := 46) (i := 15) hC (by decide) tw_1201 dX7_guard_46 hI rfl ?_
        refine sg_iload_n (pc := 49) (x := nI t.toNatClampNeg) hC dX7_guard_49 rfl ?_
        refine md_iald (pc := 50) (i := 15) (j := t.toNatClampNeg) hC dX7_guard_50 hI rfl (by first | omega | exact Nat.lt_of_le_of_lt Nat.and_le_left (by omega) | exact Nat.or_lt_two_pow (n := 16) (by omega) (by omega) | (simp [md_set, va_up]; done) | (simp [md_set, va_up]; omega) | exact Nat.or_lt_two_pow (n := 6) (by omega) (by omega)) (by decide) (fun hv8 => ?_)
        have hv8 : N 15 t.toNatClampNeg < 65536 := hv8
        show sg_W X M 0 0 51 [some (.ref x), some (.int (nI t.toNatClampNeg)), some (.int ((-1))), some (.int ((-1))), none] [.int (nI (N 15 t.toNatClampNeg))]
        have hW9 := hfr t.toNatClampNeg
        refine sg_ifN_ne (pc := 51) (a := N 15 t.toNatClampNeg) 60 hC dX7_guard_51 (by decide) (by first | omega | exact Nat.lt_of_le_of_lt Nat.and_le_left (by omega) | exact Nat.or_lt_two_pow (n := 16) (by omega) (by omega) | (simp [md_set, va_up]; done) | (simp [md_set, va_up]; omega) | exact Nat.or_lt_two_pow (n := 6) (by omega) (by omega)) (fun h10 => ?_) (fun h10 => ?_)
        · refine sg_bipush (pc := 60) (nI 10) hC dX7_guard_60 (by decide) ?_
          refine sg_iload_n (pc := 62) (x := nI t.toNatClampNeg) hC dX7_guard_62 rfl ?_
          refine sg_imulN (pc := 63) (a := 10) (b := t.toNatClampNeg) hC dX7_guard_63 ?_
          refine sg_aload_n (pc := 64) (v := .ref x) hC dX7_guard_64 rfl rfl ?_
          refine md_get (pc := 65) (i := 15) hC (by decide) tw_1201 dX7_guard_65 hI rfl ?_
          refine sg_iload_n (pc := 68) (x := nI t.toNatClampNeg) hC dX7_guard_68 rfl ?_
          refine md_iald (pc := 69) (i := 15) (j := t.toNatClampNeg) hC dX7_guard_69 hI rfl (by first | omega | exact Nat.lt_of_le_of_lt Nat.and_le_left (by omega) | exact Nat.or_lt_two_pow (n := 16) (by omega) (by omega) | (simp [md_set, va_up]; done) | (simp [md_set, va_up]; omega) | exact Nat.or_lt_two_pow (n := 6) (by omega) (by omega)) (by decide) (fun hv11 => ?_)
          have hv11 : N 15 t.toNatClampNeg < 65536 := hv11
          show sg_W X M 0 0 70 [some (.ref x), some (.int (nI t.toNatClampNeg)), some (.int ((-1))), some (.int ((-1))), none] [.int (nI (N 15 t.toNatClampNeg)), .int (nI (10 * t.toNatClampNeg))]
          have hW12 := hfr t.toNatClampNeg
          refine sg_iaddN (pc := 70) (a := 10 * t.toNatClampNeg) (b := N 15 t.toNatClampNeg) hC dX7_guard_70 ?_
          refine sg_iconst (pc := 71) (nI 1) hC dX7_guard_71 (by decide) ?_
          refine sg_isubN (pc := 72) (a := (10 * t.toNatClampNeg) + (N 15 t.toNatClampNeg)) (b := 1) hC dX7_guard_72 (by first | omega | exact Nat.lt_of_le_of_lt Nat.and_le_left (by omega) | exact Nat.or_lt_two_pow (n := 16) (by omega) (by omega) | (simp [md_set, va_up]; done) | (simp [md_set, va_up]; omega) | exact Nat.or_lt_two_pow (n := 6) (by omega) (by omega)) ?_
          refine sg_istore (pc := 73) (x := nI (((10 * t.toNatClampNeg) + (N 15 t.toNatClampNeg)) - 1)) hC dX7_guard_73 (by decide) ?_
          show sg_W X M 0 0 75 [some (.ref x), some (.int (nI t.toNatClampNeg)), some (.int ((-1))), some (.int ((-1))), some (.int (nI (((10 * t.toNatClampNeg) + (N 15 t.toNatClampNeg)) - 1)))] []
          refine sg_aload_n (pc := 75) (v := .ref x) hC dX7_guard_75 rfl rfl ?_
          refine md_get (pc := 76) (i := 17) hC (by decide) tw_1203 dX7_guard_76 hI rfl ?_
          refine sg_iload (pc := 79) (x := nI (((10 * t.toNatClampNeg) + (N 15 t.toNatClampNeg)) - 1)) hC dX7_guard_79 rfl ?_
          refine sg_iconst (pc := 81) (nI 1) hC dX7_guard_81 (by decide) ?_
          refine md_zast (pc := 82) (i := 17) (j := ((10 * t.toNatClampNeg) + (N 15 t.toNatClampNeg)) - 1) (v := 1) hC dX7_guard_82 hI rfl (by first | omega | exact Nat.lt_of_le_of_lt Nat.and_le_left (by omega) | exact Nat.or_lt_two_pow (n := 16) (by omega) (by omega) | (simp [md_set, va_up]; done) | (simp [md_set, va_up]; omega) | exact Nat.or_lt_two_pow (n := 6) (by omega) (by omega)) (by decide) (by first | omega | exact Nat.lt_of_le_of_lt Nat.and_le_left (by omega) | exact Nat.or_lt_two_pow (n := 16) (by omega) (by omega) | (simp [md_set, va_up]; done) | (simp [md_set, va_up]; omega) | exact Nat.or_lt_two_pow (n := 6) (by omega) (by omega)) (fun M hI => ?_)
          refine sg_aload_n (pc := 83) (v := .ref x) hC dX7_guard_83 rfl rfl ?_
          refine md_get (pc := 84) (i := 18) hC (by decide) tw_1204 dX7_guard_84 hI rfl ?_
          refine sg_iload (pc := 87) (x := nI (((10 * t.toNatClampNeg) + (N 15 t.toNatClampNeg)) - 1)) hC dX7_guard_87 rfl ?_
          refine sg_iload_n (pc := 89) (x := ((-1))) hC dX7_guard_89 rfl ?_
          refine sg_if_ge (pc := 90) (x := (-1)) 97 hC dX7_guard_90 (by decide) (fun h => by exfalso; revert h; decide) (fun _ => ?_)
          refine sg_iconst (pc := 93) (nI 0) hC dX7_guard_93 (by decide) ?_
          refine sg_goto (pc := 94) 103 hC dX7_guard_94 (by decide) ?_
          refine md_iast (pc := 103) (i := 18) (j := ((10 * t.toNatClampNeg) + (N 15 t.toNatClampNeg)) - 1) (v := 0) hC dX7_guard_103 hI rfl (by first | omega | exact Nat.lt_of_le_of_lt Nat.and_le_left (by omega) | exact Nat.or_lt_two_pow (n := 16) (by omega) (by omega) | (simp [md_set, va_up]; done) | (simp [md_set, va_up]; omega) | exact Nat.or_lt_two_pow (n := 6) (by omega) (by omega)) (by decide) (by first | omega | exact Nat.lt_of_le_of_lt Nat.and_le_left (by omega) | exact Nat.or_lt_two_pow (n := 16) (by omega) (by omega) | (simp [md_set, va_up]; done) | (simp [md_set, va_up]; omega) | exact Nat.or_lt_two_pow (n := 6) (by omega) (by omega)) (fun M hI => ?_)
          refine sg_aload_n (pc := 104) (v := .ref x) hC dX7_guard_104 rfl rfl ?_
          refine md_get (pc := 105) (i := 3) hC (by decide) tw_1189 dX7_guard_105 hI rfl ?_
          refine sg_bipush (pc := 108) (nI 44) hC dX7_guard_108 (by decide) ?_
          refine sg_iload (pc := 110) (x := nI (((10 * t.toNatClampNeg) + (N 15 t.toNatClampNeg)) - 1)) hC dX7_guard_110 rfl ?_
          refine sg_iaddN (pc := 112) (a := 44) (b := ((10 * t.toNatClampNeg) + (N 15 t.toNatClampNeg)) - 1) hC dX7_guard_112 ?_
          refine sg_iconst (pc := 113) (nI 0) hC dX7_guard_113 (by decide) ?_
          refine md_iast (pc := 114) (i := 3) (j := 44 + (((10 * t.toNatClampNeg) + (N 15 t.toNatClampNeg)) - 1)) (v := 0) hC dX7_guard_114 hI rfl (by first | omega | exact Nat.lt_of_le_of_lt Nat.and_le_left (by omega) | exact Nat.or_lt_two_pow (n := 16) (by omega) (by omega) | (simp [md_set, va_up]; done) | (simp [md_set, va_up]; omega) | exact Nat.or_lt_two_pow (n := 6) (by omega) (by omega)) (by decide) (by first | omega | exact Nat.lt_of_le_of_lt Nat.and_le_left (by omega) | exact Nat.or_lt_two_pow (n := 16) (by omega) (by omega) | (simp [md_set, va_up]; done) | (simp [md_set, va_up]; omega) | exact Nat.or_lt_two_pow (n := 6) (by omega) (by omega)) (fun M hI => ?_)
          refine sg_iload_n (pc := 115) (x := ((-1))) hC dX7_guard_115 rfl ?_
          refine sg_if_lt (pc := 116) (x := (-1)) 129 hC dX7_guard_116 (by decide) (fun _ => ?_) (fun h => by exfalso; revert h; decide)
          have e9 : md_guard N t ctx slot = (md_set (md_set (md_set (md_set N 0 0 0) 17 (((10 * t.toNatClampNeg) + (N 15 t.toNatClampNeg)) - 1) 1) 18 (((10 * t.toNatClampNeg) + (N 15 t.toNatClampNeg)) - 1) 0) 3 (44 + (((10 * t.toNatClampNeg) + (N 15 t.toNatClampNeg)) - 1)) 0) := by rw [md_guard]; simp only [if_pos h1, if_pos h6, if_pos h7, if_neg h10]
          rw [e9] at hk
          exact sg_vreturn (st := []) (pc := 129) hC hR dX7_guard_129 (hk M hI)
        · refine sg_aload_n (pc := 54) (v := .ref x) hC dX7_guard_54 rfl rfl ?_
          refine sg_iconst (pc := 55) (nI 2) hC dX7_guard_55 (by decide) ?_
          refine md_put0 (pc := 56) (v := 2) hC tw_1186 dX7_guard_56 hI (by first | omega | exact Nat.lt_of_le_of_lt Nat.and_le_left (by omega) | exact Nat.or_lt_two_pow (n := 16) (by omega) (by omega) | (simp [md_set, va_up]; done) | (simp [md_set, va_up]; omega) | exact Nat.or_lt_two_pow (n := 6) (by omega) (by omega)) (fun M hI => ?_)
          have e9 : md_guard N t ctx slot = (md_set (md_set N 0 0 0) 0 0 2) := by rw [md_guard]; simp only [if_pos h1, if_pos h6, if_pos h7, if_pos h10]
          rw [e9] at hk
          exact sg_vreturn (st := []) (pc := 59) hC hR dX7_guard_59 (hk M hI)
      · refine sg_aload_n (pc := 31) (v := .ref x) hC dX7_guard_31 rfl rfl ?_
        refine sg_iload_n (pc := 32) (x := slot) hC dX7_guard_32 rfl ?_
        refine sg_callV (pc := 33) (As := [.int slot]) (rest := []) (mc := 0) (ms := 0) hC tw_1337 tw_1339 tw_45 tw_72 tw_1340 yd_X7_isSlot (by decide) (ci := 10) rfl dX7_guard_33 hI.x rfl (Nat.le_of_ble_eq_true rfl) (Nat.zero_le _) (Nat.zero_le _) ?_
        refine mm_isSlot htr hI slot  ?_
        show sg_W X M 0 0 36 [some (.ref x), some (.int (nI t.toNatClampNeg)), some (.int ((-1))), some (.int slot), none] [.int (md_b ((md_isSlot (md_set N 0 0 0) slot)))]
        refine sg_ifB_ne (pc := 36) (b := (md_isSlot (md_set N 0 0 0) slot)) 45 hC dX7_guard_36 (by decide) (fun h13 => ?_) (fun h13 => ?_)
        · obtain ⟨hs14, hs15⟩ := md_isSlot_nat h13
          rw [hs14]
          show sg_W X M 0 0 45 [some (.ref x), some (.int (nI t.toNatClampNeg)), some (.int ((-1))), some (.int (nI slot.toNatClampNeg)), none] []
          obtain ⟨hs16, hs17⟩ := hs15
          refine sg_aload_n (pc := 45) (v := .ref x) hC dX7_guard_45 rfl rfl ?_
          refine md_get (pc := 46) (i := 15) hC (by decide) tw_1201 dX7_guard_46 hI rfl ?_
          refine sg_iload_n (pc := 49) (x := nI t.toNatClampNeg) hC dX7_guard_49 rfl ?_
          refine md_iald (pc := 50) (i := 15) (j := t.toNatClampNeg) hC dX7_guard_50 hI rfl (by first | omega | exact Nat.lt_of_le_of_lt Nat.and_le_left (by omega) | exact Nat.or_lt_two_pow (n := 16) (by omega) (by omega) | (simp [md_set, va_up]; done) | (simp [md_set, va_up]; omega) | exact Nat.or_lt_two_pow (n := 6) (by omega) (by omega)) (by decide) (fun hv18 => ?_)
          have hv18 : N 15 t.toNatClampNeg < 65536 := hv18
          show sg_W X M 0 0 51 [some (.ref x), some (.int (nI t.toNatClampNeg)), some (.int ((-1))), some (.int (nI slot.toNatClampNeg)), none] [.int (nI (N 15 t.toNatClampNeg))]
          have hW19 := hfr t.toNatClampNeg
          refine sg_ifN_ne (pc := 51) (a := N 15 t.toNatClampNeg) 60 hC dX7_guard_51 (by decide) (by first | omega | exact Nat.lt_of_le_of_lt Nat.and_le_left (by omega) | exact Nat.or_lt_two_pow (n := 16) (by omega) (by omega) | (simp [md_set, va_up]; done) | (simp [md_set, va_up]; omega) | exact Nat.or_lt_two_pow (n := 6) (by omega) (by omega)) (fun h20 => ?_) (fun h20 => ?_)
          · refine sg_bipush (pc := 60) (nI 10) hC dX7_guard_60 (by decide) ?_
            refine sg_iload_n (pc := 62) (x := nI t.toNatClampNeg) hC dX7_guard_62 rfl ?_
            refine sg_imulN (pc := 63) (a := 10) (b := t.toNatClampNeg) hC dX7_guard_63 ?_
            refine sg_aload_n (pc := 64) (v := .ref x) hC dX7_guard_64 rfl rfl ?_
            refine md_get (pc := 65) (i := 15) hC (by decide) tw_1201 dX7_guard_65 hI rfl ?_
            refine sg_iload_n (pc := 68) (x := nI t.toNatClampNeg) hC dX7_guard_68 rfl ?_
            refine md_iald (pc := 69) (i := 15) (j := t.toNatClampNeg) hC dX7_guard_69 hI rfl (by first | omega | exact Nat.lt_of_le_of_lt Nat.and_le_left (by omega) | exact Nat.or_lt_two_pow (n := 16) (by omega) (by omega) | (simp [md_set, va_up]; done) | (simp [md_set, va_up]; omega) | exact Nat.or_lt_two_pow (n := 6) (by omega) (by omega)) (by decide) (fun hv21 => ?_)
            have hv21 : N 15 t.toNatClampNeg < 65536 := hv21
            show sg_W X M 0 0 70 [some (.ref x), some (.int (nI t.toNatClampNeg)), some (.int ((-1))), some (.int (nI slot.toNatClampNeg)), none] [.int (nI (N 15 t.toNatClampNeg)), .int (nI (10 * t.toNatClampNeg))]
            have hW22 := hfr t.toNatClampNeg
            refine sg_iaddN (pc := 70) (a := 10 * t.toNatClampNeg) (b := N 15 t.toNatClampNeg) hC dX7_guard_70 ?_
            refine sg_iconst (pc := 71) (nI 1) hC dX7_guard_71 (by decide) ?_
            refine sg_isubN (pc := 72) (a := (10 * t.toNatClampNeg) + (N 15 t.toNatClampNeg)) (b := 1) hC dX7_guard_72 (by first | omega | exact Nat.lt_of_le_of_lt Nat.and_le_left (by omega) | exact Nat.or_lt_two_pow (n := 16) (by omega) (by omega) | (simp [md_set, va_up]; done) | (simp [md_set, va_up]; omega) | exact Nat.or_lt_two_pow (n := 6) (by omega) (by omega)) ?_
            refine sg_istore (pc := 73) (x := nI (((10 * t.toNatClampNeg) + (N 15 t.toNatClampNeg)) - 1)) hC dX7_guard_73 (by decide) ?_
            show sg_W X M 0 0 75 [some (.ref x), some (.int (nI t.toNatClampNeg)), some (.int ((-1))), some (.int (nI slot.toNatClampNeg)), some (.int (nI (((10 * t.toNatClampNeg) + (N 15 t.toNatClampNeg)) - 1)))] []
            refine sg_aload_n (pc := 75) (v := .ref x) hC dX7_guard_75 rfl rfl ?_
            refine md_get (pc := 76) (i := 17) hC (by decide) tw_1203 dX7_guard_76 hI rfl ?_
            refine sg_iload (pc := 79) (x := nI (((10 * t.toNatClampNeg) + (N 15 t.toNatClampNeg)) - 1)) hC dX7_guard_79 rfl ?_
            refine sg_iconst (pc := 81) (nI 1) hC dX7_guard_81 (by decide) ?_
            refine md_zast (pc := 82) (i := 17) (j := ((10 * t.toNatClampNeg) + (N 15 t.toNatClampNeg)) - 1) (v := 1) hC dX7_guard_82 hI rfl (by first | omega | exact Nat.lt_of_le_of_lt Nat.and_le_left (by omega) | exact Nat.or_lt_two_pow (n := 16) (by omega) (by omega) | (simp [md_set, va_up]; done) | (simp [md_set, va_up]; omega) | exact Nat.or_lt_two_pow (n := 6) (by omega) (by omega)) (by decide) (by first | omega | exact Nat.lt_of_le_of_lt Nat.and_le_left (by omega) | exact Nat.or_lt_two_pow (n := 16) (by omega) (by omega) | (simp [md_set, va_up]; done) | (simp [md_set, va_up]; omega) | exact Nat.or_lt_two_pow (n := 6) (by omega) (by omega)) (fun M hI => ?_)
            refine sg_aload_n (pc := 83) (v := .ref x) hC dX7_guard_83 rfl rfl ?_
            refine md_get (pc := 84) (i := 18) hC (by decide) tw_1204 dX7_guard_84 hI rfl ?_
            refine sg_iload (pc := 87) (x := nI (((10 * t.toNatClampNeg) + (N 15 t.toNatClampNeg)) - 1)) hC dX7_guard_87 rfl ?_
            refine sg_iload_n (pc := 89) (x := ((-1))) hC dX7_guard_89 rfl ?_
            refine sg_if_ge (pc := 90) (x := (-1)) 97 hC dX7_guard_90 (by decide) (fun h => by exfalso; revert h; decide) (fun _ => ?_)
            refine sg_iconst (pc := 93) (nI 0) hC dX7_guard_93 (by decide) ?_
            refine sg_goto (pc := 94) 103 hC dX7_guard_94 (by decide) ?_
            refine md_iast (pc := 103) (i := 18) (j := ((10 * t.toNatClampNeg) + (N 15 t.toNatClampNeg)) - 1) (v := 0) hC dX7_guard_103 hI rfl (by first | omega | exact Nat.lt_of_le_of_lt Nat.and_le_left (by omega) | exact Nat.or_lt_two_pow (n := 16) (by omega) (by omega) | (simp [md_set, va_up]; done) | (simp [md_set, va_up]; omega) | exact Nat.or_lt_two_pow (n := 6) (by omega) (by omega)) (by decide) (by first | omega | exact Nat.lt_of_le_of_lt Nat.and_le_left (by omega) | exact Nat.or_lt_two_pow (n := 16) (by omega) (by omega) | (simp [md_set, va_up]; done) | (simp [md_set, va_up]; omega) | exact Nat.or_lt_two_pow (n := 6) (by omega) (by omega)) (fun M hI => ?_)
            refine sg_aload_n (pc := 104) (v := .ref x) hC dX7_guard_104 rfl rfl ?_
            refine md_get (pc := 105) (i := 3) hC (by decide) tw_1189 dX7_guard_105 hI rfl ?_
            refine sg_bipush (pc := 108) (nI 44) hC dX7_guard_108 (by decide) ?_
            refine sg_iload (pc := 110) (x := nI (((10 * t.toNatClampNeg) + (N 15 t.toNatClampNeg)) - 1)) hC dX7_guard_110 rfl ?_
            refine sg_iaddN (pc := 112) (a := 44) (b := ((10 * t.toNatClampNeg) + (N 15 t.toNatClampNeg)) - 1) hC dX7_guard_112 ?_
            refine sg_iconst (pc := 113) (nI 0) hC dX7_guard_113 (by decide) ?_
            refine md_iast (pc := 114) (i := 3) (j := 44 + (((10 * t.toNatClampNeg) + (N 15 t.toNatClampNeg)) - 1)) (v := 0) hC dX7_guard_114 hI rfl (by first | omega | exact Nat.lt_of_le_of_lt Nat.and_le_left (by omega) | exact Nat.or_lt_two_pow (n := 16) (by omega) (by omega) | (simp [md_set, va_up]; done) | (simp [md_set, va_up]; omega) | exact Nat.or_lt_two_pow (n := 6) (by omega) (by omega)) (by decide) (by first | omega | exact Nat.lt_of_le_of_lt Nat.and_le_left (by omega) | exact Nat.or_lt_two_pow (n := 16) (by omega) (by omega) | (simp [md_set, va_up]; done) | (simp [md_set, va_up]; omega) | exact Nat.or_lt_two_pow (n := 6) (by omega) (by omega)) (fun M hI => ?_)
            refine sg_iload_n (pc := 115) (x := nI slot.toNatClampNeg) hC dX7_guard_115 rfl ?_
            refine sg_ifN_lt (pc := 116) (a := slot.toNatClampNeg) 129 hC dX7_guard_116 (by decide) (by first | omega | exact Nat.lt_of_le_of_lt Nat.and_le_left (by omega) | exact Nat.or_lt_two_pow (n := 16) (by omega) (by omega) | (simp [md_set, va_up]; done) | (simp [md_set, va_up]; omega) | exact Nat.or_lt_two_pow (n := 6) (by omega) (by omega)) (fun h23 => ?_) (fun h23 => ?_)
            · have e9 : md_guard N t ctx slot = (md_set (md_set (md_set (md_set N 0 0 0) 17 (((10 * t.toNatClampNeg) + (N 15 t.toNatClampNeg)) - 1) 1) 18 (((10 * t.toNatClampNeg) + (N 15 t.toNatClampNeg)) - 1) 0) 3 (44 + (((10 * t.toNatClampNeg) + (N 15 t.toNatClampNeg)) - 1)) 0) := by rw [md_guard]; simp only [if_pos h1, if_pos h6, if_neg h7, if_pos h13, if_neg h20, if_pos h23]
              rw [e9] at hk
              exact sg_vreturn (st := []) (pc := 129) hC hR dX7_guard_129 (hk M hI)
            · refine sg_aload_n (pc := 119) (v := .ref x) hC dX7_guard_119 rfl rfl ?_
              refine sg_iload_n (pc := 120) (x := nI slot.toNatClampNeg) hC dX7_guard_120 rfl ?_
              refine sg_bipush (pc := 121) (nI 44) hC dX7_guard_121 (by decide) ?_
              refine sg_iload (pc := 123) (x := nI (((10 * t.toNatClampNeg) + (N 15 t.toNatClampNeg)) - 1)) hC dX7_guard_123 rfl ?_
              refine sg_iaddN (pc := 125) (a := 44) (b := ((10 * t.toNatClampNeg) + (N 15 t.toNatClampNeg)) - 1) hC dX7_guard_125 ?_
              refine sg_callV (pc := 126) (As := [.int (nI slot.toNatClampNeg), .int (nI (44 + (((10 * t.toNatClampNeg) + (N 15 t.toNatClampNeg)) - 1)))]) (rest := []) (mc := 0) (ms := 0) hC tw_1329 tw_1331 tw_44 tw_72 tw_1332 yd_X7_copy (by decide) (ci := 10) rfl dX7_guard_126 hI.x rfl (Nat.le_of_ble_eq_true rfl) (Nat.zero_le _) (Nat.zero_le _) ?_
              refine mm_copy htr hI slot.toNatClampNeg (44 + (((10 * t.toNatClampNeg) + (N 15 t.toNatClampNeg)) - 1)) (by first | omega | exact Nat.lt_of_le_of_lt Nat.and_le_left (by omega) | exact Nat.or_lt_two_pow (n := 16) (by omega) (by omega) | (simp [md_set, va_up]; done) | (simp [md_set, va_up]; omega) | exact Nat.or_lt_two_pow (n := 6) (by omega) (by omega)) (by first | omega | exact Nat.lt_of_le_of_lt Nat.and_le_left (by omega) | exact Nat.or_lt_two_pow (n := 16) (by omega) (by omega) | (simp [md_set, va_up]; done) | (simp [md_set, va_up]; omega) | exact Nat.or_lt_two_pow (n := 6) (by omega) (by omega)) (fun M hI => ?_)
              show sg_W X M 0 0 129 [some (.ref x), some (.int (nI t.toNatClampNeg)), some (.int ((-1))), some (.int (nI slot.toNatClampNeg)), some (.int (nI (((10 * t.toNatClampNeg) + (N 15 t.toNatClampNeg)) - 1)))] []
              have hw9 : ∀ r, (md_copy (md_set (md_set (md_set (md_set N 0 0 0) 17 (((10 * t.toNatClampNeg) + (N 15 t.toNatClampNeg)) - 1) 1) 18 (((10 * t.toNatClampNeg) + (N 15 t.toNatClampNeg)) - 1) 0) 3 (44 + (((10 * t.toNatClampNeg) + (N 15 t.toNatClampNeg)) - 1)) 0) slot.toNatClampNeg (44 + (((10 * t.toNatClampNeg) + (N 15 t.toNatClampNeg)) - 1))) 4 r ≤ 3 := md_copy_lab (fun r9 => hw r9)
              have hg9 : ∀ r, (md_copy (md_set (md_set (md_set (md_set N 0 0 0) 17 (((10 * t.toNatClampNeg) + (N 15 t.toNatClampNeg)) - 1) 1) 18 (((10 * t.toNatClampNeg) + (N 15 t.toNatClampNeg)) - 1) 0) 3 (44 + (((10 * t.toNatClampNeg) + (N 15 t.toNatClampNeg)) - 1)) 0) slot.toNatClampNeg (44 + (((10 * t.toNatClampNeg) + (N 15 t.toNatClampNeg)) - 1))) 12 r ≤ 6 := fun r9 => hg r9
              have e9 : md_guard N t ctx slot = (md_copy (md_set (md_set (md_set (md_set N 0 0 0) 17 (((10 * t.toNatClampNeg) + (N 15 t.toNatClampNeg)) - 1) 1) 18 (((10 * t.toNatClampNeg) + (N 15 t.toNatClampNeg)) - 1) 0) 3 (44 + (((10 * t.toNatClampNeg) + (N 15 t.toNatClampNeg)) - 1)) 0) slot.toNatClampNeg (44 + (((10 * t.toNatClampNeg) + (N 15 t.toNatClampNeg)) - 1))) := by rw [md_guard]; simp only [if_pos h1, if_pos h6, if_neg h7, if_pos h13, if_neg h20, if_neg (Nat.not_lt.mpr h23)]
              rw [e9] at hk
              exact sg_vreturn (st := []) (pc := 129) hC hR dX7_guard_129 (hk M hI)
          · refine sg_aload_n (pc := 54) (v := .ref x) hC dX7_guard_54 rfl rfl ?_
            refine sg_iconst (pc := 55) (nI 2) hC dX7_guard_55 (by decide) ?_
            refine md_put0 (pc := 56) (v := 2) hC tw_1186 dX7_guard_56 hI (by first | omega | exact Nat.lt_of_le_of_lt Nat.and_le_left (by omega) | exact Nat.or_lt_two_pow (n := 16) (by omega) (by omega) | (simp [md_set, va_up]; done) | (simp [md_set, va_up]; omega) | exact Nat.or_lt_two_pow (n := 6) (by omega) (by omega)) (fun M hI => ?_)
            have e9 : md_guard N t ctx slot = (md_set (md_set N 0 0 0) 0 0 2) := by rw [md_guard]; simp only [if_pos h1, if_pos h6, if_neg h7, if_pos h13, if_pos h20]
            rw [e9] at hk
            exact sg_vreturn (st := []) (pc := 59) hC hR dX7_guard_59 (hk M hI)
        · refine sg_aload_n (pc := 39) (v := .ref x) hC dX7_guard_39 rfl rfl ?_
          refine sg_iconst (pc := 40) (nI 1) hC dX7_guard_40 (by decide) ?_
          refine md_put0 (pc := 41) (v := 1) hC tw_1186 dX7_guard_41 hI (by first | omega | exact Nat.lt_of_le_of_lt Nat.and_le_left (by omega) | exact Nat.or_lt_two_pow (n := 16) (by omega) (by omega) | (simp [md_set, va_up]; done) | (simp [md_set, va_up]; omega) | exact Nat.or_lt_two_pow (n := 6) (by omega) (by omega)) (fun M hI => ?_)
          have e9 : md_guard N t ctx slot = (md_set (md_set N 0 0 0) 0 0 1) := by rw [md_guard]; simp only [if_pos h1, if_pos h6, if_neg h7, if_neg (ts9 h13)]
          rw [e9] at hk
          exact sg_vreturn (st := []) (pc := 44) hC hR dX7_guard_44 (hk M hI)
    · refine sg_aload_n (pc := 18) (v := .ref x) hC dX7_guard_18 rfl rfl ?_
      refine sg_iload_n (pc := 19) (x := ctx) hC dX7_guard_19 rfl ?_
      refine sg_callV (pc := 20) (As := [.int ctx]) (rest := []) (mc := 0) (ms := 0) hC tw_1413 tw_1415 tw_57 tw_72 tw_1416 yd_X7_isContext (by decide) (ci := 10) rfl dX7_guard_20 hI.x rfl (Nat.le_of_ble_eq_true rfl) (Nat.zero_le _) (Nat.zero_le _) ?_
      refine mm_isContext htr hI ctx  ?_
      show sg_W X M 0 0 23 [some (.ref x), some (.int (nI t.toNatClampNeg)), some (.int ctx), some (.int slot), none] [.int (md_b ((md_isContext (md_set N 0 0 0) ctx)))]
      refine sg_ifB_eq (pc := 23) (b := (md_isContext (md_set N 0 0 0) ctx)) 39 hC dX7_guard_23 (by decide) (fun h24 => ?_) (fun h24 => ?_)
      · refine sg_aload_n (pc := 39) (v := .ref x) hC dX7_guard_39 rfl rfl ?_
        refine sg_iconst (pc := 40) (nI 1) hC dX7_guard_40 (by decide) ?_
        refine md_put0 (pc := 41) (v := 1) hC tw_1186 dX7_guard_41 hI (by first | omega | exact Nat.lt_of_le_of_lt Nat.and_le_left (by omega) | exact Nat.or_lt_two_pow (n := 16) (by omega) (by omega) | (simp [md_set, va_up]; done) | (simp [md_set, va_up]; omega) | exact Nat.or_lt_two_pow (n := 6) (by omega) (by omega)) (fun M hI => ?_)
        have e9 : md_guard N t ctx slot = (md_set (md_set N 0 0 0) 0 0 1) := by rw [md_guard]; simp only [if_pos h1, if_neg h6, if_neg (ts9 h24)]
        rw [e9] at hk
        exact sg_vreturn (st := []) (pc := 44) hC hR dX7_guard_44 (hk M hI)
      · obtain ⟨hs25, hs26⟩ := md_isContext_nat h24
        rw [hs25]
        show sg_W X M 0 0 26 [some (.ref x), some (.int (nI t.toNatClampNeg)), some (.int (nI ctx.toNatClampNeg)), some (.int slot), none] []
        obtain ⟨hs27, hs28⟩ := hs26
        refine sg_iload_n (pc := 26) (x := slot) hC dX7_guard_26 rfl ?_
        refine sg_iconst (pc := 27) (((-1))) hC dX7_guard_27 (by decide) ?_
        refine sg_icmp_eq (pc := 28) (x := slot) (y := ((-1))) 45 hC dX7_guard_28 (by decide) (fun h29 => ?_) (fun h29 => ?_)
        · rw [h29]
          show sg_W X M 0 0 45 [some (.ref x), some (.int (nI t.toNatClampNeg)), some (.int (nI ctx.toNatClampNeg)), some (.int ((-1))), none] []
          refine sg_aload_n (pc := 45) (v := .ref x) hC dX7_guard_45 rfl rfl ?_
          refine md_get (pc := 46) (i := 15) hC (by decide) tw_1201 dX7_guard_46 hI rfl ?_
          refine sg_iload_n (pc := 49) (x := nI t.toNatClampNeg) hC dX7_guard_49 rfl ?_
          refine md_iald (pc := 50) (i := 15) (j := t.toNatClampNeg) hC dX7_guard_50 hI rfl (by first | omega | exact Nat.lt_of_le_of_lt Nat.and_le_left (by omega) | exact Nat.or_lt_two_pow (n := 16) (by omega) (by omega) | (simp [md_set, va_up]; done) | (simp [md_set, va_up]; omega) | exact Nat.or_lt_two_pow (n := 6) (by omega) (by omega)) (by decide) (fun hv30 => ?_)
          have hv30 : N 15 t.toNatClampNeg < 65536 := hv30
          show sg_W X M 0 0 51 [some (.ref x), some (.int (nI t.toNatClampNeg)), some (.int (nI ctx.toNatClampNeg)), some (.int ((-1))), none] [.int (nI (N 15 t.toNatClampNeg))]
          have hW31 := hfr t.toNatClampNeg
          refine sg_ifN_ne (pc := 51) (a := N 15 t.toNatClampNeg) 60 hC dX7_guard_51 (by decide) (by first | omega | exact Nat.lt_of_le_of_lt Nat.and_le_left (by omega) | exact Nat.or_lt_two_pow (n := 16) (by omega) (by omega) | (simp [md_set, va_up]; done) | (simp [md_set, va_up]; omega) | exact Nat.or_lt_two_pow (n := 6) (by omega) (by omega)) (fun h32 => ?_) (fun h32 => ?_)
          · refine sg_bipush (pc := 60) (nI 10) hC dX7_guard_60 (by decide) ?_
            refine sg_iload_n (pc := 62) (x := nI t.toNatClampNeg) hC dX7_guard_62 rfl ?_
            refine sg_imulN (pc := 63) (a := 10) (b := t.toNatClampNeg) hC dX7_guard_63 ?_
            refine sg_aload_n (pc := 64) (v := .ref x) hC dX7_guard_64 rfl rfl ?_
            refine md_get (pc := 65) (i := 15) hC (by decide) tw_1201 dX7_guard_65 hI rfl ?_
            refine sg_iload_n (pc := 68) (x := nI t.toNatClampNeg) hC dX7_guard_68 rfl ?_
            refine md_iald (pc := 69) (i := 15) (j := t.toNatClampNeg) hC dX7_guard_69 hI rfl (by first | omega | exact Nat.lt_of_le_of_lt Nat.and_le_left (by omega) | exact Nat.or_lt_two_pow (n := 16) (by omega) (by omega) | (simp [md_set, va_up]; done) | (simp [md_set, va_up]; omega) | exact Nat.or_lt_two_pow (n := 6) (by omega) (by omega)) (by decide) (fun hv33 => ?_)
            have hv33 : N 15 t.toNatClampNeg < 65536 := hv33
            show sg_W X M 0 0 70 [some (.ref x), some (.int (nI t.toNatClampNeg)), some (.int (nI ctx.toNatClampNeg)), some (.int ((-1))), none] [.int (nI (N 15 t.toNatClampNeg)), .int (nI (10 * t.toNatClampNeg))]
            have hW34 := hfr t.toNatClampNeg
            refine sg_iaddN (pc := 70) (a := 10 * t.toNatClampNeg) (b := N 15 t.toNatClampNeg) hC dX7_guard_70 ?_
            refine sg_iconst (pc := 71) (nI 1) hC dX7_guard_71 (by decide) ?_
            refine sg_isubN (pc := 72) (a := (10 * t.toNatClampNeg) + (N 15 t.toNatClampNeg)) (b := 1) hC dX7_guard_72 (by first | omega | exact Nat.lt_of_le_of_lt Nat.and_le_left (by omega) | exact Nat.or_lt_two_pow (n := 16) (by omega) (by omega) | (simp [md_set, va_up]; done) | (simp [md_set, va_up]; omega) | exact Nat.or_lt_two_pow (n := 6) (by omega) (by omega)) ?_
            refine sg_istore (pc := 73) (x := nI (((10 * t.toNatClampNeg) + (N 15 t.toNatClampNeg)) - 1)) hC dX7_guard_73 (by decide) ?_
            show sg_W X M 0 0 75 [some (.ref x), some (.int (nI t.toNatClampNeg)), some (.int (nI ctx.toNatClampNeg)), some (.int ((-1))), some (.int (nI (((10 * t.toNatClampNeg) + (N 15 t.toNatClampNeg)) - 1)))] []
            refine sg_aload_n (pc := 75) (v := .ref x) hC dX7_guard_75 rfl rfl ?_
            refine md_get (pc := 76) (i := 17) hC (by decide) tw_1203 dX7_guard_76 hI rfl ?_
            refine sg_iload (pc := 79) (x := nI (((10 * t.toNatClampNeg) + (N 15 t.toNatClampNeg)) - 1)) hC dX7_guard_79 rfl ?_
            refine sg_iconst (pc := 81) (nI 1) hC dX7_guard_81 (by decide) ?_
            refine md_zast (pc := 82) (i := 17) (j := ((10 * t.toNatClampNeg) + (N 15 t.toNatClampNeg)) - 1) (v := 1) hC dX7_guard_82 hI rfl (by first | omega | exact Nat.lt_of_le_of_lt Nat.and_le_left (by omega) | exact Nat.or_lt_two_pow (n := 16) (by omega) (by omega) | (simp [md_set, va_up]; done) | (simp [md_set, va_up]; omega) | exact Nat.or_lt_two_pow (n := 6) (by omega) (by omega)) (by decide) (by first | omega | exact Nat.lt_of_le_of_lt Nat.and_le_left (by omega) | exact Nat.or_lt_two_pow (n := 16) (by omega) (by omega) | (simp [md_set, va_up]; done) | (simp [md_set, va_up]; omega) | exact Nat.or_lt_two_pow (n := 6) (by omega) (by omega)) (fun M hI => ?_)
            refine sg_aload_n (pc := 83) (v := .ref x) hC dX7_guard_83 rfl rfl ?_
            refine md_get (pc := 84) (i := 18) hC (by decide) tw_1204 dX7_guard_84 hI rfl ?_
            refine sg_iload (pc := 87) (x := nI (((10 * t.toNatClampNeg) + (N 15 t.toNatClampNeg)) - 1)) hC dX7_guard_87 rfl ?_
            refine sg_iload_n (pc := 89) (x := nI ctx.toNatClampNeg) hC dX7_guard_89 rfl ?_
            refine sg_ifN_ge (pc := 90) (a := ctx.toNatClampNeg) 97 hC dX7_guard_90 (by decide) (by first | omega | exact Nat.lt_of_le_of_lt Nat.and_le_left (by omega) | exact Nat.or_lt_two_pow (n := 16) (by omega) (by omega) | (simp [md_set, va_up]; done) | (simp [md_set, va_up]; omega) | exact Nat.or_lt_two_pow (n := 6) (by omega) (by omega)) (fun h35 => ?_) (fun h35 => ?_)
            · refine sg_aload_n (pc := 97) (v := .ref x) hC dX7_guard_97 rfl rfl ?_
              refine md_get (pc := 98) (i := 20) hC (by decide) tw_1206 dX7_guard_98 hI rfl ?_
              refine sg_iload_n (pc := 101) (x := nI ctx.toNatClampNeg) hC dX7_guard_101 rfl ?_
              refine md_iald (pc := 102) (i := 20) (j := ctx.toNatClampNeg) hC dX7_guard_102 hI rfl (by first | omega | exact Nat.lt_of_le_of_lt Nat.and_le_left (by omega) | exact Nat.or_lt_two_pow (n := 16) (by omega) (by omega) | (simp [md_set, va_up]; done) | (simp [md_set, va_up]; omega) | exact Nat.or_lt_two_pow (n := 6) (by omega) (by omega)) (by decide) (fun hv36 => ?_)
              have hv36 : N 20 ctx.toNatClampNeg < 65536 := hv36
              show sg_W X M 0 0 103 [some (.ref x), some (.int (nI t.toNatClampNeg)), some (.int (nI ctx.toNatClampNeg)), some (.int ((-1))), some (.int (nI (((10 * t.toNatClampNeg) + (N 15 t.toNatClampNeg)) - 1)))] [.int (nI (N 20 ctx.toNatClampNeg)), .int (nI (((10 * t.toNatClampNeg) + (N 15 t.toNatClampNeg)) - 1)), .ref (ad 18)]
              have hW37 := hcx ctx.toNatClampNeg
              refine md_iast (pc := 103) (i := 18) (j := ((10 * t.toNatClampNeg) + (N 15 t.toNatClampNeg)) - 1) (v := N 20 ctx.toNatClampNeg) hC dX7_guard_103 hI rfl (by first | omega | exact Nat.lt_of_le_of_lt Nat.and_le_left (by omega) | exact Nat.or_lt_two_pow (n := 16) (by omega) (by omega) | (simp [md_set, va_up]; done) | (simp [md_set, va_up]; omega) | exact Nat.or_lt_two_pow (n := 6) (by omega) (by omega)) (by decide) (by first | omega | exact Nat.lt_of_le_of_lt Nat.and_le_left (by omega) | exact Nat.or_lt_two_pow (n := 16) (by omega) (by omega) | (simp [md_set, va_up]; done) | (simp [md_set, va_up]; omega) | exact Nat.or_lt_two_pow (n := 6) (by omega) (by omega)) (fun M hI => ?_)
              refine sg_aload_n (pc := 104) (v := .ref x) hC dX7_guard_104 rfl rfl ?_
              refine md_get (pc := 105) (i := 3) hC (by decide) tw_1189 dX7_guard_105 hI rfl ?_
              refine sg_bipush (pc := 108) (nI 44) hC dX7_guard_108 (by decide) ?_
              refine sg_iload (pc := 110) (x := nI (((10 * t.toNatClampNeg) + (N 15 t.toNatClampNeg)) - 1)) hC dX7_guard_110 rfl ?_
              refine sg_iaddN (pc := 112) (a := 44) (b := ((10 * t.toNatClampNeg) + (N 15 t.toNatClampNeg)) - 1) hC dX7_guard_112 ?_
              refine sg_iconst (pc := 113) (nI 0) hC dX7_guard_113 (by decide) ?_
              refine md_iast (pc := 114) (i := 3) (j := 44 + (((10 * t.toNatClampNeg) + (N 15 t.toNatClampNeg)) - 1)) (v := 0) hC dX7_guard_114 hI rfl (by first | omega | exact Nat.lt_of_le_of_lt Nat.and_le_left (by omega) | exact Nat.or_lt_two_pow (n := 16) (by omega) (by omega) | (simp [md_set, va_up]; done) | (simp [md_set, va_up]; omega) | exact Nat.or_lt_two_pow (n := 6) (by omega) (by omega)) (by decide) (by first | omega | exact Nat.lt_of_le_of_lt Nat.and_le_left (by omega) | exact Nat.or_lt_two_pow (n := 16) (by omega) (by omega) | (simp [md_set, va_up]; done) | (simp [md_set, va_up]; omega) | exact Nat.or_lt_two_pow (n := 6) (by omega) (by omega)) (fun M hI => ?_)
              refine sg_iload_n (pc := 115) (x := ((-1))) hC dX7_guard_115 rfl ?_
              refine sg_if_lt (pc := 116) (x := (-1)) 129 hC dX7_guard_116 (by decide) (fun _ => ?_) (fun h => by exfalso; revert h; decide)
              have e9 : md_guard N t ctx slot = (md_set (md_set (md_set (md_set N 0 0 0) 17 (((10 * t.toNatClampNeg) + (N 15 t.toNatClampNeg)) - 1) 1) 18 (((10 * t.toNatClampNeg) + (N 15 t.toNatClampNeg)) - 1) (N 20 ctx.toNatClampNeg)) 3 (44 + (((10 * t.toNatClampNeg) + (N 15 t.toNatClampNeg)) - 1)) 0) := by rw [md_guard]; simp only [if_pos h1, if_neg h6, if_pos h24, if_pos h29, if_neg h32, if_pos h35]
              rw [e9] at hk
              exact sg_vreturn (st := []) (pc := 129) hC hR dX7_guard_129 (hk M hI)
            · refine sg_iconst (pc := 93) (nI 0) hC dX7_guard_93 (by decide) ?_
              refine sg_goto (pc := 94) 103 hC dX7_guard_94 (by decide) ?_
              refine md_iast (pc := 103) (i := 18) (j := ((10 * t.toNatClampNeg) + (N 15 t.toNatClampNeg)) - 1) (v := 0) hC dX7_guard_103 hI rfl (by first | omega | exact Nat.lt_of_le_of_lt Nat.and_le_left (by omega) | exact Nat.or_lt_two_pow (n := 16) (by omega) (by omega) | (simp [md_set, va_up]; done) | (simp [md_set, va_up]; omega) | exact Nat.or_lt_two_pow (n := 6) (by omega) (by omega)) (by decide) (by first | omega | exact Nat.lt_of_le_of_lt Nat.and_le_left (by omega) | exact Nat.or_lt_two_pow (n := 16) (by omega) (by omega) | (simp [md_set, va_up]; done) | (simp [md_set, va_up]; omega) | exact Nat.or_lt_two_pow (n := 6) (by omega) (by omega)) (fun M hI => ?_)
              refine sg_aload_n (pc := 104) (v := .ref x) hC dX7_guard_104 rfl rfl ?_
              refine md_get (pc := 105) (i := 3) hC (by decide) tw_1189 dX7_guard_105 hI rfl ?_
              refine sg_bipush (pc := 108) (nI 44) hC dX7_guard_108 (by decide) ?_
              refine sg_iload (pc := 110) (x := nI (((10 * t.toNatClampNeg) + (N 15 t.toNatClampNeg)) - 1)) hC dX7_guard_110 rfl ?_
              refine sg_iaddN (pc := 112) (a := 44) (b := ((10 * t.toNatClampNeg) + (N 15 t.toNatClampNeg)) - 1) hC dX7_guard_112 ?_
              refine sg_iconst (pc := 113) (nI 0) hC dX7_guard_113 (by decide) ?_
              refine md_iast (pc := 114) (i := 3) (j := 44 + (((10 * t.toNatClampNeg) + (N 15 t.toNatClampNeg)) - 1)) (v := 0) hC dX7_guard_114 hI rfl (by first | omega | exact Nat.lt_of_le_of_lt Nat.and_le_left (by omega) | exact Nat.or_lt_two_pow (n := 16) (by omega) (by omega) | (simp [md_set, va_up]; done) | (simp [md_set, va_up]; omega) | exact Nat.or_lt_two_pow (n := 6) (by omega) (by omega)) (by decide) (by first | omega | exact Nat.lt_of_le_of_lt Nat.and_le_left (by omega) | exact Nat.or_lt_two_pow (n := 16) (by omega) (by omega) | (simp [md_set, va_up]; done) | (simp [md_set, va_up]; omega) | exact Nat.or_lt_two_pow (n := 6) (by omega) (by omega)) (fun M hI => ?_)
              refine sg_iload_n (pc := 115) (x := ((-1))) hC dX7_guard_115 rfl ?_
              refine sg_if_lt (pc := 116) (x := (-1)) 129 hC dX7_guard_116 (by decide) (fun _ => ?_) (fun h => by exfalso; revert h; decide)
              have e9 : md_guard N t ctx slot = (md_set (md_set (md_set (md_set N 0 0 0) 17 (((10 * t.toNatClampNeg) + (N 15 t.toNatClampNeg)) - 1) 1) 18 (((10 * t.toNatClampNeg) + (N 15 t.toNatClampNeg)) - 1) 0) 3 (44 + (((10 * t.toNatClampNeg) + (N 15 t.toNatClampNeg)) - 1)) 0) := by rw [md_guard]; simp only [if_pos h1, if_neg h6, if_pos h24, if_pos h29, if_neg h32, if_neg (Nat.not_le.mpr h35)]
              rw [e9] at hk
              exact sg_vreturn (st := []) (pc := 129) hC hR dX7_guard_129 (hk M hI)
          · refine sg_aload_n (pc := 54) (v := .ref x) hC dX7_guard_54 rfl rfl ?_
            refine sg_iconst (pc := 55) (nI 2) hC dX7_guard_55 (by decide) ?_
            refine md_put0 (pc := 56) (v := 2) hC tw_1186 dX7_guard_56 hI (by first | omega | exact Nat.lt_of_le_of_lt Nat.and_le_left (by omega) | exact Nat.or_lt_two_pow (n := 16) (by omega) (by omega) | (simp [md_set, va_up]; done) | (simp [md_set, va_up]; omega) | exact Nat.or_lt_two_pow (n := 6) (by omega) (by omega)) (fun M hI => ?_)
            have e9 : md_guard N t ctx slot = (md_set (md_set N 0 0 0) 0 0 2) := by rw [md_guard]; simp only [if_pos h1, if_neg h6, if_pos h24, if_pos h29, if_pos h32]
            rw [e9] at hk
            exact sg_vreturn (st := []) (pc := 59) hC hR dX7_guard_59 (hk M hI)
        · refine sg_aload_n (pc := 31) (v := .ref x) hC dX7_guard_31 rfl rfl ?_
          refine sg_iload_n (pc := 32) (x := slot) hC dX7_guard_32 rfl ?_
          refine sg_callV (pc := 33) (As := [.int slot]) (rest := []) (mc := 0) (ms := 0) hC tw_1337 tw_1339 tw_45 tw_72 tw_1340 yd_X7_isSlot (by decide) (ci := 10) rfl dX7_guard_33 hI.x rfl (Nat.le_of_ble_eq_true rfl) (Nat.zero_le _) (Nat.zero_le _) ?_
          refine mm_isSlot htr hI slot  ?_
          show sg_W X M 0 0 36 [some (.ref x), some (.int (nI t.toNatClampNeg)), some (.int (nI ctx.toNatClampNeg)), some (.int slot), none] [.int (md_b ((md_isSlot (md_set N 0 0 0) slot)))]
          refine sg_ifB_ne (pc := 36) (b := (md_isSlot (md_set N 0 0 0) slot)) 45 hC dX7_guard_36 (by decide) (fun h38 => ?_) (fun h38 => ?_)
          · obtain ⟨hs39, hs40⟩ := md_isSlot_nat h38
            rw [hs39]
            show sg_W X M 0 0 45 [some (.ref x), some (.int (nI t.toNatClampNeg)), some (.int (nI ctx.toNatClampNeg)), some (.int (nI slot.toNatClampNeg)), none] []
            obtain ⟨hs41, hs42⟩ := hs40
            refine sg_aload_n (pc := 45) (v := .ref x) hC dX7_guard_45 rfl rfl ?_
            refine md_get (pc := 46) (i := 15) hC (by decide) tw_1201 dX7_guard_46 hI rfl ?_
            refine sg_iload_n (pc := 49) (x := nI t.toNatClampNeg) hC dX7_guard_49 rfl ?_
            refine md_iald (pc := 50) (i := 15) (j := t.toNatClampNeg) hC dX7_guard_50 hI rfl (by first | omega | exact Nat.lt_of_le_of_lt Nat.and_le_left (by omega) | exact Nat.or_lt_two_pow (n := 16) (by omega) (by omega) | (simp [md_set, va_up]; done) | (simp [md_set, va_up]; omega) | exact Nat.or_lt_two_pow (n := 6) (by omega) (by omega)) (by decide) (fun hv43 => ?_)
            have hv43 : N 15 t.toNatClampNeg < 65536 := hv43
            show sg_W X M 0 0 51 [some (.ref x), some (.int (nI t.toNatClampNeg)), some (.int (nI ctx.toNatClampNeg)), some (.int (nI slot.toNatClampNeg)), none] [.int (nI (N 15 t.toNatClampNeg))]
            have hW44 := hfr t.toNatClampNeg
            refine sg_ifN_ne (pc := 51) (a := N 15 t.toNatClampNeg) 60 hC dX7_guard_51 (by decide) (by first | omega | exact Nat.lt_of_le_of_lt Nat.and_le_left (by omega) | exact Nat.or_lt_two_pow (n := 16) (by omega) (by omega) | (simp [md_set, va_up]; done) | (simp [md_set, va_up]; omega) | exact Nat.or_lt_two_pow (n := 6) (by omega) (by omega)) (fun h45 => ?_) (fun h45 => ?_)
            · refine sg_bipush (pc := 60) (nI 10) hC dX7_guard_60 (by decide) ?_
              refine sg_iload_n (pc := 62) (x := nI t.toNatClampNeg) hC dX7_guard_62 rfl ?_
              refine sg_imulN (pc := 63) (a := 10) (b := t.toNatClampNeg) hC dX7_guard_63 ?_
              refine sg_aload_n (pc := 64) (v := .ref x) hC dX7_guard_64 rfl rfl ?_
              refine md_get (pc := 65) (i := 15) hC (by decide) tw_1201 dX7_guard_65 hI rfl ?_
              refine sg_iload_n (pc := 68) (x := nI t.toNatClampNeg) hC dX7_guard_68 rfl ?_
              refine md_iald (pc := 69) (i := 15) (j := t.toNatClampNeg) hC dX7_guard_69 hI rfl (by first | omega | exact Nat.lt_of_le_of_lt Nat.and_le_left (by omega) | exact Nat.or_lt_two_pow (n := 16) (by omega) (by omega) | (simp [md_set, va_up]; done) | (simp [md_set, va_up]; omega) | exact Nat.or_lt_two_pow (n := 6) (by omega) (by omega)) (by decide) (fun hv46 => ?_)
              have hv46 : N 15 t.toNatClampNeg < 65536 := hv46
              show sg_W X M 0 0 70 [some (.ref x), some (.int (nI t.toNatClampNeg)), some (.int (nI ctx.toNatClampNeg)), some (.int (nI slot.toNatClampNeg)), none] [.int (nI (N 15 t.toNatClampNeg)), .int (nI (10 * t.toNatClampNeg))]
              have hW47 := hfr t.toNatClampNeg
              refine sg_iaddN (pc := 70) (a := 10 * t.toNatClampNeg) (b := N 15 t.toNatClampNeg) hC dX7_guard_70 ?_
              refine sg_iconst (pc := 71) (nI 1) hC dX7_guard_71 (by decide) ?_
              refine sg_isubN (pc := 72) (a := (10 * t.toNatClampNeg) + (N 15 t.toNatClampNeg)) (b := 1) hC dX7_guard_72 (by first | omega | exact Nat.lt_of_le_of_lt Nat.and_le_left (by omega) | exact Nat.or_lt_two_pow (n := 16) (by omega) (by omega) | (simp [md_set, va_up]; done) | (simp [md_set, va_up]; omega) | exact Nat.or_lt_two_pow (n := 6) (by omega) (by omega)) ?_
              refine sg_istore (pc := 73) (x := nI (((10 * t.toNatClampNeg) + (N 15 t.toNatClampNeg)) - 1)) hC dX7_guard_73 (by decide) ?_
              show sg_W X M 0 0 75 [some (.ref x), some (.int (nI t.toNatClampNeg)), some (.int (nI ctx.toNatClampNeg)), some (.int (nI slot.toNatClampNeg)), some (.int (nI (((10 * t.toNatClampNeg) + (N 15 t.toNatClampNeg)) - 1)))] []
              refine sg_aload_n (pc := 75) (v := .ref x) hC dX7_guard_75 rfl rfl ?_
              refine md_get (pc := 76) (i := 17) hC (by decide) tw_1203 dX7_guard_76 hI rfl ?_
              refine sg_iload (pc := 79) (x := nI (((10 * t.toNatClampNeg) + (N 15 t.toNatClampNeg)) - 1)) hC dX7_guard_79 rfl ?_
              refine sg_iconst (pc := 81) (nI 1) hC dX7_guard_81 (by decide) ?_
              refine md_zast (pc := 82) (i := 17) (j := ((10 * t.toNatClampNeg) + (N 15 t.toNatClampNeg)) - 1) (v := 1) hC dX7_guard_82 hI rfl (by first | omega | exact Nat.lt_of_le_of_lt Nat.and_le_left (by omega) | exact Nat.or_lt_two_pow (n := 16) (by omega) (by omega) | (simp [md_set, va_up]; done) | (simp [md_set, va_up]; omega) | exact Nat.or_lt_two_pow (n := 6) (by omega) (by omega)) (by decide) (by first | omega | exact Nat.lt_of_le_of_lt Nat.and_le_left (by omega) | exact Nat.or_lt_two_pow (n := 16) (by omega) (by omega) | (simp [md_set, va_up]; done) | (simp [md_set, va_up]; omega) | exact Nat.or_lt_two_pow (n := 6) (by omega) (by omega)) (fun M hI => ?_)
              refine sg_aload_n (pc := 83) (v := .ref x) hC dX7_guard_83 rfl rfl ?_
              refine md_get (pc := 84) (i := 18) hC (by decide) tw_1204 dX7_guard_84 hI rfl ?_
              refine sg_iload (pc := 87) (x := nI (((10 * t.toNatClampNeg) + (N 15 t.toNatClampNeg)) - 1)) hC dX7_guard_87 rfl ?_
              refine sg_iload_n (pc := 89) (x := nI ctx.toNatClampNeg) hC dX7_guard_89 rfl ?_
              refine sg_ifN_ge (pc := 90) (a := ctx.toNatClampNeg) 97 hC dX7_guard_90 (by decide) (by first | omega | exact Nat.lt_of_le_of_lt Nat.and_le_left (by omega) | exact Nat.or_lt_two_pow (n := 16) (by omega) (by omega) | (simp [md_set, va_up]; done) | (simp [md_set, va_up]; omega) | exact Nat.or_lt_two_pow (n := 6) (by omega) (by omega)) (fun h48 => ?_) (fun h48 => ?_)
              · refine sg_aload_n (pc := 97) (v := .ref x) hC dX7_guard_97 rfl rfl ?_
                refine md_get (pc := 98) (i := 20) hC (by decide) tw_1206 dX7_guard_98 hI rfl ?_
                refine sg_iload_n (pc := 101) (x := nI ctx.toNatClampNeg) hC dX7_guard_101 rfl ?_
                refine md_iald (pc := 102) (i := 20) (j := ctx.toNatClampNeg) hC dX7_guard_102 hI rfl (by first | omega | exact Nat.lt_of_le_of_lt Nat.and_le_left (by omega) | exact Nat.or_lt_two_pow (n := 16) (by omega) (by omega) | (simp [md_set, va_up]; done) | (simp [md_set, va_up]; omega) | exact Nat.or_lt_two_pow (n := 6) (by omega) (by omega)) (by decide) (fun hv49 => ?_)
                have hv49 : N 20 ctx.toNatClampNeg < 65536 := hv49
                show sg_W X M 0 0 103 [some (.ref x), some (.int (nI t.toNatClampNeg)), some (.int (nI ctx.toNatClampNeg)), some (.int (nI slot.toNatClampNeg)), some (.int (nI (((10 * t.toNatClampNeg) + (N 15 t.toNatClampNeg)) - 1)))] [.int (nI (N 20 ctx.toNatClampNeg)), .int (nI (((10 * t.toNatClampNeg) + (N 15 t.toNatClampNeg)) - 1)), .ref (ad 18)]
                have hW50 := hcx ctx.toNatClampNeg
                refine md_iast (pc := 103) (i := 18) (j := ((10 * t.toNatClampNeg) + (N 15 t.toNatClampNeg)) - 1) (v := N 20 ctx.toNatClampNeg) hC dX7_guard_103 hI rfl (by first | omega | exact Nat.lt_of_le_of_lt Nat.and_le_left (by omega) | exact Nat.or_lt_two_pow (n := 16) (by omega) (by omega) | (simp [md_set, va_up]; done) | (simp [md_set, va_up]; omega) | exact Nat.or_lt_two_pow (n := 6) (by omega) (by omega)) (by decide) (by first | omega | exact Nat.lt_of_le_of_lt Nat.and_le_left (by omega) | exact Nat.or_lt_two_pow (n := 16) (by omega) (by omega) | (simp [md_set, va_up]; done) | (simp [md_set, va_up]; omega) | exact Nat.or_lt_two_pow (n := 6) (by omega) (by omega)) (fun M hI => ?_)
                refine sg_aload_n (pc := 104) (v := .ref x) hC dX7_guard_104 rfl rfl ?_
                refine md_get (pc := 105) (i := 3) hC (by decide) tw_1189 dX7_guard_105 hI rfl ?_
                refine sg_bipush (pc := 108) (nI 44) hC dX7_guard_108 (by decide) ?_
                refine sg_iload (pc := 110) (x := nI (((10 * t.toNatClampNeg) + (N 15 t.toNatClampNeg)) - 1)) hC dX7_guard_110 rfl ?_
                refine sg_iaddN (pc := 112) (a := 44) (b := ((10 * t.toNatClampNeg) + (N 15 t.toNatClampNeg)) - 1) hC dX7_guard_112 ?_
                refine sg_iconst (pc := 113) (nI 0) hC dX7_guard_113 (by decide) ?_
                refine md_iast (pc := 114) (i := 3) (j := 44 + (((10 * t.toNatClampNeg) + (N 15 t.toNatClampNeg)) - 1)) (v := 0) hC dX7_guard_114 hI rfl (by first | omega | exact Nat.lt_of_le_of_lt Nat.and_le_left (by omega) | exact Nat.or_lt_two_pow (n := 16) (by omega) (by omega) | (simp [md_set, va_up]; done) | (simp [md_set, va_up]; omega) | exact Nat.or_lt_two_pow (n := 6) (by omega) (by omega)) (by decide) (by first | omega | exact Nat.lt_of_le_of_lt Nat.and_le_left (by omega) | exact Nat.or_lt_two_pow (n := 16) (by omega) (by omega) | (simp [md_set, va_up]; done) | (simp [md_set, va_up]; omega) | exact Nat.or_lt_two_pow (n := 6) (by omega) (by omega)) (fun M hI => ?_)
                refine sg_iload_n (pc := 115) (x := nI slot.toNatClampNeg) hC dX7_guard_115 rfl ?_
                refine sg_ifN_lt (pc := 116) (a := slot.toNatClampNeg) 129 hC dX7_guard_116 (by decide) (by first | omega | exact Nat.lt_of_le_of_lt Nat.and_le_left (by omega) | exact Nat.or_lt_two_pow (n := 16) (by omega) (by omega) | (simp [md_set, va_up]; done) | (simp [md_set, va_up]; omega) | exact Nat.or_lt_two_pow (n := 6) (by omega) (by omega)) (fun h51 => ?_) (fun h51 => ?_)
                · have e9 : md_guard N t ctx slot = (md_set (md_set (md_set (md_set N 0 0 0) 17 (((10 * t.toNatClampNeg) + (N 15 t.toNatClampNeg)) - 1) 1) 18 (((10 * t.toNatClampNeg) + (N 15 t.toNatClampNeg)) - 1) (N 20 ctx.toNatClampNeg)) 3 (44 + (((10 * t.toNatClampNeg) + (N 15 t.toNatClampNeg)) - 1)) 0) := by rw [md_guard]; simp only [if_pos h1, if_neg h6, if_pos h24, if_neg h29, if_pos h38, if_neg h45, if_pos h48, if_pos h51]
                  rw [e9] at hk
                  exact sg_vreturn (st := []) (pc := 129) hC hR dX7_guard_129 (hk M hI)
                · refine sg_aload_n (pc := 119) (v := .ref x) hC dX7_guard_119 rfl rfl ?_
                  refine sg_iload_n (pc := 120) (x := nI slot.toNatClampNeg) hC dX7_guard_120 rfl ?_
                  refine sg_bipush (pc := 121) (nI 44) hC dX7_guard_121 (by decide) ?_
                  refine sg_iload (pc := 123) (x := nI (((10 * t.toNatClampNeg) + (N 15 t.toNatClampNeg)) - 1)) hC dX7_guard_123 rfl ?_
                  refine sg_iaddN (pc := 125) (a := 44) (b := ((10 * t.toNatClampNeg) + (N 15 t.toNatClampNeg)) - 1) hC dX7_guard_125 ?_
                  refine sg_callV (pc := 126) (As := [.int (nI slot.toNatClampNeg), .int (nI (44 + (((10 * t.toNatClampNeg) + (N 15 t.toNatClampNeg)) - 1)))]) (rest := []) (mc := 0) (ms := 0) hC tw_1329 tw_1331 tw_44 tw_72 tw_1332 yd_X7_copy (by decide) (ci := 10) rfl dX7_guard_126 hI.x rfl (Nat.le_of_ble_eq_true rfl) (Nat.zero_le _) (Nat.zero_le _) ?_
                  refine mm_copy htr hI slot.toNatClampNeg (44 + (((10 * t.toNatClampNeg) + (N 15 t.toNatClampNeg)) - 1)) (by first | omega | exact Nat.lt_of_le_of_lt Nat.and_le_left (by omega) | exact Nat.or_lt_two_pow (n := 16) (by omega) (by omega) | (simp [md_set, va_up]; done) | (simp [md_set, va_up]; omega) | exact Nat.or_lt_two_pow (n := 6) (by omega) (by omega)) (by first | omega | exact Nat.lt_of_le_of_lt Nat.and_le_left (by omega) | exact Nat.or_lt_two_pow (n := 16) (by omega) (by omega) | (simp [md_set, va_up]; done) | (simp [md_set, va_up]; omega) | exact Nat.or_lt_two_pow (n := 6) (by omega) (by omega)) (fun M hI => ?_)
                  show sg_W X M 0 0 129 [some (.ref x), some (.int (nI t.toNatClampNeg)), some (.int (nI ctx.toNatClampNeg)), some (.int (nI slot.toNatClampNeg)), some (.int (nI (((10 * t.toNatClampNeg) + (N 15 t.toNatClampNeg)) - 1)))] []
                  have hw9 : ∀ r, (md_copy (md_set (md_set (md_set (md_set N 0 0 0) 17 (((10 * t.toNatClampNeg) + (N 15 t.toNatClampNeg)) - 1) 1) 18 (((10 * t.toNatClampNeg) + (N 15 t.toNatClampNeg)) - 1) (N 20 ctx.toNatClampNeg)) 3 (44 + (((10 * t.toNatClampNeg) + (N 15 t.toNatClampNeg)) - 1)) 0) slot.toNatClampNeg (44 + (((10 * t.toNatClampNeg) + (N 15 t.toNatClampNeg)) - 1))) 4 r ≤ 3 := md_copy_lab (fun r9 => hw r9)
                  have hg9 : ∀ r, (md_copy (md_set (md_set (md_set (md_set N 0 0 0) 17 (((10 * t.toNatClampNeg) + (N 15 t.toNatClampNeg)) - 1) 1) 18 (((10 * t.toNatClampNeg) + (N 15 t.toNatClampNeg)) - 1) (N 20 ctx.toNatClampNeg)) 3 (44 + (((10 * t.toNatClampNeg) + (N 15 t.toNatClampNeg)) - 1)) 0) slot.toNatClampNeg (44 + (((10 * t.toNatClampNeg) + (N 15 t.toNatClampNeg)) - 1))) 12 r ≤ 6 := fun r9 => hg r9
                  have e9 : md_guard N t ctx slot = (md_copy (md_set (md_set (md_set (md_set N 0 0 0) 17 (((10 * t.toNatClampNeg) + (N 15 t.toNatClampNeg)) - 1) 1) 18 (((10 * t.toNatClampNeg) + (N 15 t.toNatClampNeg)) - 1) (N 20 ctx.toNatClampNeg)) 3 (44 + (((10 * t.toNatClampNeg) + (N 15 t.toNatClampNeg)) - 1)) 0) slot.toNatClampNeg (44 + (((10 * t.toNatClampNeg) + (N 15 t.toNatClampNeg)) - 1))) := by rw [md_guard]; simp only [if_pos h1, if_neg h6, if_pos h24, if_neg h29, if_pos h38, if_neg h45, if_pos h48, if_neg (Nat.not_lt.mpr h51)]
                  rw [e9] at hk
                  exact sg_vreturn (st := []) (pc := 129) hC hR dX7_guard_129 (hk M hI)
              · refine sg_iconst (pc := 93) (nI 0) hC dX7_guard_93 (by decide) ?_
                refine sg_goto (pc := 94) 103 hC dX7_guard_94 (by decide) ?_
                refine md_iast (pc := 103) (i := 18) (j := ((10 * t.toNatClampNeg) + (N 15 t.toNatClampNeg)) - 1) (v := 0) hC dX7_guard_103 hI rfl (by first | omega | exact Nat.lt_of_le_of_lt Nat.and_le_left (by omega) | exact Nat.or_lt_two_pow (n := 16) (by omega) (by omega) | (simp [md_set, va_up]; done) | (simp [md_set, va_up]; omega) | exact Nat.or_lt_two_pow (n := 6) (by omega) (by omega)) (by decide) (by first | omega | exact Nat.lt_of_le_of_lt Nat.and_le_left (by omega) | exact Nat.or_lt_two_pow (n := 16) (by omega) (by omega) | (simp [md_set, va_up]; done) | (simp [md_set, va_up]; omega) | exact Nat.or_lt_two_pow (n := 6) (by omega) (by omega)) (fun M hI => ?_)
                refine sg_aload_n (pc := 104) (v := .ref x) hC dX7_guard_104 rfl rfl ?_
                refine md_get (pc := 105) (i := 3) hC (by decide) tw_1189 dX7_guard_105 hI rfl ?_
                refine sg_bipush (pc := 108) (nI 44) hC dX7_guard_108 (by decide) ?_
                refine sg_iload (pc := 110) (x := nI (((10 * t.toNatClampNeg) + (N 15 t.toNatClampNeg)) - 1)) hC dX7_guard_110 rfl ?_
                refine sg_iaddN (pc := 112) (a := 44) (b := ((10 * t.toNatClampNeg) + (N 15 t.toNatClampNeg)) - 1) hC dX7_guard_112 ?_
                refine sg_iconst (pc := 113) (nI 0) hC dX7_guard_113 (by decide) ?_
                refine md_iast (pc := 114) (i := 3) (j := 44 + (((10 * t.toNatClampNeg) + (N 15 t.toNatClampNeg)) - 1)) (v := 0) hC dX7_guard_114 hI rfl (by first | omega | exact Nat.lt_of_le_of_lt Nat.and_le_left (by omega) | exact Nat.or_lt_two_pow (n := 16) (by omega) (by omega) | (simp [md_set, va_up]; done) | (simp [md_set, va_up]; omega) | exact Nat.or_lt_two_pow (n := 6) (by omega) (by omega)) (by decide) (by first | omega | exact Nat.lt_of_le_of_lt Nat.and_le_left (by omega) | exact Nat.or_lt_two_pow (n := 16) (by omega) (by omega) | (simp [md_set, va_up]; done) | (simp [md_set, va_up]; omega) | exact Nat.or_lt_two_pow (n := 6) (by omega) (by omega)) (fun M hI => ?_)
                refine sg_iload_n (pc := 115) (x := nI slot.toNatClampNeg) hC dX7_guard_115 rfl ?_
                refine sg_ifN_lt (pc := 116) (a := slot.toNatClampNeg) 129 hC dX7_guard_116 (by decide) (by first | omega | exact Nat.lt_of_le_of_lt Nat.and_le_left (by omega) | exact Nat.or_lt_two_pow (n := 16) (by omega) (by omega) | (simp [md_set, va_up]; done) | (simp [md_set, va_up]; omega) | exact Nat.or_lt_two_pow (n := 6) (by omega) (by omega)) (fun h52 => ?_) (fun h52 => ?_)
                · have e9 : md_guard N t ctx slot = (md_set (md_set (md_set (md_set N 0 0 0) 17 (((10 * t.toNatClampNeg) + (N 15 t.toNatClampNeg)) - 1) 1) 18 (((10 * t.toNatClampNeg) + (N 15 t.toNatClampNeg)) - 1) 0) 3 (44 + (((10 * t.toNatClampNeg) + (N 15 t.toNatClampNeg)) - 1)) 0) := by rw [md_guard]; simp only [if_pos h1, if_neg h6, if_pos h24, if_neg h29, if_pos h38, if_neg h45, if_neg (Nat.not_le.mpr h48), if_pos h52]
                  rw [e9] at hk
                  exact sg_vreturn (st := []) (pc := 129) hC hR dX7_guard_129 (hk M hI)
                · refine sg_aload_n (pc := 119) (v := .ref x) hC dX7_guard_119 rfl rfl ?_
                  refine sg_iload_n (pc := 120) (x := nI slot.toNatClampNeg) hC dX7_guard_120 rfl ?_
                  refine sg_bipush (pc := 121) (nI 44) hC dX7_guard_121 (by decide) ?_
                  refine sg_iload (pc := 123) (x := nI (((10 * t.toNatClampNeg) + (N 15 t.toNatClampNeg)) - 1)) hC dX7_guard_123 rfl ?_
                  refine sg_iaddN (pc := 125) (a := 44) (b := ((10 * t.toNatClampNeg) + (N 15 t.toNatClampNeg)) - 1) hC dX7_guard_125 ?_
                  refine sg_callV (pc := 126) (As := [.int (nI slot.toNatClampNeg), .int (nI (44 + (((10 * t.toNatClampNeg) + (N 15 t.toNatClampNeg)) - 1)))]) (rest := []) (mc := 0) (ms := 0) hC tw_1329 tw_1331 tw_44 tw_72 tw_1332 yd_X7_copy (by decide) (ci := 10) rfl dX7_guard_126 hI.x rfl (Nat.le_of_ble_eq_true rfl) (Nat.zero_le _) (Nat.zero_le _) ?_
                  refine mm_copy htr hI slot.toNatClampNeg (44 + (((10 * t.toNatClampNeg) + (N 15 t.toNatClampNeg)) - 1)) (by first | omega | exact Nat.lt_of_le_of_lt Nat.and_le_left (by omega) | exact Nat.or_lt_two_pow (n := 16) (by omega) (by omega) | (simp [md_set, va_up]; done) | (simp [md_set, va_up]; omega) | exact Nat.or_lt_two_pow (n := 6) (by omega) (by omega)) (by first | omega | exact Nat.lt_of_le_of_lt Nat.and_le_left (by omega) | exact Nat.or_lt_two_pow (n := 16) (by omega) (by omega) | (simp [md_set, va_up]; done) | (simp [md_set, va_up]; omega) | exact Nat.or_lt_two_pow (n := 6) (by omega) (by omega)) (fun M hI => ?_)
                  show sg_W X M 0 0 129 [some (.ref x), some (.int (nI t.toNatClampNeg)), some (.int (nI ctx.toNatClampNeg)), some (.int (nI slot.toNatClampNeg)), some (.int (nI (((10 * t.toNatClampNeg) + (N 15 t.toNatClampNeg)) - 1)))] []
                  have hw9 : ∀ r, (md_copy (md_set (md_set (md_set (md_set N 0 0 0) 17 (((10 * t.toNatClampNeg) + (N 15 t.toNatClampNeg)) - 1) 1) 18 (((10 * t.toNatClampNeg) + (N 15 t.toNatClampNeg)) - 1) 0) 3 (44 + (((10 * t.toNatClampNeg) + (N 15 t.toNatClampNeg)) - 1)) 0) slot.toNatClampNeg (44 + (((10 * t.toNatClampNeg) + (N 15 t.toNatClampNeg)) - 1))) 4 r ≤ 3 := md_copy_lab (fun r9 => hw r9)
                  have hg9 : ∀ r, (md_copy (md_set (md_set (md_set (md_set N 0 0 0) 17 (((10 * t.toNatClampNeg) + (N 15 t.toNatClampNeg)) - 1) 1) 18 (((10 * t.toNatClampNeg) + (N 15 t.toNatClampNeg)) - 1) 0) 3 (44 + (((10 * t.toNatClampNeg) + (N 15 t.toNatClampNeg)) - 1)) 0) slot.toNatClampNeg (44 + (((10 * t.toNatClampNeg) + (N 15 t.toNatClampNeg)) - 1))) 12 r ≤ 6 := fun r9 => hg r9
                  have e9 : md_guard N t ctx slot = (md_copy (md_set (md_set (md_set (md_set N 0 0 0) 17 (((10 * t.toNatClampNeg) + (N 15 t.toNatClampNeg)) - 1) 1) 18 (((10 * t.toNatClampNeg) + (N 15 t.toNatClampNeg)) - 1) 0) 3 (44 + (((10 * t.toNatClampNeg) + (N 15 t.toNatClampNeg)) - 1)) 0) slot.toNatClampNeg (44 + (((10 * t.toNatClampNeg) + (N 15 t.toNatClampNeg)) - 1))) := by rw [md_guard]; simp only [if_pos h1, if_neg h6, if_pos h24, if_neg h29, if_pos h38, if_neg h45, if_neg (Nat.not_le.mpr h48), if_neg (Nat.not_lt.mpr h52)]
                  rw [e9] at hk
                  exact sg_vreturn (st := []) (pc := 129) hC hR dX7_guard_129 (hk M hI)
            · refine sg_aload_n (pc := 54) (v := .ref x) hC dX7_guard_54 rfl rfl ?_
              refine sg_iconst (pc := 55) (nI 2) hC dX7_guard_55 (by decide) ?_
              refine md_put0 (pc := 56) (v := 2) hC tw_1186 dX7_guard_56 hI (by first | omega | exact Nat.lt_of_le_of_lt Nat.and_le_left (by omega) | exact Nat.or_lt_two_pow (n := 16) (by omega) (by omega) | (simp [md_set, va_up]; done) | (simp [md_set, va_up]; omega) | exact Nat.or_lt_two_pow (n := 6) (by omega) (by omega)) (fun M hI => ?_)
              have e9 : md_guard N t ctx slot = (md_set (md_set N 0 0 0) 0 0 2) := by rw [md_guard]; simp only [if_pos h1, if_neg h6, if_pos h24, if_neg h29, if_pos h38, if_pos h45]
              rw [e9] at hk
              exact sg_vreturn (st := []) (pc := 59) hC hR dX7_guard_59 (hk M hI)
          · refine sg_aload_n (pc := 39) (v := .ref x) hC dX7_guard_39 rfl rfl ?_
            refine sg_iconst (pc := 40) (nI 1) hC dX7_guard_40 (by decide) ?_
            refine md_put0 (pc := 41) (v := 1) hC tw_1186 dX7_guard_41 hI (by first | omega | exact Nat.lt_of_le_of_lt Nat.and_le_left (by omega) | exact Nat.or_lt_two_pow (n := 16) (by omega) (by omega) | (simp [md_set, va_up]; done) | (simp [md_set, va_up]; omega) | exact Nat.or_lt_two_pow (n := 6) (by omega) (by omega)) (fun M hI => ?_)
            have e9 : md_guard N t ctx slot = (md_set (md_set N 0 0 0) 0 0 1) := by rw [md_guard]; simp only [if_pos h1, if_neg h6, if_pos h24, if_neg h29, if_neg (ts9 h38)]
            rw [e9] at hk
            exact sg_vreturn (st := []) (pc := 44) hC hR dX7_guard_44 (hk M hI)

def md_walk (N : Nat → Nat → Nat) (t : Int32) (slot : Int32) : Nat × (Nat → Nat → Nat) := if (md_isThread (md_set N 0 0 0) t) = true then if slot = ((-1)) then ((md_walked (md_set N 0 0 0) t.toNatClampNeg none), (md_set N 0 0 0)) else if (md_isSlot (md_set N 0 0 0) slot) = true then ((md_walked (md_set N 0 0 0) t.toNatClampNeg (some slot.toNatClampNeg)), (md_set N 0 0 0)) else ((md_fail (md_set N 0 0 0) 1).1, (md_fail (md_set N 0 0 0) 1).2) else ((md_fail (md_set N 0 0 0) 1).1, (md_fail (md_set N 0 0 0) 1).2)
set_option maxHeartbeats 4000000 in
set_option maxRecDepth 100000 in
theorem mm_walk {l : Launch} {G : sg_G} {d : Nat} {M0 M : sg_M} {x : Nat} {ad : Nat → Nat} {N : Nat → Nat → Nat} {kr : Option Value → sg_M → Prop} {kx : String → sg_M → Prop} (htr : l.stackTraces = false) (hI : md_I M0 M x ad N) (t : Int32) (slot : Int32) (hw : ∀ r, N 4 r ≤ 3) (hfr : ∀ r, N 15 r ≤ 10) (hsr : ∀ r, N 16 r < 6) (hbd : ∀ r, N 18 r < 64) (hmd : ∀ r, N 14 r < 64) (hk : ∀ M', md_I M0 M' x ad (md_walk N t slot).2 → kr (some (.int (nI (md_walk N t slot).1))) M') : sg_Met l G yX7_walk cX7_walk 3 (some .int) (d + 5) 0 0 [.ref x, .int t, .int slot] M kr kx := by
  refine sg_enter [some (.ref x), some (.int t), some (.int slot)] (by decide) htr (Nat.le_of_ble_eq_true rfl) rfl ?_
  intro X hC hR
  have hC : sg_C X l G cX7_walk RX7 3 (d + 5) := hC
  refine sg_aload_n (pc := 0) (v := .ref x) hC dX7_walk_0 rfl rfl ?_
  refine sg_iconst (pc := 1) (nI 0) hC dX7_walk_1 (by decide) ?_
  refine md_put0 (pc := 2) (v := 0) hC tw_1186 dX7_walk_2 hI (by first | omega | exact Nat.lt_of_le_of_lt Nat.and_le_left (by omega) | exact Nat.or_lt_two_pow (n := 16) (by omega) (by omega) | (simp [md_set, va_up]; done) | (simp [md_set, va_up]; omega) | exact Nat.or_lt_two_pow (n := 6) (by omega) (by omega)) (fun M hI => ?_)
  refine sg_aload_n (pc := 5) (v := .ref x) hC dX7_walk_5 rfl rfl ?_
  refine sg_iload_n (pc := 6) (x := t) hC dX7_walk_6 rfl ?_
  refine sg_callV (pc := 7) (As := [.int t]) (rest := []) (mc := 0) (ms := 0) hC tw_1401 tw_1403 tw_56 tw_72 tw_1404 yd_X7_isThread (by decide) (ci := 10) rfl dX7_walk_7 hI.x rfl (Nat.le_of_ble_eq_true rfl) (Nat.zero_le _) (Nat.zero_le _) ?_
  refine mm_isThread htr hI t  ?_
  show sg_W X M 0 0 10 [some (.ref x), some (.int t), some (.int slot)] [.int (md_b ((md_isThread (md_set N 0 0 0) t)))]
  refine sg_ifB_eq (pc := 10) (b := (md_isThread (md_set N 0 0 0) t)) 26 hC dX7_walk_10 (by decide) (fun h1 => ?_) (fun h1 => ?_)
  · refine sg_aload_n (pc := 26) (v := .ref x) hC dX7_walk_26 rfl rfl ?_
    refine sg_iconst (pc := 27) (nI 1) hC dX7_walk_27 (by decide) ?_
    refine sg_callV (pc := 28) (As := [.int (nI 1)]) (rest := []) (mc := 0) (ms := 0) hC tw_1273 tw_1275 tw_33 tw_72 tw_1276 yd_X7_fail (by decide) (ci := 10) rfl dX7_walk_28 hI.x rfl (Nat.le_of_ble_eq_true rfl) (Nat.zero_le _) (Nat.zero_le _) ?_
    refine mm_fail htr hI 1 (by first | omega | exact Nat.lt_of_le_of_lt Nat.and_le_left (by omega) | exact Nat.or_lt_two_pow (n := 16) (by omega) (by omega) | (simp [md_set, va_up]; done) | (simp [md_set, va_up]; omega) | exact Nat.or_lt_two_pow (n := 6) (by omega) (by omega)) (fun M hI => ?_)
    show sg_W X M 0 0 31 [some (.ref x), some (.int t), some (.int slot)] [.int (nI ((md_fail (md_set N 0 0 0) 1).1))]
    have e9 : md_walk N t slot = ((md_fail (md_set N 0 0 0) 1).1, (md_fail (md_set N 0 0 0) 1).2) := by rw [md_walk]; simp only [if_neg (ts9 h1)]
    rw [e9] at hk
    exact sg_ireturn (st := []) (v := nI ((md_fail (md_set N 0 0 0) 1).1)) (pc := 31) hC hR dX7_walk_31 (hk M hI)
  · obtain ⟨hs2, hs3⟩ := md_isThread_nat h1
    rw [hs2]
    show sg_W X M 0 0 13 [some (.ref x), some (.int (nI t.toNatClampNeg)), some (.int slot)] []
    obtain ⟨hs4, hs5⟩ := hs3
    refine sg_iload_n (pc := 13) (x := slot) hC dX7_walk_13 rfl ?_
    refine sg_iconst (pc := 14) (((-1))) hC dX7_walk_14 (by decide) ?_
    refine sg_icmp_eq (pc := 15) (x := slot) (y := ((-1))) 32 hC dX7_walk_15 (by decide) (fun h6 => ?_) (fun h6 => ?_)
    · rw [h6]
      show sg_W X M 0 0 32 [some (.ref x), some (.int (nI t.toNatClampNeg)), some (.int ((-1)))] []
      refine sg_aload_n (pc := 32) (v := .ref x) hC dX7_walk_32 rfl rfl ?_
      refine sg_iload_n (pc := 33) (x := nI t.toNatClampNeg) hC dX7_walk_33 rfl ?_
      refine sg_iload_n (pc := 34) (x := ((-1))) hC dX7_walk_34 rfl ?_
      refine sg_callV (pc := 35) (As := [.int (nI t.toNatClampNeg), .int ((-1))]) (rest := []) (mc := 0) (ms := 0) hC tw_1421 tw_1423 tw_58 tw_72 tw_1424 yd_X7_walked (by decide) (ci := 10) rfl dX7_walk_35 hI.x rfl (Nat.le_of_ble_eq_true rfl) (Nat.zero_le _) (Nat.zero_le _) ?_
      refine mm_walked htr hI t.toNatClampNeg none (by first | omega | exact Nat.lt_of_le_of_lt Nat.and_le_left (by omega) | exact Nat.or_lt_two_pow (n := 16) (by omega) (by omega) | (simp [md_set, va_up]; done) | (simp [md_set, va_up]; omega) | exact Nat.or_lt_two_pow (n := 6) (by omega) (by omega)) (by intro k9 hk9; cases hk9) (by intro r9; first | exact hw r9 | (show N 4 r9 ≤ 3; exact hw r9) | exact hw9 r9) (by intro r9; first | exact hfr r9 | (show N 15 r9 ≤ 10; exact hfr r9) | exact hfr9 r9) (by intro r9; first | exact hsr r9 | (show N 16 r9 < 6; exact hsr r9) | exact hsr9 r9) (by intro r9; first | exact hbd r9 | (show N 18 r9 < 64; exact hbd r9) | exact hbd9 r9) (by intro r9; first | exact hmd r9 | (show N 14 r9 < 64; exact hmd r9) | exact hmd9 r9) ?_
      show sg_W X M 0 0 38 [some (.ref x), some (.int (nI t.toNatClampNeg)), some (.int ((-1)))] [.int (nI ((md_walked (md_set N 0 0 0) t.toNatClampNeg none)))]
      have hwk7 : (md_walked (md_set N 0 0 0) t.toNatClampNeg none) < 64 := md_walked_lt (by intro r9; first | exact hsr r9 | (show N 16 r9 < 6; exact hsr r9) | exact hsr9 r9) (by intro r9; first | exact hbd r9 | (show N 18 r9 < 64; exact hbd r9) | exact hbd9 r9) (by intro r9; first | exact hmd r9 | (show N 14 r9 < 64; exact hmd r9) | exact hmd9 r9)
      have e9 : md_walk N t slot = ((md_walked (md_set N 0 0 0) t.toNatClampNeg none), (md_set N 0 0 0)) := by rw [md_walk]; simp only [if_pos h1, if_pos h6]
      rw [e9] at hk
      exact sg_ireturn (st := []) (v := nI ((md_walked (md_set N 0 0 0) t.toNatClampNeg none))) (pc := 38) hC hR dX7_walk_38 (hk M hI)
    · refine sg_aload_n (pc := 18) (v := .ref x) hC dX7_walk_18 rfl rfl ?_
      refine sg_iload_n (pc := 19) (x := slot) hC dX7_walk_19 rfl ?_
      refine sg_callV (pc := 20) (As := [.int slot]) (rest := []) (mc := 0) (ms := 0) hC tw_1337 tw_1339 tw_45 tw_72 tw_1340 yd_X7_isSlot (by decide) (ci := 10) rfl dX7_walk_20 hI.x rfl (Nat.le_of_ble_eq_true rfl) (Nat.zero_le _) (Nat.zero_le _) ?_
      refine mm_isSlot htr hI slot  ?_
      show sg_W X M 0 0 23 [some (.ref x), some (.int (nI t.toNatClampNeg)), some (.int slot)] [.int (md_b ((md_isSlot (md_set N 0 0 0) slot)))]
      refine sg_ifB_ne (pc := 23) (b := (md_isSlot (md_set N 0 0 0) slot)) 32 hC dX7_walk_23 (by decide) (fun h8 => ?_) (fun h8 => ?_)
      · obtain ⟨hs9, hs10⟩ := md_isSlot_nat h8
        rw [hs9]
        show sg_W X M 0 0 32 [some (.ref x), some (.int (nI t.toNatClampNeg)), some (.int (nI slot.toNatClampNeg))] []
        obtain ⟨hs11, hs12⟩ := hs10
        refine sg_aload_n (pc := 32) (v := .ref x) hC dX7_walk_32 rfl rfl ?_
        refine sg_iload_n (pc := 33) (x := nI t.toNatClampNeg) hC dX7_walk_33 rfl ?_
        refine sg_iload_n (pc := 34) (x := nI slot.toNatClampNeg) hC dX7_walk_34 rfl ?_
        refine sg_callV (pc := 35) (As := [.int (nI t.toNatClampNeg), .int (nI slot.toNatClampNeg)]) (rest := []) (mc := 0) (ms := 0) hC tw_1421 tw_1423 tw_58 tw_72 tw_1424 yd_X7_walked (by decide) (ci := 10) rfl dX7_walk_35 hI.x rfl (Nat.le_of_ble_eq_true rfl) (Nat.zero_le _) (Nat.zero_le _) ?_
        refine mm_walked htr hI t.toNatClampNeg (some slot.toNatClampNeg) (by first | omega | exact Nat.lt_of_le_of_lt Nat.and_le_left (by omega) | exact Nat.or_lt_two_pow (n := 16) (by omega) (by omega) | (simp [md_set, va_up]; done) | (simp [md_set, va_up]; omega) | exact Nat.or_lt_two_pow (n := 6) (by omega) (by omega)) (by intro k9 hk9; cases hk9; omega) (by intro r9; first | exact hw r9 | (show N 4 r9 ≤ 3; exact hw r9) | exact hw9 r9) (by intro r9; first | exact hfr r9 | (show N 15 r9 ≤ 10; exact hfr r9) | exact hfr9 r9) (by intro r9; first | exact hsr r9 | (show N 16 r9 < 6; exact hsr r9) | exact hsr9 r9) (by intro r9; first | exact hbd r9 | (show N 18 r9 < 64; exact hbd r9) | exact hbd9 r9) (by intro r9; first | exact hmd r9 | (show N 14 r9 < 64; exact hmd r9) | exact hmd9 r9) ?_
        show sg_W X M 0 0 38 [some (.ref x), some (.int (nI t.toNatClampNeg)), some (.int (nI slot.toNatClampNeg))] [.int (nI ((md_walked (md_set N 0 0 0) t.toNatClampNeg (some slot.toNatClampNeg))))]
        have hwk13 : (md_walked (md_set N 0 0 0) t.toNatClampNeg (some slot.toNatClampNeg)) < 64 := md_walked_lt (by intro r9; first | exact hsr r9 | (show N 16 r9 < 6; exact hsr r9) | exact hsr9 r9) (by intro r9; first | exact hbd r9 | (show N 18 r9 < 64; exact hbd r9) | exact hbd9 r9) (by intro r9; first | exact hmd r9 | (show N 14 r9 < 64; exact hmd r9) | exact hmd9 r9)
        have e9 : md_walk N t slot = ((md_walked (md_set N 0 0 0) t.toNatClampNeg (some slot.toNatClampNeg)), (md_set N 0 0 0)) := by rw [md_walk]; simp only [if_pos h1, if_neg h6, if_pos h8]
        rw [e9] at hk
        exact sg_ireturn (st := []) (v := nI ((md_walked (md_set N 0 0 0) t.toNatClampNeg (some slot.toNatClampNeg)))) (pc := 38) hC hR dX7_walk_38 (hk M hI)
      · refine sg_aload_n (pc := 26) (v := .ref x) hC dX7_walk_26 rfl rfl ?_
        refine sg_iconst (pc := 27) (nI 1) hC dX7_walk_27 (by decide) ?_
        refine sg_callV (pc := 28) (As := [.int (nI 1)]) (rest := []) (mc := 0) (ms := 0) hC tw_1273 tw_1275 tw_33 tw_72 tw_1276 yd_X7_fail (by decide) (ci := 10) rfl dX7_walk_28 hI.x rfl (Nat.le_of_ble_eq_true rfl) (Nat.zero_le _) (Nat.zero_le _) ?_
        refine mm_fail htr hI 1 (by first | omega | exact Nat.lt_of_le_of_lt Nat.and_le_left (by omega) | exact Nat.or_lt_two_pow (n := 16) (by omega) (by omega) | (simp [md_set, va_up]; done) | (simp [md_set, va_up]; omega) | exact Nat.or_lt_two_pow (n := 6) (by omega) (by omega)) (fun M hI => ?_)
        show sg_W X M 0 0 31 [some (.ref x), some (.int (nI t.toNatClampNeg)), some (.int slot)] [.int (nI ((md_fail (md_set N 0 0 0) 1).1))]
        have e9 : md_walk N t slot = ((md_fail (md_set N 0 0 0) 1).1, (md_fail (md_set N 0 0 0) 1).2) := by rw [md_walk]; simp only [if_pos h1, if_neg h6, if_neg (ts9 h8)]
        rw [e9] at hk
        exact sg_ireturn (st := []) (v := nI ((md_fail (md_set N 0 0 0) 1).1)) (pc := 31) hC hR dX7_walk_31 (hk M hI)

def md_end (N : Nat → Nat → Nat) (t : Int32) : Nat × (Nat → Nat → Nat) := if (md_isThread (md_set N 0 0 0) t) = true then if t.toNatClampNeg = 0 then ((md_fail (md_set N 0 0 0) 2).1, (md_fail (md_set N 0 0 0) 2).2) else (N 15 t.toNatClampNeg, (md_set (md_set N 0 0 0) 13 t.toNatClampNeg 0)) else ((md_fail (md_set N 0 0 0) 1).1, (md_fail (md_set N 0 0 0) 1).2)
set_option maxHeartbeats 4000000 in
set_option maxRecDepth 100000 in
theorem mm_end {l : Launch} {G : sg_G} {d : Nat} {M0 M : sg_M} {x : Nat} {ad : Nat → Nat} {N : Nat → Nat → Nat} {kr : Option Value → sg_M → Prop} {kx : String → sg_M → Prop} (htr : l.stackTraces = false) (hI : md_I M0 M x ad N) (t : Int32) (hfr : ∀ r, N 15 r ≤ 10) (hk : ∀ M', md_I M0 M' x ad (md_end N t).2 → kr (some (.int (nI (md_end N t).1))) M') : sg_Met l G yX7_end cX7_end 2 (some .int) (d + 2) 0 0 [.ref x, .int t] M kr kx := by
  refine sg_enter [some (.ref x), some (.int t)] (by decide) htr (Nat.le_of_ble_eq_true rfl) rfl ?_
  intro X hC hR
  have hC : sg_C X l G cX7_end RX7 2 (d + 2) := hC
  refine sg_aload_n (pc := 0) (v := .ref x) hC dX7_end_0 rfl rfl ?_
  refine sg_iconst (pc := 1) (nI 0) hC dX7_end_1 (by decide) ?_
  refine md_put0 (pc := 2) (v := 0) hC tw_1186 dX7_end_2 hI (by first | omega | exact Nat.lt_of_le_of_lt Nat.and_le_left (by omega) | exact Nat.or_lt_two_pow (n := 16) (by omega) (by omega) | (simp [md_set, va_up]; done) | (simp [md_set, va_up]; omega) | exact Nat.or_lt_two_pow (n := 6) (by omega) (by omega)) (fun M hI => ?_)
  refine sg_aload_n (pc := 5) (v := .ref x) hC dX7_end_5 rfl rfl ?_
  refine sg_iload_n (pc := 6) (x := t) hC dX7_end_6 rfl ?_
  refine sg_callV (pc := 7) (As := [.int t]) (rest := []) (mc := 0) (ms := 0) hC tw_1401 tw_1403 tw_56 tw_72 tw_1404 yd_X7_isThread (by decide) (ci := 10) rfl dX7_end_7 hI.x rfl (Nat.le_of_ble_eq_true rfl) (Nat.zero_le _) (Nat.zero_le _) ?_
  refine mm_isThread htr hI t  ?_
  show sg_W X M 0 0 10 [some (.ref x), some (.int t)] [.int (md_b ((md_isThread (md_set N 0 0 0) t)))]
  refine sg_ifB_ne (pc := 10) (b := (md_isThread (md_set N 0 0 0) t)) 19 hC dX7_end_10 (by decide) (fun h1 => ?_) (fun h1 => ?_)
  · obtain ⟨hs2, hs3⟩ := md_isThread_nat h1
    rw [hs2]
    show sg_W X M 0 0 19 [some (.ref x), some (.int (nI t.toNatClampNeg))] []
    obtain ⟨hs4, hs5⟩ := hs3
    refine sg_iload_n (pc := 19) (x := nI t.toNatClampNeg) hC dX7_end_19 rfl ?_
    refine sg_ifN_ne (pc := 20) (a := t.toNatClampNeg) 29 hC dX7_end_20 (by decide) (by first | omega | exact Nat.lt_of_le_of_lt Nat.and_le_left (by omega) | exact Nat.or_lt_two_pow (n := 16) (by omega) (by omega) | (simp [md_set, va_up]; done) | (simp [md_set, va_up]; omega) | exact Nat.or_lt_two_pow (n := 6) (by omega) (by omega)) (fun h6 => ?_) (fun h6 => ?_)
    · refine sg_aload_n (pc := 29) (v := .ref x) hC dX7_end_29 rfl rfl ?_
      refine md_get (pc := 30) (i := 13) hC (by decide) tw_1199 dX7_end_30 hI rfl ?_
      refine sg_iload_n (pc := 33) (x := nI t.toNatClampNeg) hC dX7_end_33 rfl ?_
      refine sg_iconst (pc := 34) (nI 0) hC dX7_end_34 (by decide) ?_
      refine md_zast (pc := 35) (i := 13) (j := t.toNatClampNeg) (v := 0) hC dX7_end_35 hI rfl (by first | omega | exact Nat.lt_of_le_of_lt Nat.and_le_left (by omega) | exact Nat.or_lt_two_pow (n := 16) (by omega) (by omega) | (simp [md_set, va_up]; done) | (simp [md_set, va_up]; omega) | exact Nat.or_lt_two_pow (n := 6) (by omega) (by omega)) (by decide) (by first | omega | exact Nat.lt_of_le_of_lt Nat.and_le_left (by omega) | exact Nat.or_lt_two_pow (n := 16) (by omega) (by omega) | (simp [md_set, va_up]; done) | (simp [md_set, va_up]; omega) | exact Nat.or_lt_two_pow (n := 6) (by omega) (by omega)) (fun M hI => ?_)
      refine sg_aload_n (pc := 36) (v := .ref x) hC dX7_end_36 rfl rfl ?_
      refine md_get (pc := 37) (i := 15) hC (by decide) tw_1201 dX7_end_37 hI rfl ?_
      refine sg_iload_n (pc := 40) (x := nI t.toNatClampNeg) hC dX7_end_40 rfl ?_
      refine md_iald (pc := 41) (i := 15) (j := t.toNatClampNeg) hC dX7_end_41 hI rfl (by first | omega | exact Nat.lt_of_le_of_lt Nat.and_le_left (by omega) | exact Nat.or_lt_two_pow (n := 16) (by omega) (by omega) | (simp [md_set, va_up]; done) | (simp [md_set, va_up]; omega) | exact Nat.or_lt_two_pow (n := 6) (by omega) (by omega)) (by decide) (fun hv7 => ?_)
      have hv7 : N 15 t.toNatClampNeg < 65536 := hv7
      show sg_W X M 0 0 42 [some (.ref x), some (.int (nI t.toNatClampNeg))] [.int (nI (N 15 t.toNatClampNeg))]
      have hW8 := hfr t.toNatClampNeg
      have e9 : md_end N t = (N 15 t.toNatClampNeg, (md_set (md_set N 0 0 0) 13 t.toNatClampNeg 0)) := by rw [md_end]; simp only [if_pos h1, if_neg h6]
      rw [e9] at hk
      exact sg_ireturn (st := []) (v := nI (N 15 t.toNatClampNeg)) (pc := 42) hC hR dX7_end_42 (hk M hI)
    · refine sg_aload_n (pc := 23) (v := .ref x) hC dX7_end_23 rfl rfl ?_
      refine sg_iconst (pc := 24) (nI 2) hC dX7_end_24 (by decide) ?_
      refine sg_callV (pc := 25) (As := [.int (nI 2)]) (rest := []) (mc := 0) (ms := 0) hC tw_1273 tw_1275 tw_33 tw_72 tw_1276 yd_X7_fail (by decide) (ci := 10) rfl dX7_end_25 hI.x rfl (Nat.le_of_ble_eq_true rfl) (Nat.zero_le _) (Nat.zero_le _) ?_
      refine mm_fail htr hI 2 (by first | omega | exact Nat.lt_of_le_of_lt Nat.and_le_left (by omega) | exact Nat.or_lt_two_pow (n := 16) (by omega) (by omega) | (simp [md_set, va_up]; done) | (simp [md_set, va_up]; omega) | exact Nat.or_lt_two_pow (n := 6) (by omega) (by omega)) (fun M hI => ?_)
      show sg_W X M 0 0 28 [some (.ref x), some (.int (nI t.toNatClampNeg))] [.int (nI ((md_fail (md_set N 0 0 0) 2).1))]
      have e9 : md_end N t = ((md_fail (md_set N 0 0 0) 2).1, (md_fail (md_set N 0 0 0) 2).2) := by rw [md_end]; simp only [if_pos h1, if_pos h6]
      rw [e9] at hk
      exact sg_ireturn (st := []) (v := nI ((md_fail (md_set N 0 0 0) 2).1)) (pc := 28) hC hR dX7_end_28 (hk M hI)
  · refine sg_aload_n (pc := 13) (v := .ref x) hC dX7_end_13 rfl rfl ?_
    refine sg_iconst (pc := 14) (nI 1) hC dX7_end_14 (by decide) ?_
    refine sg_callV (pc := 15) (As := [.int (nI 1)]) (rest := []) (mc := 0) (ms := 0) hC tw_1273 tw_1275 tw_33 tw_72 tw_1276 yd_X7_fail (by decide) (ci := 10) rfl dX7_end_15 hI.x rfl (Nat.le_of_ble_eq_true rfl) (Nat.zero_le _) (Nat.zero_le _) ?_
    refine mm_fail htr hI 1 (by first | omega | exact Nat.lt_of_le_of_lt Nat.and_le_left (by omega) | exact Nat.or_lt_two_pow (n := 16) (by omega) (by omega) | (simp [md_set, va_up]; done) | (simp [md_set, va_up]; omega) | exact Nat.or_lt_two_pow (n := 6) (by omega) (by omega)) (fun M hI => ?_)
    show sg_W X M 0 0 18 [some (.ref x), some (.int t)] [.int (nI ((md_fail (md_set N 0 0 0) 1).1))]
    have e9 : md_end N t = ((md_fail (md_set N 0 0 0) 1).1, (md_fail (md_set N 0 0 0) 1).2) := by rw [md_end]; simp only [if_neg (ts9 h1)]
    rw [e9] at hk
    exact sg_ireturn (st := []) (v := nI ((md_fail (md_set N 0 0 0) 1).1)) (pc := 18) hC hR dX7_end_18 (hk M hI)

def md_combine (N : Nat → Nat → Nat) (one : Int32) (oth : Int32) : Nat × (Nat → Nat → Nat) := if (md_isContext (md_set N 0 0 0) one) = true then if (md_isContext (md_set N 0 0 0) oth) = true then if one.toNatClampNeg = oth.toNatClampNeg then ((md_fail (md_set N 0 0 0) 2).1, (md_fail (md_set N 0 0 0) 2).2) else if oth.toNatClampNeg ≤ one.toNatClampNeg then ((md_many ((N 20 oth.toNatClampNeg) ||| (N 20 one.toNatClampNeg))), (md_set (md_set (md_set N 0 0 0) 20 oth.toNatClampNeg ((N 20 oth.toNatClampNeg) ||| (N 20 one.toNatClampNeg))) 19 one.toNatClampNeg 0)) else ((md_many ((N 20 one.toNatClampNeg) ||| (N 20 oth.toNatClampNeg))), (md_set (md_set (md_set N 0 0 0) 20 one.toNatClampNeg ((N 20 one.toNatClampNeg) ||| (N 20 oth.toNatClampNeg))) 19 oth.toNatClampNeg 0)) else ((md_fail (md_set N 0 0 0) 1).1, (md_fail (md_set N 0 0 0) 1).2) else ((md_fail (md_set N 0 0 0) 1).1, (md_fail (md_set N 0 0 0) 1).2)
set_option maxHeartbeats 4000000 in
set_option maxRecDepth 100000 in
theorem mm_combine {l : Launch} {G : sg_G} {d : Nat} {M0 M : sg_M} {x : Nat} {ad : Nat → Nat} {N : Nat → Nat → Nat} {kr : Option Value → sg_M → Prop} {kx : String → sg_M → Prop} (htr : l.stackTraces = false) (hI : md_I M0 M x ad N) (one : Int32) (oth : Int32) (hcx : ∀ r, N 20 r < 64) (hk : ∀ M', md_I M0 M' x ad (md_combine N one oth).2 → kr (some (.int (nI (md_combine N one oth).1))) M') : sg_Met l G yX7_combine cX7_combine 5 (some .int) (d + 2) 0 0 [.ref x, .int one, .int oth] M kr kx := by
  refine sg_enter [some (.ref x), some (.int one), some (.int oth), none, none] (by decide) htr (Nat.le_of_ble_eq_true rfl) rfl ?_
  intro X hC hR
  have hC : sg_C X l G cX7_combine RX7 5 (d + 2) := hC
  refine sg_aload_n (pc := 0) (v := .ref x) hC dX7_combine_0 rfl rfl ?_
  refine sg_iconst (pc := 1) (nI 0) hC dX7_combine_1 (by decide) ?_
  refine md_put0 (pc := 2) (v := 0) hC tw_1186 dX7_combine_2 hI (by first | omega | exact Nat.lt_of_le_of_lt Nat.and_le_left (by omega) | exact Nat.or_lt_two_pow (n := 16) (by omega) (by omega) | (simp [md_set, va_up]; done) | (simp [md_set, va_up]; omega) | exact Nat.or_lt_two_pow (n := 6) (by omega) (by omega)) (fun M hI => ?_)
  refine sg_aload_n (pc := 5) (v := .ref x) hC dX7_combine_5 rfl rfl ?_
  refine sg_iload_n (pc := 6) (x := one) hC dX7_combine_6 rfl ?_
  refine sg_callV (pc := 7) (As := [.int one]) (rest := []) (mc := 0) (ms := 0) hC tw_1413 tw_1415 tw_57 tw_72 tw_1416 yd_X7_isContext (by decide) (ci := 10) rfl dX7_combine_7 hI.x rfl (Nat.le_of_ble_eq_true rfl) (Nat.zero_le _) (Nat.zero_le _) ?_
  refine mm_isContext htr hI one  ?_
  show sg_W X M 0 0 10 [some (.ref x), some (.int one), some (.int oth), none, none] [.int (md_b ((md_isContext (md_set N 0 0 0) one)))]
  refine sg_ifB_eq (pc := 10) (b := (md_isContext (md_set N 0 0 0) one)) 21 hC dX7_combine_10 (by decide) (fun h1 => ?_) (fun h1 => ?_)
  · refine sg_aload_n (pc := 21) (v := .ref x) hC dX7_combine_21 rfl rfl ?_
    refine sg_iconst (pc := 22) (nI 1) hC dX7_combine_22 (by decide) ?_
    refine sg_callV (pc := 23) (As := [.int (nI 1)]) (rest := []) (mc := 0) (ms := 0) hC tw_1273 tw_1275 tw_33 tw_72 tw_1276 yd_X7_fail (by decide) (ci := 10) rfl dX7_combine_23 hI.x rfl (Nat.le_of_ble_eq_true rfl) (Nat.zero_le _) (Nat.zero_le _) ?_
    refine mm_fail htr hI 1 (by first | omega | exact Nat.lt_of_le_of_lt Nat.and_le_left (by omega) | exact Nat.or_lt_two_pow (n := 16) (by omega) (by omega) | (simp [md_set, va_up]; done) | (simp [md_set, va_up]; omega) | exact Nat.or_lt_two_pow (n := 6) (by omega) (by omega)) (fun M hI => ?_)
    show sg_W X M 0 0 26 [some (.ref x), some (.int one), some (.int oth), none, none] [.int (nI ((md_fail (md_set N 0 0 0) 1).1))]
    have e9 : md_combine N one oth = ((md_fail (md_set N 0 0 0) 1).1, (md_fail (md_set N 0 0 0) 1).2) := by rw [md_combine]; simp only [if_neg (ts9 h1)]
    rw [e9] at hk
    exact sg_ireturn (st := []) (v := nI ((md_fail (md_set N 0 0 0) 1).1)) (pc := 26) hC hR dX7_combine_26 (hk M hI)
  · obtain ⟨hs2, hs3⟩ := md_isContext_nat h1
    rw [hs2]
    show sg_W X M 0 0 13 [some (.ref x), some (.int (nI one.toNatClampNeg)), some (.int oth), none, none] []
    obtain ⟨hs4, hs5⟩ := hs3
    refine sg_aload_n (pc := 13) (v := .ref x) hC dX7_combine_13 rfl rfl ?_
    refine sg_iload_n (pc := 14) (x := oth) hC dX7_combine_14 rfl ?_
    refine sg_callV (pc := 15) (As := [.int oth]) (rest := []) (mc := 0) (ms := 0) hC tw_1413 tw_1415 tw_57 tw_72 tw_1416 yd_X7_isContext (by decide) (ci := 10) rfl dX7_combine_15 hI.x rfl (Nat.le_of_ble_eq_true rfl) (Nat.zero_le _) (Nat.zero_le _) ?_
    refine mm_isContext htr hI oth  ?_
    show sg_W X M 0 0 18 [some (.ref x), some (.int (nI one.toNatClampNeg)), some (.int oth), none, none] [.int (md_b ((md_isContext (md_set N 0 0 0) oth)))]
    refine sg_ifB_ne (pc := 18) (b := (md_isContext (md_set N 0 0 0) oth)) 27 hC dX7_combine_18 (by decide) (fun h6 => ?_) (fun h6 => ?_)
    · obtain ⟨hs7, hs8⟩ := md_isContext_nat h6
      rw [hs7]
      show sg_W X M 0 0 27 [some (.ref x), some (.int (nI one.toNatClampNeg)), some (.int (nI oth.toNatClampNeg)), none, none] []
      obtain ⟨hs9, hs10⟩ := hs8
      refine sg_iload_n (pc := 27) (x := nI one.toNatClampNeg) hC dX7_combine_27 rfl ?_
      refine sg_iload_n (pc := 28) (x := nI oth.toNatClampNeg) hC dX7_combine_28 rfl ?_
      refine sg_icmpN_ne (pc := 29) (a := one.toNatClampNeg) (b := oth.toNatClampNeg) 38 hC dX7_combine_29 (by decide) (by first | omega | exact Nat.lt_of_le_of_lt Nat.and_le_left (by omega) | exact Nat.or_lt_two_pow (n := 16) (by omega) (by omega) | (simp [md_set, va_up]; done) | (simp [md_set, va_up]; omega) | exact Nat.or_lt_two_pow (n := 6) (by omega) (by omega)) (by first | omega | exact Nat.lt_of_le_of_lt Nat.and_le_left (by omega) | exact Nat.or_lt_two_pow (n := 16) (by omega) (by omega) | (simp [md_set, va_up]; done) | (simp [md_set, va_up]; omega) | exact Nat.or_lt_two_pow (n := 6) (by omega) (by omega)) (fun h11 => ?_) (fun h11 => ?_)
      · refine sg_iload_n (pc := 38) (x := nI one.toNatClampNeg) hC dX7_combine_38 rfl ?_
        refine sg_iload_n (pc := 39) (x := nI oth.toNatClampNeg) hC dX7_combine_39 rfl ?_
        refine sg_icmpN_ge (pc := 40) (a := one.toNatClampNeg) (b := oth.toNatClampNeg) 47 hC dX7_combine_40 (by decide) (by first | omega | exact Nat.lt_of_le_of_lt Nat.and_le_left (by omega) | exact Nat.or_lt_two_pow (n := 16) (by omega) (by omega) | (simp [md_set, va_up]; done) | (simp [md_set, va_up]; omega) | exact Nat.or_lt_two_pow (n := 6) (by omega) (by omega)) (by first | omega | exact Nat.lt_of_le_of_lt Nat.and_le_left (by omega) | exact Nat.or_lt_two_pow (n := 16) (by omega) (by omega) | (simp [md_set, va_up]; done) | (simp [md_set, va_up]; omega) | exact Nat.or_lt_two_pow (n := 6) (by omega) (by omega)) (fun h12 => ?_) (fun h12 => ?_)
        · refine sg_iload_n (pc := 47) (x := nI oth.toNatClampNeg) hC dX7_combine_47 rfl ?_
          refine sg_istore_n (pc := 48) (x := nI oth.toNatClampNeg) hC dX7_combine_48 (by decide) ?_
          show sg_W X M 0 0 49 [some (.ref x), some (.int (nI one.toNatClampNeg)), some (.int (nI oth.toNatClampNeg)), some (.int (nI oth.toNatClampNeg)), none] []
          refine sg_iload_n (pc := 49) (x := nI one.toNatClampNeg) hC dX7_combine_49 rfl ?_
          refine sg_iload_n (pc := 50) (x := nI oth.toNatClampNeg) hC dX7_combine_50 rfl ?_
          refine sg_icmpN_ge (pc := 51) (a := one.toNatClampNeg) (b := oth.toNatClampNeg) 58 hC dX7_combine_51 (by decide) (by first | omega | exact Nat.lt_of_le_of_lt Nat.and_le_left (by omega) | exact Nat.or_lt_two_pow (n := 16) (by omega) (by omega) | (simp [md_set, va_up]; done) | (simp [md_set, va_up]; omega) | exact Nat.or_lt_two_pow (n := 6) (by omega) (by omega)) (by first | omega | exact Nat.lt_of_le_of_lt Nat.and_le_left (by omega) | exact Nat.or_lt_two_pow (n := 16) (by omega) (by omega) | (simp [md_set, va_up]; done) | (simp [md_set, va_up]; omega) | exact Nat.or_lt_two_pow (n := 6) (by omega) (by omega)) (fun _ => ?_) (fun h13 => by exfalso; omega)
          refine sg_iload_n (pc := 58) (x := nI one.toNatClampNeg) hC dX7_combine_58 rfl ?_
          refine sg_istore (pc := 59) (x := nI one.toNatClampNeg) hC dX7_combine_59 (by decide) ?_
          show sg_W X M 0 0 61 [some (.ref x), some (.int (nI one.toNatClampNeg)), some (.int (nI oth.toNatClampNeg)), some (.int (nI oth.toNatClampNeg)), some (.int (nI one.toNatClampNeg))] []
          refine sg_aload_n (pc := 61) (v := .ref x) hC dX7_combine_61 rfl rfl ?_
          refine md_get (pc := 62) (i := 20) hC (by decide) tw_1206 dX7_combine_62 hI rfl ?_
          refine sg_iload_n (pc := 65) (x := nI oth.toNatClampNeg) hC dX7_combine_65 rfl ?_
          refine sg_aload_n (pc := 66) (v := .ref x) hC dX7_combine_66 rfl rfl ?_
          refine md_get (pc := 67) (i := 20) hC (by decide) tw_1206 dX7_combine_67 hI rfl ?_
          refine sg_iload_n (pc := 70) (x := nI oth.toNatClampNeg) hC dX7_combine_70 rfl ?_
          refine md_iald (pc := 71) (i := 20) (j := oth.toNatClampNeg) hC dX7_combine_71 hI rfl (by first | omega | exact Nat.lt_of_le_of_lt Nat.and_le_left (by omega) | exact Nat.or_lt_two_pow (n := 16) (by omega) (by omega) | (simp [md_set, va_up]; done) | (simp [md_set, va_up]; omega) | exact Nat.or_lt_two_pow (n := 6) (by omega) (by omega)) (by decide) (fun hv14 => ?_)
          have hv14 : N 20 oth.toNatClampNeg < 65536 := hv14
          show sg_W X M 0 0 72 [some (.ref x), some (.int (nI one.toNatClampNeg)), some (.int (nI oth.toNatClampNeg)), some (.int (nI oth.toNatClampNeg)), some (.int (nI one.toNatClampNeg))] [.int (nI (N 20 oth.toNatClampNeg)), .int (nI oth.toNatClampNeg), .ref (ad 20)]
          have hW15 := hcx oth.toNatClampNeg
          refine sg_aload_n (pc := 72) (v := .ref x) hC dX7_combine_72 rfl rfl ?_
          refine md_get (pc := 73) (i := 20) hC (by decide) tw_1206 dX7_combine_73 hI rfl ?_
          refine sg_iload (pc := 76) (x := nI one.toNatClampNeg) hC dX7_combine_76 rfl ?_
          refine md_iald (pc := 78) (i := 20) (j := one.toNatClampNeg) hC dX7_combine_78 hI rfl (by first | omega | exact Nat.lt_of_le_of_lt Nat.and_le_left (by omega) | exact Nat.or_lt_two_pow (n := 16) (by omega) (by omega) | (simp [md_set, va_up]; done) | (simp [md_set, va_up]; omega) | exact Nat.or_lt_two_pow (n := 6) (by omega) (by omega)) (by decide) (fun hv16 => ?_)
          have hv16 : N 20 one.toNatClampNeg < 65536 := hv16
          show sg_W X M 0 0 79 [some (.ref x), some (.int (nI one.toNatClampNeg)), some (.int (nI oth.toNatClampNeg)), some (.int (nI oth.toNatClampNeg)), some (.int (nI one.toNatClampNeg))] [.int (nI (N 20 one.toNatClampNeg)), .int (nI (N 20 oth.toNatClampNeg)), .int (nI oth.toNatClampNeg), .ref (ad 20)]
          have hW17 := hcx one.toNatClampNeg
          refine sg_iorN (pc := 79) (a := N 20 oth.toNatClampNeg) (b := N 20 one.toNatClampNeg) hC dX7_combine_79 ?_
          refine md_iast (pc := 80) (i := 20) (j := oth.toNatClampNeg) (v := (N 20 oth.toNatClampNeg) ||| (N 20 one.toNatClampNeg)) hC dX7_combine_80 hI rfl (by first | omega | exact Nat.lt_of_le_of_lt Nat.and_le_left (by omega) | exact Nat.or_lt_two_pow (n := 16) (by omega) (by omega) | (simp [md_set, va_up]; done) | (simp [md_set, va_up]; omega) | exact Nat.or_lt_two_pow (n := 6) (by omega) (by omega)) (by decide) (by first | omega | exact Nat.lt_of_le_of_lt Nat.and_le_left (by omega) | exact Nat.or_lt_two_pow (n := 16) (by omega) (by omega) | (simp [md_set, va_up]; done) | (simp [md_set, va_up]; omega) | exact Nat.or_lt_two_pow (n := 6) (by omega) (by omega)) (fun M hI => ?_)
          refine sg_aload_n (pc := 81) (v := .ref x) hC dX7_combine_81 rfl rfl ?_
          refine md_get (pc := 82) (i := 19) hC (by decide) tw_1205 dX7_combine_82 hI rfl ?_
          refine sg_iload (pc := 85) (x := nI one.toNatClampNeg) hC dX7_combine_85 rfl ?_
          refine sg_iconst (pc := 87) (nI 0) hC dX7_combine_87 (by decide) ?_
          refine md_zast (pc := 88) (i := 19) (j := one.toNatClampNeg) (v := 0) hC dX7_combine_88 hI rfl (by first | omega | exact Nat.lt_of_le_of_lt Nat.and_le_left (by omega) | exact Nat.or_lt_two_pow (n := 16) (by omega) (by omega) | (simp [md_set, va_up]; done) | (simp [md_set, va_up]; omega) | exact Nat.or_lt_two_pow (n := 6) (by omega) (by omega)) (by decide) (by first | omega | exact Nat.lt_of_le_of_lt Nat.and_le_left (by omega) | exact Nat.or_lt_two_pow (n := 16) (by omega) (by omega) | (simp [md_set, va_up]; done) | (simp [md_set, va_up]; omega) | exact Nat.or_lt_two_pow (n := 6) (by omega) (by omega)) (fun M hI => ?_)
          refine sg_aload_n (pc := 89) (v := .ref x) hC dX7_combine_89 rfl rfl ?_
          refine md_get (pc := 90) (i := 20) hC (by decide) tw_1206 dX7_combine_90 hI rfl ?_
          refine sg_iload_n (pc := 93) (x := nI oth.toNatClampNeg) hC dX7_combine_93 rfl ?_
          refine md_iald (pc := 94) (i := 20) (j := oth.toNatClampNeg) hC dX7_combine_94 hI rfl (by first | omega | exact Nat.lt_of_le_of_lt Nat.and_le_left (by omega) | exact Nat.or_lt_two_pow (n := 16) (by omega) (by omega) | (simp [md_set, va_up]; done) | (simp [md_set, va_up]; omega) | exact Nat.or_lt_two_pow (n := 6) (by omega) (by omega)) (by decide) (fun hv18 => ?_)
          rw [show (md_set (md_set (md_set N 0 0 0) 20 oth.toNatClampNeg ((N 20 oth.toNatClampNeg) ||| (N 20 one.toNatClampNeg))) 19 one.toNatClampNeg 0) 20 oth.toNatClampNeg = (N 20 oth.toNatClampNeg) ||| (N 20 one.toNatClampNeg) from by simp [md_set, va_up]]
          show sg_W X M 0 0 95 [some (.ref x), some (.int (nI one.toNatClampNeg)), some (.int (nI oth.toNatClampNeg)), some (.int (nI oth.toNatClampNeg)), some (.int (nI one.toNatClampNeg))] [.int (nI ((N 20 oth.toNatClampNeg) ||| (N 20 one.toNatClampNeg)))]
          refine sg_callS (pc := 95) (As := [.int (nI ((N 20 oth.toNatClampNeg) ||| (N 20 one.toNatClampNeg)))]) (rest := []) (mc := 0) (ms := 0) hC tw_1433 tw_1434 tw_72 tw_1435 yd_X7_many (by decide) dX7_combine_95 rfl (Nat.le_of_ble_eq_true rfl) (Nat.zero_le _) (Nat.zero_le _) ?_
          refine mm_many htr  ((N 20 oth.toNatClampNeg) ||| (N 20 one.toNatClampNeg)) (by first | omega | exact Nat.lt_of_le_of_lt Nat.and_le_left (by omega) | exact Nat.or_lt_two_pow (n := 16) (by omega) (by omega) | (simp [md_set, va_up]; done) | (simp [md_set, va_up]; omega) | exact Nat.or_lt_two_pow (n := 6) (by omega) (by omega)) ?_
          show sg_W X M 0 0 98 [some (.ref x), some (.int (nI one.toNatClampNeg)), some (.int (nI oth.toNatClampNeg)), some (.int (nI oth.toNatClampNeg)), some (.int (nI one.toNatClampNeg))] [.int (nI ((md_many ((N 20 oth.toNatClampNeg) ||| (N 20 one.toNatClampNeg)))))]
          have e9 : md_combine N one oth = ((md_many ((N 20 oth.toNatClampNeg) ||| (N 20 one.toNatClampNeg))), (md_set (md_set (md_set N 0 0 0) 20 oth.toNatClampNeg ((N 20 oth.toNatClampNeg) ||| (N 20 one.toNatClampNeg))) 19 one.toNatClampNeg 0)) := by rw [md_combine]; simp only [if_pos h1, if_pos h6, if_neg h11, if_pos h12]
          rw [e9] at hk
          exact sg_ireturn (st := []) (v := nI ((md_many ((N 20 oth.toNatClampNeg) ||| (N 20 one.toNatClampNeg))))) (pc := 98) hC hR dX7_combine_98 (hk M hI)
        · refine sg_iload_n (pc := 43) (x := nI one.toNatClampNeg) hC dX7_combine_43 rfl ?_
          refine sg_goto (pc := 44) 48 hC dX7_combine_44 (by decide) ?_
          refine sg_istore_n (pc := 48) (x := nI one.toNatClampNeg) hC dX7_combine_48 (by decide) ?_
          show sg_W X M 0 0 49 [some (.ref x), some (.int (nI one.toNatClampNeg)), some (.int (nI oth.toNatClampNeg)), some (.int (nI one.toNatClampNeg)), none] []
          refine sg_iload_n (pc := 49) (x := nI one.toNatClampNeg) hC dX7_combine_49 rfl ?_
          refine sg_iload_n (pc := 50) (x := nI oth.toNatClampNeg) hC dX7_combine_50 rfl ?_
          refine sg_icmpN_ge (pc := 51) (a := one.toNatClampNeg) (b := oth.toNatClampNeg) 58 hC dX7_combine_51 (by decide) (by first | omega | exact Nat.lt_of_le_of_lt Nat.and_le_left (by omega) | exact Nat.or_lt_two_pow (n := 16) (by omega) (by omega) | (simp [md_set, va_up]; done) | (simp [md_set, va_up]; omega) | exact Nat.or_lt_two_pow (n := 6) (by omega) (by omega)) (by first | omega | exact Nat.lt_of_le_of_lt Nat.and_le_left (by omega) | exact Nat.or_lt_two_pow (n := 16) (by omega) (by omega) | (simp [md_set, va_up]; done) | (simp [md_set, va_up]; omega) | exact Nat.or_lt_two_pow (n := 6) (by omega) (by omega)) (fun h19 => by exfalso; omega) (fun _ => ?_)
          refine sg_iload_n (pc := 54) (x := nI oth.toNatClampNeg) hC dX7_combine_54 rfl ?_
          refine sg_goto (pc := 55) 59 hC dX7_combine_55 (by decide) ?_
          refine sg_istore (pc := 59) (x := nI oth.toNatClampNeg) hC dX7_combine_59 (by decide) ?_
          show sg_W X M 0 0 61 [some (.ref x), some (.int (nI one.toNatClampNeg)), some (.int (nI oth.toNatClampNeg)), some (.int (nI one.toNatClampNeg)), some (.int (nI oth.toNatClampNeg))] []
          refine sg_aload_n (pc := 61) (v := .ref x) hC dX7_combine_61 rfl rfl ?_
          refine md_get (pc := 62) (i := 20) hC (by decide) tw_1206 dX7_combine_62 hI rfl ?_
          refine sg_iload_n (pc := 65) (x := nI one.toNatClampNeg) hC dX7_combine_65 rfl ?_
          refine sg_aload_n (pc := 66) (v := .ref x) hC dX7_combine_66 rfl rfl ?_
          refine md_get (pc := 67) (i := 20) hC (by decide) tw_1206 dX7_combine_67 hI rfl ?_
          refine sg_iload_n (pc := 70) (x := nI one.toNatClampNeg) hC dX7_combine_70 rfl ?_
          refine md_iald (pc := 71) (i := 20) (j := one.toNatClampNeg) hC dX7_combine_71 hI rfl (by first | omega | exact Nat.lt_of_le_of_lt Nat.and_le_left (by omega) | exact Nat.or_lt_two_pow (n := 16) (by omega) (by omega) | (simp [md_set, va_up]; done) | (simp [md_set, va_up]; omega) | exact Nat.or_lt_two_pow (n := 6) (by omega) (by omega)) (by decide) (fun hv20 => ?_)
          have hv20 : N 20 one.toNatClampNeg < 65536 := hv20
          show sg_W X M 0 0 72 [some (.ref x), some (.int (nI one.toNatClampNeg)), some (.int (nI oth.toNatClampNeg)), some (.int (nI one.toNatClampNeg)), some (.int (nI oth.toNatClampNeg))] [.int (nI (N 20 one.toNatClampNeg)), .int (nI one.toNatClampNeg), .ref (ad 20)]
          have hW21 := hcx one.toNatClampNeg
          refine sg_aload_n (pc := 72) (v := .ref x) hC dX7_combine_72 rfl rfl ?_
          refine md_get (pc := 73) (i := 20) hC (by decide) tw_1206 dX7_combine_73 hI rfl ?_
          refine sg_iload (pc := 76) (x := nI oth.toNatClampNeg) hC dX7_combine_76 rfl ?_
          refine md_iald (pc := 78) (i := 20) (j := oth.toNatClampNeg) hC dX7_combine_78 hI rfl (by first | omega | exact Nat.lt_of_le_of_lt Nat.and_le_left (by omega) | exact Nat.or_lt_two_pow (n := 16) (by omega) (by omega) | (simp [md_set, va_up]; done) | (simp [md_set, va_up]; omega) | exact Nat.or_lt_two_pow (n := 6) (by omega) (by omega)) (by decide) (fun hv22 => ?_)
          have hv22 : N 20 oth.toNatClampNeg < 65536 := hv22
          show sg_W X M 0 0 79 [some (.ref x), some (.int (nI one.toNatClampNeg)), some (.int (nI oth.toNatClampNeg)), some (.int (nI one.toNatClampNeg)), some (.int (nI oth.toNatClampNeg))] [.int (nI (N 20 oth.toNatClampNeg)), .int (nI (N 20 one.toNatClampNeg)), .int (nI one.toNatClampNeg), .ref (ad 20)]
          have hW23 := hcx oth.toNatClampNeg
          refine sg_iorN (pc := 79) (a := N 20 one.toNatClampNeg) (b := N 20 oth.toNatClampNeg) hC dX7_combine_79 ?_
          refine md_iast (pc := 80) (i := 20) (j := one.toNatClampNeg) (v := (N 20 one.toNatClampNeg) ||| (N 20 oth.toNatClampNeg)) hC dX7_combine_80 hI rfl (by first | omega | exact Nat.lt_of_le_of_lt Nat.and_le_left (by omega) | exact Nat.or_lt_two_pow (n := 16) (by omega) (by omega) | (simp [md_set, va_up]; done) | (simp [md_set, va_up]; omega) | exact Nat.or_lt_two_pow (n := 6) (by omega) (by omega)) (by decide) (by first | omega | exact Nat.lt_of_le_of_lt Nat.and_le_left (by omega) | exact Nat.or_lt_two_pow (n := 16) (by omega) (by omega) | (simp [md_set, va_up]; done) | (simp [md_set, va_up]; omega) | exact Nat.or_lt_two_pow (n := 6) (by omega) (by omega)) (fun M hI => ?_)
          refine sg_aload_n (pc := 81) (v := .ref x) hC dX7_combine_81 rfl rfl ?_
          refine md_get (pc := 82) (i := 19) hC (by decide) tw_1205 dX7_combine_82 hI rfl ?_
          refine sg_iload (pc := 85) (x := nI oth.toNatClampNeg) hC dX7_combine_85 rfl ?_
          refine sg_iconst (pc := 87) (nI 0) hC dX7_combine_87 (by decide) ?_
          refine md_zast (pc := 88) (i := 19) (j := oth.toNatClampNeg) (v := 0) hC dX7_combine_88 hI rfl (by first | omega | exact Nat.lt_of_le_of_lt Nat.and_le_left (by omega) | exact Nat.or_lt_two_pow (n := 16) (by omega) (by omega) | (simp [md_set, va_up]; done) | (simp [md_set, va_up]; omega) | exact Nat.or_lt_two_pow (n := 6) (by omega) (by omega)) (by decide) (by first | omega | exact Nat.lt_of_le_of_lt Nat.and_le_left (by omega) | exact Nat.or_lt_two_pow (n := 16) (by omega) (by omega) | (simp [md_set, va_up]; done) | (simp [md_set, va_up]; omega) | exact Nat.or_lt_two_pow (n := 6) (by omega) (by omega)) (fun M hI => ?_)
          refine sg_aload_n (pc := 89) (v := .ref x) hC dX7_combine_89 rfl rfl ?_
          refine md_get (pc := 90) (i := 20) hC (by decide) tw_1206 dX7_combine_90 hI rfl ?_
          refine sg_iload_n (pc := 93) (x := nI one.toNatClampNeg) hC dX7_combine_93 rfl ?_
          refine md_iald (pc := 94) (i := 20) (j := one.toNatClampNeg) hC dX7_combine_94 hI rfl (by first | omega | exact Nat.lt_of_le_of_lt Nat.and_le_left (by omega) | exact Nat.or_lt_two_pow (n := 16) (by omega) (by omega) | (simp [md_set, va_up]; done) | (simp [md_set, va_up]; omega) | exact Nat.or_lt_two_pow (n := 6) (by omega) (by omega)) (by decide) (fun hv24 => ?_)
          rw [show (md_set (md_set (md_set N 0 0 0) 20 one.toNatClampNeg ((N 20 one.toNatClampNeg) ||| (N 20 oth.toNatClampNeg))) 19 oth.toNatClampNeg 0) 20 one.toNatClampNeg = (N 20 one.toNatClampNeg) ||| (N 20 oth.toNatClampNeg) from by simp [md_set, va_up]]
          show sg_W X M 0 0 95 [some (.ref x), some (.int (nI one.toNatClampNeg)), some (.int (nI oth.toNatClampNeg)), some (.int (nI one.toNatClampNeg)), some (.int (nI oth.toNatClampNeg))] [.int (nI ((N 20 one.toNatClampNeg) ||| (N 20 oth.toNatClampNeg)))]
          refine sg_callS (pc := 95) (As := [.int (nI ((N 20 one.toNatClampNeg) ||| (N 20 oth.toNatClampNeg)))]) (rest := []) (mc := 0) (ms := 0) hC tw_1433 tw_1434 tw_72 tw_1435 yd_X7_many (by decide) dX7_combine_95 rfl (Nat.le_of_ble_eq_true rfl) (Nat.zero_le _) (Nat.zero_le _) ?_
          refine mm_many htr  ((N 20 one.toNatClampNeg) ||| (N 20 oth.toNatClampNeg)) (by first | omega | exact Nat.lt_of_le_of_lt Nat.and_le_left (by omega) | exact Nat.or_lt_two_pow (n := 16) (by omega) (by omega) | (simp [md_set, va_up]; done) | (simp [md_set, va_up]; omega) | exact Nat.or_lt_two_pow (n := 6) (by omega) (by omega)) ?_
          show sg_W X M 0 0 98 [some (.ref x), some (.int (nI one.toNatClampNeg)), some (.int (nI oth.toNatClampNeg)), some (.int (nI one.toNatClampNeg)), some (.int (nI oth.toNatClampNeg))] [.int (nI ((md_many ((N 20 one.toNatClampNeg) ||| (N 20 oth.toNatClampNeg)))))]
          have e9 : md_combine N one oth = ((md_many ((N 20 one.toNatClampNeg) ||| (N 20 oth.toNatClampNeg))), (md_set (md_set (md_set N 0 0 0) 20 one.toNatClampNeg ((N 20 one.toNatClampNeg) ||| (N 20 oth.toNatClampNeg))) 19 oth.toNatClampNeg 0)) := by rw [md_combine]; simp only [if_pos h1, if_pos h6, if_neg h11, if_neg (Nat.not_le.mpr h12)]
          rw [e9] at hk
          exact sg_ireturn (st := []) (v := nI ((md_many ((N 20 one.toNatClampNeg) ||| (N 20 oth.toNatClampNeg))))) (pc := 98) hC hR dX7_combine_98 (hk M hI)
      · refine sg_aload_n (pc := 32) (v := .ref x) hC dX7_combine_32 rfl rfl ?_
        refine sg_iconst (pc := 33) (nI 2) hC dX7_combine_33 (by decide) ?_
        refine sg_callV (pc := 34) (As := [.int (nI 2)]) (rest := []) (mc := 0) (ms := 0) hC tw_1273 tw_1275 tw_33 tw_72 tw_1276 yd_X7_fail (by decide) (ci := 10) rfl dX7_combine_34 hI.x rfl (Nat.le_of_ble_eq_true rfl) (Nat.zero_le _) (Nat.zero_le _) ?_
        refine mm_fail htr hI 2 (by first | omega | exact Nat.lt_of_le_of_lt Nat.and_le_left (by omega) | exact Nat.or_lt_two_pow (n := 16) (by omega) (by omega) | (simp [md_set, va_up]; done) | (simp [md_set, va_up]; omega) | exact Nat.or_lt_two_pow (n := 6) (by omega) (by omega)) (fun M hI => ?_)
        show sg_W X M 0 0 37 [some (.ref x), some (.int (nI one.toNatClampNeg)), some (.int (nI oth.toNatClampNeg)), none, none] [.int (nI ((md_fail (md_set N 0 0 0) 2).1))]
        have e9 : md_combine N one oth = ((md_fail (md_set N 0 0 0) 2).1, (md_fail (md_set N 0 0 0) 2).2) := by rw [md_combine]; simp only [if_pos h1, if_pos h6, if_pos h11]
        rw [e9] at hk
        exact sg_ireturn (st := []) (v := nI ((md_fail (md_set N 0 0 0) 2).1)) (pc := 37) hC hR dX7_combine_37 (hk M hI)
    · refine sg_aload_n (pc := 21) (v := .ref x) hC dX7_combine_21 rfl rfl ?_
      refine sg_iconst (pc := 22) (nI 1) hC dX7_combine_22 (by decide) ?_
      refine sg_callV (pc := 23) (As := [.int (nI 1)]) (rest := []) (mc := 0) (ms := 0) hC tw_1273 tw_1275 tw_33 tw_72 tw_1276 yd_X7_fail (by decide) (ci := 10) rfl dX7_combine_23 hI.x rfl (Nat.le_of_ble_eq_true rfl) (Nat.zero_le _) (Nat.zero_le _) ?_
      refine mm_fail htr hI 1 (by first | omega | exact Nat.lt_of_le_of_lt Nat.and_le_left (by omega) | exact Nat.or_lt_two_pow (n := 16) (by omega) (by omega) | (simp [md_set, va_up]; done) | (simp [md_set, va_up]; omega) | exact Nat.or_lt_two_pow (n := 6) (by omega) (by omega)) (fun M hI => ?_)
      show sg_W X M 0 0 26 [some (.ref x), some (.int (nI one.toNatClampNeg)), some (.int oth), none, none] [.int (nI ((md_fail (md_set N 0 0 0) 1).1))]
      have e9 : md_combine N one oth = ((md_fail (md_set N 0 0 0) 1).1, (md_fail (md_set N 0 0 0) 1).2) := by rw [md_combine]; simp only [if_pos h1, if_neg (ts9 h6)]
      rw [e9] at hk
      exact sg_ireturn (st := []) (v := nI ((md_fail (md_set N 0 0 0) 1).1)) (pc := 26) hC hR dX7_combine_26 (hk M hI)

def md_note (N : Nat → Nat → Nat) (i : Int32) (what : Int32) : Nat × (Nat → Nat → Nat) := if (md_in i (nI 0) (md_p (N 21 0))) = true then if (md_in what (nI 0) (nI 1)) = true then (N 22 ((2 * i.toNatClampNeg) + what.toNatClampNeg), (md_set N 0 0 0)) else ((md_fail (md_set N 0 0 0) 1).1, (md_fail (md_set N 0 0 0) 1).2) else ((md_fail (md_set N 0 0 0) 1).1, (md_fail (md_set N 0 0 0) 1).2)
set_option maxHeartbeats 4000000 in
set_option maxRecDepth 100000 in
theorem mm_note {l : Launch} {G : sg_G} {d : Nat} {M0 M : sg_M} {x : Nat} {ad : Nat → Nat} {N : Nat → Nat → Nat} {kr : Option Value → sg_M → Prop} {kx : String → sg_M → Prop} (htr : l.stackTraces = false) (hI : md_I M0 M x ad N) (i : Int32) (what : Int32) (hnt : N 21 0 ≤ 7) (hk : ∀ M', md_I M0 M' x ad (md_note N i what).2 → kr (some (.int (nI (md_note N i what).1))) M') : sg_Met l G yX7_note cX7_note 3 (some .int) (d + 1) 0 0 [.ref x, .int i, .int what] M kr kx := by
  refine sg_enter [some (.ref x), some (.int i), some (.int what)] (by decide) htr (Nat.le_of_ble_eq_true rfl) rfl ?_
  intro X hC hR
  have hC : sg_C X l G cX7_note RX7 3 (d + 1) := hC
  refine sg_aload_n (pc := 0) (v := .ref x) hC dX7_note_0 rfl rfl ?_
  refine sg_iconst (pc := 1) (nI 0) hC dX7_note_1 (by decide) ?_
  refine md_put0 (pc := 2) (v := 0) hC tw_1186 dX7_note_2 hI (by first | omega | exact Nat.lt_of_le_of_lt Nat.and_le_left (by omega) | exact Nat.or_lt_two_pow (n := 16) (by omega) (by omega) | (simp [md_set, va_up]; done) | (simp [md_set, va_up]; omega) | exact Nat.or_lt_two_pow (n := 6) (by omega) (by omega)) (fun M hI => ?_)
  refine sg_iload_n (pc := 5) (x := i) hC dX7_note_5 rfl ?_
  refine sg_iconst (pc := 6) (nI 0) hC dX7_note_6 (by decide) ?_
  refine sg_aload_n (pc := 7) (v := .ref x) hC dX7_note_7 rfl rfl ?_
  refine md_get (pc := 8) (i := 21) hC (by decide) tw_1207 dX7_note_8 hI rfl ?_
  have hb1 : N 21 0 < 65536 := hI.lt 21 0
  show sg_W X M 0 0 11 [some (.ref x), some (.int i), some (.int what)] [.int (nI (N 21 0)), .int (nI 0), .int i]
  refine sg_iconst (pc := 11) (nI 1) hC dX7_note_11 (by decide) ?_
  refine sg_isub (pc := 12) (x := nI (N 21 0)) (y := nI 1) hC dX7_note_12 ?_
  show sg_W X M 0 0 13 [some (.ref x), some (.int i), some (.int what)] [.int (md_p (N 21 0)), .int (nI 0), .int i]
  refine sg_callS (pc := 13) (As := [.int i, .int (nI 0), .int (md_p (N 21 0))]) (rest := []) (mc := 0) (ms := 0) hC tw_1270 tw_1271 tw_72 tw_1272 yd_X7_in (by decide) dX7_note_13 rfl (Nat.le_of_ble_eq_true rfl) (Nat.zero_le _) (Nat.zero_le _) ?_
  refine mm_in htr  i (nI 0) (md_p (N 21 0))  ?_
  show sg_W X M 0 0 16 [some (.ref x), some (.int i), some (.int what)] [.int (md_b ((md_in i (nI 0) (md_p (N 21 0)))))]
  refine sg_ifB_eq (pc := 16) (b := (md_in i (nI 0) (md_p (N 21 0)))) 28 hC dX7_note_16 (by decide) (fun h2 => ?_) (fun h2 => ?_)
  · refine sg_aload_n (pc := 28) (v := .ref x) hC dX7_note_28 rfl rfl ?_
    refine sg_iconst (pc := 29) (nI 1) hC dX7_note_29 (by decide) ?_
    refine sg_callV (pc := 30) (As := [.int (nI 1)]) (rest := []) (mc := 0) (ms := 0) hC tw_1273 tw_1275 tw_33 tw_72 tw_1276 yd_X7_fail (by decide) (ci := 10) rfl dX7_note_30 hI.x rfl (Nat.le_of_ble_eq_true rfl) (Nat.zero_le _) (Nat.zero_le _) ?_
    refine mm_fail htr hI 1 (by first | omega | exact Nat.lt_of_le_of_lt Nat.and_le_left (by omega) | exact Nat.or_lt_two_pow (n := 16) (by omega) (by omega) | (simp [md_set, va_up]; done) | (simp [md_set, va_up]; omega) | exact Nat.or_lt_two_pow (n := 6) (by omega) (by omega)) (fun M hI => ?_)
    show sg_W X M 0 0 33 [some (.ref x), some (.int i), some (.int what)] [.int (nI ((md_fail (md_set N 0 0 0) 1).1))]
    have e9 : md_note N i what = ((md_fail (md_set N 0 0 0) 1).1, (md_fail (md_set N 0 0 0) 1).2) := by rw [md_note]; simp only [if_neg (ts9 h2)]
    rw [e9] at hk
    exact sg_ireturn (st := []) (v := nI ((md_fail (md_set N 0 0 0) 1).1)) (pc := 33) hC hR dX7_note_33 (hk M hI)
  · obtain ⟨hs3, hs4⟩ := md_in_pred h2 (by first | omega | exact Nat.lt_of_le_of_lt Nat.and_le_left (by omega) | exact Nat.or_lt_two_pow (n := 16) (by omega) (by omega) | (simp [md_set, va_up]; done) | (simp [md_set, va_up]; omega) | exact Nat.or_lt_two_pow (n := 6) (by omega) (by omega))
    rw [hs3]
    show sg_W X M 0 0 19 [some (.ref x), some (.int (nI i.toNatClampNeg)), some (.int what)] []
    refine sg_iload_n (pc := 19) (x := what) hC dX7_note_19 rfl ?_
    refine sg_iconst (pc := 20) (nI 0) hC dX7_note_20 (by decide) ?_
    refine sg_iconst (pc := 21) (nI 1) hC dX7_note_21 (by decide) ?_
    refine sg_callS (pc := 22) (As := [.int what, .int (nI 0), .int (nI 1)]) (rest := []) (mc := 0) (ms := 0) hC tw_1270 tw_1271 tw_72 tw_1272 yd_X7_in (by decide) dX7_note_22 rfl (Nat.le_of_ble_eq_true rfl) (Nat.zero_le _) (Nat.zero_le _) ?_
    refine mm_in htr  what (nI 0) (nI 1)  ?_
    show sg_W X M 0 0 25 [some (.ref x), some (.int (nI i.toNatClampNeg)), some (.int what)] [.int (md_b ((md_in what (nI 0) (nI 1))))]
    refine sg_ifB_ne (pc := 25) (b := (md_in what (nI 0) (nI 1))) 34 hC dX7_note_25 (by decide) (fun h5 => ?_) (fun h5 => ?_)
    · obtain ⟨hs6, hs7⟩ := md_in_nat h5 (by first | omega | exact Nat.lt_of_le_of_lt Nat.and_le_left (by omega) | exact Nat.or_lt_two_pow (n := 16) (by omega) (by omega) | (simp [md_set, va_up]; done) | (simp [md_set, va_up]; omega) | exact Nat.or_lt_two_pow (n := 6) (by omega) (by omega))
      rw [hs6]
      show sg_W X M 0 0 34 [some (.ref x), some (.int (nI i.toNatClampNeg)), some (.int (nI what.toNatClampNeg))] []
      refine sg_aload_n (pc := 34) (v := .ref x) hC dX7_note_34 rfl rfl ?_
      refine md_get (pc := 35) (i := 22) hC (by decide) tw_1208 dX7_note_35 hI rfl ?_
      refine sg_iconst (pc := 38) (nI 2) hC dX7_note_38 (by decide) ?_
      refine sg_iload_n (pc := 39) (x := nI i.toNatClampNeg) hC dX7_note_39 rfl ?_
      refine sg_imulN (pc := 40) (a := 2) (b := i.toNatClampNeg) hC dX7_note_40 ?_
      refine sg_iload_n (pc := 41) (x := nI what.toNatClampNeg) hC dX7_note_41 rfl ?_
      refine sg_iaddN (pc := 42) (a := 2 * i.toNatClampNeg) (b := what.toNatClampNeg) hC dX7_note_42 ?_
      refine md_iald (pc := 43) (i := 22) (j := (2 * i.toNatClampNeg) + what.toNatClampNeg) hC dX7_note_43 hI rfl (by first | omega | exact Nat.lt_of_le_of_lt Nat.and_le_left (by omega) | exact Nat.or_lt_two_pow (n := 16) (by omega) (by omega) | (simp [md_set, va_up]; done) | (simp [md_set, va_up]; omega) | exact Nat.or_lt_two_pow (n := 6) (by omega) (by omega)) (by decide) (fun hv8 => ?_)
      have hv8 : N 22 ((2 * i.toNatClampNeg) + what.toNatClampNeg) < 65536 := hv8
      show sg_W X M 0 0 44 [some (.ref x), some (.int (nI i.toNatClampNeg)), some (.int (nI what.toNatClampNeg))] [.int (nI (N 22 ((2 * i.toNatClampNeg) + what.toNatClampNeg)))]
      have e9 : md_note N i what = (N 22 ((2 * i.toNatClampNeg) + what.toNatClampNeg), (md_set N 0 0 0)) := by rw [md_note]; simp only [if_pos h2, if_pos h5]
      rw [e9] at hk
      exact sg_ireturn (st := []) (v := nI (N 22 ((2 * i.toNatClampNeg) + what.toNatClampNeg))) (pc := 44) hC hR dX7_note_44 (hk M hI)
    · refine sg_aload_n (pc := 28) (v := .ref x) hC dX7_note_28 rfl rfl ?_
      refine sg_iconst (pc := 29) (nI 1) hC dX7_note_29 (by decide) ?_
      refine sg_callV (pc := 30) (As := [.int (nI 1)]) (rest := []) (mc := 0) (ms := 0) hC tw_1273 tw_1275 tw_33 tw_72 tw_1276 yd_X7_fail (by decide) (ci := 10) rfl dX7_note_30 hI.x rfl (Nat.le_of_ble_eq_true rfl) (Nat.zero_le _) (Nat.zero_le _) ?_
      refine mm_fail htr hI 1 (by first | omega | exact Nat.lt_of_le_of_lt Nat.and_le_left (by omega) | exact Nat.or_lt_two_pow (n := 16) (by omega) (by omega) | (simp [md_set, va_up]; done) | (simp [md_set, va_up]; omega) | exact Nat.or_lt_two_pow (n := 6) (by omega) (by omega)) (fun M hI => ?_)
      show sg_W X M 0 0 33 [some (.ref x), some (.int (nI i.toNatClampNeg)), some (.int what)] [.int (nI ((md_fail (md_set N 0 0 0) 1).1))]
      have e9 : md_note N i what = ((md_fail (md_set N 0 0 0) 1).1, (md_fail (md_set N 0 0 0) 1).2) := by rw [md_note]; simp only [if_pos h2, if_neg (ts9 h5)]
      rw [e9] at hk
      exact sg_ireturn (st := []) (v := nI ((md_fail (md_set N 0 0 0) 1).1)) (pc := 33) hC hR dX7_note_33 (hk M hI)
