theorem md_in_nat {v : Int32} {n : Nat} (h : md_in v (nI 0) (nI n) = true) (hn : n < 2 ^ 31) : v = nI v.toNatClampNeg ∧ v.toNatClampNeg ≤ n := by
  unfold md_in at h
  split at h
  · cases h
  · split at h
    · cases h
    · obtain ⟨j, hj, rfl⟩ := nI_of (x := v) (by assumption)
      rw [nI_clamp hj]
      refine ⟨rfl, ?_⟩
      rcases Nat.lt_or_ge n j with c | c
      · exact absurd (nI_lt c hj) (by assumption)
      · exact c
theorem md_in_nI {a j b : Nat} (h1 : a ≤ j) (h2 : j ≤ b) (hb : b < 2 ^ 31) : md_in (nI j) (nI a) (nI b) = true := by
  rw [md_in, if_neg (nI_nlt h1 (by omega)), if_neg (nI_nlt h2 hb)]
theorem md_nat {v : Int32} (h : ¬ v < 0) : v = nI v.toNatClampNeg ∧ v.toNatClampNeg < 2 ^ 31 := by
  obtain ⟨j, hj, rfl⟩ := nI_of h
  rw [nI_clamp hj]
  exact ⟨rfl, hj⟩

def md_copy (N : Nat → Nat → Nat) (u : Nat) (v : Nat) : Nat → Nat → Nat := (md_set (md_set (md_set (md_set (md_set (md_set (md_set (md_set (md_set N 3 v (N 3 u)) 4 v (N 4 u)) 6 v (N 6 u)) 7 v (N 7 u)) 8 v (N 8 u)) 9 v (N 9 u)) 5 ((3 * v) + 0) (N 5 ((3 * u) + 0))) 5 ((3 * v) + 1) ((md_set (md_set (md_set (md_set (md_set (md_set (md_set N 3 v (N 3 u)) 4 v (N 4 u)) 6 v (N 6 u)) 7 v (N 7 u)) 8 v (N 8 u)) 9 v (N 9 u)) 5 ((3 * v) + 0) (N 5 ((3 * u) + 0))) 5 ((3 * u) + 1))) 5 ((3 * v) + 2) ((md_set (md_set (md_set (md_set (md_set (md_set (md_set (md_set N 3 v (N 3 u)) 4 v (N 4 u)) 6 v (N 6 u)) 7 v (N 7 u)) 8 v (N 8 u)) 9 v (N 9 u)) 5 ((3 * v) + 0) (N 5 ((3 * u) + 0))) 5 ((3 * v) + 1) ((md_set (md_set (md_set (md_set (md_set (md_set (md_set N 3 v (N 3 u)) 4 v (N 4 u)) 6 v (N 6 u)) 7 v (N 7 u)) 8 v (N 8 u)) 9 v (N 9 u)) 5 ((3 * v) + 0) (N 5 ((3 * u) + 0))) 5 ((3 * u) + 1))) 5 ((3 * u) + 2)))
set_option maxHeartbeats 4000000 in
set_option maxRecDepth 100000 in
theorem mm_copy {l : Launch} {G : sg_G} {d : Nat} {M0 M : sg_M} {x : Nat} {ad : Nat → Nat} {N : Nat → Nat → Nat} {kr : Option Value → sg_M → Prop} {kx : String → sg_M → Prop} (htr : l.stackTraces = false) (hI : md_I M0 M x ad N) (u : Nat) (v : Nat) (hu : u < 86) (hv : v < 86) (hk : ∀ M', md_I M0 M' x ad (md_copy N u v) → kr none M') : sg_Met l G yX7_copy cX7_copy 4 none (d + 0) 0 0 [.ref x, .int (nI u), .int (nI v)] M kr kx := by
  refine sg_enter [some (.ref x), some (.int (nI u)), some (.int (nI v)), none] (by decide) htr (Nat.le_of_ble_eq_true rfl) rfl ?_
  intro X hC hR
  have hC : sg_C X l G cX7_copy RX7 4 (d + 0) := hC
  refine sg_aload_n (pc := 0) (v := .ref x) hC dX7_copy_0 rfl rfl ?_
  refine md_get (pc := 1) (i := 3) hC (by decide) tw_1189 dX7_copy_1 hI rfl ?_
  refine sg_iload_n (pc := 4) (x := nI v) hC dX7_copy_4 rfl ?_
  refine sg_aload_n (pc := 5) (v := .ref x) hC dX7_copy_5 rfl rfl ?_
  refine md_get (pc := 6) (i := 3) hC (by decide) tw_1189 dX7_copy_6 hI rfl ?_
  refine sg_iload_n (pc := 9) (x := nI u) hC dX7_copy_9 rfl ?_
  refine md_iald (pc := 10) (i := 3) (j := u) hC dX7_copy_10 hI rfl (by first | omega | exact Nat.lt_of_le_of_lt Nat.and_le_left (by omega) | exact Nat.or_lt_two_pow (n := 16) (by omega) (by omega) | (simp [md_set, va_up]; done) | (simp [md_set, va_up]; omega)) (by decide) (fun hv1 => ?_)
  show sg_W X M 0 0 11 [some (.ref x), some (.int (nI u)), some (.int (nI v)), none] [.int (nI (N 3 u)), .int (nI v), .ref (ad 3)]
  refine md_iast (pc := 11) (i := 3) (j := v) (v := N 3 u) hC dX7_copy_11 hI rfl (by first | omega | exact Nat.lt_of_le_of_lt Nat.and_le_left (by omega) | exact Nat.or_lt_two_pow (n := 16) (by omega) (by omega) | (simp [md_set, va_up]; done) | (simp [md_set, va_up]; omega)) (by decide) (by first | omega | exact Nat.lt_of_le_of_lt Nat.and_le_left (by omega) | exact Nat.or_lt_two_pow (n := 16) (by omega) (by omega) | (simp [md_set, va_up]; done) | (simp [md_set, va_up]; omega)) (fun M hI => ?_)
  refine sg_aload_n (pc := 12) (v := .ref x) hC dX7_copy_12 rfl rfl ?_
  refine md_get (pc := 13) (i := 4) hC (by decide) tw_1190 dX7_copy_13 hI rfl ?_
  refine sg_iload_n (pc := 16) (x := nI v) hC dX7_copy_16 rfl ?_
  refine sg_aload_n (pc := 17) (v := .ref x) hC dX7_copy_17 rfl rfl ?_
  refine md_get (pc := 18) (i := 4) hC (by decide) tw_1190 dX7_copy_18 hI rfl ?_
  refine sg_iload_n (pc := 21) (x := nI u) hC dX7_copy_21 rfl ?_
  refine md_iald (pc := 22) (i := 4) (j := u) hC dX7_copy_22 hI rfl (by first | omega | exact Nat.lt_of_le_of_lt Nat.and_le_left (by omega) | exact Nat.or_lt_two_pow (n := 16) (by omega) (by omega) | (simp [md_set, va_up]; done) | (simp [md_set, va_up]; omega)) (by decide) (fun hv2 => ?_)
  have hv2 : N 4 u < 65536 := hv2
  show sg_W X M 0 0 23 [some (.ref x), some (.int (nI u)), some (.int (nI v)), none] [.int (nI (N 4 u)), .int (nI v), .ref (ad 4)]
  refine md_iast (pc := 23) (i := 4) (j := v) (v := N 4 u) hC dX7_copy_23 hI rfl (by first | omega | exact Nat.lt_of_le_of_lt Nat.and_le_left (by omega) | exact Nat.or_lt_two_pow (n := 16) (by omega) (by omega) | (simp [md_set, va_up]; done) | (simp [md_set, va_up]; omega)) (by decide) (by first | omega | exact Nat.lt_of_le_of_lt Nat.and_le_left (by omega) | exact Nat.or_lt_two_pow (n := 16) (by omega) (by omega) | (simp [md_set, va_up]; done) | (simp [md_set, va_up]; omega)) (fun M hI => ?_)
  refine sg_aload_n (pc := 24) (v := .ref x) hC dX7_copy_24 rfl rfl ?_
  refine md_get (pc := 25) (i := 6) hC (by decide) tw_1192 dX7_copy_25 hI rfl ?_
  refine sg_iload_n (pc := 28) (x := nI v) hC dX7_copy_28 rfl ?_
  refine sg_aload_n (pc := 29) (v := .ref x) hC dX7_copy_29 rfl rfl ?_
  refine md_get (pc := 30) (i := 6) hC (by decide) tw_1192 dX7_copy_30 hI rfl ?_
  refine sg_iload_n (pc := 33) (x := nI u) hC dX7_copy_33 rfl ?_
  refine md_iald (pc := 34) (i := 6) (j := u) hC dX7_copy_34 hI rfl (by first | omega | exact Nat.lt_of_le_of_lt Nat.and_le_left (by omega) | exact Nat.or_lt_two_pow (n := 16) (by omega) (by omega) | (simp [md_set, va_up]; done) | (simp [md_set, va_up]; omega)) (by decide) (fun hv3 => ?_)
  have hv3 : N 6 u < 65536 := hv3
  show sg_W X M 0 0 35 [some (.ref x), some (.int (nI u)), some (.int (nI v)), none] [.int (nI (N 6 u)), .int (nI v), .ref (ad 6)]
  refine md_iast (pc := 35) (i := 6) (j := v) (v := N 6 u) hC dX7_copy_35 hI rfl (by first | omega | exact Nat.lt_of_le_of_lt Nat.and_le_left (by omega) | exact Nat.or_lt_two_pow (n := 16) (by omega) (by omega) | (simp [md_set, va_up]; done) | (simp [md_set, va_up]; omega)) (by decide) (by first | omega | exact Nat.lt_of_le_of_lt Nat.and_le_left (by omega) | exact Nat.or_lt_two_pow (n := 16) (by omega) (by omega) | (simp [md_set, va_up]; done) | (simp [md_set, va_up]; omega)) (fun M hI => ?_)
  refine sg_aload_n (pc := 36) (v := .ref x) hC dX7_copy_36 rfl rfl ?_
  refine md_get (pc := 37) (i := 7) hC (by decide) tw_1193 dX7_copy_37 hI rfl ?_
  refine sg_iload_n (pc := 40) (x := nI v) hC dX7_copy_40 rfl ?_
  refine sg_aload_n (pc := 41) (v := .ref x) hC dX7_copy_41 rfl rfl ?_
  refine md_get (pc := 42) (i := 7) hC (by decide) tw_1193 dX7_copy_42 hI rfl ?_
  refine sg_iload_n (pc := 45) (x := nI u) hC dX7_copy_45 rfl ?_
  refine md_iald (pc := 46) (i := 7) (j := u) hC dX7_copy_46 hI rfl (by first | omega | exact Nat.lt_of_le_of_lt Nat.and_le_left (by omega) | exact Nat.or_lt_two_pow (n := 16) (by omega) (by omega) | (simp [md_set, va_up]; done) | (simp [md_set, va_up]; omega)) (by decide) (fun hv4 => ?_)
  have hv4 : N 7 u < 65536 := hv4
  show sg_W X M 0 0 47 [some (.ref x), some (.int (nI u)), some (.int (nI v)), none] [.int (nI (N 7 u)), .int (nI v), .ref (ad 7)]
  refine md_iast (pc := 47) (i := 7) (j := v) (v := N 7 u) hC dX7_copy_47 hI rfl (by first | omega | exact Nat.lt_of_le_of_lt Nat.and_le_left (by omega) | exact Nat.or_lt_two_pow (n := 16) (by omega) (by omega) | (simp [md_set, va_up]; done) | (simp [md_set, va_up]; omega)) (by decide) (by first | omega | exact Nat.lt_of_le_of_lt Nat.and_le_left (by omega) | exact Nat.or_lt_two_pow (n := 16) (by omega) (by omega) | (simp [md_set, va_up]; done) | (simp [md_set, va_up]; omega)) (fun M hI => ?_)
  refine sg_aload_n (pc := 48) (v := .ref x) hC dX7_copy_48 rfl rfl ?_
  refine md_get (pc := 49) (i := 8) hC (by decide) tw_1194 dX7_copy_49 hI rfl ?_
  refine sg_iload_n (pc := 52) (x := nI v) hC dX7_copy_52 rfl ?_
  refine sg_aload_n (pc := 53) (v := .ref x) hC dX7_copy_53 rfl rfl ?_
  refine md_get (pc := 54) (i := 8) hC (by decide) tw_1194 dX7_copy_54 hI rfl ?_
  refine sg_iload_n (pc := 57) (x := nI u) hC dX7_copy_57 rfl ?_
  refine md_iald (pc := 58) (i := 8) (j := u) hC dX7_copy_58 hI rfl (by first | omega | exact Nat.lt_of_le_of_lt Nat.and_le_left (by omega) | exact Nat.or_lt_two_pow (n := 16) (by omega) (by omega) | (simp [md_set, va_up]; done) | (simp [md_set, va_up]; omega)) (by decide) (fun hv5 => ?_)
  have hv5 : N 8 u < 65536 := hv5
  show sg_W X M 0 0 59 [some (.ref x), some (.int (nI u)), some (.int (nI v)), none] [.int (nI (N 8 u)), .int (nI v), .ref (ad 8)]
  refine md_iast (pc := 59) (i := 8) (j := v) (v := N 8 u) hC dX7_copy_59 hI rfl (by first | omega | exact Nat.lt_of_le_of_lt Nat.and_le_left (by omega) | exact Nat.or_lt_two_pow (n := 16) (by omega) (by omega) | (simp [md_set, va_up]; done) | (simp [md_set, va_up]; omega)) (by decide) (by first | omega | exact Nat.lt_of_le_of_lt Nat.and_le_left (by omega) | exact Nat.or_lt_two_pow (n := 16) (by omega) (by omega) | (simp [md_set, va_up]; done) | (simp [md_set, va_up]; omega)) (fun M hI => ?_)
  refine sg_aload_n (pc := 60) (v := .ref x) hC dX7_copy_60 rfl rfl ?_
  refine md_get (pc := 61) (i := 9) hC (by decide) tw_1195 dX7_copy_61 hI rfl ?_
  refine sg_iload_n (pc := 64) (x := nI v) hC dX7_copy_64 rfl ?_
  refine sg_aload_n (pc := 65) (v := .ref x) hC dX7_copy_65 rfl rfl ?_
  refine md_get (pc := 66) (i := 9) hC (by decide) tw_1195 dX7_copy_66 hI rfl ?_
  refine sg_iload_n (pc := 69) (x := nI u) hC dX7_copy_69 rfl ?_
  refine md_iald (pc := 70) (i := 9) (j := u) hC dX7_copy_70 hI rfl (by first | omega | exact Nat.lt_of_le_of_lt Nat.and_le_left (by omega) | exact Nat.or_lt_two_pow (n := 16) (by omega) (by omega) | (simp [md_set, va_up]; done) | (simp [md_set, va_up]; omega)) (by decide) (fun hv6 => ?_)
  have hv6 : N 9 u < 65536 := hv6
  show sg_W X M 0 0 71 [some (.ref x), some (.int (nI u)), some (.int (nI v)), none] [.int (nI (N 9 u)), .int (nI v), .ref (ad 9)]
  refine md_iast (pc := 71) (i := 9) (j := v) (v := N 9 u) hC dX7_copy_71 hI rfl (by first | omega | exact Nat.lt_of_le_of_lt Nat.and_le_left (by omega) | exact Nat.or_lt_two_pow (n := 16) (by omega) (by omega) | (simp [md_set, va_up]; done) | (simp [md_set, va_up]; omega)) (by decide) (by first | omega | exact Nat.lt_of_le_of_lt Nat.and_le_left (by omega) | exact Nat.or_lt_two_pow (n := 16) (by omega) (by omega) | (simp [md_set, va_up]; done) | (simp [md_set, va_up]; omega)) (fun M hI => ?_)
  refine sg_iconst (pc := 72) (nI 0) hC dX7_copy_72 (by decide) ?_
  refine sg_istore_n (pc := 73) (x := nI 0) hC dX7_copy_73 (by decide) ?_
  show sg_W X M 0 0 74 [some (.ref x), some (.int (nI u)), some (.int (nI v)), some (.int (nI 0))] []
  refine sg_iload_n (pc := 74) (x := nI 0) hC dX7_copy_74 rfl ?_
  refine sg_iconst (pc := 75) (nI 3) hC dX7_copy_75 (by decide) ?_
  refine sg_icmpN_ge (pc := 76) (a := 0) (b := 3) 105 hC dX7_copy_76 (by decide) (by decide) (by decide) (fun h7 => absurd h7 (by decide)) (fun _ => ?_)
  refine sg_aload_n (pc := 79) (v := .ref x) hC dX7_copy_79 rfl rfl ?_
  refine md_get (pc := 80) (i := 5) hC (by decide) tw_1191 dX7_copy_80 hI rfl ?_
  refine sg_iconst (pc := 83) (nI 3) hC dX7_copy_83 (by decide) ?_
  refine sg_iload_n (pc := 84) (x := nI v) hC dX7_copy_84 rfl ?_
  refine sg_imulN (pc := 85) (a := 3) (b := v) hC dX7_copy_85 ?_
  refine sg_iload_n (pc := 86) (x := nI 0) hC dX7_copy_86 rfl ?_
  refine sg_iaddN (pc := 87) (a := 3 * v) (b := 0) hC dX7_copy_87 ?_
  refine sg_aload_n (pc := 88) (v := .ref x) hC dX7_copy_88 rfl rfl ?_
  refine md_get (pc := 89) (i := 5) hC (by decide) tw_1191 dX7_copy_89 hI rfl ?_
  refine sg_iconst (pc := 92) (nI 3) hC dX7_copy_92 (by decide) ?_
  refine sg_iload_n (pc := 93) (x := nI u) hC dX7_copy_93 rfl ?_
  refine sg_imulN (pc := 94) (a := 3) (b := u) hC dX7_copy_94 ?_
  refine sg_iload_n (pc := 95) (x := nI 0) hC dX7_copy_95 rfl ?_
  refine sg_iaddN (pc := 96) (a := 3 * u) (b := 0) hC dX7_copy_96 ?_
  refine md_iald (pc := 97) (i := 5) (j := (3 * u) + 0) hC dX7_copy_97 hI rfl (by first | omega | exact Nat.lt_of_le_of_lt Nat.and_le_left (by omega) | exact Nat.or_lt_two_pow (n := 16) (by omega) (by omega) | (simp [md_set, va_up]; done) | (simp [md_set, va_up]; omega)) (by decide) (fun hv8 => ?_)
  have hv8 : N 5 ((3 * u) + 0) < 65536 := hv8
  show sg_W X M 0 0 98 [some (.ref x), some (.int (nI u)), some (.int (nI v)), some (.int (nI 0))] [.int (nI (N 5 ((3 * u) + 0))), .int (nI ((3 * v) + 0)), .ref (ad 5)]
  refine md_iast (pc := 98) (i := 5) (j := (3 * v) + 0) (v := N 5 ((3 * u) + 0)) hC dX7_copy_98 hI rfl (by first | omega | exact Nat.lt_of_le_of_lt Nat.and_le_left (by omega) | exact Nat.or_lt_two_pow (n := 16) (by omega) (by omega) | (simp [md_set, va_up]; done) | (simp [md_set, va_up]; omega)) (by decide) (by first | omega | exact Nat.lt_of_le_of_lt Nat.and_le_left (by omega) | exact Nat.or_lt_two_pow (n := 16) (by omega) (by omega) | (simp [md_set, va_up]; done) | (simp [md_set, va_up]; omega)) (fun M hI => ?_)
  refine sg_iincN (pc := 99) (a := 0) (b := 1) hC dX7_copy_99 rfl (nI_1 _) (by decide) ?_
  show sg_W X M 0 0 102 [some (.ref x), some (.int (nI u)), some (.int (nI v)), some (.int (nI 1))] []
  refine sg_goto (pc := 102) 74 hC dX7_copy_102 (by decide) ?_
  refine sg_iload_n (pc := 74) (x := nI 1) hC dX7_copy_74 rfl ?_
  refine sg_iconst (pc := 75) (nI 3) hC dX7_copy_75 (by decide) ?_
  refine sg_icmpN_ge (pc := 76) (a := 1) (b := 3) 105 hC dX7_copy_76 (by decide) (by decide) (by decide) (fun h9 => absurd h9 (by decide)) (fun _ => ?_)
  refine sg_aload_n (pc := 79) (v := .ref x) hC dX7_copy_79 rfl rfl ?_
  refine md_get (pc := 80) (i := 5) hC (by decide) tw_1191 dX7_copy_80 hI rfl ?_
  refine sg_iconst (pc := 83) (nI 3) hC dX7_copy_83 (by decide) ?_
  refine sg_iload_n (pc := 84) (x := nI v) hC dX7_copy_84 rfl ?_
  refine sg_imulN (pc := 85) (a := 3) (b := v) hC dX7_copy_85 ?_
  refine sg_iload_n (pc := 86) (x := nI 1) hC dX7_copy_86 rfl ?_
  refine sg_iaddN (pc := 87) (a := 3 * v) (b := 1) hC dX7_copy_87 ?_
  refine sg_aload_n (pc := 88) (v := .ref x) hC dX7_copy_88 rfl rfl ?_
  refine md_get (pc := 89) (i := 5) hC (by decide) tw_1191 dX7_copy_89 hI rfl ?_
  refine sg_iconst (pc := 92) (nI 3) hC dX7_copy_92 (by decide) ?_
  refine sg_iload_n (pc := 93) (x := nI u) hC dX7_copy_93 rfl ?_
  refine sg_imulN (pc := 94) (a := 3) (b := u) hC dX7_copy_94 ?_
  refine sg_iload_n (pc := 95) (x := nI 1) hC dX7_copy_95 rfl ?_
  refine sg_iaddN (pc := 96) (a := 3 * u) (b := 1) hC dX7_copy_96 ?_
  refine md_iald (pc := 97) (i := 5) (j := (3 * u) + 1) hC dX7_copy_97 hI rfl (by first | omega | exact Nat.lt_of_le_of_lt Nat.and_le_left (by omega) | exact Nat.or_lt_two_pow (n := 16) (by omega) (by omega) | (simp [md_set, va_up]; done) | (simp [md_set, va_up]; omega)) (by decide) (fun hv10 => ?_)
  show sg_W X M 0 0 98 [some (.ref x), some (.int (nI u)), some (.int (nI v)), some (.int (nI 1))] [.int (nI ((md_set (md_set (md_set (md_set (md_set (md_set (md_set N 3 v (N 3 u)) 4 v (N 4 u)) 6 v (N 6 u)) 7 v (N 7 u)) 8 v (N 8 u)) 9 v (N 9 u)) 5 ((3 * v) + 0) (N 5 ((3 * u) + 0))) 5 ((3 * u) + 1))), .int (nI ((3 * v) + 1)), .ref (ad 5)]
  refine md_iast (pc := 98) (i := 5) (j := (3 * v) + 1) (v := (md_set (md_set (md_set (md_set (md_set (md_set (md_set N 3 v (N 3 u)) 4 v (N 4 u)) 6 v (N 6 u)) 7 v (N 7 u)) 8 v (N 8 u)) 9 v (N 9 u)) 5 ((3 * v) + 0) (N 5 ((3 * u) + 0))) 5 ((3 * u) + 1)) hC dX7_copy_98 hI rfl (by first | omega | exact Nat.lt_of_le_of_lt Nat.and_le_left (by omega) | exact Nat.or_lt_two_pow (n := 16) (by omega) (by omega) | (simp [md_set, va_up]; done) | (simp [md_set, va_up]; omega)) (by decide) (by first | omega | exact Nat.lt_of_le_of_lt Nat.and_le_left (by omega) | exact Nat.or_lt_two_pow (n := 16) (by omega) (by omega) | (simp [md_set, va_up]; done) | (simp [md_set, va_up]; omega)) (fun M hI => ?_)
  refine sg_iincN (pc := 99) (a := 1) (b := 2) hC dX7_copy_99 rfl (nI_1 _) (by decide) ?_
  show sg_W X M 0 0 102 [some (.ref x), some (.int (nI u)), some (.int (nI v)), some (.int (nI 2))] []
  refine sg_goto (pc := 102) 74 hC dX7_copy_102 (by decide) ?_
  refine sg_iload_n (pc := 74) (x := nI 2) hC dX7_copy_74 rfl ?_
  refine sg_iconst (pc := 75) (nI 3) hC dX7_copy_75 (by decide) ?_
  refine sg_icmpN_ge (pc := 76) (a := 2) (b := 3) 105 hC dX7_copy_76 (by decide) (by decide) (by decide) (fun h11 => absurd h11 (by decide)) (fun _ => ?_)
  refine sg_aload_n (pc := 79) (v := .ref x) hC dX7_copy_79 rfl rfl ?_
  refine md_get (pc := 80) (i := 5) hC (by decide) tw_1191 dX7_copy_80 hI rfl ?_
  refine sg_iconst (pc := 83) (nI 3) hC dX7_copy_83 (by decide) ?_
  refine sg_iload_n (pc := 84) (x := nI v) hC dX7_copy_84 rfl ?_
  refine sg_imulN (pc := 85) (a := 3) (b := v) hC dX7_copy_85 ?_
  refine sg_iload_n (pc := 86) (x := nI 2) hC dX7_copy_86 rfl ?_
  refine sg_iaddN (pc := 87) (a := 3 * v) (b := 2) hC dX7_copy_87 ?_
  refine sg_aload_n (pc := 88) (v := .ref x) hC dX7_copy_88 rfl rfl ?_
  refine md_get (pc := 89) (i := 5) hC (by decide) tw_1191 dX7_copy_89 hI rfl ?_
  refine sg_iconst (pc := 92) (nI 3) hC dX7_copy_92 (by decide) ?_
  refine sg_iload_n (pc := 93) (x := nI u) hC dX7_copy_93 rfl ?_
  refine sg_imulN (pc := 94) (a := 3) (b := u) hC dX7_copy_94 ?_
  refine sg_iload_n (pc := 95) (x := nI 2) hC dX7_copy_95 rfl ?_
  refine sg_iaddN (pc := 96) (a := 3 * u) (b := 2) hC dX7_copy_96 ?_
  refine md_iald (pc := 97) (i := 5) (j := (3 * u) + 2) hC dX7_copy_97 hI rfl (by first | omega | exact Nat.lt_of_le_of_lt Nat.and_le_left (by omega) | exact Nat.or_lt_two_pow (n := 16) (by omega) (by omega) | (simp [md_set, va_up]; done) | (simp [md_set, va_up]; omega)) (by decide) (fun hv12 => ?_)
  show sg_W X M 0 0 98 [some (.ref x), some (.int (nI u)), some (.int (nI v)), some (.int (nI 2))] [.int (nI ((md_set (md_set (md_set (md_set (md_set (md_set (md_set (md_set N 3 v (N 3 u)) 4 v (N 4 u)) 6 v (N 6 u)) 7 v (N 7 u)) 8 v (N 8 u)) 9 v (N 9 u)) 5 ((3 * v) + 0) (N 5 ((3 * u) + 0))) 5 ((3 * v) + 1) ((md_set (md_set (md_set (md_set (md_set (md_set (md_set N 3 v (N 3 u)) 4 v (N 4 u)) 6 v (N 6 u)) 7 v (N 7 u)) 8 v (N 8 u)) 9 v (N 9 u)) 5 ((3 * v) + 0) (N 5 ((3 * u) + 0))) 5 ((3 * u) + 1))) 5 ((3 * u) + 2))), .int (nI ((3 * v) + 2)), .ref (ad 5)]
  refine md_iast (pc := 98) (i := 5) (j := (3 * v) + 2) (v := (md_set (md_set (md_set (md_set (md_set (md_set (md_set (md_set N 3 v (N 3 u)) 4 v (N 4 u)) 6 v (N 6 u)) 7 v (N 7 u)) 8 v (N 8 u)) 9 v (N 9 u)) 5 ((3 * v) + 0) (N 5 ((3 * u) + 0))) 5 ((3 * v) + 1) ((md_set (md_set (md_set (md_set (md_set (md_set (md_set N 3 v (N 3 u)) 4 v (N 4 u)) 6 v (N 6 u)) 7 v (N 7 u)) 8 v (N 8 u)) 9 v (N 9 u)) 5 ((3 * v) + 0) (N 5 ((3 * u) + 0))) 5 ((3 * u) + 1))) 5 ((3 * u) + 2)) hC dX7_copy_98 hI rfl (by first | omega | exact Nat.lt_of_le_of_lt Nat.and_le_left (by omega) | exact Nat.or_lt_two_pow (n := 16) (by omega) (by omega) | (simp [md_set, va_up]; done) | (simp [md_set, va_up]; omega)) (by decide) (by first | omega | exact Nat.lt_of_le_of_lt Nat.and_le_left (by omega) | exact Nat.or_lt_two_pow (n := 16) (by omega) (by omega) | (simp [md_set, va_up]; done) | (simp [md_set, va_up]; omega)) (fun M hI => ?_)
  refine sg_iincN (pc := 99) (a := 2) (b := 3) hC dX7_copy_99 rfl (nI_1 _) (by decide) ?_
  show sg_W X M 0 0 102 [some (.ref x), some (.int (nI u)), some (.int (nI v)), some (.int (nI 3))] []
  refine sg_goto (pc := 102) 74 hC dX7_copy_102 (by decide) ?_
  refine sg_iload_n (pc := 74) (x := nI 3) hC dX7_copy_74 rfl ?_
  refine sg_iconst (pc := 75) (nI 3) hC dX7_copy_75 (by decide) ?_
  refine sg_icmpN_ge (pc := 76) (a := 3) (b := 3) 105 hC dX7_copy_76 (by decide) (by decide) (by decide) (fun _ => ?_) (fun h13 => absurd h13 (by decide))
  have e9 : md_copy N u v = (md_set (md_set (md_set (md_set (md_set (md_set (md_set (md_set (md_set N 3 v (N 3 u)) 4 v (N 4 u)) 6 v (N 6 u)) 7 v (N 7 u)) 8 v (N 8 u)) 9 v (N 9 u)) 5 ((3 * v) + 0) (N 5 ((3 * u) + 0))) 5 ((3 * v) + 1) ((md_set (md_set (md_set (md_set (md_set (md_set (md_set N 3 v (N 3 u)) 4 v (N 4 u)) 6 v (N 6 u)) 7 v (N 7 u)) 8 v (N 8 u)) 9 v (N 9 u)) 5 ((3 * v) + 0) (N 5 ((3 * u) + 0))) 5 ((3 * u) + 1))) 5 ((3 * v) + 2) ((md_set (md_set (md_set (md_set (md_set (md_set (md_set (md_set N 3 v (N 3 u)) 4 v (N 4 u)) 6 v (N 6 u)) 7 v (N 7 u)) 8 v (N 8 u)) 9 v (N 9 u)) 5 ((3 * v) + 0) (N 5 ((3 * u) + 0))) 5 ((3 * v) + 1) ((md_set (md_set (md_set (md_set (md_set (md_set (md_set N 3 v (N 3 u)) 4 v (N 4 u)) 6 v (N 6 u)) 7 v (N 7 u)) 8 v (N 8 u)) 9 v (N 9 u)) 5 ((3 * v) + 0) (N 5 ((3 * u) + 0))) 5 ((3 * u) + 1))) 5 ((3 * u) + 2))) := by rw [md_copy]
  rw [e9] at hk
  exact sg_vreturn (st := []) (pc := 105) hC hR dX7_copy_105 (hk M hI)

def md_put (N : Nat → Nat → Nat) (c : Nat) : Nat → Nat → Nat := (md_set (md_set N 11 (N 10 0) c) 10 0 ((N 10 0) + 1))
set_option maxHeartbeats 4000000 in
set_option maxRecDepth 100000 in
theorem mm_put {l : Launch} {G : sg_G} {d : Nat} {M0 M : sg_M} {x : Nat} {ad : Nat → Nat} {N : Nat → Nat → Nat} {kr : Option Value → sg_M → Prop} {kx : String → sg_M → Prop} (htr : l.stackTraces = false) (hI : md_I M0 M x ad N) (c : Nat) (hc : c < 65536) (hs : N 10 0 < 20) (hk : ∀ M', md_I M0 M' x ad (md_put N c) → kr none M') : sg_Met l G yX7_put cX7_put 2 none (d + 0) 0 0 [.ref x, .int (nI c)] M kr kx := by
  refine sg_enter [some (.ref x), some (.int (nI c))] (by decide) htr (Nat.le_of_ble_eq_true rfl) rfl ?_
  intro X hC hR
  have hC : sg_C X l G cX7_put RX7 2 (d + 0) := hC
  refine sg_aload_n (pc := 0) (v := .ref x) hC dX7_put_0 rfl rfl ?_
  refine md_get (pc := 1) (i := 11) hC (by decide) tw_1197 dX7_put_1 hI rfl ?_
  refine sg_aload_n (pc := 4) (v := .ref x) hC dX7_put_4 rfl rfl ?_
  refine md_get (pc := 5) (i := 10) hC (by decide) tw_1196 dX7_put_5 hI rfl ?_
  have hb1 : N 10 0 < 65536 := hI.lt 10 0
  show sg_W X M 0 0 8 [some (.ref x), some (.int (nI c))] [.int (nI (N 10 0)), .ref (ad 11)]
  refine sg_iload_n (pc := 8) (x := nI c) hC dX7_put_8 rfl ?_
  refine sg_i2c (pc := 9) (nI c) hC dX7_put_9 (md_i2c (by first | omega | exact Nat.lt_of_le_of_lt Nat.and_le_left (by omega) | exact Nat.or_lt_two_pow (n := 16) (by omega) (by omega))) ?_
  refine md_cast (pc := 10) (i := 11) (j := N 10 0) (v := c) hC dX7_put_10 hI rfl (by first | omega | exact Nat.lt_of_le_of_lt Nat.and_le_left (by omega) | exact Nat.or_lt_two_pow (n := 16) (by omega) (by omega)) (by decide) (by first | omega | exact Nat.lt_of_le_of_lt Nat.and_le_left (by omega) | exact Nat.or_lt_two_pow (n := 16) (by omega) (by omega)) (fun M hI => ?_)
  refine sg_aload_n (pc := 11) (v := .ref x) hC dX7_put_11 rfl rfl ?_
  refine sg_dup (pc := 12) hC dX7_put_12 rfl ?_
  refine md_get (pc := 13) (i := 10) hC (by decide) tw_1196 dX7_put_13 hI rfl ?_
  have hb2 : N 10 0 < 65536 := hI.lt 10 0
  show sg_W X M 0 0 16 [some (.ref x), some (.int (nI c))] [.int (nI (N 10 0)), .ref x]
  refine sg_iconst (pc := 16) (nI 1) hC dX7_put_16 (by decide) ?_
  refine sg_iaddN (pc := 17) (a := N 10 0) (b := 1) hC dX7_put_17 ?_
  refine md_put10 (pc := 18) (v := (N 10 0) + 1) hC tw_1196 dX7_put_18 hI (by first | omega | exact Nat.lt_of_le_of_lt Nat.and_le_left (by omega) | exact Nat.or_lt_two_pow (n := 16) (by omega) (by omega)) (fun M hI => ?_)
  have e9 : md_put N c = (md_set (md_set N 11 (N 10 0) c) 10 0 ((N 10 0) + 1)) := by rw [md_put]
  rw [e9] at hk
  exact sg_vreturn (st := []) (pc := 21) hC hR dX7_put_21 (hk M hI)

def md_isSlot (N : Nat → Nat → Nat) (slot : Int32) : Bool := if (md_in slot (nI 0) (nI 7)) = true then if N 3 slot.toNatClampNeg ≤ 0 then false else true else false
set_option maxHeartbeats 4000000 in
set_option maxRecDepth 100000 in
theorem mm_isSlot {l : Launch} {G : sg_G} {d : Nat} {M0 M : sg_M} {x : Nat} {ad : Nat → Nat} {N : Nat → Nat → Nat} {kr : Option Value → sg_M → Prop} {kx : String → sg_M → Prop} (htr : l.stackTraces = false) (hI : md_I M0 M x ad N) (slot : Int32)  (hk : kr (some (.int (md_b (md_isSlot N slot)))) M) : sg_Met l G yX7_isSlot cX7_isSlot 2 (some .boolean) (d + 1) 0 0 [.ref x, .int slot] M kr kx := by
  refine sg_enter [some (.ref x), some (.int slot)] (by decide) htr (Nat.le_of_ble_eq_true rfl) rfl ?_
  intro X hC hR
  have hC : sg_C X l G cX7_isSlot RX7 2 (d + 1) := hC
  refine sg_iload_n (pc := 0) (x := slot) hC dX7_isSlot_0 rfl ?_
  refine sg_iconst (pc := 1) (nI 0) hC dX7_isSlot_1 (by decide) ?_
  refine sg_bipush (pc := 2) (nI 7) hC dX7_isSlot_2 (by decide) ?_
  refine sg_callS (pc := 4) (As := [.int slot, .int (nI 0), .int (nI 7)]) (rest := []) (mc := 0) (ms := 0) hC tw_1270 tw_1271 tw_72 tw_1272 yd_X7_in (by decide) dX7_isSlot_4 rfl (Nat.le_of_ble_eq_true rfl) (Nat.zero_le _) (Nat.zero_le _) ?_
  refine mm_in htr  slot (nI 0) (nI 7)  ?_
  show sg_W X M 0 0 7 [some (.ref x), some (.int slot)] [.int (md_b ((md_in slot (nI 0) (nI 7))))]
  refine sg_ifB_eq (pc := 7) (b := (md_in slot (nI 0) (nI 7))) 37 hC dX7_isSlot_7 (by decide) (fun h1 => ?_) (fun h1 => ?_)
  · refine sg_iconst (pc := 37) (nI 0) hC dX7_isSlot_37 (by decide) ?_
    have e9 : md_isSlot N slot = false := by rw [md_isSlot]; simp only [if_neg (ts9 h1)]
    rw [e9] at hk
    exact sg_zreturn (st := []) (v := md_b false) (pc := 38) (ty := .boolean) hC hR (md_narb _) dX7_isSlot_38 hk
  · obtain ⟨hs2, hs3⟩ := md_in_nat h1 (by first | omega | exact Nat.lt_of_le_of_lt Nat.and_le_left (by omega) | exact Nat.or_lt_two_pow (n := 16) (by omega) (by omega) | (simp [md_set, va_up]; done) | (simp [md_set, va_up]; omega))
    rw [hs2]
    show sg_W X M 0 0 10 [some (.ref x), some (.int (nI slot.toNatClampNeg))] []
    refine sg_aload_n (pc := 10) (v := .ref x) hC dX7_isSlot_10 rfl rfl ?_
    refine md_get (pc := 11) (i := 3) hC (by decide) tw_1189 dX7_isSlot_11 hI rfl ?_
    refine sg_iload_n (pc := 14) (x := nI slot.toNatClampNeg) hC dX7_isSlot_14 rfl ?_
    refine sg_iconst (pc := 15) (nI 0) hC dX7_isSlot_15 (by decide) ?_
    refine sg_bipush (pc := 16) (nI 7) hC dX7_isSlot_16 (by decide) ?_
    refine sg_callS (pc := 18) (As := [.int (nI slot.toNatClampNeg), .int (nI 0), .int (nI 7)]) (rest := [.ref (ad 3)]) (mc := 0) (ms := 0) hC tw_1270 tw_1271 tw_72 tw_1272 yd_X7_in (by decide) dX7_isSlot_18 rfl (Nat.le_of_ble_eq_true rfl) (Nat.zero_le _) (Nat.zero_le _) ?_
    refine mm_in htr  (nI slot.toNatClampNeg) (nI 0) (nI 7)  ?_
    show sg_W X M 0 0 21 [some (.ref x), some (.int (nI slot.toNatClampNeg))] [.int (md_b ((md_in (nI slot.toNatClampNeg) (nI 0) (nI 7)))), .ref (ad 3)]
    rw [md_in_nI (by omega) (by omega) (by omega)]
    show sg_W X M 0 0 21 [some (.ref x), some (.int (nI slot.toNatClampNeg))] [.int (md_b true), .ref (ad 3)]
    refine sg_ifB_eq (pc := 21) (b := true) 28 hC dX7_isSlot_21 (by decide) (fun h => absurd h (by decide)) (fun _ => ?_)
    refine sg_iload_n (pc := 24) (x := nI slot.toNatClampNeg) hC dX7_isSlot_24 rfl ?_
    refine sg_goto (pc := 25) 29 hC dX7_isSlot_25 (by decide) ?_
    refine md_iald (pc := 29) (i := 3) (j := slot.toNatClampNeg) hC dX7_isSlot_29 hI rfl (by first | omega | exact Nat.lt_of_le_of_lt Nat.and_le_left (by omega) | exact Nat.or_lt_two_pow (n := 16) (by omega) (by omega) | (simp [md_set, va_up]; done) | (simp [md_set, va_up]; omega)) (by decide) (fun hv4 => ?_)
    show sg_W X M 0 0 30 [some (.ref x), some (.int (nI slot.toNatClampNeg))] [.int (nI (N 3 slot.toNatClampNeg))]
    refine sg_ifN_le (pc := 30) (a := N 3 slot.toNatClampNeg) 37 hC dX7_isSlot_30 (by decide) (by first | omega | exact Nat.lt_of_le_of_lt Nat.and_le_left (by omega) | exact Nat.or_lt_two_pow (n := 16) (by omega) (by omega) | (simp [md_set, va_up]; done) | (simp [md_set, va_up]; omega)) (fun h5 => ?_) (fun h5 => ?_)
    · refine sg_iconst (pc := 37) (nI 0) hC dX7_isSlot_37 (by decide) ?_
      have e9 : md_isSlot N slot = false := by rw [md_isSlot]; simp only [if_pos h1, if_pos h5]
      rw [e9] at hk
      exact sg_zreturn (st := []) (v := md_b false) (pc := 38) (ty := .boolean) hC hR (md_narb _) dX7_isSlot_38 hk
    · refine sg_iconst (pc := 33) (nI 1) hC dX7_isSlot_33 (by decide) ?_
      refine sg_goto (pc := 34) 38 hC dX7_isSlot_34 (by decide) ?_
      have e9 : md_isSlot N slot = true := by rw [md_isSlot]; simp only [if_pos h1, if_neg (Nat.not_le.mpr h5)]
      rw [e9] at hk
      exact sg_zreturn (st := []) (v := md_b true) (pc := 38) (ty := .boolean) hC hR (md_narb _) dX7_isSlot_38 hk

def md_isThread (N : Nat → Nat → Nat) (t : Int32) : Bool := if (md_in t (nI 0) (nI 3)) = true then if N 13 t.toNatClampNeg = 0 then false else true else false
set_option maxHeartbeats 4000000 in
set_option maxRecDepth 100000 in
theorem mm_isThread {l : Launch} {G : sg_G} {d : Nat} {M0 M : sg_M} {x : Nat} {ad : Nat → Nat} {N : Nat → Nat → Nat} {kr : Option Value → sg_M → Prop} {kx : String → sg_M → Prop} (htr : l.stackTraces = false) (hI : md_I M0 M x ad N) (t : Int32)  (hk : kr (some (.int (md_b (md_isThread N t)))) M) : sg_Met l G yX7_isThread cX7_isThread 2 (some .boolean) (d + 1) 0 0 [.ref x, .int t] M kr kx := by
  refine sg_enter [some (.ref x), some (.int t)] (by decide) htr (Nat.le_of_ble_eq_true rfl) rfl ?_
  intro X hC hR
  have hC : sg_C X l G cX7_isThread RX7 2 (d + 1) := hC
  refine sg_iload_n (pc := 0) (x := t) hC dX7_isThread_0 rfl ?_
  refine sg_iconst (pc := 1) (nI 0) hC dX7_isThread_1 (by decide) ?_
  refine sg_iconst (pc := 2) (nI 3) hC dX7_isThread_2 (by decide) ?_
  refine sg_callS (pc := 3) (As := [.int t, .int (nI 0), .int (nI 3)]) (rest := []) (mc := 0) (ms := 0) hC tw_1270 tw_1271 tw_72 tw_1272 yd_X7_in (by decide) dX7_isThread_3 rfl (Nat.le_of_ble_eq_true rfl) (Nat.zero_le _) (Nat.zero_le _) ?_
  refine mm_in htr  t (nI 0) (nI 3)  ?_
  show sg_W X M 0 0 6 [some (.ref x), some (.int t)] [.int (md_b ((md_in t (nI 0) (nI 3))))]
  refine sg_ifB_eq (pc := 6) (b := (md_in t (nI 0) (nI 3))) 35 hC dX7_isThread_6 (by decide) (fun h1 => ?_) (fun h1 => ?_)
  · refine sg_iconst (pc := 35) (nI 0) hC dX7_isThread_35 (by decide) ?_
    have e9 : md_isThread N t = false := by rw [md_isThread]; simp only [if_neg (ts9 h1)]
    rw [e9] at hk
    exact sg_zreturn (st := []) (v := md_b false) (pc := 36) (ty := .boolean) hC hR (md_narb _) dX7_isThread_36 hk
  · obtain ⟨hs2, hs3⟩ := md_in_nat h1 (by first | omega | exact Nat.lt_of_le_of_lt Nat.and_le_left (by omega) | exact Nat.or_lt_two_pow (n := 16) (by omega) (by omega) | (simp [md_set, va_up]; done) | (simp [md_set, va_up]; omega))
    rw [hs2]
    show sg_W X M 0 0 9 [some (.ref x), some (.int (nI t.toNatClampNeg))] []
    refine sg_aload_n (pc := 9) (v := .ref x) hC dX7_isThread_9 rfl rfl ?_
    refine md_get (pc := 10) (i := 13) hC (by decide) tw_1199 dX7_isThread_10 hI rfl ?_
    refine sg_iload_n (pc := 13) (x := nI t.toNatClampNeg) hC dX7_isThread_13 rfl ?_
    refine sg_iconst (pc := 14) (nI 0) hC dX7_isThread_14 (by decide) ?_
    refine sg_iconst (pc := 15) (nI 3) hC dX7_isThread_15 (by decide) ?_
    refine sg_callS (pc := 16) (As := [.int (nI t.toNatClampNeg), .int (nI 0), .int (nI 3)]) (rest := [.ref (ad 13)]) (mc := 0) (ms := 0) hC tw_1270 tw_1271 tw_72 tw_1272 yd_X7_in (by decide) dX7_isThread_16 rfl (Nat.le_of_ble_eq_true rfl) (Nat.zero_le _) (Nat.zero_le _) ?_
    refine mm_in htr  (nI t.toNatClampNeg) (nI 0) (nI 3)  ?_
    show sg_W X M 0 0 19 [some (.ref x), some (.int (nI t.toNatClampNeg))] [.int (md_b ((md_in (nI t.toNatClampNeg) (nI 0) (nI 3)))), .ref (ad 13)]
    rw [md_in_nI (by omega) (by omega) (by omega)]
    show sg_W X M 0 0 19 [some (.ref x), some (.int (nI t.toNatClampNeg))] [.int (md_b true), .ref (ad 13)]
    refine sg_ifB_eq (pc := 19) (b := true) 26 hC dX7_isThread_19 (by decide) (fun h => absurd h (by decide)) (fun _ => ?_)
    refine sg_iload_n (pc := 22) (x := nI t.toNatClampNeg) hC dX7_isThread_22 rfl ?_
    refine sg_goto (pc := 23) 27 hC dX7_isThread_23 (by decide) ?_
    refine md_zald (pc := 27) (i := 13) (j := t.toNatClampNeg) hC dX7_isThread_27 hI rfl (by first | omega | exact Nat.lt_of_le_of_lt Nat.and_le_left (by omega) | exact Nat.or_lt_two_pow (n := 16) (by omega) (by omega) | (simp [md_set, va_up]; done) | (simp [md_set, va_up]; omega)) (by decide) (fun hv4 => ?_)
    show sg_W X M 0 0 28 [some (.ref x), some (.int (nI t.toNatClampNeg))] [.int (nI (N 13 t.toNatClampNeg))]
    refine sg_ifN_eq (pc := 28) (a := N 13 t.toNatClampNeg) 35 hC dX7_isThread_28 (by decide) (by first | omega | exact Nat.lt_of_le_of_lt Nat.and_le_left (by omega) | exact Nat.or_lt_two_pow (n := 16) (by omega) (by omega) | (simp [md_set, va_up]; done) | (simp [md_set, va_up]; omega)) (fun h5 => ?_) (fun h5 => ?_)
    · refine sg_iconst (pc := 35) (nI 0) hC dX7_isThread_35 (by decide) ?_
      have e9 : md_isThread N t = false := by rw [md_isThread]; simp only [if_pos h1, if_pos h5]
      rw [e9] at hk
      exact sg_zreturn (st := []) (v := md_b false) (pc := 36) (ty := .boolean) hC hR (md_narb _) dX7_isThread_36 hk
    · refine sg_iconst (pc := 31) (nI 1) hC dX7_isThread_31 (by decide) ?_
      refine sg_goto (pc := 32) 36 hC dX7_isThread_32 (by decide) ?_
      have e9 : md_isThread N t = true := by rw [md_isThread]; simp only [if_pos h1, if_neg h5]
      rw [e9] at hk
      exact sg_zreturn (st := []) (v := md_b true) (pc := 36) (ty := .boolean) hC hR (md_narb _) dX7_isThread_36 hk

def md_isContext (N : Nat → Nat → Nat) (t : Int32) : Bool := if (md_in t (nI 0) (nI 7)) = true then if N 19 t.toNatClampNeg = 0 then false else true else false
set_option maxHeartbeats 4000000 in
set_option maxRecDepth 100000 in
theorem mm_isContext {l : Launch} {G : sg_G} {d : Nat} {M0 M : sg_M} {x : Nat} {ad : Nat → Nat} {N : Nat → Nat → Nat} {kr : Option Value → sg_M → Prop} {kx : String → sg_M → Prop} (htr : l.stackTraces = false) (hI : md_I M0 M x ad N) (t : Int32)  (hk : kr (some (.int (md_b (md_isContext N t)))) M) : sg_Met l G yX7_isContext cX7_isContext 2 (some .boolean) (d + 1) 0 0 [.ref x, .int t] M kr kx := by
  refine sg_enter [some (.ref x), some (.int t)] (by decide) htr (Nat.le_of_ble_eq_true rfl) rfl ?_
  intro X hC hR
  have hC : sg_C X l G cX7_isContext RX7 2 (d + 1) := hC
  refine sg_iload_n (pc := 0) (x := t) hC dX7_isContext_0 rfl ?_
  refine sg_iconst (pc := 1) (nI 0) hC dX7_isContext_1 (by decide) ?_
  refine sg_bipush (pc := 2) (nI 7) hC dX7_isContext_2 (by decide) ?_
  refine sg_callS (pc := 4) (As := [.int t, .int (nI 0), .int (nI 7)]) (rest := []) (mc := 0) (ms := 0) hC tw_1270 tw_1271 tw_72 tw_1272 yd_X7_in (by decide) dX7_isContext_4 rfl (Nat.le_of_ble_eq_true rfl) (Nat.zero_le _) (Nat.zero_le _) ?_
  refine mm_in htr  t (nI 0) (nI 7)  ?_
  show sg_W X M 0 0 7 [some (.ref x), some (.int t)] [.int (md_b ((md_in t (nI 0) (nI 7))))]
  refine sg_ifB_eq (pc := 7) (b := (md_in t (nI 0) (nI 7))) 37 hC dX7_isContext_7 (by decide) (fun h1 => ?_) (fun h1 => ?_)
  · refine sg_iconst (pc := 37) (nI 0) hC dX7_isContext_37 (by decide) ?_
    have e9 : md_isContext N t = false := by rw [md_isContext]; simp only [if_neg (ts9 h1)]
    rw [e9] at hk
    exact sg_zreturn (st := []) (v := md_b false) (pc := 38) (ty := .boolean) hC hR (md_narb _) dX7_isContext_38 hk
  · obtain ⟨hs2, hs3⟩ := md_in_nat h1 (by first | omega | exact Nat.lt_of_le_of_lt Nat.and_le_left (by omega) | exact Nat.or_lt_two_pow (n := 16) (by omega) (by omega) | (simp [md_set, va_up]; done) | (simp [md_set, va_up]; omega))
    rw [hs2]
    show sg_W X M 0 0 10 [some (.ref x), some (.int (nI t.toNatClampNeg))] []
    refine sg_aload_n (pc := 10) (v := .ref x) hC dX7_isContext_10 rfl rfl ?_
    refine md_get (pc := 11) (i := 19) hC (by decide) tw_1205 dX7_isContext_11 hI rfl ?_
    refine sg_iload_n (pc := 14) (x := nI t.toNatClampNeg) hC dX7_isContext_14 rfl ?_
    refine sg_iconst (pc := 15) (nI 0) hC dX7_isContext_15 (by decide) ?_
    refine sg_bipush (pc := 16) (nI 7) hC dX7_isContext_16 (by decide) ?_
    refine sg_callS (pc := 18) (As := [.int (nI t.toNatClampNeg), .int (nI 0), .int (nI 7)]) (rest := [.ref (ad 19)]) (mc := 0) (ms := 0) hC tw_1270 tw_1271 tw_72 tw_1272 yd_X7_in (by decide) dX7_isContext_18 rfl (Nat.le_of_ble_eq_true rfl) (Nat.zero_le _) (Nat.zero_le _) ?_
    refine mm_in htr  (nI t.toNatClampNeg) (nI 0) (nI 7)  ?_
    show sg_W X M 0 0 21 [some (.ref x), some (.int (nI t.toNatClampNeg))] [.int (md_b ((md_in (nI t.toNatClampNeg) (nI 0) (nI 7)))), .ref (ad 19)]
    rw [md_in_nI (by omega) (by omega) (by omega)]
    show sg_W X M 0 0 21 [some (.ref x), some (.int (nI t.toNatClampNeg))] [.int (md_b true), .ref (ad 19)]
    refine sg_ifB_eq (pc := 21) (b := true) 28 hC dX7_isContext_21 (by decide) (fun h => absurd h (by decide)) (fun _ => ?_)
    refine sg_iload_n (pc := 24) (x := nI t.toNatClampNeg) hC dX7_isContext_24 rfl ?_
    refine sg_goto (pc := 25) 29 hC dX7_isContext_25 (by decide) ?_
    refine md_zald (pc := 29) (i := 19) (j := t.toNatClampNeg) hC dX7_isContext_29 hI rfl (by first | omega | exact Nat.lt_of_le_of_lt Nat.and_le_left (by omega) | exact Nat.or_lt_two_pow (n := 16) (by omega) (by omega) | (simp [md_set, va_up]; done) | (simp [md_set, va_up]; omega)) (by decide) (fun hv4 => ?_)
    show sg_W X M 0 0 30 [some (.ref x), some (.int (nI t.toNatClampNeg))] [.int (nI (N 19 t.toNatClampNeg))]
    refine sg_ifN_eq (pc := 30) (a := N 19 t.toNatClampNeg) 37 hC dX7_isContext_30 (by decide) (by first | omega | exact Nat.lt_of_le_of_lt Nat.and_le_left (by omega) | exact Nat.or_lt_two_pow (n := 16) (by omega) (by omega) | (simp [md_set, va_up]; done) | (simp [md_set, va_up]; omega)) (fun h5 => ?_) (fun h5 => ?_)
    · refine sg_iconst (pc := 37) (nI 0) hC dX7_isContext_37 (by decide) ?_
      have e9 : md_isContext N t = false := by rw [md_isContext]; simp only [if_pos h1, if_pos h5]
      rw [e9] at hk
      exact sg_zreturn (st := []) (v := md_b false) (pc := 38) (ty := .boolean) hC hR (md_narb _) dX7_isContext_38 hk
    · refine sg_iconst (pc := 33) (nI 1) hC dX7_isContext_33 (by decide) ?_
      refine sg_goto (pc := 34) 38 hC dX7_isContext_34 (by decide) ?_
      have e9 : md_isContext N t = true := by rw [md_isContext]; simp only [if_pos h1, if_neg h5]
      rw [e9] at hk
      exact sg_zreturn (st := []) (v := md_b true) (pc := 38) (ty := .boolean) hC hR (md_narb _) dX7_isContext_38 hk

theorem md_isSlot_nat {N : Nat → Nat → Nat} {v : Int32} (h : md_isSlot N v = true) : v = nI v.toNatClampNeg ∧ v.toNatClampNeg ≤ 7 ∧ 0 < N 3 v.toNatClampNeg := by
  unfold md_isSlot at h
  split at h
  · split at h
    · cases h
    · obtain ⟨h1, h2⟩ := md_in_nat (by assumption) (by decide)
      exact ⟨h1, h2, by omega⟩
  · cases h
theorem md_isThread_nat {N : Nat → Nat → Nat} {v : Int32} (h : md_isThread N v = true) : v = nI v.toNatClampNeg ∧ v.toNatClampNeg ≤ 3 ∧ N 13 v.toNatClampNeg ≠ 0 := by
  unfold md_isThread at h
  split at h
  · split at h
    · cases h
    · obtain ⟨h1, h2⟩ := md_in_nat (by assumption) (by decide)
      exact ⟨h1, h2, by assumption⟩
  · cases h
theorem md_isContext_nat {N : Nat → Nat → Nat} {v : Int32} (h : md_isContext N v = true) : v = nI v.toNatClampNeg ∧ v.toNatClampNeg ≤ 7 ∧ N 19 v.toNatClampNeg ≠ 0 := by
  unfold md_isContext at h
  split at h
  · split at h
    · cases h
    · obtain ⟨h1, h2⟩ := md_in_nat (by assumption) (by decide)
      exact ⟨h1, h2, by assumption⟩
  · cases h
