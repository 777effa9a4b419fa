def md_capture1 : Nat → (Nat → Nat → Nat) → Nat → Nat → Nat × (Nat → Nat → Nat)
  | 0, N, _, _ => (0, N)
  | f + 1, N, t, c => if 8 ≤ c then if c = 8 then ((md_fail N 2).1, (md_fail N 2).2) else (c, (md_set (md_set N 19 c 1) 20 c ((md_walked (md_set N 19 c 1) t none)))) else if N 19 c = 0 then if c = 8 then ((md_fail N 2).1, (md_fail N 2).2) else (c, (md_set (md_set N 19 c 1) 20 c ((md_walked (md_set N 19 c 1) t none)))) else md_capture1 f N t (c + 1)
theorem md_capture1_s (f : Nat) (N : Nat → Nat → Nat) (t : Nat) (c : Nat) : md_capture1 (f + 1) N t c = if 8 ≤ c then if c = 8 then ((md_fail N 2).1, (md_fail N 2).2) else (c, (md_set (md_set N 19 c 1) 20 c ((md_walked (md_set N 19 c 1) t none)))) else if N 19 c = 0 then if c = 8 then ((md_fail N 2).1, (md_fail N 2).2) else (c, (md_set (md_set N 19 c 1) 20 c ((md_walked (md_set N 19 c 1) t none)))) else md_capture1 f N t (c + 1) := rfl
set_option maxHeartbeats 4000000 in
set_option maxRecDepth 100000 in
theorem mm_capture1 {X : sg_X} {l : Launch} {G : sg_G} {d : Nat} {M0 : sg_M} {x : Nat} {ad : Nat → Nat} {kr : Option Value → sg_M → Prop} {kx : String → sg_M → Prop} (htr : l.stackTraces = false) (hC : sg_C X l G cX7_capture RX7 3 (d + 5)) (hR : sg_R X yX7_capture kr kx (some .int)) : ∀ (f : Nat) (t : Nat) (c : Nat) (N : Nat → Nat → Nat) {M : sg_M} (hI : md_I M0 M x ad N) (hf : 8 - c < f) (ht : t < 4) (hc : c ≤ 8) (hw : ∀ r, N 4 r ≤ 3) (hfr : ∀ r, N 15 r ≤ 10) (hsr : ∀ r, N 16 r < 6) (hbd : ∀ r, N 18 r < 64) (hmd : ∀ r, N 14 r < 64) (hk : ∀ M', md_I M0 M' x ad (md_capture1 f N t c).2 → kr (some (.int (nI (md_capture1 f N t c).1))) M'), sg_W X M 0 0 21 [some (.ref x), some (.int (nI t)), some (.int (nI c))] [] := by
  intro f
  induction f with
  | zero =>
    intro t c N M hI hf
    exact absurd hf (Nat.not_lt_zero _)
  | succ f ih =>
    intro t c N M hI hf ht hc hw hfr hsr hbd hmd hk
    refine sg_iload_n (pc := 21) (x := nI c) hC dX7_capture_21 rfl ?_
    refine sg_bipush (pc := 22) (nI 8) hC dX7_capture_22 (by decide) ?_
    refine sg_icmpN_ge (pc := 24) (a := c) (b := 8) 42 hC dX7_capture_24 (by decide) (by first | omega | exact Nat.lt_of_le_of_lt Nat.and_le_left (by omega) | exact Nat.or_lt_two_pow (n := 16) (by omega) (by omega) | (simp [md_set, va_up]; done) | (simp [md_set, va_up]; omega) | exact Nat.or_lt_two_pow (n := 6) (by omega) (by omega)) (by first | omega | exact Nat.lt_of_le_of_lt Nat.and_le_left (by omega) | exact Nat.or_lt_two_pow (n := 16) (by omega) (by omega) | (simp [md_set, va_up]; done) | (simp [md_set, va_up]; omega) | exact Nat.or_lt_two_pow (n := 6) (by omega) (by omega)) (fun h1 => ?_) (fun h1 => ?_)
    · refine sg_iload_n (pc := 42) (x := nI c) hC dX7_capture_42 rfl ?_
      refine sg_bipush (pc := 43) (nI 8) hC dX7_capture_43 (by decide) ?_
      refine sg_icmpN_ne (pc := 45) (a := c) (b := 8) 54 hC dX7_capture_45 (by decide) (by first | omega | exact Nat.lt_of_le_of_lt Nat.and_le_left (by omega) | exact Nat.or_lt_two_pow (n := 16) (by omega) (by omega) | (simp [md_set, va_up]; done) | (simp [md_set, va_up]; omega) | exact Nat.or_lt_two_pow (n := 6) (by omega) (by omega)) (by first | omega | exact Nat.lt_of_le_of_lt Nat.and_le_left (by omega) | exact Nat.or_lt_two_pow (n := 16) (by omega) (by omega) | (simp [md_set, va_up]; done) | (simp [md_set, va_up]; omega) | exact Nat.or_lt_two_pow (n := 6) (by omega) (by omega)) (fun h2 => ?_) (fun h2 => ?_)
      · refine sg_aload_n (pc := 54) (v := .ref x) hC dX7_capture_54 rfl rfl ?_
        refine md_get (pc := 55) (i := 19) hC (by decide) tw_1205 dX7_capture_55 hI rfl ?_
        refine sg_iload_n (pc := 58) (x := nI c) hC dX7_capture_58 rfl ?_
        refine sg_iconst (pc := 59) (nI 1) hC dX7_capture_59 (by decide) ?_
        refine md_zast (pc := 60) (i := 19) (j := c) (v := 1) hC dX7_capture_60 hI rfl (by first | omega | exact Nat.lt_of_le_of_lt Nat.and_le_left (by omega) | exact Nat.or_lt_two_pow (n := 16) (by omega) (by omega) | (simp [md_set, va_up]; done) | (simp [md_set, va_up]; omega) | exact Nat.or_lt_two_pow (n := 6) (by omega) (by omega)) (by decide) (by first | omega | exact Nat.lt_of_le_of_lt Nat.and_le_left (by omega) | exact Nat.or_lt_two_pow (n := 16) (by omega) (by omega) | (simp [md_set, va_up]; done) | (simp [md_set, va_up]; omega) | exact Nat.or_lt_two_pow (n := 6) (by omega) (by omega)) (fun M hI => ?_)
        refine sg_aload_n (pc := 61) (v := .ref x) hC dX7_capture_61 rfl rfl ?_
        refine md_get (pc := 62) (i := 20) hC (by decide) tw_1206 dX7_capture_62 hI rfl ?_
        refine sg_iload_n (pc := 65) (x := nI c) hC dX7_capture_65 rfl ?_
        refine sg_aload_n (pc := 66) (v := .ref x) hC dX7_capture_66 rfl rfl ?_
        refine sg_iload_n (pc := 67) (x := nI t) hC dX7_capture_67 rfl ?_
        refine sg_iconst (pc := 68) (((-1))) hC dX7_capture_68 (by decide) ?_
        refine sg_callV (pc := 69) (As := [.int (nI t), .int ((-1))]) (rest := [.int (nI c), .ref (ad 20)]) (mc := 0) (ms := 0) hC tw_1421 tw_1423 tw_58 tw_72 tw_1424 yd_X7_walked (by decide) (ci := 10) rfl dX7_capture_69 hI.x rfl (Nat.le_of_ble_eq_true rfl) (Nat.zero_le _) (Nat.zero_le _) ?_
        refine mm_walked htr hI t none (by first | omega | exact Nat.lt_of_le_of_lt Nat.and_le_left (by omega) | exact Nat.or_lt_two_pow (n := 16) (by omega) (by omega) | (simp [md_set, va_up]; done) | (simp [md_set, va_up]; omega) | exact Nat.or_lt_two_pow (n := 6) (by omega) (by omega)) (by intro k9 hk9; cases hk9) (by intro r9; first | exact hw r9 | (show N 4 r9 ≤ 3; exact hw r9) | exact hw9 r9) (by intro r9; first | exact hfr r9 | (show N 15 r9 ≤ 10; exact hfr r9) | exact hfr9 r9) (by intro r9; first | exact hsr r9 | (show N 16 r9 < 6; exact hsr r9) | exact hsr9 r9) (by intro r9; first | exact hbd r9 | (show N 18 r9 < 64; exact hbd r9) | exact hbd9 r9) (by intro r9; first | exact hmd r9 | (show N 14 r9 < 64; exact hmd r9) | exact hmd9 r9) ?_
        show sg_W X M 0 0 72 [some (.ref x), some (.int (nI t)), some (.int (nI c))] [.int (nI ((md_walked (md_set N 19 c 1) t none))), .int (nI c), .ref (ad 20)]
        have hwk3 : (md_walked (md_set N 19 c 1) t none) < 64 := md_walked_lt (by intro r9; first | exact hsr r9 | (show N 16 r9 < 6; exact hsr r9) | exact hsr9 r9) (by intro r9; first | exact hbd r9 | (show N 18 r9 < 64; exact hbd r9) | exact hbd9 r9) (by intro r9; first | exact hmd r9 | (show N 14 r9 < 64; exact hmd r9) | exact hmd9 r9)
        refine md_iast (pc := 72) (i := 20) (j := c) (v := (md_walked (md_set N 19 c 1) t none)) hC dX7_capture_72 hI rfl (by first | omega | exact Nat.lt_of_le_of_lt Nat.and_le_left (by omega) | exact Nat.or_lt_two_pow (n := 16) (by omega) (by omega) | (simp [md_set, va_up]; done) | (simp [md_set, va_up]; omega) | exact Nat.or_lt_two_pow (n := 6) (by omega) (by omega)) (by decide) (by first | omega | exact Nat.lt_of_le_of_lt Nat.and_le_left (by omega) | exact Nat.or_lt_two_pow (n := 16) (by omega) (by omega) | (simp [md_set, va_up]; done) | (simp [md_set, va_up]; omega) | exact Nat.or_lt_two_pow (n := 6) (by omega) (by omega)) (fun M hI => ?_)
        refine sg_iload_n (pc := 73) (x := nI c) hC dX7_capture_73 rfl ?_
        have e9 : md_capture1 (f + 1) N t c = (c, (md_set (md_set N 19 c 1) 20 c ((md_walked (md_set N 19 c 1) t none)))) := by rw [md_capture1_s]; simp only [if_pos h1, if_neg h2]
        rw [e9] at hk
        exact sg_ireturn (st := []) (v := nI c) (pc := 74) hC hR dX7_capture_74 (hk M hI)
      · refine sg_aload_n (pc := 48) (v := .ref x) hC dX7_capture_48 rfl rfl ?_
        refine sg_iconst (pc := 49) (nI 2) hC dX7_capture_49 (by decide) ?_
        refine sg_callV (pc := 50) (As := [.int (nI 2)]) (rest := []) (mc := 0) (ms := 0) hC tw_1273 tw_1275 tw_33 tw_72 tw_1276 yd_X7_fail (by decide) (ci := 10) rfl dX7_capture_50 hI.x rfl (Nat.le_of_ble_eq_true rfl) (Nat.zero_le _) (Nat.zero_le _) ?_
        refine mm_fail htr hI 2 (by first | omega | exact Nat.lt_of_le_of_lt Nat.and_le_left (by omega) | exact Nat.or_lt_two_pow (n := 16) (by omega) (by omega) | (simp [md_set, va_up]; done) | (simp [md_set, va_up]; omega) | exact Nat.or_lt_two_pow (n := 6) (by omega) (by omega)) (fun M hI => ?_)
        show sg_W X M 0 0 53 [some (.ref x), some (.int (nI t)), some (.int (nI c))] [.int (nI ((md_fail N 2).1))]
        have e9 : md_capture1 (f + 1) N t c = ((md_fail N 2).1, (md_fail N 2).2) := by rw [md_capture1_s]; simp only [if_pos h1, if_pos h2]
        rw [e9] at hk
        exact sg_ireturn (st := []) (v := nI ((md_fail N 2).1)) (pc := 53) hC hR dX7_capture_53 (hk M hI)
    · refine sg_aload_n (pc := 27) (v := .ref x) hC dX7_capture_27 rfl rfl ?_
      refine md_get (pc := 28) (i := 19) hC (by decide) tw_1205 dX7_capture_28 hI rfl ?_
      refine sg_iload_n (pc := 31) (x := nI c) hC dX7_capture_31 rfl ?_
      refine md_zald (pc := 32) (i := 19) (j := c) hC dX7_capture_32 hI rfl (by first | omega | exact Nat.lt_of_le_of_lt Nat.and_le_left (by omega) | exact Nat.or_lt_two_pow (n := 16) (by omega) (by omega) | (simp [md_set, va_up]; done) | (simp [md_set, va_up]; omega) | exact Nat.or_lt_two_pow (n := 6) (by omega) (by omega)) (by decide) (fun hv4 => ?_)
      show sg_W X M 0 0 33 [some (.ref x), some (.int (nI t)), some (.int (nI c))] [.int (nI (N 19 c))]
      refine sg_ifN_eq (pc := 33) (a := N 19 c) 42 hC dX7_capture_33 (by decide) (by first | omega | exact Nat.lt_of_le_of_lt Nat.and_le_left (by omega) | exact Nat.or_lt_two_pow (n := 16) (by omega) (by omega) | (simp [md_set, va_up]; done) | (simp [md_set, va_up]; omega) | exact Nat.or_lt_two_pow (n := 6) (by omega) (by omega)) (fun h5 => ?_) (fun h5 => ?_)
      · refine sg_iload_n (pc := 42) (x := nI c) hC dX7_capture_42 rfl ?_
        refine sg_bipush (pc := 43) (nI 8) hC dX7_capture_43 (by decide) ?_
        refine sg_icmpN_ne (pc := 45) (a := c) (b := 8) 54 hC dX7_capture_45 (by decide) (by first | omega | exact Nat.lt_of_le_of_lt Nat.and_le_left (by omega) | exact Nat.or_lt_two_pow (n := 16) (by omega) (by omega) | (simp [md_set, va_up]; done) | (simp [md_set, va_up]; omega) | exact Nat.or_lt_two_pow (n := 6) (by omega) (by omega)) (by first | omega | exact Nat.lt_of_le_of_lt Nat.and_le_left (by omega) | exact Nat.or_lt_two_pow (n := 16) (by omega) (by omega) | (simp [md_set, va_up]; done) | (simp [md_set, va_up]; omega) | exact Nat.or_lt_two_pow (n := 6) (by omega) (by omega)) (fun h6 => ?_) (fun h6 => ?_)
        · refine sg_aload_n (pc := 54) (v := .ref x) hC dX7_capture_54 rfl rfl ?_
          refine md_get (pc := 55) (i := 19) hC (by decide) tw_1205 dX7_capture_55 hI rfl ?_
          refine sg_iload_n (pc := 58) (x := nI c) hC dX7_capture_58 rfl ?_
          refine sg_iconst (pc := 59) (nI 1) hC dX7_capture_59 (by decide) ?_
          refine md_zast (pc := 60) (i := 19) (j := c) (v := 1) hC dX7_capture_60 hI rfl (by first | omega | exact Nat.lt_of_le_of_lt Nat.and_le_left (by omega) | exact Nat.or_lt_two_pow (n := 16) (by omega) (by omega) | (simp [md_set, va_up]; done) | (simp [md_set, va_up]; omega) | exact Nat.or_lt_two_pow (n := 6) (by omega) (by omega)) (by decide) (by first | omega | exact Nat.lt_of_le_of_lt Nat.and_le_left (by omega) | exact Nat.or_lt_two_pow (n := 16) (by omega) (by omega) | (simp [md_set, va_up]; done) | (simp [md_set, va_up]; omega) | exact Nat.or_lt_two_pow (n := 6) (by omega) (by omega)) (fun M hI => ?_)
          refine sg_aload_n (pc := 61) (v := .ref x) hC dX7_capture_61 rfl rfl ?_
          refine md_get (pc := 62) (i := 20) hC (by decide) tw_1206 dX7_capture_62 hI rfl ?_
          refine sg_iload_n (pc := 65) (x := nI c) hC dX7_capture_65 rfl ?_
          refine sg_aload_n (pc := 66) (v := .ref x) hC dX7_capture_66 rfl rfl ?_
          refine sg_iload_n (pc := 67) (x := nI t) hC dX7_capture_67 rfl ?_
          refine sg_iconst (pc := 68) (((-1))) hC dX7_capture_68 (by decide) ?_
          refine sg_callV (pc := 69) (As := [.int (nI t), .int ((-1))]) (rest := [.int (nI c), .ref (ad 20)]) (mc := 0) (ms := 0) hC tw_1421 tw_1423 tw_58 tw_72 tw_1424 yd_X7_walked (by decide) (ci := 10) rfl dX7_capture_69 hI.x rfl (Nat.le_of_ble_eq_true rfl) (Nat.zero_le _) (Nat.zero_le _) ?_
          refine mm_walked htr hI t none (by first | omega | exact Nat.lt_of_le_of_lt Nat.and_le_left (by omega) | exact Nat.or_lt_two_pow (n := 16) (by omega) (by omega) | (simp [md_set, va_up]; done) | (simp [md_set, va_up]; omega) | exact Nat.or_lt_two_pow (n := 6) (by omega) (by omega)) (by intro k9 hk9; cases hk9) (by intro r9; first | exact hw r9 | (show N 4 r9 ≤ 3; exact hw r9) | exact hw9 r9) (by intro r9; first | exact hfr r9 | (show N 15 r9 ≤ 10; exact hfr r9) | exact hfr9 r9) (by intro r9; first | exact hsr r9 | (show N 16 r9 < 6; exact hsr r9) | exact hsr9 r9) (by intro r9; first | exact hbd r9 | (show N 18 r9 < 64; exact hbd r9) | exact hbd9 r9) (by intro r9; first | exact hmd r9 | (show N 14 r9 < 64; exact hmd r9) | exact hmd9 r9) ?_
          show sg_W X M 0 0 72 [some (.ref x), some (.int (nI t)), some (.int (nI c))] [.int (nI ((md_walked (md_set N 19 c 1) t none))), .int (nI c), .ref (ad 20)]
          have hwk7 : (md_walked (md_set N 19 c 1) t none) < 64 := md_walked_lt (by intro r9; first | exact hsr r9 | (show N 16 r9 < 6; exact hsr r9) | exact hsr9 r9) (by intro r9; first | exact hbd r9 | (show N 18 r9 < 64; exact hbd r9) | exact hbd9 r9) (by intro r9; first | exact hmd r9 | (show N 14 r9 < 64; exact hmd r9) | exact hmd9 r9)
          refine md_iast (pc := 72) (i := 20) (j := c) (v := (md_walked (md_set N 19 c 1) t none)) hC dX7_capture_72 hI rfl (by first | omega | exact Nat.lt_of_le_of_lt Nat.and_le_left (by omega) | exact Nat.or_lt_two_pow (n := 16) (by omega) (by omega) | (simp [md_set, va_up]; done) | (simp [md_set, va_up]; omega) | exact Nat.or_lt_two_pow (n := 6) (by omega) (by omega)) (by decide) (by first | omega | exact Nat.lt_of_le_of_lt Nat.and_le_left (by omega) | exact Nat.or_lt_two_pow (n := 16) (by omega) (by omega) | (simp [md_set, va_up]; done) | (simp [md_set, va_up]; omega) | exact Nat.or_lt_two_pow (n := 6) (by omega) (by omega)) (fun M hI => ?_)
          refine sg_iload_n (pc := 73) (x := nI c) hC dX7_capture_73 rfl ?_
          have e9 : md_capture1 (f + 1) N t c = (c, (md_set (md_set N 19 c 1) 20 c ((md_walked (md_set N 19 c 1) t none)))) := by rw [md_capture1_s]; simp only [if_neg (Nat.not_le.mpr h1), if_pos h5, if_neg h6]
          rw [e9] at hk
          exact sg_ireturn (st := []) (v := nI c) (pc := 74) hC hR dX7_capture_74 (hk M hI)
        · refine sg_aload_n (pc := 48) (v := .ref x) hC dX7_capture_48 rfl rfl ?_
          refine sg_iconst (pc := 49) (nI 2) hC dX7_capture_49 (by decide) ?_
          refine sg_callV (pc := 50) (As := [.int (nI 2)]) (rest := []) (mc := 0) (ms := 0) hC tw_1273 tw_1275 tw_33 tw_72 tw_1276 yd_X7_fail (by decide) (ci := 10) rfl dX7_capture_50 hI.x rfl (Nat.le_of_ble_eq_true rfl) (Nat.zero_le _) (Nat.zero_le _) ?_
          refine mm_fail htr hI 2 (by first | omega | exact Nat.lt_of_le_of_lt Nat.and_le_left (by omega) | exact Nat.or_lt_two_pow (n := 16) (by omega) (by omega) | (simp [md_set, va_up]; done) | (simp [md_set, va_up]; omega) | exact Nat.or_lt_two_pow (n := 6) (by omega) (by omega)) (fun M hI => ?_)
          show sg_W X M 0 0 53 [some (.ref x), some (.int (nI t)), some (.int (nI c))] [.int (nI ((md_fail N 2).1))]
          have e9 : md_capture1 (f + 1) N t c = ((md_fail N 2).1, (md_fail N 2).2) := by rw [md_capture1_s]; simp only [if_neg (Nat.not_le.mpr h1), if_pos h5, if_pos h6]
          rw [e9] at hk
          exact sg_ireturn (st := []) (v := nI ((md_fail N 2).1)) (pc := 53) hC hR dX7_capture_53 (hk M hI)
      · refine sg_iincN (pc := 36) (a := c) (b := c + 1) hC dX7_capture_36 rfl (nI_1 _) (by decide) ?_
        show sg_W X M 0 0 39 [some (.ref x), some (.int (nI t)), some (.int (nI (c + 1)))] []
        refine sg_goto (pc := 39) 21 hC dX7_capture_39 (by decide) ?_
        have e9 : md_capture1 (f + 1) N t c = md_capture1 f N t (c + 1) := by rw [md_capture1_s]; simp only [if_neg (Nat.not_le.mpr h1), if_neg h5]
        rw [e9] at hk
        refine sg_loc (L' := [some (.ref x), some (.int (nI t)), some (.int (nI ((c + 1))))]) ⟨rfl, ⟨rfl, ⟨rfl, trivial⟩⟩⟩ ?_
        exact ih t (c + 1) _ hI (by first | omega | exact Nat.lt_of_le_of_lt Nat.and_le_left (by omega) | exact Nat.or_lt_two_pow (n := 16) (by omega) (by omega) | (simp [md_set, va_up]; done) | (simp [md_set, va_up]; omega) | exact Nat.or_lt_two_pow (n := 6) (by omega) (by omega)) (by first | omega | exact Nat.lt_of_le_of_lt Nat.and_le_left (by omega) | exact Nat.or_lt_two_pow (n := 16) (by omega) (by omega) | (simp [md_set, va_up]; done) | (simp [md_set, va_up]; omega) | exact Nat.or_lt_two_pow (n := 6) (by omega) (by omega)) (by first | omega | exact Nat.lt_of_le_of_lt Nat.and_le_left (by omega) | exact Nat.or_lt_two_pow (n := 16) (by omega) (by omega) | (simp [md_set, va_up]; done) | (simp [md_set, va_up]; omega) | exact Nat.or_lt_two_pow (n := 6) (by omega) (by omega)) hw hfr hsr hbd hmd hk

def md_capture (N : Nat → Nat → Nat) (t : Int32) : Nat × (Nat → Nat → Nat) := if (md_isThread (md_set N 0 0 0) t) = true then md_capture1 (9) (md_set N 0 0 0) t.toNatClampNeg 0 else ((md_fail (md_set N 0 0 0) 1).1, (md_fail (md_set N 0 0 0) 1).2)
set_option maxHeartbeats 4000000 in
set_option maxRecDepth 100000 in
theorem mm_capture {l : Launch} {G : sg_G} {d : Nat} {M0 M : sg_M} {x : Nat} {ad : Nat → Nat} {N : Nat → Nat → Nat} {kr : Option Value → sg_M → Prop} {kx : String → sg_M → Prop} (htr : l.stackTraces = false) (hI : md_I M0 M x ad N) (t : Int32) (hw : ∀ r, N 4 r ≤ 3) (hfr : ∀ r, N 15 r ≤ 10) (hsr : ∀ r, N 16 r < 6) (hbd : ∀ r, N 18 r < 64) (hmd : ∀ r, N 14 r < 64) (hk : ∀ M', md_I M0 M' x ad (md_capture N t).2 → kr (some (.int (nI (md_capture N t).1))) M') : sg_Met l G yX7_capture cX7_capture 3 (some .int) (d + 5) 0 0 [.ref x, .int t] M kr kx := by
  refine sg_enter [some (.ref x), some (.int t), none] (by decide) htr (Nat.le_of_ble_eq_true rfl) rfl ?_
  intro X hC hR
  have hC : sg_C X l G cX7_capture RX7 3 (d + 5) := hC
  refine sg_aload_n (pc := 0) (v := .ref x) hC dX7_capture_0 rfl rfl ?_
  refine sg_iconst (pc := 1) (nI 0) hC dX7_capture_1 (by decide) ?_
  refine md_put0 (pc := 2) (v := 0) hC tw_1186 dX7_capture_2 hI (by first | omega | exact Nat.lt_of_le_of_lt Nat.and_le_left (by omega) | exact Nat.or_lt_two_pow (n := 16) (by omega) (by omega) | (simp [md_set, va_up]; done) | (simp [md_set, va_up]; omega) | exact Nat.or_lt_two_pow (n := 6) (by omega) (by omega)) (fun M hI => ?_)
  refine sg_aload_n (pc := 5) (v := .ref x) hC dX7_capture_5 rfl rfl ?_
  refine sg_iload_n (pc := 6) (x := t) hC dX7_capture_6 rfl ?_
  refine sg_callV (pc := 7) (As := [.int t]) (rest := []) (mc := 0) (ms := 0) hC tw_1401 tw_1403 tw_56 tw_72 tw_1404 yd_X7_isThread (by decide) (ci := 10) rfl dX7_capture_7 hI.x rfl (Nat.le_of_ble_eq_true rfl) (Nat.zero_le _) (Nat.zero_le _) ?_
  refine mm_isThread htr hI t  ?_
  show sg_W X M 0 0 10 [some (.ref x), some (.int t), none] [.int (md_b ((md_isThread (md_set N 0 0 0) t)))]
  refine sg_ifB_ne (pc := 10) (b := (md_isThread (md_set N 0 0 0) t)) 19 hC dX7_capture_10 (by decide) (fun h1 => ?_) (fun h1 => ?_)
  · obtain ⟨hs2, hs3⟩ := md_isThread_nat h1
    rw [hs2]
    show sg_W X M 0 0 19 [some (.ref x), some (.int (nI t.toNatClampNeg)), none] []
    obtain ⟨hs4, hs5⟩ := hs3
    refine sg_iconst (pc := 19) (nI 0) hC dX7_capture_19 (by decide) ?_
    refine sg_istore_n (pc := 20) (x := nI 0) hC dX7_capture_20 (by decide) ?_
    show sg_W X M 0 0 21 [some (.ref x), some (.int (nI t.toNatClampNeg)), some (.int (nI 0))] []
    have e9 : md_capture N t = md_capture1 (9) (md_set N 0 0 0) t.toNatClampNeg 0 := by rw [md_capture]; simp only [if_pos h1]
    rw [e9] at hk
    refine sg_loc (L' := [some (.ref x), some (.int (nI t.toNatClampNeg)), some (.int (nI 0))]) ⟨rfl, ⟨rfl, ⟨rfl, trivial⟩⟩⟩ ?_
    exact mm_capture1 htr hC hR (9) t.toNatClampNeg 0 _ hI (by first | omega | exact Nat.lt_of_le_of_lt Nat.and_le_left (by omega) | exact Nat.or_lt_two_pow (n := 16) (by omega) (by omega) | (simp [md_set, va_up]; done) | (simp [md_set, va_up]; omega) | exact Nat.or_lt_two_pow (n := 6) (by omega) (by omega)) (by first | omega | exact Nat.lt_of_le_of_lt Nat.and_le_left (by omega) | exact Nat.or_lt_two_pow (n := 16) (by omega) (by omega) | (simp [md_set, va_up]; done) | (simp [md_set, va_up]; omega) | exact Nat.or_lt_two_pow (n := 6) (by omega) (by omega)) (by first | omega | exact Nat.lt_of_le_of_lt Nat.and_le_left (by omega) | exact Nat.or_lt_two_pow (n := 16) (by omega) (by omega) | (simp [md_set, va_up]; done) | (simp [md_set, va_up]; omega) | exact Nat.or_lt_two_pow (n := 6) (by omega) (by omega)) (by intro r9; first | exact hw r9 | (show N 4 r9 ≤ 3; exact hw r9) | exact hw9 r9) (by intro r9; first | exact hfr r9 | (show N 15 r9 ≤ 10; exact hfr r9) | exact hfr9 r9) (by intro r9; first | exact hsr r9 | (show N 16 r9 < 6; exact hsr r9) | exact hsr9 r9) (by intro r9; first | exact hbd r9 | (show N 18 r9 < 64; exact hbd r9) | exact hbd9 r9) (by intro r9; first | exact hmd r9 | (show N 14 r9 < 64; exact hmd r9) | exact hmd9 r9) hk
  · refine sg_aload_n (pc := 13) (v := .ref x) hC dX7_capture_13 rfl rfl ?_
    refine sg_iconst (pc := 14) (nI 1) hC dX7_capture_14 (by decide) ?_
    refine sg_callV (pc := 15) (As := [.int (nI 1)]) (rest := []) (mc := 0) (ms := 0) hC tw_1273 tw_1275 tw_33 tw_72 tw_1276 yd_X7_fail (by decide) (ci := 10) rfl dX7_capture_15 hI.x rfl (Nat.le_of_ble_eq_true rfl) (Nat.zero_le _) (Nat.zero_le _) ?_
    refine mm_fail htr hI 1 (by first | omega | exact Nat.lt_of_le_of_lt Nat.and_le_left (by omega) | exact Nat.or_lt_two_pow (n := 16) (by omega) (by omega) | (simp [md_set, va_up]; done) | (simp [md_set, va_up]; omega) | exact Nat.or_lt_two_pow (n := 6) (by omega) (by omega)) (fun M hI => ?_)
    show sg_W X M 0 0 18 [some (.ref x), some (.int t), none] [.int (nI ((md_fail (md_set N 0 0 0) 1).1))]
    have e9 : md_capture N t = ((md_fail (md_set N 0 0 0) 1).1, (md_fail (md_set N 0 0 0) 1).2) := by rw [md_capture]; simp only [if_neg (ts9 h1)]
    rw [e9] at hk
    exact sg_ireturn (st := []) (v := nI ((md_fail (md_set N 0 0 0) 1).1)) (pc := 18) hC hR dX7_capture_18 (hk M hI)

def md_spawn1 : Nat → (Nat → Nat → Nat) → Nat → Nat → Nat × (Nat → Nat → Nat)
  | 0, N, _, _ => (0, N)
  | f + 1, N, t, c => if 4 ≤ c then if c = 4 then ((md_fail N 2).1, (md_fail N 2).2) else (c, (md_set (md_set (md_set N 13 c 1) 14 c ((md_walked (md_set N 13 c 1) t none))) 15 c 0)) else if N 13 c = 0 then if c = 4 then ((md_fail N 2).1, (md_fail N 2).2) else (c, (md_set (md_set (md_set N 13 c 1) 14 c ((md_walked (md_set N 13 c 1) t none))) 15 c 0)) else md_spawn1 f N t (c + 1)
theorem md_spawn1_s (f : Nat) (N : Nat → Nat → Nat) (t : Nat) (c : Nat) : md_spawn1 (f + 1) N t c = if 4 ≤ c then if c = 4 then ((md_fail N 2).1, (md_fail N 2).2) else (c, (md_set (md_set (md_set N 13 c 1) 14 c ((md_walked (md_set N 13 c 1) t none))) 15 c 0)) else if N 13 c = 0 then if c = 4 then ((md_fail N 2).1, (md_fail N 2).2) else (c, (md_set (md_set (md_set N 13 c 1) 14 c ((md_walked (md_set N 13 c 1) t none))) 15 c 0)) else md_spawn1 f N t (c + 1) := rfl
set_option maxHeartbeats 4000000 in
set_option maxRecDepth 100000 in
theorem mm_spawn1 {X : sg_X} {l : Launch} {G : sg_G} {d : Nat} {M0 : sg_M} {x : Nat} {ad : Nat → Nat} {kr : Option Value → sg_M → Prop} {kx : String → sg_M → Prop} (htr : l.stackTraces = false) (hC : sg_C X l G cX7_spawn RX7 3 (d + 5)) (hR : sg_R X yX7_spawn kr kx (some .int)) : ∀ (f : Nat) (t : Nat) (c : Nat) (N : Nat → Nat → Nat) {M : sg_M} (hI : md_I M0 M x ad N) (hf : 4 - c < f) (ht : t < 4) (hc : c ≤ 4) (hw : ∀ r, N 4 r ≤ 3) (hfr : ∀ r, N 15 r ≤ 10) (hsr : ∀ r, N 16 r < 6) (hbd : ∀ r, N 18 r < 64) (hmd : ∀ r, N 14 r < 64) (hk : ∀ M', md_I M0 M' x ad (md_spawn1 f N t c).2 → kr (some (.int (nI (md_spawn1 f N t c).1))) M'), sg_W X M 0 0 21 [some (.ref x), some (.int (nI t)), some (.int (nI c))] [] := by
  intro f
  induction f with
  | zero =>
    intro t c N M hI hf
    exact absurd hf (Nat.not_lt_zero _)
  | succ f ih =>
    intro t c N M hI hf ht hc hw hfr hsr hbd hmd hk
    refine sg_iload_n (pc := 21) (x := nI c) hC dX7_spawn_21 rfl ?_
    refine sg_iconst (pc := 22) (nI 4) hC dX7_spawn_22 (by decide) ?_
    refine sg_icmpN_ge (pc := 23) (a := c) (b := 4) 41 hC dX7_spawn_23 (by decide) (by first | omega | exact Nat.lt_of_le_of_lt Nat.and_le_left (by omega) | exact Nat.or_lt_two_pow (n := 16) (by omega) (by omega) | (simp [md_set, va_up]; done) | (simp [md_set, va_up]; omega) | exact Nat.or_lt_two_pow (n := 6) (by omega) (by omega)) (by first | omega | exact Nat.lt_of_le_of_lt Nat.and_le_left (by omega) | exact Nat.or_lt_two_pow (n := 16) (by omega) (by omega) | (simp [md_set, va_up]; done) | (simp [md_set, va_up]; omega) | exact Nat.or_lt_two_pow (n := 6) (by omega) (by omega)) (fun h1 => ?_) (fun h1 => ?_)
    · refine sg_iload_n (pc := 41) (x := nI c) hC dX7_spawn_41 rfl ?_
      refine sg_iconst (pc := 42) (nI 4) hC dX7_spawn_42 (by decide) ?_
      refine sg_icmpN_ne (pc := 43) (a := c) (b := 4) 52 hC dX7_spawn_43 (by decide) (by first | omega | exact Nat.lt_of_le_of_lt Nat.and_le_left (by omega) | exact Nat.or_lt_two_pow (n := 16) (by omega) (by omega) | (simp [md_set, va_up]; done) | (simp [md_set, va_up]; omega) | exact Nat.or_lt_two_pow (n := 6) (by omega) (by omega)) (by first | omega | exact Nat.lt_of_le_of_lt Nat.and_le_left (by omega) | exact Nat.or_lt_two_pow (n := 16) (by omega) (by omega) | (simp [md_set, va_up]; done) | (simp [md_set, va_up]; omega) | exact Nat.or_lt_two_pow (n := 6) (by omega) (by omega)) (fun h2 => ?_) (fun h2 => ?_)
      · refine sg_aload_n (pc := 52) (v := .ref x) hC dX7_spawn_52 rfl rfl ?_
        refine md_get (pc := 53) (i := 13) hC (by decide) tw_1199 dX7_spawn_53 hI rfl ?_
        refine sg_iload_n (pc := 56) (x := nI c) hC dX7_spawn_56 rfl ?_
        refine sg_iconst (pc := 57) (nI 1) hC dX7_spawn_57 (by decide) ?_
        refine md_zast (pc := 58) (i := 13) (j := c) (v := 1) hC dX7_spawn_58 hI rfl (by first | omega | exact Nat.lt_of_le_of_lt Nat.and_le_left (by omega) | exact Nat.or_lt_two_pow (n := 16) (by omega) (by omega) | (simp [md_set, va_up]; done) | (simp [md_set, va_up]; omega) | exact Nat.or_lt_two_pow (n := 6) (by omega) (by omega)) (by decide) (by first | omega | exact Nat.lt_of_le_of_lt Nat.and_le_left (by omega) | exact Nat.or_lt_two_pow (n := 16) (by omega) (by omega) | (simp [md_set, va_up]; done) | (simp [md_set, va_up]; omega) | exact Nat.or_lt_two_pow (n := 6) (by omega) (by omega)) (fun M hI => ?_)
        refine sg_aload_n (pc := 59) (v := .ref x) hC dX7_spawn_59 rfl rfl ?_
        refine md_get (pc := 60) (i := 14) hC (by decide) tw_1200 dX7_spawn_60 hI rfl ?_
        refine sg_iload_n (pc := 63) (x := nI c) hC dX7_spawn_63 rfl ?_
        refine sg_aload_n (pc := 64) (v := .ref x) hC dX7_spawn_64 rfl rfl ?_
        refine sg_iload_n (pc := 65) (x := nI t) hC dX7_spawn_65 rfl ?_
        refine sg_iconst (pc := 66) (((-1))) hC dX7_spawn_66 (by decide) ?_
        refine sg_callV (pc := 67) (As := [.int (nI t), .int ((-1))]) (rest := [.int (nI c), .ref (ad 14)]) (mc := 0) (ms := 0) hC tw_1421 tw_1423 tw_58 tw_72 tw_1424 yd_X7_walked (by decide) (ci := 10) rfl dX7_spawn_67 hI.x rfl (Nat.le_of_ble_eq_true rfl) (Nat.zero_le _) (Nat.zero_le _) ?_
        refine mm_walked htr hI t none (by first | omega | exact Nat.lt_of_le_of_lt Nat.and_le_left (by omega) | exact Nat.or_lt_two_pow (n := 16) (by omega) (by omega) | (simp [md_set, va_up]; done) | (simp [md_set, va_up]; omega) | exact Nat.or_lt_two_pow (n := 6) (by omega) (by omega)) (by intro k9 hk9; cases hk9) (by intro r9; first | exact hw r9 | (show N 4 r9 ≤ 3; exact hw r9) | exact hw9 r9) (by intro r9; first | exact hfr r9 | (show N 15 r9 ≤ 10; exact hfr r9) | exact hfr9 r9) (by intro r9; first | exact hsr r9 | (show N 16 r9 < 6; exact hsr r9) | exact hsr9 r9) (by intro r9; first | exact hbd r9 | (show N 18 r9 < 64; exact hbd r9) | exact hbd9 r9) (by intro r9; first | exact hmd r9 | (show N 14 r9 < 64; exact hmd r9) | exact hmd9 r9) ?_
        show sg_W X M 0 0 70 [some (.ref x), some (.int (nI t)), some (.int (nI c))] [.int (nI ((md_walked (md_set N 13 c 1) t none))), .int (nI c), .ref (ad 14)]
        have hwk3 : (md_walked (md_set N 13 c 1) t none) < 64 := md_walked_lt (by intro r9; first | exact hsr r9 | (show N 16 r9 < 6; exact hsr r9) | exact hsr9 r9) (by intro r9; first | exact hbd r9 | (show N 18 r9 < 64; exact hbd r9) | exact hbd9 r9) (by intro r9; first | exact hmd r9 | (show N 14 r9 < 64; exact hmd r9) | exact hmd9 r9)
        refine md_iast (pc := 70) (i := 14) (j := c) (v := (md_walked (md_set N 13 c 1) t none)) hC dX7_spawn_70 hI rfl (by first | omega | exact Nat.lt_of_le_of_lt Nat.and_le_left (by omega) | exact Nat.or_lt_two_pow (n := 16) (by omega) (by omega) | (simp [md_set, va_up]; done) | (simp [md_set, va_up]; omega) | exact Nat.or_lt_two_pow (n := 6) (by omega) (by omega)) (by decide) (by first | omega | exact Nat.lt_of_le_of_lt Nat.and_le_left (by omega) | exact Nat.or_lt_two_pow (n := 16) (by omega) (by omega) | (simp [md_set, va_up]; done) | (simp [md_set, va_up]; omega) | exact Nat.or_lt_two_pow (n := 6) (by omega) (by omega)) (fun M hI => ?_)
        refine sg_aload_n (pc := 71) (v := .ref x) hC dX7_spawn_71 rfl rfl ?_
        refine md_get (pc := 72) (i := 15) hC (by decide) tw_1201 dX7_spawn_72 hI rfl ?_
        refine sg_iload_n (pc := 75) (x := nI c) hC dX7_spawn_75 rfl ?_
        refine sg_iconst (pc := 76) (nI 0) hC dX7_spawn_76 (by decide) ?_
        refine md_iast (pc := 77) (i := 15) (j := c) (v := 0) hC dX7_spawn_77 hI rfl (by first | omega | exact Nat.lt_of_le_of_lt Nat.and_le_left (by omega) | exact Nat.or_lt_two_pow (n := 16) (by omega) (by omega) | (simp [md_set, va_up]; done) | (simp [md_set, va_up]; omega) | exact Nat.or_lt_two_pow (n := 6) (by omega) (by omega)) (by decide) (by first | omega | exact Nat.lt_of_le_of_lt Nat.and_le_left (by omega) | exact Nat.or_lt_two_pow (n := 16) (by omega) (by omega) | (simp [md_set, va_up]; done) | (simp [md_set, va_up]; omega) | exact Nat.or_lt_two_pow (n := 6) (by omega) (by omega)) (fun M hI => ?_)
        refine sg_iload_n (pc := 78) (x := nI c) hC dX7_spawn_78 rfl ?_
        have e9 : md_spawn1 (f + 1) N t c = (c, (md_set (md_set (md_set N 13 c 1) 14 c ((md_walked (md_set N 13 c 1) t none))) 15 c 0)) := by rw [md_spawn1_s]; simp only [if_pos h1, if_neg h2]
        rw [e9] at hk
        exact sg_ireturn (st := []) (v := nI c) (pc := 79) hC hR dX7_spawn_79 (hk M hI)
      · refine sg_aload_n (pc := 46) (v := .ref x) hC dX7_spawn_46 rfl rfl ?_
        refine sg_iconst (pc := 47) (nI 2) hC dX7_spawn_47 (by decide) ?_
        refine sg_callV (pc := 48) (As := [.int (nI 2)]) (rest := []) (mc := 0) (ms := 0) hC tw_1273 tw_1275 tw_33 tw_72 tw_1276 yd_X7_fail (by decide) (ci := 10) rfl dX7_spawn_48 hI.x rfl (Nat.le_of_ble_eq_true rfl) (Nat.zero_le _) (Nat.zero_le _) ?_
        refine mm_fail htr hI 2 (by first | omega | exact Nat.lt_of_le_of_lt Nat.and_le_left (by omega) | exact Nat.or_lt_two_pow (n := 16) (by omega) (by omega) | (simp [md_set, va_up]; done) | (simp [md_set, va_up]; omega) | exact Nat.or_lt_two_pow (n := 6) (by omega) (by omega)) (fun M hI => ?_)
        show sg_W X M 0 0 51 [some (.ref x), some (.int (nI t)), some (.int (nI c))] [.int (nI ((md_fail N 2).1))]
        have e9 : md_spawn1 (f + 1) N t c = ((md_fail N 2).1, (md_fail N 2).2) := by rw [md_spawn1_s]; simp only [if_pos h1, if_pos h2]
        rw [e9] at hk
        exact sg_ireturn (st := []) (v := nI ((md_fail N 2).1)) (pc := 51) hC hR dX7_spawn_51 (hk M hI)
    · refine sg_aload_n (pc := 26) (v := .ref x) hC dX7_spawn_26 rfl rfl ?_
      refine md_get (pc := 27) (i := 13) hC (by decide) tw_1199 dX7_spawn_27 hI rfl ?_
      refine sg_iload_n (pc := 30) (x := nI c) hC dX7_spawn_30 rfl ?_
      refine md_zald (pc := 31) (i := 13) (j := c) hC dX7_spawn_31 hI rfl (by first | omega | exact Nat.lt_of_le_of_lt Nat.and_le_left (by omega) | exact Nat.or_lt_two_pow (n := 16) (by omega) (by omega) | (simp [md_set, va_up]; done) | (simp [md_set, va_up]; omega) | exact Nat.or_lt_two_pow (n := 6) (by omega) (by omega)) (by decide) (fun hv4 => ?_)
      show sg_W X M 0 0 32 [some (.ref x), some (.int (nI t)), some (.int (nI c))] [.int (nI (N 13 c))]
      refine sg_ifN_eq (pc := 32) (a := N 13 c) 41 hC dX7_spawn_32 (by decide) (by first | omega | exact Nat.lt_of_le_of_lt Nat.and_le_left (by omega) | exact Nat.or_lt_two_pow (n := 16) (by omega) (by omega) | (simp [md_set, va_up]; done) | (simp [md_set, va_up]; omega) | exact Nat.or_lt_two_pow (n := 6) (by omega) (by omega)) (fun h5 => ?_) (fun h5 => ?_)
      · refine sg_iload_n (pc := 41) (x := nI c) hC dX7_spawn_41 rfl ?_
        refine sg_iconst (pc := 42) (nI 4) hC dX7_spawn_42 (by decide) ?_
        refine sg_icmpN_ne (pc := 43) (a := c) (b := 4) 52 hC dX7_spawn_43 (by decide) (by first | omega | exact Nat.lt_of_le_of_lt Nat.and_le_left (by omega) | exact Nat.or_lt_two_pow (n := 16) (by omega) (by omega) | (simp [md_set, va_up]; done) | (simp [md_set, va_up]; omega) | exact Nat.or_lt_two_pow (n := 6) (by omega) (by omega)) (by first | omega | exact Nat.lt_of_le_of_lt Nat.and_le_left (by omega) | exact Nat.or_lt_two_pow (n := 16) (by omega) (by omega) | (simp [md_set, va_up]; done) | (simp [md_set, va_up]; omega) | exact Nat.or_lt_two_pow (n := 6) (by omega) (by omega)) (fun h6 => ?_) (fun h6 => ?_)
        · refine sg_aload_n (pc := 52) (v := .ref x) hC dX7_spawn_52 rfl rfl ?_
          refine md_get (pc := 53) (i := 13) hC (by decide) tw_1199 dX7_spawn_53 hI rfl ?_
          refine sg_iload_n (pc := 56) (x := nI c) hC dX7_spawn_56 rfl ?_
          refine sg_iconst (pc := 57) (nI 1) hC dX7_spawn_57 (by decide) ?_
          refine md_zast (pc := 58) (i := 13) (j := c) (v := 1) hC dX7_spawn_58 hI rfl (by first | omega | exact Nat.lt_of_le_of_lt Nat.and_le_left (by omega) | exact Nat.or_lt_two_pow (n := 16) (by omega) (by omega) | (simp [md_set, va_up]; done) | (simp [md_set, va_up]; omega) | exact Nat.or_lt_two_pow (n := 6) (by omega) (by omega)) (by decide) (by first | omega | exact Nat.lt_of_le_of_lt Nat.and_le_left (by omega) | exact Nat.or_lt_two_pow (n := 16) (by omega) (by omega) | (simp [md_set, va_up]; done) | (simp [md_set, va_up]; omega) | exact Nat.or_lt_two_pow (n := 6) (by omega) (by omega)) (fun M hI => ?_)
          refine sg_aload_n (pc := 59) (v := .ref x) hC dX7_spawn_59 rfl rfl ?_
          refine md_get (pc := 60) (i := 14) hC (by decide) tw_1200 dX7_spawn_60 hI rfl ?_
          refine sg_iload_n (pc := 63) (x := nI c) hC dX7_spawn_63 rfl ?_
          refine sg_aload_n (pc := 64) (v := .ref x) hC dX7_spawn_64 rfl rfl ?_
          refine sg_iload_n (pc := 65) (x := nI t) hC dX7_spawn_65 rfl ?_
          refine sg_iconst (pc := 66) (((-1))) hC dX7_spawn_66 (by decide) ?_
          refine sg_callV (pc := 67) (As := [.int (nI t), .int ((-1))]) (rest := [.int (nI c), .ref (ad 14)]) (mc := 0) (ms := 0) hC tw_1421 tw_1423 tw_58 tw_72 tw_1424 yd_X7_walked (by decide) (ci := 10) rfl dX7_spawn_67 hI.x rfl (Nat.le_of_ble_eq_true rfl) (Nat.zero_le _) (Nat.zero_le _) ?_
          refine mm_walked htr hI t none (by first | omega | exact Nat.lt_of_le_of_lt Nat.and_le_left (by omega) | exact Nat.or_lt_two_pow (n := 16) (by omega) (by omega) | (simp [md_set, va_up]; done) | (simp [md_set, va_up]; omega) | exact Nat.or_lt_two_pow (n := 6) (by omega) (by omega)) (by intro k9 hk9; cases hk9) (by intro r9; first | exact hw r9 | (show N 4 r9 ≤ 3; exact hw r9) | exact hw9 r9) (by intro r9; first | exact hfr r9 | (show N 15 r9 ≤ 10; exact hfr r9) | exact hfr9 r9) (by intro r9; first | exact hsr r9 | (show N 16 r9 < 6; exact hsr r9) | exact hsr9 r9) (by intro r9; first | exact hbd r9 | (show N 18 r9 < 64; exact hbd r9) | exact hbd9 r9) (by intro r9; first | exact hmd r9 | (show N 14 r9 < 64; exact hmd r9) | exact hmd9 r9) ?_
          show sg_W X M 0 0 70 [some (.ref x), some (.int (nI t)), some (.int (nI c))] [.int (nI ((md_walked (md_set N 13 c 1) t none))), .int (nI c), .ref (ad 14)]
          have hwk7 : (md_walked (md_set N 13 c 1) t none) < 64 := md_walked_lt (by intro r9; first | exact hsr r9 | (show N 16 r9 < 6; exact hsr r9) | exact hsr9 r9) (by intro r9; first | exact hbd r9 | (show N 18 r9 < 64; exact hbd r9) | exact hbd9 r9) (by intro r9; first | exact hmd r9 | (show N 14 r9 < 64; exact hmd r9) | exact hmd9 r9)
          refine md_iast (pc := 70) (i := 14) (j := c) (v := (md_walked (md_set N 13 c 1) t none)) hC dX7_spawn_70 hI rfl (by first | omega | exact Nat.lt_of_le_of_lt Nat.and_le_left (by omega) | exact Nat.or_lt_two_pow (n := 16) (by omega) (by omega) | (simp [md_set, va_up]; done) | (simp [md_set, va_up]; omega) | exact Nat.or_lt_two_pow (n := 6) (by omega) (by omega)) (by decide) (by first | omega | exact Nat.lt_of_le_of_lt Nat.and_le_left (by omega) | exact Nat.or_lt_two_pow (n := 16) (by omega) (by omega) | (simp [md_set, va_up]; done) | (simp [md_set, va_up]; omega) | exact Nat.or_lt_two_pow (n := 6) (by omega) (by omega)) (fun M hI => ?_)
          refine sg_aload_n (pc := 71) (v := .ref x) hC dX7_spawn_71 rfl rfl ?_
          refine md_get (pc := 72) (i := 15) hC (by decide) tw_1201 dX7_spawn_72 hI rfl ?_
          refine sg_iload_n (pc := 75) (x := nI c) hC dX7_spawn_75 rfl ?_
          refine sg_iconst (pc := 76) (nI 0) hC dX7_spawn_76 (by decide) ?_
          refine md_iast (pc := 77) (i := 15) (j := c) (v := 0) hC dX7_spawn_77 hI rfl (by first | omega | exact Nat.lt_of_le_of_lt Nat.and_le_left (by omega) | exact Nat.or_lt_two_pow (n := 16) (by omega) (by omega) | (simp [md_set, va_up]; done) | (simp [md_set, va_up]; omega) | exact Nat.or_lt_two_pow (n := 6) (by omega) (by omega)) (by decide) (by first | omega | exact Nat.lt_of_le_of_lt Nat.and_le_left (by omega) | exact Nat.or_lt_two_pow (n := 16) (by omega) (by omega) | (simp [md_set, va_up]; done) | (simp [md_set, va_up]; omega) | exact Nat.or_lt_two_pow (n := 6) (by omega) (by omega)) (fun M hI => ?_)
          refine sg_iload_n (pc := 78) (x := nI c) hC dX7_spawn_78 rfl ?_
          have e9 : md_spawn1 (f + 1) N t c = (c, (md_set (md_set (md_set N 13 c 1) 14 c ((md_walked (md_set N 13 c 1) t none))) 15 c 0)) := by rw [md_spawn1_s]; simp only [if_neg (Nat.not_le.mpr h1), if_pos h5, if_neg h6]
          rw [e9] at hk
          exact sg_ireturn (st := []) (v := nI c) (pc := 79) hC hR dX7_spawn_79 (hk M hI)
        · refine sg_aload_n (pc := 46) (v := .ref x) hC dX7_spawn_46 rfl rfl ?_
          refine sg_iconst (pc := 47) (nI 2) hC dX7_spawn_47 (by decide) ?_
          refine sg_callV (pc := 48) (As := [.int (nI 2)]) (rest := []) (mc := 0) (ms := 0) hC tw_1273 tw_1275 tw_33 tw_72 tw_1276 yd_X7_fail (by decide) (ci := 10) rfl dX7_spawn_48 hI.x rfl (Nat.le_of_ble_eq_true rfl) (Nat.zero_le _) (Nat.zero_le _) ?_
          refine mm_fail htr hI 2 (by first | omega | exact Nat.lt_of_le_of_lt Nat.and_le_left (by omega) | exact Nat.or_lt_two_pow (n := 16) (by omega) (by omega) | (simp [md_set, va_up]; done) | (simp [md_set, va_up]; omega) | exact Nat.or_lt_two_pow (n := 6) (by omega) (by omega)) (fun M hI => ?_)
          show sg_W X M 0 0 51 [some (.ref x), some (.int (nI t)), some (.int (nI c))] [.int (nI ((md_fail N 2).1))]
          have e9 : md_spawn1 (f + 1) N t c = ((md_fail N 2).1, (md_fail N 2).2) := by rw [md_spawn1_s]; simp only [if_neg (Nat.not_le.mpr h1), if_pos h5, if_pos h6]
          rw [e9] at hk
          exact sg_ireturn (st := []) (v := nI ((md_fail N 2).1)) (pc := 51) hC hR dX7_spawn_51 (hk M hI)
      · refine sg_iincN (pc := 35) (a := c) (b := c + 1) hC dX7_spawn_35 rfl (nI_1 _) (by decide) ?_
        show sg_W X M 0 0 38 [some (.ref x), some (.int (nI t)), some (.int (nI (c + 1)))] []
        refine sg_goto (pc := 38) 21 hC dX7_spawn_38 (by decide) ?_
        have e9 : md_spawn1 (f + 1) N t c = md_spawn1 f N t (c + 1) := by rw [md_spawn1_s]; simp only [if_neg (Nat.not_le.mpr h1), if_neg h5]
        rw [e9] at hk
        refine sg_loc (L' := [some (.ref x), some (.int (nI t)), some (.int (nI ((c + 1))))]) ⟨rfl, ⟨rfl, ⟨rfl, trivial⟩⟩⟩ ?_
        exact ih t (c + 1) _ hI (by first | omega | exact Nat.lt_of_le_of_lt Nat.and_le_left (by omega) | exact Nat.or_lt_two_pow (n := 16) (by omega) (by omega) | (simp [md_set, va_up]; done) | (simp [md_set, va_up]; omega) | exact Nat.or_lt_two_pow (n := 6) (by omega) (by omega)) (by first | omega | exact Nat.lt_of_le_of_lt Nat.and_le_left (by omega) | exact Nat.or_lt_two_pow (n := 16) (by omega) (by omega) | (simp [md_set, va_up]; done) | (simp [md_set, va_up]; omega) | exact Nat.or_lt_two_pow (n := 6) (by omega) (by omega)) (by first | omega | exact Nat.lt_of_le_of_lt Nat.and_le_left (by omega) | exact Nat.or_lt_two_pow (n := 16) (by omega) (by omega) | (simp [md_set, va_up]; done) | (simp [md_set, va_up]; omega) | exact Nat.or_lt_two_pow (n := 6) (by omega) (by omega)) hw hfr hsr hbd hmd hk

def md_spawn (N : Nat → Nat → Nat) (t : Int32) : Nat × (Nat → Nat → Nat) := if (md_isThread (md_set N 0 0 0) t) = true then md_spawn1 (5) (md_set N 0 0 0) t.toNatClampNeg 0 else ((md_fail (md_set N 0 0 0) 1).1, (md_fail (md_set N 0 0 0) 1).2)
set_option maxHeartbeats 4000000 in
set_option maxRecDepth 100000 in
theorem mm_spawn {l : Launch} {G : sg_G} {d : Nat} {M0 M : sg_M} {x : Nat} {ad : Nat → Nat} {N : Nat → Nat → Nat} {kr : Option Value → sg_M → Prop} {kx : String → sg_M → Prop} (htr : l.stackTraces = false) (hI : md_I M0 M x ad N) (t : Int32) (hw : ∀ r, N 4 r ≤ 3) (hfr : ∀ r, N 15 r ≤ 10) (hsr : ∀ r, N 16 r < 6) (hbd : ∀ r, N 18 r < 64) (hmd : ∀ r, N 14 r < 64) (hk : ∀ M', md_I M0 M' x ad (md_spawn N t).2 → kr (some (.int (nI (md_spawn N t).1))) M') : sg_Met l G yX7_spawn cX7_spawn 3 (some .int) (d + 5) 0 0 [.ref x, .int t] M kr kx := by
  refine sg_enter [some (.ref x), some (.int t), none] (by decide) htr (Nat.le_of_ble_eq_true rfl) rfl ?_
  intro X hC hR
  have hC : sg_C X l G cX7_spawn RX7 3 (d + 5) := hC
  refine sg_aload_n (pc := 0) (v := .ref x) hC dX7_spawn_0 rfl rfl ?_
  refine sg_iconst (pc := 1) (nI 0) hC dX7_spawn_1 (by decide) ?_
  refine md_put0 (pc := 2) (v := 0) hC tw_1186 dX7_spawn_2 hI (by first | omega | exact Nat.lt_of_le_of_lt Nat.and_le_left (by omega) | exact Nat.or_lt_two_pow (n := 16) (by omega) (by omega) | (simp [md_set, va_up]; done) | (simp [md_set, va_up]; omega) | exact Nat.or_lt_two_pow (n := 6) (by omega) (by omega)) (fun M hI => ?_)
  refine sg_aload_n (pc := 5) (v := .ref x) hC dX7_spawn_5 rfl rfl ?_
  refine sg_iload_n (pc := 6) (x := t) hC dX7_spawn_6 rfl ?_
  refine sg_callV (pc := 7) (As := [.int t]) (rest := []) (mc := 0) (ms := 0) hC tw_1401 tw_1403 tw_56 tw_72 tw_1404 yd_X7_isThread (by decide) (ci := 10) rfl dX7_spawn_7 hI.x rfl (Nat.le_of_ble_eq_true rfl) (Nat.zero_le _) (Nat.zero_le _) ?_
  refine mm_isThread htr hI t  ?_
  show sg_W X M 0 0 10 [some (.ref x), some (.int t), none] [.int (md_b ((md_isThread (md_set N 0 0 0) t)))]
  refine sg_ifB_ne (pc := 10) (b := (md_isThread (md_set N 0 0 0) t)) 19 hC dX7_spawn_10 (by decide) (fun h1 => ?_) (fun h1 => ?_)
  · obtain ⟨hs2, hs3⟩ := md_isThread_nat h1
    rw [hs2]
    show sg_W X M 0 0 19 [some (.ref x), some (.int (nI t.toNatClampNeg)), none] []
    obtain ⟨hs4, hs5⟩ := hs3
    refine sg_iconst (pc := 19) (nI 0) hC dX7_spawn_19 (by decide) ?_
    refine sg_istore_n (pc := 20) (x := nI 0) hC dX7_spawn_20 (by decide) ?_
    show sg_W X M 0 0 21 [some (.ref x), some (.int (nI t.toNatClampNeg)), some (.int (nI 0))] []
    have e9 : md_spawn N t = md_spawn1 (5) (md_set N 0 0 0) t.toNatClampNeg 0 := by rw [md_spawn]; simp only [if_pos h1]
    rw [e9] at hk
    refine sg_loc (L' := [some (.ref x), some (.int (nI t.toNatClampNeg)), some (.int (nI 0))]) ⟨rfl, ⟨rfl, ⟨rfl, trivial⟩⟩⟩ ?_
    exact mm_spawn1 htr hC hR (5) t.toNatClampNeg 0 _ hI (by first | omega | exact Nat.lt_of_le_of_lt Nat.and_le_left (by omega) | exact Nat.or_lt_two_pow (n := 16) (by omega) (by omega) | (simp [md_set, va_up]; done) | (simp [md_set, va_up]; omega) | exact Nat.or_lt_two_pow (n := 6) (by omega) (by omega)) (by first | omega | exact Nat.lt_of_le_of_lt Nat.and_le_left (by omega) | exact Nat.or_lt_two_pow (n := 16) (by omega) (by omega) | (simp [md_set, va_up]; done) | (simp [md_set, va_up]; omega) | exact Nat.or_lt_two_pow (n := 6) (by omega) (by omega)) (by first | omega | exact Nat.lt_of_le_of_lt Nat.and_le_left (by omega) | exact Nat.or_lt_two_pow (n := 16) (by omega) (by omega) | (simp [md_set, va_up]; done) | (simp [md_set, va_up]; omega) | exact Nat.or_lt_two_pow (n := 6) (by omega) (by omega)) (by intro r9; first | exact hw r9 | (show N 4 r9 ≤ 3; exact hw r9) | exact hw9 r9) (by intro r9; first | exact hfr r9 | (show N 15 r9 ≤ 10; exact hfr r9) | exact hfr9 r9) (by intro r9; first | exact hsr r9 | (show N 16 r9 < 6; exact hsr r9) | exact hsr9 r9) (by intro r9; first | exact hbd r9 | (show N 18 r9 < 64; exact hbd r9) | exact hbd9 r9) (by intro r9; first | exact hmd r9 | (show N 14 r9 < 64; exact hmd r9) | exact hmd9 r9) hk
  · refine sg_aload_n (pc := 13) (v := .ref x) hC dX7_spawn_13 rfl rfl ?_
    refine sg_iconst (pc := 14) (nI 1) hC dX7_spawn_14 (by decide) ?_
    refine sg_callV (pc := 15) (As := [.int (nI 1)]) (rest := []) (mc := 0) (ms := 0) hC tw_1273 tw_1275 tw_33 tw_72 tw_1276 yd_X7_fail (by decide) (ci := 10) rfl dX7_spawn_15 hI.x rfl (Nat.le_of_ble_eq_true rfl) (Nat.zero_le _) (Nat.zero_le _) ?_
    refine mm_fail htr hI 1 (by first | omega | exact Nat.lt_of_le_of_lt Nat.and_le_left (by omega) | exact Nat.or_lt_two_pow (n := 16) (by omega) (by omega) | (simp [md_set, va_up]; done) | (simp [md_set, va_up]; omega) | exact Nat.or_lt_two_pow (n := 6) (by omega) (by omega)) (fun M hI => ?_)
    show sg_W X M 0 0 18 [some (.ref x), some (.int t), none] [.int (nI ((md_fail (md_set N 0 0 0) 1).1))]
    have e9 : md_spawn N t = ((md_fail (md_set N 0 0 0) 1).1, (md_fail (md_set N 0 0 0) 1).2) := by rw [md_spawn]; simp only [if_neg (ts9 h1)]
    rw [e9] at hk
    exact sg_ireturn (st := []) (v := nI ((md_fail (md_set N 0 0 0) 1).1)) (pc := 18) hC hR dX7_spawn_18 (hk M hI)

def md_check (N : Nat → Nat → Nat) (t : Int32) (slot : Int32) : Nat × (Nat → Nat → Nat) := if (md_isThread (md_set N 0 0 0) t) = true then if (md_isSlot (md_set N 0 0 0) slot) = true then (match (md_blame (md_set N 0 0 0) ((md_walked (md_set N 0 0 0) t.toNatClampNeg (some slot.toNatClampNeg))) slot.toNatClampNeg).1 with | none => ((md_many ((md_walked (md_set N 0 0 0) t.toNatClampNeg (some slot.toNatClampNeg)))), (md_blame (md_set N 0 0 0) ((md_walked (md_set N 0 0 0) t.toNatClampNeg (some slot.toNatClampNeg))) slot.toNatClampNeg).2) | some q13 => ((md_fail (md_noteDown (md_blame (md_set N 0 0 0) ((md_walked (md_set N 0 0 0) t.toNatClampNeg (some slot.toNatClampNeg))) slot.toNatClampNeg).2 t.toNatClampNeg q13) 2).1, (md_fail (md_noteDown (md_blame (md_set N 0 0 0) ((md_walked (md_set N 0 0 0) t.toNatClampNeg (some slot.toNatClampNeg))) slot.toNatClampNeg).2 t.toNatClampNeg q13) 2).2)) else ((md_fail (md_set N 0 0 0) 1).1, (md_fail (md_set N 0 0 0) 1).2) else ((md_fail (md_set N 0 0 0) 1).1, (md_fail (md_set N 0 0 0) 1).2)
set_option maxHeartbeats 4000000 in
set_option maxRecDepth 100000 in
theorem mm_check {l : Launch} {G : sg_G} {d : Nat} {M0 M : sg_M} {x : Nat} {ad : Nat → Nat} {N : Nat → Nat → Nat} {kr : Option Value → sg_M → Prop} {kx : String → sg_M → Prop} (htr : l.stackTraces = false) (hI : md_I M0 M x ad N) (t : Int32) (slot : Int32) (hw : ∀ r, N 4 r ≤ 3) (hfr : ∀ r, N 15 r ≤ 10) (hsr : ∀ r, N 16 r < 6) (hbd : ∀ r, N 18 r < 64) (hmd : ∀ r, N 14 r < 64) (hg : ∀ r, N 12 r ≤ 6) (hk : ∀ M', md_I M0 M' x ad (md_check N t slot).2 → kr (some (.int (nI (md_check N t slot).1))) M') : sg_Met l G yX7_check cX7_check 5 (some .int) (d + 7) 0 0 [.ref x, .int t, .int slot] M kr kx := by
  refine sg_enter [some (.ref x), some (.int t), some (.int slot), none, none] (by decide) htr (Nat.le_of_ble_eq_true rfl) rfl ?_
  intro X hC hR
  have hC : sg_C X l G cX7_check RX7 5 (d + 7) := hC
  refine sg_aload_n (pc := 0) (v := .ref x) hC dX7_check_0 rfl rfl ?_
  refine sg_iconst (pc := 1) (nI 0) hC dX7_check_1 (by decide) ?_
  refine md_put0 (pc := 2) (v := 0) hC tw_1186 dX7_check_2 hI (by first | omega | exact Nat.lt_of_le_of_lt Nat.and_le_left (by omega) | exact Nat.or_lt_two_pow (n := 16) (by omega) (by omega) | (simp [md_set, va_up]; done) | (simp [md_set, va_up]; omega) | exact Nat.or_lt_two_pow (n := 6) (by omega) (by omega)) (fun M hI => ?_)
  refine sg_aload_n (pc := 5) (v := .ref x) hC dX7_check_5 rfl rfl ?_
  refine sg_iload_n (pc := 6) (x := t) hC dX7_check_6 rfl ?_
  refine sg_callV (pc := 7) (As := [.int t]) (rest := []) (mc := 0) (ms := 0) hC tw_1401 tw_1403 tw_56 tw_72 tw_1404 yd_X7_isThread (by decide) (ci := 10) rfl dX7_check_7 hI.x rfl (Nat.le_of_ble_eq_true rfl) (Nat.zero_le _) (Nat.zero_le _) ?_
  refine mm_isThread htr hI t  ?_
  show sg_W X M 0 0 10 [some (.ref x), some (.int t), some (.int slot), none, none] [.int (md_b ((md_isThread (md_set N 0 0 0) t)))]
  refine sg_ifB_eq (pc := 10) (b := (md_isThread (md_set N 0 0 0) t)) 21 hC dX7_check_10 (by decide) (fun h1 => ?_) (fun h1 => ?_)
  · refine sg_aload_n (pc := 21) (v := .ref x) hC dX7_check_21 rfl rfl ?_
    refine sg_iconst (pc := 22) (nI 1) hC dX7_check_22 (by decide) ?_
    refine sg_callV (pc := 23) (As := [.int (nI 1)]) (rest := []) (mc := 0) (ms := 0) hC tw_1273 tw_1275 tw_33 tw_72 tw_1276 yd_X7_fail (by decide) (ci := 10) rfl dX7_check_23 hI.x rfl (Nat.le_of_ble_eq_true rfl) (Nat.zero_le _) (Nat.zero_le _) ?_
    refine mm_fail htr hI 1 (by first | omega | exact Nat.lt_of_le_of_lt Nat.and_le_left (by omega) | exact Nat.or_lt_two_pow (n := 16) (by omega) (by omega) | (simp [md_set, va_up]; done) | (simp [md_set, va_up]; omega) | exact Nat.or_lt_two_pow (n := 6) (by omega) (by omega)) (fun M hI => ?_)
    show sg_W X M 0 0 26 [some (.ref x), some (.int t), some (.int slot), none, none] [.int (nI ((md_fail (md_set N 0 0 0) 1).1))]
    have e9 : md_check N t slot = ((md_fail (md_set N 0 0 0) 1).1, (md_fail (md_set N 0 0 0) 1).2) := by rw [md_check]; simp only [if_neg (ts9 h1)]
    rw [e9] at hk
    exact sg_ireturn (st := []) (v := nI ((md_fail (md_set N 0 0 0) 1).1)) (pc := 26) hC hR dX7_check_26 (hk M hI)
  · obtain ⟨hs2, hs3⟩ := md_isThread_nat h1
    rw [hs2]
    show sg_W X M 0 0 13 [some (.ref x), some (.int (nI t.toNatClampNeg)), some (.int slot), none, none] []
    obtain ⟨hs4, hs5⟩ := hs3
    refine sg_aload_n (pc := 13) (v := .ref x) hC dX7_check_13 rfl rfl ?_
    refine sg_iload_n (pc := 14) (x := slot) hC dX7_check_14 rfl ?_
    refine sg_callV (pc := 15) (As := [.int slot]) (rest := []) (mc := 0) (ms := 0) hC tw_1337 tw_1339 tw_45 tw_72 tw_1340 yd_X7_isSlot (by decide) (ci := 10) rfl dX7_check_15 hI.x rfl (Nat.le_of_ble_eq_true rfl) (Nat.zero_le _) (Nat.zero_le _) ?_
    refine mm_isSlot htr hI slot  ?_
    show sg_W X M 0 0 18 [some (.ref x), some (.int (nI t.toNatClampNeg)), some (.int slot), none, none] [.int (md_b ((md_isSlot (md_set N 0 0 0) slot)))]
    refine sg_ifB_ne (pc := 18) (b := (md_isSlot (md_set N 0 0 0) slot)) 27 hC dX7_check_18 (by decide) (fun h6 => ?_) (fun h6 => ?_)
    · obtain ⟨hs7, hs8⟩ := md_isSlot_nat h6
      rw [hs7]
      show sg_W X M 0 0 27 [some (.ref x), some (.int (nI t.toNatClampNeg)), some (.int (nI slot.toNatClampNeg)), none, none] []
      obtain ⟨hs9, hs10⟩ := hs8
      refine sg_aload_n (pc := 27) (v := .ref x) hC dX7_check_27 rfl rfl ?_
      refine sg_iload_n (pc := 28) (x := nI t.toNatClampNeg) hC dX7_check_28 rfl ?_
      refine sg_iload_n (pc := 29) (x := nI slot.toNatClampNeg) hC dX7_check_29 rfl ?_
      refine sg_callV (pc := 30) (As := [.int (nI t.toNatClampNeg), .int (nI slot.toNatClampNeg)]) (rest := []) (mc := 0) (ms := 0) hC tw_1421 tw_1423 tw_58 tw_72 tw_1424 yd_X7_walked (by decide) (ci := 10) rfl dX7_check_30 hI.x rfl (Nat.le_of_ble_eq_true rfl) (Nat.zero_le _) (Nat.zero_le _) ?_
      refine mm_walked htr hI t.toNatClampNeg (some slot.toNatClampNeg) (by first | omega | exact Nat.lt_of_le_of_lt Nat.and_le_left (by omega) | exact Nat.or_lt_two_pow (n := 16) (by omega) (by omega) | (simp [md_set, va_up]; done) | (simp [md_set, va_up]; omega) | exact Nat.or_lt_two_pow (n := 6) (by omega) (by omega)) (by intro k9 hk9; cases hk9; omega) (by intro r9; first | exact hw r9 | (show N 4 r9 ≤ 3; exact hw r9) | exact hw9 r9) (by intro r9; first | exact hfr r9 | (show N 15 r9 ≤ 10; exact hfr r9) | exact hfr9 r9) (by intro r9; first | exact hsr r9 | (show N 16 r9 < 6; exact hsr r9) | exact hsr9 r9) (by intro r9; first | exact hbd r9 | (show N 18 r9 < 64; exact hbd r9) | exact hbd9 r9) (by intro r9; first | exact hmd r9 | (show N 14 r9 < 64; exact hmd r9) | exact hmd9 r9) ?_
      show sg_W X M 0 0 33 [some (.ref x), some (.int (nI t.toNatClampNeg)), some (.int (nI slot.toNatClampNeg)), none, none] [.int (nI ((md_walked (md_set N 0 0 0) t.toNatClampNeg (some slot.toNatClampNeg))))]
      have hwk11 : (md_walked (md_set N 0 0 0) t.toNatClampNeg (some slot.toNatClampNeg)) < 64 := md_walked_lt (by intro r9; first | exact hsr r9 | (show N 16 r9 < 6; exact hsr r9) | exact hsr9 r9) (by intro r9; first | exact hbd r9 | (show N 18 r9 < 64; exact hbd r9) | exact hbd9 r9) (by intro r9; first | exact hmd r9 | (show N 14 r9 < 64; exact hmd r9) | exact hmd9 r9)
      refine sg_istore_n (pc := 33) (x := nI ((md_walked (md_set N 0 0 0) t.toNatClampNeg (some slot.toNatClampNeg)))) hC dX7_check_33 (by decide) ?_
      show sg_W X M 0 0 34 [some (.ref x), some (.int (nI t.toNatClampNeg)), some (.int (nI slot.toNatClampNeg)), some (.int (nI ((md_walked (md_set N 0 0 0) t.toNatClampNeg (some slot.toNatClampNeg))))), none] []
      refine sg_aload_n (pc := 34) (v := .ref x) hC dX7_check_34 rfl rfl ?_
      refine sg_iload_n (pc := 35) (x := nI ((md_walked (md_set N 0 0 0) t.toNatClampNeg (some slot.toNatClampNeg)))) hC dX7_check_35 rfl ?_
      refine sg_iload_n (pc := 36) (x := nI slot.toNatClampNeg) hC dX7_check_36 rfl ?_
      refine sg_callV (pc := 37) (As := [.int (nI ((md_walked (md_set N 0 0 0) t.toNatClampNeg (some slot.toNatClampNeg)))), .int (nI slot.toNatClampNeg)]) (rest := []) (mc := 0) (ms := 0) hC tw_1448 tw_1450 tw_59 tw_72 tw_1451 yd_X7_blame (by decide) (ci := 10) rfl dX7_check_37 hI.x rfl (Nat.le_of_ble_eq_true rfl) (Nat.zero_le _) (Nat.zero_le _) ?_
      refine mm_blame htr hI ((md_walked (md_set N 0 0 0) t.toNatClampNeg (some slot.toNatClampNeg))) slot.toNatClampNeg (by first | omega | exact Nat.lt_of_le_of_lt Nat.and_le_left (by omega) | exact Nat.or_lt_two_pow (n := 16) (by omega) (by omega) | (simp [md_set, va_up]; done) | (simp [md_set, va_up]; omega) | exact Nat.or_lt_two_pow (n := 6) (by omega) (by omega)) (by first | omega | exact Nat.lt_of_le_of_lt Nat.and_le_left (by omega) | exact Nat.or_lt_two_pow (n := 16) (by omega) (by omega) | (simp [md_set, va_up]; done) | (simp [md_set, va_up]; omega) | exact Nat.or_lt_two_pow (n := 6) (by omega) (by omega)) (by intro r9; first | exact hw r9 | (show N 4 r9 ≤ 3; exact hw r9) | exact hw9 r9) (by intro r9; first | exact hg r9 | (show N 12 r9 ≤ 6; exact hg r9) | exact hg9 r9) (fun M hI => ?_)
      show sg_W X M 0 0 40 [some (.ref x), some (.int (nI t.toNatClampNeg)), some (.int (nI slot.toNatClampNeg)), some (.int (nI ((md_walked (md_set N 0 0 0) t.toNatClampNeg (some slot.toNatClampNeg))))), none] [.int (md_o ((md_blame (md_set N 0 0 0) ((md_walked (md_set N 0 0 0) t.toNatClampNeg (some slot.toNatClampNeg))) slot.toNatClampNeg).1))]
      have hsim : md_sim (md_set N 0 0 0) (md_blame (md_set N 0 0 0) ((md_walked (md_set N 0 0 0) t.toNatClampNeg (some slot.toNatClampNeg))) slot.toNatClampNeg).2 := md_sim_blame (by intro r9; first | exact hw r9 | (show N 4 r9 ≤ 3; exact hw r9) | exact hw9 r9)
      have hw9 : ∀ r, (md_blame (md_set N 0 0 0) ((md_walked (md_set N 0 0 0) t.toNatClampNeg (some slot.toNatClampNeg))) slot.toNatClampNeg).2 4 r ≤ 3 := hsim.2 (by intro r9; first | exact hw r9 | (show N 4 r9 ≤ 3; exact hw r9) | exact hw9 r9)
      have hfr9 : ∀ r, (md_blame (md_set N 0 0 0) ((md_walked (md_set N 0 0 0) t.toNatClampNeg (some slot.toNatClampNeg))) slot.toNatClampNeg).2 15 r ≤ 10 := fun r9 => by rw [hsim.1 15 r9 (by omega)]; exact hfr r9
      have hsr9 : ∀ r, (md_blame (md_set N 0 0 0) ((md_walked (md_set N 0 0 0) t.toNatClampNeg (some slot.toNatClampNeg))) slot.toNatClampNeg).2 16 r < 6 := fun r9 => by rw [hsim.1 16 r9 (by omega)]; exact hsr r9
      have hbd9 : ∀ r, (md_blame (md_set N 0 0 0) ((md_walked (md_set N 0 0 0) t.toNatClampNeg (some slot.toNatClampNeg))) slot.toNatClampNeg).2 18 r < 64 := fun r9 => by rw [hsim.1 18 r9 (by omega)]; exact hbd r9
      have hmd9 : ∀ r, (md_blame (md_set N 0 0 0) ((md_walked (md_set N 0 0 0) t.toNatClampNeg (some slot.toNatClampNeg))) slot.toNatClampNeg).2 14 r < 64 := fun r9 => by rw [hsim.1 14 r9 (by omega)]; exact hmd r9
      have hg9 : ∀ r, (md_blame (md_set N 0 0 0) ((md_walked (md_set N 0 0 0) t.toNatClampNeg (some slot.toNatClampNeg))) slot.toNatClampNeg).2 12 r ≤ 6 := fun r9 => by rw [hsim.1 12 r9 (by omega)]; exact hg r9
      refine sg_istore (pc := 40) (x := md_o ((md_blame (md_set N 0 0 0) ((md_walked (md_set N 0 0 0) t.toNatClampNeg (some slot.toNatClampNeg))) slot.toNatClampNeg).1)) hC dX7_check_40 (by decide) ?_
      show sg_W X M 0 0 42 [some (.ref x), some (.int (nI t.toNatClampNeg)), some (.int (nI slot.toNatClampNeg)), some (.int (nI ((md_walked (md_set N 0 0 0) t.toNatClampNeg (some slot.toNatClampNeg))))), some (.int (md_o ((md_blame (md_set N 0 0 0) ((md_walked (md_set N 0 0 0) t.toNatClampNeg (some slot.toNatClampNeg))) slot.toNatClampNeg).1)))] []
      refine sg_iload (pc := 42) (x := md_o ((md_blame (md_set N 0 0 0) ((md_walked (md_set N 0 0 0) t.toNatClampNeg (some slot.toNatClampNeg))) slot.toNatClampNeg).1)) hC dX7_check_42 rfl ?_
      refine sg_ifO_lt (pc := 44) (r := (md_blame (md_set N 0 0 0) ((md_walked (md_set N 0 0 0) t.toNatClampNeg (some slot.toNatClampNeg))) slot.toNatClampNeg).1) 60 hC dX7_check_44 (by decide) (fun k9 hk9 => by have := md_blame_lt (by intro r9; first | exact hw r9 | (show N 4 r9 ≤ 3; exact hw r9)) hk9; omega) (fun h12 => ?_) (fun h12 => ?_)
      · refine sg_iload_n (pc := 60) (x := nI ((md_walked (md_set N 0 0 0) t.toNatClampNeg (some slot.toNatClampNeg)))) hC dX7_check_60 rfl ?_
        refine sg_callS (pc := 61) (As := [.int (nI ((md_walked (md_set N 0 0 0) t.toNatClampNeg (some slot.toNatClampNeg))))]) (rest := []) (mc := 0) (ms := 0) hC tw_1433 tw_1434 tw_72 tw_1435 yd_X7_many (by decide) dX7_check_61 rfl (Nat.le_of_ble_eq_true rfl) (Nat.zero_le _) (Nat.zero_le _) ?_
        refine mm_many htr  ((md_walked (md_set N 0 0 0) t.toNatClampNeg (some slot.toNatClampNeg))) (by first | omega | exact Nat.lt_of_le_of_lt Nat.and_le_left (by omega) | exact Nat.or_lt_two_pow (n := 16) (by omega) (by omega) | (simp [md_set, va_up]; done) | (simp [md_set, va_up]; omega) | exact Nat.or_lt_two_pow (n := 6) (by omega) (by omega)) ?_
        show sg_W X M 0 0 64 [some (.ref x), some (.int (nI t.toNatClampNeg)), some (.int (nI slot.toNatClampNeg)), some (.int (nI ((md_walked (md_set N 0 0 0) t.toNatClampNeg (some slot.toNatClampNeg))))), some (.int (md_o ((md_blame (md_set N 0 0 0) ((md_walked (md_set N 0 0 0) t.toNatClampNeg (some slot.toNatClampNeg))) slot.toNatClampNeg).1)))] [.int (nI ((md_many ((md_walked (md_set N 0 0 0) t.toNatClampNeg (some slot.toNatClampNeg))))))]
        have e9 : md_check N t slot = ((md_many ((md_walked (md_set N 0 0 0) t.toNatClampNeg (some slot.toNatClampNeg)))), (md_blame (md_set N 0 0 0) ((md_walked (md_set N 0 0 0) t.toNatClampNeg (some slot.toNatClampNeg))) slot.toNatClampNeg).2) := by rw [md_check]; simp only [if_pos h1, if_pos h6, h12]
        rw [e9] at hk
        exact sg_ireturn (st := []) (v := nI ((md_many ((md_walked (md_set N 0 0 0) t.toNatClampNeg (some slot.toNatClampNeg)))))) (pc := 64) hC hR dX7_check_64 (hk M hI)
      · obtain ⟨q13, hq14⟩ := md_os h12
        rw [hq14]
        show sg_W X M 0 0 47 [some (.ref x), some (.int (nI t.toNatClampNeg)), some (.int (nI slot.toNatClampNeg)), some (.int (nI ((md_walked (md_set N 0 0 0) t.toNatClampNeg (some slot.toNatClampNeg))))), some (.int (nI q13))] []
        have hz15 := md_blame_lt (by intro r9; first | exact hw r9 | (show N 4 r9 ≤ 3; exact hw r9)) hq14
        refine sg_aload_n (pc := 47) (v := .ref x) hC dX7_check_47 rfl rfl ?_
        refine sg_iload_n (pc := 48) (x := nI t.toNatClampNeg) hC dX7_check_48 rfl ?_
        refine sg_iload (pc := 49) (x := nI q13) hC dX7_check_49 rfl ?_
        refine sg_callV (pc := 51) (As := [.int (nI t.toNatClampNeg), .int (nI q13)]) (rest := []) (mc := 0) (ms := 0) hC tw_1452 tw_1454 tw_60 tw_72 tw_1455 yd_X7_noteDown (by decide) (ci := 10) rfl dX7_check_51 hI.x rfl (Nat.le_of_ble_eq_true rfl) (Nat.zero_le _) (Nat.zero_le _) ?_
        refine mm_noteDown htr hI t.toNatClampNeg q13 (by first | omega | exact Nat.lt_of_le_of_lt Nat.and_le_left (by omega) | exact Nat.or_lt_two_pow (n := 16) (by omega) (by omega) | (simp [md_set, va_up]; done) | (simp [md_set, va_up]; omega) | exact Nat.or_lt_two_pow (n := 6) (by omega) (by omega)) (by first | omega | exact Nat.lt_of_le_of_lt Nat.and_le_left (by omega) | exact Nat.or_lt_two_pow (n := 16) (by omega) (by omega) | (simp [md_set, va_up]; done) | (simp [md_set, va_up]; omega) | exact Nat.or_lt_two_pow (n := 6) (by omega) (by omega)) (fun M hI => ?_)
        show sg_W X M 0 0 54 [some (.ref x), some (.int (nI t.toNatClampNeg)), some (.int (nI slot.toNatClampNeg)), some (.int (nI ((md_walked (md_set N 0 0 0) t.toNatClampNeg (some slot.toNatClampNeg))))), some (.int (nI q13))] []
        refine sg_aload_n (pc := 54) (v := .ref x) hC dX7_check_54 rfl rfl ?_
        refine sg_iconst (pc := 55) (nI 2) hC dX7_check_55 (by decide) ?_
        refine sg_callV (pc := 56) (As := [.int (nI 2)]) (rest := []) (mc := 0) (ms := 0) hC tw_1273 tw_1275 tw_33 tw_72 tw_1276 yd_X7_fail (by decide) (ci := 10) rfl dX7_check_56 hI.x rfl (Nat.le_of_ble_eq_true rfl) (Nat.zero_le _) (Nat.zero_le _) ?_
        refine mm_fail htr hI 2 (by first | omega | exact Nat.lt_of_le_of_lt Nat.and_le_left (by omega) | exact Nat.or_lt_two_pow (n := 16) (by omega) (by omega) | (simp [md_set, va_up]; done) | (simp [md_set, va_up]; omega) | exact Nat.or_lt_two_pow (n := 6) (by omega) (by omega)) (fun M hI => ?_)
        show sg_W X M 0 0 59 [some (.ref x), some (.int (nI t.toNatClampNeg)), some (.int (nI slot.toNatClampNeg)), some (.int (nI ((md_walked (md_set N 0 0 0) t.toNatClampNeg (some slot.toNatClampNeg))))), some (.int (nI q13))] [.int (nI ((md_fail (md_noteDown (md_blame (md_set N 0 0 0) ((md_walked (md_set N 0 0 0) t.toNatClampNeg (some slot.toNatClampNeg))) slot.toNatClampNeg).2 t.toNatClampNeg q13) 2).1))]
        have e9 : md_check N t slot = ((md_fail (md_noteDown (md_blame (md_set N 0 0 0) ((md_walked (md_set N 0 0 0) t.toNatClampNeg (some slot.toNatClampNeg))) slot.toNatClampNeg).2 t.toNatClampNeg q13) 2).1, (md_fail (md_noteDown (md_blame (md_set N 0 0 0) ((md_walked (md_set N 0 0 0) t.toNatClampNeg (some slot.toNatClampNeg))) slot.toNatClampNeg).2 t.toNatClampNeg q13) 2).2) := by rw [md_check]; simp only [if_pos h1, if_pos h6, hq14]
        rw [e9] at hk
        exact sg_ireturn (st := []) (v := nI ((md_fail (md_noteDown (md_blame (md_set N 0 0 0) ((md_walked (md_set N 0 0 0) t.toNatClampNeg (some slot.toNatClampNeg))) slot.toNatClampNeg).2 t.toNatClampNeg q13) 2).1)) (pc := 59) hC hR dX7_check_59 (hk M hI)
    · refine sg_aload_n (pc := 21) (v := .ref x) hC dX7_check_21 rfl rfl ?_
      refine sg_iconst (pc := 22) (nI 1) hC dX7_check_22 (by decide) ?_
      refine sg_callV (pc := 23) (As := [.int (nI 1)]) (rest := []) (mc := 0) (ms := 0) hC tw_1273 tw_1275 tw_33 tw_72 tw_1276 yd_X7_fail (by decide) (ci := 10) rfl dX7_check_23 hI.x rfl (Nat.le_of_ble_eq_true rfl) (Nat.zero_le _) (Nat.zero_le _) ?_
      refine mm_fail htr hI 1 (by first | omega | exact Nat.lt_of_le_of_lt Nat.and_le_left (by omega) | exact Nat.or_lt_two_pow (n := 16) (by omega) (by omega) | (simp [md_set, va_up]; done) | (simp [md_set, va_up]; omega) | exact Nat.or_lt_two_pow (n := 6) (by omega) (by omega)) (fun M hI => ?_)
      show sg_W X M 0 0 26 [some (.ref x), some (.int (nI t.toNatClampNeg)), some (.int slot), none, none] [.int (nI ((md_fail (md_set N 0 0 0) 1).1))]
      have e9 : md_check N t slot = ((md_fail (md_set N 0 0 0) 1).1, (md_fail (md_set N 0 0 0) 1).2) := by rw [md_check]; simp only [if_pos h1, if_neg (ts9 h6)]
      rw [e9] at hk
      exact sg_ireturn (st := []) (v := nI ((md_fail (md_set N 0 0 0) 1).1)) (pc := 26) hC hR dX7_check_26 (hk M hI)

def md_allowed1 : Nat → (Nat → Nat → Nat) → Nat → Nat → Nat → Nat × (Nat → Nat → Nat)
  | 0, N, _, _, _ => (0, N)
  | f + 1, N, t, n, q => if 8 ≤ q then (n, N) else if N 3 q ≤ 0 then md_allowed1 f N t n (q + 1) else (match (md_blame N ((md_walked N t (some q))) q).1 with | none => md_allowed1 f (md_blame N ((md_walked N t (some q))) q).2 t (n + 1) (q + 1) | some q7 => md_allowed1 f (md_blame N ((md_walked N t (some q))) q).2 t n (q + 1))
theorem md_allowed1_s (f : Nat) (N : Nat → Nat → Nat) (t : Nat) (n : Nat) (q : Nat) : md_allowed1 (f + 1) N t n q = if 8 ≤ q then (n, N) else if N 3 q ≤ 0 then md_allowed1 f N t n (q + 1) else (match (md_blame N ((md_walked N t (some q))) q).1 with | none => md_allowed1 f (md_blame N ((md_walked N t (some q))) q).2 t (n + 1) (q + 1) | some q7 => md_allowed1 f (md_blame N ((md_walked N t (some q))) q).2 t n (q + 1)) := rfl
set_option maxHeartbeats 4000000 in
set_option maxRecDepth 100000 in
theorem mm_allowed1 {X : sg_X} {l : Launch} {G : sg_G} {d : Nat} {M0 : sg_M} {x : Nat} {ad : Nat → Nat} {kr : Option Value → sg_M → Prop} {kx : String → sg_M → Prop} (htr : l.stackTraces = false) (hC : sg_C X l G cX7_allowed RX7 5 (d + 7)) (hR : sg_R X yX7_allowed kr kx (some .int)) : ∀ (f : Nat) (t : Nat) (n : Nat) (q : Nat) (N : Nat → Nat → Nat) {M : sg_M} (hI : md_I M0 M x ad N) (hf : 8 - q < f) (ht : t < 4) (hn : n ≤ q) (hq : q ≤ 8) (hw : ∀ r, N 4 r ≤ 3) (hfr : ∀ r, N 15 r ≤ 10) (hsr : ∀ r, N 16 r < 6) (hbd : ∀ r, N 18 r < 64) (hmd : ∀ r, N 14 r < 64) (hg : ∀ r, N 12 r ≤ 6) (hk : ∀ M', md_I M0 M' x ad (md_allowed1 f N t n q).2 → kr (some (.int (nI (md_allowed1 f N t n q).1))) M'), sg_W X M 0 0 23 [some (.ref x), some (.int (nI t)), some (.int (nI n)), some (.int (nI q)), none] [] := by
  intro f
  induction f with
  | zero =>
    intro t n q N M hI hf
    exact absurd hf (Nat.not_lt_zero _)
  | succ f ih =>
    intro t n q N M hI hf ht hn hq hw hfr hsr hbd hmd hg hk
    refine sg_iload_n (pc := 23) (x := nI q) hC dX7_allowed_23 rfl ?_
    refine sg_bipush (pc := 24) (nI 8) hC dX7_allowed_24 (by decide) ?_
    refine sg_icmpN_ge (pc := 26) (a := q) (b := 8) 78 hC dX7_allowed_26 (by decide) (by first | omega | exact Nat.lt_of_le_of_lt Nat.and_le_left (by omega) | exact Nat.or_lt_two_pow (n := 16) (by omega) (by omega) | (simp [md_set, va_up]; done) | (simp [md_set, va_up]; omega) | exact Nat.or_lt_two_pow (n := 6) (by omega) (by omega)) (by first | omega | exact Nat.lt_of_le_of_lt Nat.and_le_left (by omega) | exact Nat.or_lt_two_pow (n := 16) (by omega) (by omega) | (simp [md_set, va_up]; done) | (simp [md_set, va_up]; omega) | exact Nat.or_lt_two_pow (n := 6) (by omega) (by omega)) (fun h1 => ?_) (fun h1 => ?_)
    · refine sg_iload_n (pc := 78) (x := nI n) hC dX7_allowed_78 rfl ?_
      have e9 : md_allowed1 (f + 1) N t n q = (n, N) := by rw [md_allowed1_s]; simp only [if_pos h1]
      rw [e9] at hk
      exact sg_ireturn (st := []) (v := nI n) (pc := 79) hC hR dX7_allowed_79 (hk M hI)
    · refine sg_aload_n (pc := 29) (v := .ref x) hC dX7_allowed_29 rfl rfl ?_
      refine md_get (pc := 30) (i := 3) hC (by decide) tw_1189 dX7_allowed_30 hI rfl ?_
      refine sg_iload_n (pc := 33) (x := nI q) hC dX7_allowed_33 rfl ?_
      refine md_iald (pc := 34) (i := 3) (j := q) hC dX7_allowed_34 hI rfl (by first | omega | exact Nat.lt_of_le_of_lt Nat.and_le_left (by omega) | exact Nat.or_lt_two_pow (n := 16) (by omega) (by omega) | (simp [md_set, va_up]; done) | (simp [md_set, va_up]; omega) | exact Nat.or_lt_two_pow (n := 6) (by omega) (by omega)) (by decide) (fun hv2 => ?_)
      show sg_W X M 0 0 35 [some (.ref x), some (.int (nI t)), some (.int (nI n)), some (.int (nI q)), none] [.int (nI (N 3 q))]
      refine sg_ifN_le (pc := 35) (a := N 3 q) 56 hC dX7_allowed_35 (by decide) (by first | omega | exact Nat.lt_of_le_of_lt Nat.and_le_left (by omega) | exact Nat.or_lt_two_pow (n := 16) (by omega) (by omega) | (simp [md_set, va_up]; done) | (simp [md_set, va_up]; omega) | exact Nat.or_lt_two_pow (n := 6) (by omega) (by omega)) (fun h3 => ?_) (fun h3 => ?_)
      · refine sg_iconst (pc := 56) (nI 0) hC dX7_allowed_56 (by decide) ?_
        refine sg_istore (pc := 57) (x := nI 0) hC dX7_allowed_57 (by decide) ?_
        show sg_W X M 0 0 59 [some (.ref x), some (.int (nI t)), some (.int (nI n)), some (.int (nI q)), some (.int (nI 0))] []
        refine sg_iload (pc := 59) (x := nI 0) hC dX7_allowed_59 rfl ?_
        refine sg_ifN_eq (pc := 61) (a := 0) 70 hC dX7_allowed_61 (by decide) (by decide) (fun _ => ?_) (fun h4 => absurd h4 (by decide))
        refine sg_iload_n (pc := 70) (x := nI n) hC dX7_allowed_70 rfl ?_
        refine sg_istore_n (pc := 71) (x := nI n) hC dX7_allowed_71 (by decide) ?_
        show sg_W X M 0 0 72 [some (.ref x), some (.int (nI t)), some (.int (nI n)), some (.int (nI q)), some (.int (nI 0))] []
        refine sg_iincN (pc := 72) (a := q) (b := q + 1) hC dX7_allowed_72 rfl (nI_1 _) (by decide) ?_
        show sg_W X M 0 0 75 [some (.ref x), some (.int (nI t)), some (.int (nI n)), some (.int (nI (q + 1))), some (.int (nI 0))] []
        refine sg_goto (pc := 75) 23 hC dX7_allowed_75 (by decide) ?_
        have e9 : md_allowed1 (f + 1) N t n q = md_allowed1 f N t n (q + 1) := by rw [md_allowed1_s]; simp only [if_neg (Nat.not_le.mpr h1), if_pos h3]
        rw [e9] at hk
        refine sg_loc (L' := [some (.ref x), some (.int (nI t)), some (.int (nI n)), some (.int (nI ((q + 1)))), none]) ⟨rfl, ⟨rfl, ⟨rfl, ⟨rfl, trivial⟩⟩⟩⟩ ?_
        exact ih t n (q + 1) _ hI (by first | omega | exact Nat.lt_of_le_of_lt Nat.and_le_left (by omega) | exact Nat.or_lt_two_pow (n := 16) (by omega) (by omega) | (simp [md_set, va_up]; done) | (simp [md_set, va_up]; omega) | exact Nat.or_lt_two_pow (n := 6) (by omega) (by omega)) (by first | omega | exact Nat.lt_of_le_of_lt Nat.and_le_left (by omega) | exact Nat.or_lt_two_pow (n := 16) (by omega) (by omega) | (simp [md_set, va_up]; done) | (simp [md_set, va_up]; omega) | exact Nat.or_lt_two_pow (n := 6) (by omega) (by omega)) (by first | omega | exact Nat.lt_of_le_of_lt Nat.and_le_left (by omega) | exact Nat.or_lt_two_pow (n := 16) (by omega) (by omega) | (simp [md_set, va_up]; done) | (simp [md_set, va_up]; omega) | exact Nat.or_lt_two_pow (n := 6) (by omega) (by omega)) (by first | omega | exact Nat.lt_of_le_of_lt Nat.and_le_left (by omega) | exact Nat.or_lt_two_pow (n := 16) (by omega) (by omega) | (simp [md_set, va_up]; done) | (simp [md_set, va_up]; omega) | exact Nat.or_lt_two_pow (n := 6) (by omega) (by omega)) hw hfr hsr hbd hmd hg hk
      · refine sg_aload_n (pc := 38) (v := .ref x) hC dX7_allowed_38 rfl rfl ?_
        refine sg_aload_n (pc := 39) (v := .ref x) hC dX7_allowed_39 rfl rfl ?_
        refine sg_iload_n (pc := 40) (x := nI t) hC dX7_allowed_40 rfl ?_
        refine sg_iload_n (pc := 41) (x := nI q) hC dX7_allowed_41 rfl ?_
        refine sg_callV (pc := 42) (As := [.int (nI t), .int (nI q)]) (rest := [.ref x]) (mc := 0) (ms := 0) hC tw_1421 tw_1423 tw_58 tw_72 tw_1424 yd_X7_walked (by decide) (ci := 10) rfl dX7_allowed_42 hI.x rfl (Nat.le_of_ble_eq_true rfl) (Nat.zero_le _) (Nat.zero_le _) ?_
        refine mm_walked htr hI t (some q) (by first | omega | exact Nat.lt_of_le_of_lt Nat.and_le_left (by omega) | exact Nat.or_lt_two_pow (n := 16) (by omega) (by omega) | (simp [md_set, va_up]; done) | (simp [md_set, va_up]; omega) | exact Nat.or_lt_two_pow (n := 6) (by omega) (by omega)) (by intro k9 hk9; cases hk9; omega) hw hfr hsr hbd hmd ?_
        show sg_W X M 0 0 45 [some (.ref x), some (.int (nI t)), some (.int (nI n)), some (.int (nI q)), none] [.int (nI ((md_walked N t (some q)))), .ref x]
        have hwk5 : (md_walked N t (some q)) < 64 := md_walked_lt hsr hbd hmd
        refine sg_iload_n (pc := 45) (x := nI q) hC dX7_allowed_45 rfl ?_
        refine sg_callV (pc := 46) (As := [.int (nI ((md_walked N t (some q)))), .int (nI q)]) (rest := []) (mc := 0) (ms := 0) hC tw_1448 tw_1450 tw_59 tw_72 tw_1451 yd_X7_blame (by decide) (ci := 10) rfl dX7_allowed_46 hI.x rfl (Nat.le_of_ble_eq_true rfl) (Nat.zero_le _) (Nat.zero_le _) ?_
        refine mm_blame htr hI ((md_walked N t (some q))) q (by first | omega | exact Nat.lt_of_le_of_lt Nat.and_le_left (by omega) | exact Nat.or_lt_two_pow (n := 16) (by omega) (by omega) | (simp [md_set, va_up]; done) | (simp [md_set, va_up]; omega) | exact Nat.or_lt_two_pow (n := 6) (by omega) (by omega)) (by first | omega | exact Nat.lt_of_le_of_lt Nat.and_le_left (by omega) | exact Nat.or_lt_two_pow (n := 16) (by omega) (by omega) | (simp [md_set, va_up]; done) | (simp [md_set, va_up]; omega) | exact Nat.or_lt_two_pow (n := 6) (by omega) (by omega)) hw hg (fun M hI => ?_)
        show sg_W X M 0 0 49 [some (.ref x), some (.int (nI t)), some (.int (nI n)), some (.int (nI q)), none] [.int (md_o ((md_blame N ((md_walked N t (some q))) q).1))]
        have hsim : md_sim N (md_blame N ((md_walked N t (some q))) q).2 := md_sim_blame hw
        have hw9 : ∀ r, (md_blame N ((md_walked N t (some q))) q).2 4 r ≤ 3 := hsim.2 hw
        have hfr9 : ∀ r, (md_blame N ((md_walked N t (some q))) q).2 15 r ≤ 10 := fun r9 => by rw [hsim.1 15 r9 (by omega)]; exact hfr r9
        have hsr9 : ∀ r, (md_blame N ((md_walked N t (some q))) q).2 16 r < 6 := fun r9 => by rw [hsim.1 16 r9 (by omega)]; exact hsr r9
        have hbd9 : ∀ r, (md_blame N ((md_walked N t (some q))) q).2 18 r < 64 := fun r9 => by rw [hsim.1 18 r9 (by omega)]; exact hbd r9
        have hmd9 : ∀ r, (md_blame N ((md_walked N t (some q))) q).2 14 r < 64 := fun r9 => by rw [hsim.1 14 r9 (by omega)]; exact hmd r9
        have hg9 : ∀ r, (md_blame N ((md_walked N t (some q))) q).2 12 r ≤ 6 := fun r9 => by rw [hsim.1 12 r9 (by omega)]; exact hg r9
        refine sg_ifO_ge (pc := 49) (r := (md_blame N ((md_walked N t (some q))) q).1) 56 hC dX7_allowed_49 (by decide) (fun k9 hk9 => by have := md_blame_lt (by intro r9; first | exact hw r9 | (show N 4 r9 ≤ 3; exact hw r9)) hk9; omega) (fun h6 => ?_) (fun h6 => ?_)
        · obtain ⟨q7, hq8⟩ := md_os h6
          show sg_W X M 0 0 56 [some (.ref x), some (.int (nI t)), some (.int (nI n)), some (.int (nI q)), none] []
          have hz9 := md_blame_lt (by intro r9; first | exact hw r9 | (show N 4 r9 ≤ 3; exact hw r9)) hq8
          refine sg_iconst (pc := 56) (nI 0) hC dX7_allowed_56 (by decide) ?_
          refine sg_istore (pc := 57) (x := nI 0) hC dX7_allowed_57 (by decide) ?_
          show sg_W X M 0 0 59 [some (.ref x), some (.int (nI t)), some (.int (nI n)), some (.int (nI q)), some (.int (nI 0))] []
          refine sg_iload (pc := 59) (x := nI 0) hC dX7_allowed_59 rfl ?_
          refine sg_ifN_eq (pc := 61) (a := 0) 70 hC dX7_allowed_61 (by decide) (by decide) (fun _ => ?_) (fun h10 => absurd h10 (by decide))
          refine sg_iload_n (pc := 70) (x := nI n) hC dX7_allowed_70 rfl ?_
          refine sg_istore_n (pc := 71) (x := nI n) hC dX7_allowed_71 (by decide) ?_
          show sg_W X M 0 0 72 [some (.ref x), some (.int (nI t)), some (.int (nI n)), some (.int (nI q)), some (.int (nI 0))] []
          refine sg_iincN (pc := 72) (a := q) (b := q + 1) hC dX7_allowed_72 rfl (nI_1 _) (by decide) ?_
          show sg_W X M 0 0 75 [some (.ref x), some (.int (nI t)), some (.int (nI n)), some (.int (nI (q + 1))), some (.int (nI 0))] []
          refine sg_goto (pc := 75) 23 hC dX7_allowed_75 (by decide) ?_
          have e9 : md_allowed1 (f + 1) N t n q = md_allowed1 f (md_blame N ((md_walked N t (some q))) q).2 t n (q + 1) := by rw [md_allowed1_s]; simp only [if_neg (Nat.not_le.mpr h1), if_neg (Nat.not_le.mpr h3), hq8]
          rw [e9] at hk
          refine sg_loc (L' := [some (.ref x), some (.int (nI t)), some (.int (nI n)), some (.int (nI ((q + 1)))), none]) ⟨rfl, ⟨rfl, ⟨rfl, ⟨rfl, trivial⟩⟩⟩⟩ ?_
          exact ih t n (q + 1) _ hI (by first | omega | exact Nat.lt_of_le_of_lt Nat.and_le_left (by omega) | exact Nat.or_lt_two_pow (n := 16) (by omega) (by omega) | (simp [md_set, va_up]; done) | (simp [md_set, va_up]; omega) | exact Nat.or_lt_two_pow (n := 6) (by omega) (by omega)) (by first | omega | exact Nat.lt_of_le_of_lt Nat.and_le_left (by omega) | exact Nat.or_lt_two_pow (n := 16) (by omega) (by omega) | (simp [md_set, va_up]; done) | (simp [md_set, va_up]; omega) | exact Nat.or_lt_two_pow (n := 6) (by omega) (by omega)) (by first | omega | exact Nat.lt_of_le_of_lt Nat.and_le_left (by omega) | exact Nat.or_lt_two_pow (n := 16) (by omega) (by omega) | (simp [md_set, va_up]; done) | (simp [md_set, va_up]; omega) | exact Nat.or_lt_two_pow (n := 6) (by omega) (by omega)) (by first | omega | exact Nat.lt_of_le_of_lt Nat.and_le_left (by omega) | exact Nat.or_lt_two_pow (n := 16) (by omega) (by omega) | (simp [md_set, va_up]; done) | (simp [md_set, va_up]; omega) | exact Nat.or_lt_two_pow (n := 6) (by omega) (by omega)) (by intro r9; first | exact hw r9 | (show N 4 r9 ≤ 3; exact hw r9) | exact hw9 r9) (by intro r9; first | exact hfr r9 | (show N 15 r9 ≤ 10; exact hfr r9) | exact hfr9 r9) (by intro r9; first | exact hsr r9 | (show N 16 r9 < 6; exact hsr r9) | exact hsr9 r9) (by intro r9; first | exact hbd r9 | (show N 18 r9 < 64; exact hbd r9) | exact hbd9 r9) (by intro r9; first | exact hmd r9 | (show N 14 r9 < 64; exact hmd r9) | exact hmd9 r9) (by intro r9; first | exact hg r9 | (show N 12 r9 ≤ 6; exact hg r9) | exact hg9 r9) hk
        · refine sg_iconst (pc := 52) (nI 1) hC dX7_allowed_52 (by decide) ?_
          refine sg_goto (pc := 53) 57 hC dX7_allowed_53 (by decide) ?_
          refine sg_istore (pc := 57) (x := nI 1) hC dX7_allowed_57 (by decide) ?_
          show sg_W X M 0 0 59 [some (.ref x), some (.int (nI t)), some (.int (nI n)), some (.int (nI q)), some (.int (nI 1))] []
          refine sg_iload (pc := 59) (x := nI 1) hC dX7_allowed_59 rfl ?_
          refine sg_ifN_eq (pc := 61) (a := 1) 70 hC dX7_allowed_61 (by decide) (by decide) (fun h11 => absurd h11 (by decide)) (fun _ => ?_)
          refine sg_iload_n (pc := 64) (x := nI n) hC dX7_allowed_64 rfl ?_
          refine sg_iconst (pc := 65) (nI 1) hC dX7_allowed_65 (by decide) ?_
          refine sg_iaddN (pc := 66) (a := n) (b := 1) hC dX7_allowed_66 ?_
          refine sg_goto (pc := 67) 71 hC dX7_allowed_67 (by decide) ?_
          refine sg_istore_n (pc := 71) (x := nI (n + 1)) hC dX7_allowed_71 (by decide) ?_
          show sg_W X M 0 0 72 [some (.ref x), some (.int (nI t)), some (.int (nI (n + 1))), some (.int (nI q)), some (.int (nI 1))] []
          refine sg_iincN (pc := 72) (a := q) (b := q + 1) hC dX7_allowed_72 rfl (nI_1 _) (by decide) ?_
          show sg_W X M 0 0 75 [some (.ref x), some (.int (nI t)), some (.int (nI (n + 1))), some (.int (nI (q + 1))), some (.int (nI 1))] []
          refine sg_goto (pc := 75) 23 hC dX7_allowed_75 (by decide) ?_
          have e9 : md_allowed1 (f + 1) N t n q = md_allowed1 f (md_blame N ((md_walked N t (some q))) q).2 t (n + 1) (q + 1) := by rw [md_allowed1_s]; simp only [if_neg (Nat.not_le.mpr h1), if_neg (Nat.not_le.mpr h3), h6]
          rw [e9] at hk
          refine sg_loc (L' := [some (.ref x), some (.int (nI t)), some (.int (nI ((n + 1)))), some (.int (nI ((q + 1)))), none]) ⟨rfl, ⟨rfl, ⟨rfl, ⟨rfl, trivial⟩⟩⟩⟩ ?_
          exact ih t (n + 1) (q + 1) _ hI (by first | omega | exact Nat.lt_of_le_of_lt Nat.and_le_left (by omega) | exact Nat.or_lt_two_pow (n := 16) (by omega) (by omega) | (simp [md_set, va_up]; done) | (simp [md_set, va_up]; omega) | exact Nat.or_lt_two_pow (n := 6) (by omega) (by omega)) (by first | omega | exact Nat.lt_of_le_of_lt Nat.and_le_left (by omega) | exact Nat.or_lt_two_pow (n := 16) (by omega) (by omega) | (simp [md_set, va_up]; done) | (simp [md_set, va_up]; omega) | exact Nat.or_lt_two_pow (n := 6) (by omega) (by omega)) (by first | omega | exact Nat.lt_of_le_of_lt Nat.and_le_left (by omega) | exact Nat.or_lt_two_pow (n := 16) (by omega) (by omega) | (simp [md_set, va_up]; done) | (simp [md_set, va_up]; omega) | exact Nat.or_lt_two_pow (n := 6) (by omega) (by omega)) (by first | omega | exact Nat.lt_of_le_of_lt Nat.and_le_left (by omega) | exact Nat.or_lt_two_pow (n := 16) (by omega) (by omega) | (simp [md_set, va_up]; done) | (simp [md_set, va_up]; omega) | exact Nat.or_lt_two_pow (n := 6) (by omega) (by omega)) (by intro r9; first | exact hw r9 | (show N 4 r9 ≤ 3; exact hw r9) | exact hw9 r9) (by intro r9; first | exact hfr r9 | (show N 15 r9 ≤ 10; exact hfr r9) | exact hfr9 r9) (by intro r9; first | exact hsr r9 | (show N 16 r9 < 6; exact hsr r9) | exact hsr9 r9) (by intro r9; first | exact hbd r9 | (show N 18 r9 < 64; exact hbd r9) | exact hbd9 r9) (by intro r9; first | exact hmd r9 | (show N 14 r9 < 64; exact hmd r9) | exact hmd9 r9) (by intro r9; first | exact hg r9 | (show N 12 r9 ≤ 6; exact hg r9) | exact hg9 r9) hk

def md_allowed (N : Nat → Nat → Nat) (t : Int32) : Nat × (Nat → Nat → Nat) := if (md_isThread (md_set N 0 0 0) t) = true then md_allowed1 (9) (md_set N 0 0 0) t.toNatClampNeg 0 0 else ((md_fail (md_set N 0 0 0) 1).1, (md_fail (md_set N 0 0 0) 1).2)
set_option maxHeartbeats 4000000 in
set_option maxRecDepth 100000 in
theorem mm_allowed {l : Launch} {G : sg_G} {d : Nat} {M0 M : sg_M} {x : Nat} {ad : Nat → Nat} {N : Nat → Nat → Nat} {kr : Option Value → sg_M → Prop} {kx : String → sg_M → Prop} (htr : l.stackTraces = false) (hI : md_I M0 M x ad N) (t : Int32) (hw : ∀ r, N 4 r ≤ 3) (hfr : ∀ r, N 15 r ≤ 10) (hsr : ∀ r, N 16 r < 6) (hbd : ∀ r, N 18 r < 64) (hmd : ∀ r, N 14 r < 64) (hg : ∀ r, N 12 r ≤ 6) (hk : ∀ M', md_I M0 M' x ad (md_allowed N t).2 → kr (some (.int (nI (md_allowed N t).1))) M') : sg_Met l G yX7_allowed cX7_allowed 5 (some .int) (d + 7) 0 0 [.ref x, .int t] M kr kx := by
  refine sg_enter [some (.ref x), some (.int t), none, none, none] (by decide) htr (Nat.le_of_ble_eq_true rfl) rfl ?_
  intro X hC hR
  have hC : sg_C X l G cX7_allowed RX7 5 (d + 7) := hC
  refine sg_aload_n (pc := 0) (v := .ref x) hC dX7_allowed_0 rfl rfl ?_
  refine sg_iconst (pc := 1) (nI 0) hC dX7_allowed_1 (by decide) ?_
  refine md_put0 (pc := 2) (v := 0) hC tw_1186 dX7_allowed_2 hI (by first | omega | exact Nat.lt_of_le_of_lt Nat.and_le_left (by omega) | exact Nat.or_lt_two_pow (n := 16) (by omega) (by omega) | (simp [md_set, va_up]; done) | (simp [md_set, va_up]; omega) | exact Nat.or_lt_two_pow (n := 6) (by omega) (by omega)) (fun M hI => ?_)
  refine sg_aload_n (pc := 5) (v := .ref x) hC dX7_allowed_5 rfl rfl ?_
  refine sg_iload_n (pc := 6) (x := t) hC dX7_allowed_6 rfl ?_
  refine sg_callV (pc := 7) (As := [.int t]) (rest := []) (mc := 0) (ms := 0) hC tw_1401 tw_1403 tw_56 tw_72 tw_1404 yd_X7_isThread (by decide) (ci := 10) rfl dX7_allowed_7 hI.x rfl (Nat.le_of_ble_eq_true rfl) (Nat.zero_le _) (Nat.zero_le _) ?_
  refine mm_isThread htr hI t  ?_
  show sg_W X M 0 0 10 [some (.ref x), some (.int t), none, none, none] [.int (md_b ((md_isThread (md_set N 0 0 0) t)))]
  refine sg_ifB_ne (pc := 10) (b := (md_isThread (md_set N 0 0 0) t)) 19 hC dX7_allowed_10 (by decide) (fun h1 => ?_) (fun h1 => ?_)
  · obtain ⟨hs2, hs3⟩ := md_isThread_nat h1
    rw [hs2]
    show sg_W X M 0 0 19 [some (.ref x), some (.int (nI t.toNatClampNeg)), none, none, none] []
    obtain ⟨hs4, hs5⟩ := hs3
    refine sg_iconst (pc := 19) (nI 0) hC dX7_allowed_19 (by decide) ?_
    refine sg_istore_n (pc := 20) (x := nI 0) hC dX7_allowed_20 (by decide) ?_
    show sg_W X M 0 0 21 [some (.ref x), some (.int (nI t.toNatClampNeg)), some (.int (nI 0)), none, none] []
    refine sg_iconst (pc := 21) (nI 0) hC dX7_allowed_21 (by decide) ?_
    refine sg_istore_n (pc := 22) (x := nI 0) hC dX7_allowed_22 (by decide) ?_
    show sg_W X M 0 0 23 [some (.ref x), some (.int (nI t.toNatClampNeg)), some (.int (nI 0)), some (.int (nI 0)), none] []
    have e9 : md_allowed N t = md_allowed1 (9) (md_set N 0 0 0) t.toNatClampNeg 0 0 := by rw [md_allowed]; simp only [if_pos h1]
    rw [e9] at hk
    refine sg_loc (L' := [some (.ref x), some (.int (nI t.toNatClampNeg)), some (.int (nI 0)), some (.int (nI 0)), none]) ⟨rfl, ⟨rfl, ⟨rfl, ⟨rfl, trivial⟩⟩⟩⟩ ?_
    exact mm_allowed1 htr hC hR (9) t.toNatClampNeg 0 0 _ hI (by first | omega | exact Nat.lt_of_le_of_lt Nat.and_le_left (by omega) | exact Nat.or_lt_two_pow (n := 16) (by omega) (by omega) | (simp [md_set, va_up]; done) | (simp [md_set, va_up]; omega) | exact Nat.or_lt_two_pow (n := 6) (by omega) (by omega)) (by first | omega | exact Nat.lt_of_le_of_lt Nat.and_le_left (by omega) | exact Nat.or_lt_two_pow (n := 16) (by omega) (by omega) | (simp [md_set, va_up]; done) | (simp [md_set, va_up]; omega) | exact Nat.or_lt_two_pow (n := 6) (by omega) (by omega)) (by first | omega | exact Nat.lt_of_le_of_lt Nat.and_le_left (by omega) | exact Nat.or_lt_two_pow (n := 16) (by omega) (by omega) | (simp [md_set, va_up]; done) | (simp [md_set, va_up]; omega) | exact Nat.or_lt_two_pow (n := 6) (by omega) (by omega)) (by first | omega | exact Nat.lt_of_le_of_lt Nat.and_le_left (by omega) | exact Nat.or_lt_two_pow (n := 16) (by omega) (by omega) | (simp [md_set, va_up]; done) | (simp [md_set, va_up]; omega) | exact Nat.or_lt_two_pow (n := 6) (by omega) (by omega)) (by intro r9; first | exact hw r9 | (show N 4 r9 ≤ 3; exact hw r9) | exact hw9 r9) (by intro r9; first | exact hfr r9 | (show N 15 r9 ≤ 10; exact hfr r9) | exact hfr9 r9) (by intro r9; first | exact hsr r9 | (show N 16 r9 < 6; exact hsr r9) | exact hsr9 r9) (by intro r9; first | exact hbd r9 | (show N 18 r9 < 64; exact hbd r9) | exact hbd9 r9) (by intro r9; first | exact hmd r9 | (show N 14 r9 < 64; exact hmd r9) | exact hmd9 r9) (by intro r9; first | exact hg r9 | (show N 12 r9 ≤ 6; exact hg r9) | exact hg9 r9) hk
  · refine sg_aload_n (pc := 13) (v := .ref x) hC dX7_allowed_13 rfl rfl ?_
    refine sg_iconst (pc := 14) (nI 1) hC dX7_allowed_14 (by decide) ?_
    refine sg_callV (pc := 15) (As := [.int (nI 1)]) (rest := []) (mc := 0) (ms := 0) hC tw_1273 tw_1275 tw_33 tw_72 tw_1276 yd_X7_fail (by decide) (ci := 10) rfl dX7_allowed_15 hI.x rfl (Nat.le_of_ble_eq_true rfl) (Nat.zero_le _) (Nat.zero_le _) ?_
    refine mm_fail htr hI 1 (by first | omega | exact Nat.lt_of_le_of_lt Nat.and_le_left (by omega) | exact Nat.or_lt_two_pow (n := 16) (by omega) (by omega) | (simp [md_set, va_up]; done) | (simp [md_set, va_up]; omega) | exact Nat.or_lt_two_pow (n := 6) (by omega) (by omega)) (fun M hI => ?_)
    show sg_W X M 0 0 18 [some (.ref x), some (.int t), none, none, none] [.int (nI ((md_fail (md_set N 0 0 0) 1).1))]
    have e9 : md_allowed N t = ((md_fail (md_set N 0 0 0) 1).1, (md_fail (md_set N 0 0 0) 1).2) := by rw [md_allowed]; simp only [if_neg (ts9 h1)]
    rw [e9] at hk
    exact sg_ireturn (st := []) (v := nI ((md_fail (md_set N 0 0 0) 1).1)) (pc := 18) hC hR dX7_allowed_18 (hk M hI)
