def md_takesIn (N : Nat → Nat → Nat) (p : Int32) (q : Int32) : Bool × (Nat → Nat → Nat) := if (md_isSlot N p) = true then if (md_isSlot N q) = true then if (md_takes (md_set N 0 0 0) p.toNatClampNeg q.toNatClampNeg) = true then (true, (md_set N 0 0 0)) else (false, (md_set N 0 0 0)) else (false, (md_set N 0 0 1)) else (false, (md_set N 0 0 1))
set_option maxHeartbeats 4000000 in
set_option maxRecDepth 100000 in
theorem mm_takesIn {l : Launch} {G : sg_G} {d : Nat} {M0 M : sg_M} {x : Nat} {ad : Nat → Nat} {N : Nat → Nat → Nat} {kr : Option Value → sg_M → Prop} {kx : String → sg_M → Prop} (htr : l.stackTraces = false) (hI : md_I M0 M x ad N) (p : Int32) (q : Int32) (hw : ∀ r, N 4 r ≤ 3) (hk : ∀ M', md_I M0 M' x ad (md_takesIn N p q).2 → kr (some (.int (md_b (md_takesIn N p q).1))) M') : sg_Met l G yX7_takesIn cX7_takesIn 3 (some .boolean) (d + 4) 0 0 [.ref x, .int p, .int q] M kr kx := by
  refine sg_enter [some (.ref x), some (.int p), some (.int q)] (by decide) htr (Nat.le_of_ble_eq_true rfl) rfl ?_
  intro X hC hR
  have hC : sg_C X l G cX7_takesIn RX7 3 (d + 4) := hC
  refine sg_aload_n (pc := 0) (v := .ref x) hC dX7_takesIn_0 rfl rfl ?_
  refine sg_aload_n (pc := 1) (v := .ref x) hC dX7_takesIn_1 rfl rfl ?_
  refine sg_iload_n (pc := 2) (x := p) hC dX7_takesIn_2 rfl ?_
  refine sg_callV (pc := 3) (As := [.int p]) (rest := [.ref x]) (mc := 0) (ms := 0) hC tw_1337 tw_1339 tw_45 tw_72 tw_1340 yd_X7_isSlot (by decide) (ci := 10) rfl dX7_takesIn_3 hI.x rfl (Nat.le_of_ble_eq_true rfl) (Nat.zero_le _) (Nat.zero_le _) ?_
  refine mm_isSlot htr hI p  ?_
  show sg_W X M 0 0 6 [some (.ref x), some (.int p), some (.int q)] [.int (md_b ((md_isSlot N p))), .ref x]
  refine sg_ifB_eq (pc := 6) (b := (md_isSlot N p)) 21 hC dX7_takesIn_6 (by decide) (fun h1 => ?_) (fun h1 => ?_)
  · refine sg_iconst (pc := 21) (nI 1) hC dX7_takesIn_21 (by decide) ?_
    refine md_put0 (pc := 22) (v := 1) hC tw_1186 dX7_takesIn_22 hI (by first | omega | exact Nat.lt_of_le_of_lt Nat.and_le_left (by omega) | exact Nat.or_lt_two_pow (n := 16) (by omega) (by omega) | (simp [md_set, va_up]; done) | (simp [md_set, va_up]; omega)) (fun M hI => ?_)
    refine sg_aload_n (pc := 25) (v := .ref x) hC dX7_takesIn_25 rfl rfl ?_
    refine md_get (pc := 26) (i := 0) hC (by decide) tw_1186 dX7_takesIn_26 hI rfl ?_
    show sg_W X M 0 0 29 [some (.ref x), some (.int p), some (.int q)] [.int (nI 1)]
    refine sg_ifN_ne (pc := 29) (a := 1) 45 hC dX7_takesIn_29 (by decide) (by decide) (fun _ => ?_) (fun h2 => absurd h2 (by decide))
    refine sg_iconst (pc := 45) (nI 0) hC dX7_takesIn_45 (by decide) ?_
    have e9 : md_takesIn N p q = (false, (md_set N 0 0 1)) := by rw [md_takesIn]; simp only [if_neg (ts9 h1)]
    rw [e9] at hk
    exact sg_zreturn (st := []) (v := md_b false) (pc := 46) (ty := .boolean) hC hR (md_narb _) dX7_takesIn_46 (hk M hI)
  · obtain ⟨hs3, hs4⟩ := md_isSlot_nat h1
    rw [hs3]
    show sg_W X M 0 0 9 [some (.ref x), some (.int (nI p.toNatClampNeg)), some (.int q)] [.ref x]
    obtain ⟨hs5, hs6⟩ := hs4
    refine sg_aload_n (pc := 9) (v := .ref x) hC dX7_takesIn_9 rfl rfl ?_
    refine sg_iload_n (pc := 10) (x := q) hC dX7_takesIn_10 rfl ?_
    refine sg_callV (pc := 11) (As := [.int q]) (rest := [.ref x]) (mc := 0) (ms := 0) hC tw_1337 tw_1339 tw_45 tw_72 tw_1340 yd_X7_isSlot (by decide) (ci := 10) rfl dX7_takesIn_11 hI.x rfl (Nat.le_of_ble_eq_true rfl) (Nat.zero_le _) (Nat.zero_le _) ?_
    refine mm_isSlot htr hI q  ?_
    show sg_W X M 0 0 14 [some (.ref x), some (.int (nI p.toNatClampNeg)), some (.int q)] [.int (md_b ((md_isSlot N q))), .ref x]
    refine sg_ifB_eq (pc := 14) (b := (md_isSlot N q)) 21 hC dX7_takesIn_14 (by decide) (fun h7 => ?_) (fun h7 => ?_)
    · refine sg_iconst (pc := 21) (nI 1) hC dX7_takesIn_21 (by decide) ?_
      refine md_put0 (pc := 22) (v := 1) hC tw_1186 dX7_takesIn_22 hI (by first | omega | exact Nat.lt_of_le_of_lt Nat.and_le_left (by omega) | exact Nat.or_lt_two_pow (n := 16) (by omega) (by omega) | (simp [md_set, va_up]; done) | (simp [md_set, va_up]; omega)) (fun M hI => ?_)
      refine sg_aload_n (pc := 25) (v := .ref x) hC dX7_takesIn_25 rfl rfl ?_
      refine md_get (pc := 26) (i := 0) hC (by decide) tw_1186 dX7_takesIn_26 hI rfl ?_
      show sg_W X M 0 0 29 [some (.ref x), some (.int (nI p.toNatClampNeg)), some (.int q)] [.int (nI 1)]
      refine sg_ifN_ne (pc := 29) (a := 1) 45 hC dX7_takesIn_29 (by decide) (by decide) (fun _ => ?_) (fun h8 => absurd h8 (by decide))
      refine sg_iconst (pc := 45) (nI 0) hC dX7_takesIn_45 (by decide) ?_
      have e9 : md_takesIn N p q = (false, (md_set N 0 0 1)) := by rw [md_takesIn]; simp only [if_pos h1, if_neg (ts9 h7)]
      rw [e9] at hk
      exact sg_zreturn (st := []) (v := md_b false) (pc := 46) (ty := .boolean) hC hR (md_narb _) dX7_takesIn_46 (hk M hI)
    · obtain ⟨hs9, hs10⟩ := md_isSlot_nat h7
      rw [hs9]
      show sg_W X M 0 0 17 [some (.ref x), some (.int (nI p.toNatClampNeg)), some (.int (nI q.toNatClampNeg))] [.ref x]
      obtain ⟨hs11, hs12⟩ := hs10
      refine sg_iconst (pc := 17) (nI 0) hC dX7_takesIn_17 (by decide) ?_
      refine sg_goto (pc := 18) 22 hC dX7_takesIn_18 (by decide) ?_
      refine md_put0 (pc := 22) (v := 0) hC tw_1186 dX7_takesIn_22 hI (by first | omega | exact Nat.lt_of_le_of_lt Nat.and_le_left (by omega) | exact Nat.or_lt_two_pow (n := 16) (by omega) (by omega) | (simp [md_set, va_up]; done) | (simp [md_set, va_up]; omega)) (fun M hI => ?_)
      refine sg_aload_n (pc := 25) (v := .ref x) hC dX7_takesIn_25 rfl rfl ?_
      refine md_get (pc := 26) (i := 0) hC (by decide) tw_1186 dX7_takesIn_26 hI rfl ?_
      show sg_W X M 0 0 29 [some (.ref x), some (.int (nI p.toNatClampNeg)), some (.int (nI q.toNatClampNeg))] [.int (nI 0)]
      refine sg_ifN_ne (pc := 29) (a := 0) 45 hC dX7_takesIn_29 (by decide) (by decide) (fun h13 => absurd h13 (by decide)) (fun _ => ?_)
      refine sg_aload_n (pc := 32) (v := .ref x) hC dX7_takesIn_32 rfl rfl ?_
      refine sg_iload_n (pc := 33) (x := nI p.toNatClampNeg) hC dX7_takesIn_33 rfl ?_
      refine sg_iload_n (pc := 34) (x := nI q.toNatClampNeg) hC dX7_takesIn_34 rfl ?_
      refine sg_callV (pc := 35) (As := [.int (nI p.toNatClampNeg), .int (nI q.toNatClampNeg)]) (rest := []) (mc := 0) (ms := 0) hC tw_1357 tw_1359 tw_49 tw_72 tw_1360 yd_X7_takes (by decide) (ci := 10) rfl dX7_takesIn_35 hI.x rfl (Nat.le_of_ble_eq_true rfl) (Nat.zero_le _) (Nat.zero_le _) ?_
      refine mm_takes htr hI p.toNatClampNeg q.toNatClampNeg (by first | omega | exact Nat.lt_of_le_of_lt Nat.and_le_left (by omega) | exact Nat.or_lt_two_pow (n := 16) (by omega) (by omega) | (simp [md_set, va_up]; done) | (simp [md_set, va_up]; omega)) (by first | omega | exact Nat.lt_of_le_of_lt Nat.and_le_left (by omega) | exact Nat.or_lt_two_pow (n := 16) (by omega) (by omega) | (simp [md_set, va_up]; done) | (simp [md_set, va_up]; omega)) (by intro r9; first | exact hw r9 | (show N 4 r9 ≤ 3; exact hw r9) | exact hw9 r9) ?_
      show sg_W X M 0 0 38 [some (.ref x), some (.int (nI p.toNatClampNeg)), some (.int (nI q.toNatClampNeg))] [.int (md_b ((md_takes (md_set N 0 0 0) p.toNatClampNeg q.toNatClampNeg)))]
      refine sg_ifB_eq (pc := 38) (b := (md_takes (md_set N 0 0 0) p.toNatClampNeg q.toNatClampNeg)) 45 hC dX7_takesIn_38 (by decide) (fun h14 => ?_) (fun h14 => ?_)
      · refine sg_iconst (pc := 45) (nI 0) hC dX7_takesIn_45 (by decide) ?_
        have e9 : md_takesIn N p q = (false, (md_set N 0 0 0)) := by rw [md_takesIn]; simp only [if_pos h1, if_pos h7, if_neg (ts9 h14)]
        rw [e9] at hk
        exact sg_zreturn (st := []) (v := md_b false) (pc := 46) (ty := .boolean) hC hR (md_narb _) dX7_takesIn_46 (hk M hI)
      · refine sg_iconst (pc := 41) (nI 1) hC dX7_takesIn_41 (by decide) ?_
        refine sg_goto (pc := 42) 46 hC dX7_takesIn_42 (by decide) ?_
        have e9 : md_takesIn N p q = (true, (md_set N 0 0 0)) := by rw [md_takesIn]; simp only [if_pos h1, if_pos h7, if_pos h14]
        rw [e9] at hk
        exact sg_zreturn (st := []) (v := md_b true) (pc := 46) (ty := .boolean) hC hR (md_narb _) dX7_takesIn_46 (hk M hI)

def md_granted1 : Nat → (Nat → Nat → Nat) → Nat → Nat → Bool → Nat → Bool
  | 0, N, _, _, _, _ => false
  | f + 1, N, s, q, b, i => if N 12 s ≤ i then b else if b = true then md_granted1 f N s q true (i + 1) else if (md_takes N ((8 + (6 * s)) + i) q) = true then md_granted1 f N s q true (i + 1) else md_granted1 f N s q false (i + 1)
theorem md_granted1_s (f : Nat) (N : Nat → Nat → Nat) (s : Nat) (q : Nat) (b : Bool) (i : Nat) : md_granted1 (f + 1) N s q b i = if N 12 s ≤ i then b else if b = true then md_granted1 f N s q true (i + 1) else if (md_takes N ((8 + (6 * s)) + i) q) = true then md_granted1 f N s q true (i + 1) else md_granted1 f N s q false (i + 1) := rfl
set_option maxHeartbeats 4000000 in
set_option maxRecDepth 100000 in
theorem mm_granted1 {X : sg_X} {l : Launch} {G : sg_G} {d : Nat} {M0 : sg_M} {x : Nat} {ad : Nat → Nat} {kr : Option Value → sg_M → Prop} {kx : String → sg_M → Prop} (htr : l.stackTraces = false) (hC : sg_C X l G cX7_granted RX7 5 (d + 4)) (hR : sg_R X yX7_granted kr kx (some .boolean)) : ∀ (f : Nat) (s : Nat) (q : Nat) (b : Bool) (i : Nat) (N : Nat → Nat → Nat) {M : sg_M} (hI : md_I M0 M x ad N) (hf : N 12 s - i < f) (hs : s < 6) (hq : q < 86) (hw : ∀ r, N 4 r ≤ 3) (hg : ∀ r, N 12 r ≤ 6) (hi : i ≤ N 12 s) (hk : kr (some (.int (md_b (md_granted1 f N s q b i)))) M), sg_W X M 0 0 5 [some (.ref x), some (.int (nI s)), some (.int (nI q)), some (.int (md_b b)), some (.int (nI i))] [] := by
  intro f
  induction f with
  | zero =>
    intro s q b i N M hI hf
    exact absurd hf (Nat.not_lt_zero _)
  | succ f ih =>
    intro s q b i N M hI hf hs hq hw hg hi hk
    have hg0 := hg s
    refine sg_iload (pc := 5) (x := nI i) hC dX7_granted_5 rfl ?_
    refine sg_aload_n (pc := 7) (v := .ref x) hC dX7_granted_7 rfl rfl ?_
    refine md_get (pc := 8) (i := 12) hC (by decide) tw_1198 dX7_granted_8 hI rfl ?_
    refine sg_iload_n (pc := 11) (x := nI s) hC dX7_granted_11 rfl ?_
    refine md_iald (pc := 12) (i := 12) (j := s) hC dX7_granted_12 hI rfl (by first | omega | exact Nat.lt_of_le_of_lt Nat.and_le_left (by omega) | exact Nat.or_lt_two_pow (n := 16) (by omega) (by omega) | (simp [md_set, va_up]; done) | (simp [md_set, va_up]; omega)) (by decide) (fun hv1 => ?_)
    show sg_W X M 0 0 13 [some (.ref x), some (.int (nI s)), some (.int (nI q)), some (.int (md_b b)), some (.int (nI i))] [.int (nI (N 12 s)), .int (nI i)]
    have hW2 := hg s
    refine sg_icmpN_ge (pc := 13) (a := i) (b := N 12 s) 50 hC dX7_granted_13 (by decide) (by first | omega | exact Nat.lt_of_le_of_lt Nat.and_le_left (by omega) | exact Nat.or_lt_two_pow (n := 16) (by omega) (by omega) | (simp [md_set, va_up]; done) | (simp [md_set, va_up]; omega)) (by first | omega | exact Nat.lt_of_le_of_lt Nat.and_le_left (by omega) | exact Nat.or_lt_two_pow (n := 16) (by omega) (by omega) | (simp [md_set, va_up]; done) | (simp [md_set, va_up]; omega)) (fun h3 => ?_) (fun h3 => ?_)
    · refine sg_iload_n (pc := 50) (x := md_b b) hC dX7_granted_50 rfl ?_
      have e9 : md_granted1 (f + 1) N s q b i = b := by rw [md_granted1_s]; simp only [if_pos h3]
      rw [e9] at hk
      exact sg_zreturn (st := []) (v := md_b b) (pc := 51) (ty := .boolean) hC hR (md_narb _) dX7_granted_51 hk
    · refine sg_iload_n (pc := 16) (x := md_b b) hC dX7_granted_16 rfl ?_
      refine sg_ifB_ne (pc := 17) (b := b) 38 hC dX7_granted_17 (by decide) (fun h4 => ?_) (fun h4 => ?_)
      · refine sg_iconst (pc := 38) (nI 1) hC dX7_granted_38 (by decide) ?_
        refine sg_goto (pc := 39) 43 hC dX7_granted_39 (by decide) ?_
        refine sg_istore_n (pc := 43) (x := nI 1) hC dX7_granted_43 (by decide) ?_
        show sg_W X M 0 0 44 [some (.ref x), some (.int (nI s)), some (.int (nI q)), some (.int (nI 1)), some (.int (nI i))] []
        refine sg_iincN (pc := 44) (a := i) (b := i + 1) hC dX7_granted_44 rfl (nI_1 _) (by decide) ?_
        show sg_W X M 0 0 47 [some (.ref x), some (.int (nI s)), some (.int (nI q)), some (.int (nI 1)), some (.int (nI (i + 1)))] []
        refine sg_goto (pc := 47) 5 hC dX7_granted_47 (by decide) ?_
        have e9 : md_granted1 (f + 1) N s q b i = md_granted1 f N s q true (i + 1) := by rw [md_granted1_s]; simp only [if_neg (Nat.not_le.mpr h3), if_pos h4]
        rw [e9] at hk
        refine sg_loc (L' := [some (.ref x), some (.int (nI s)), some (.int (nI q)), some (.int (md_b true)), some (.int (nI ((i + 1))))]) ⟨rfl, ⟨rfl, ⟨rfl, ⟨rfl, ⟨rfl, trivial⟩⟩⟩⟩⟩ ?_
        exact ih s q true (i + 1) _ hI (by first | omega | exact Nat.lt_of_le_of_lt Nat.and_le_left (by omega) | exact Nat.or_lt_two_pow (n := 16) (by omega) (by omega) | (simp [md_set, va_up]; done) | (simp [md_set, va_up]; omega)) (by first | omega | exact Nat.lt_of_le_of_lt Nat.and_le_left (by omega) | exact Nat.or_lt_two_pow (n := 16) (by omega) (by omega) | (simp [md_set, va_up]; done) | (simp [md_set, va_up]; omega)) (by first | omega | exact Nat.lt_of_le_of_lt Nat.and_le_left (by omega) | exact Nat.or_lt_two_pow (n := 16) (by omega) (by omega) | (simp [md_set, va_up]; done) | (simp [md_set, va_up]; omega)) hw hg (by first | omega | exact Nat.lt_of_le_of_lt Nat.and_le_left (by omega) | exact Nat.or_lt_two_pow (n := 16) (by omega) (by omega) | (simp [md_set, va_up]; done) | (simp [md_set, va_up]; omega)) hk
      · refine sg_aload_n (pc := 20) (v := .ref x) hC dX7_granted_20 rfl rfl ?_
        refine sg_bipush (pc := 21) (nI 8) hC dX7_granted_21 (by decide) ?_
        refine sg_bipush (pc := 23) (nI 6) hC dX7_granted_23 (by decide) ?_
        refine sg_iload_n (pc := 25) (x := nI s) hC dX7_granted_25 rfl ?_
        refine sg_imulN (pc := 26) (a := 6) (b := s) hC dX7_granted_26 ?_
        refine sg_iaddN (pc := 27) (a := 8) (b := 6 * s) hC dX7_granted_27 ?_
        refine sg_iload (pc := 28) (x := nI i) hC dX7_granted_28 rfl ?_
        refine sg_iaddN (pc := 30) (a := 8 + (6 * s)) (b := i) hC dX7_granted_30 ?_
        refine sg_iload_n (pc := 31) (x := nI q) hC dX7_granted_31 rfl ?_
        refine sg_callV (pc := 32) (As := [.int (nI ((8 + (6 * s)) + i)), .int (nI q)]) (rest := []) (mc := 0) (ms := 0) hC tw_1357 tw_1359 tw_49 tw_72 tw_1360 yd_X7_takes (by decide) (ci := 10) rfl dX7_granted_32 hI.x rfl (Nat.le_of_ble_eq_true rfl) (Nat.zero_le _) (Nat.zero_le _) ?_
        refine mm_takes htr hI ((8 + (6 * s)) + i) q (by first | omega | exact Nat.lt_of_le_of_lt Nat.and_le_left (by omega) | exact Nat.or_lt_two_pow (n := 16) (by omega) (by omega) | (simp [md_set, va_up]; done) | (simp [md_set, va_up]; omega)) (by first | omega | exact Nat.lt_of_le_of_lt Nat.and_le_left (by omega) | exact Nat.or_lt_two_pow (n := 16) (by omega) (by omega) | (simp [md_set, va_up]; done) | (simp [md_set, va_up]; omega)) hw ?_
        show sg_W X M 0 0 35 [some (.ref x), some (.int (nI s)), some (.int (nI q)), some (.int (md_b b)), some (.int (nI i))] [.int (md_b ((md_takes N ((8 + (6 * s)) + i) q)))]
        refine sg_ifB_eq (pc := 35) (b := (md_takes N ((8 + (6 * s)) + i) q)) 42 hC dX7_granted_35 (by decide) (fun h5 => ?_) (fun h5 => ?_)
        · refine sg_iconst (pc := 42) (nI 0) hC dX7_granted_42 (by decide) ?_
          refine sg_istore_n (pc := 43) (x := nI 0) hC dX7_granted_43 (by decide) ?_
          show sg_W X M 0 0 44 [some (.ref x), some (.int (nI s)), some (.int (nI q)), some (.int (nI 0)), some (.int (nI i))] []
          refine sg_iincN (pc := 44) (a := i) (b := i + 1) hC dX7_granted_44 rfl (nI_1 _) (by decide) ?_
          show sg_W X M 0 0 47 [some (.ref x), some (.int (nI s)), some (.int (nI q)), some (.int (nI 0)), some (.int (nI (i + 1)))] []
          refine sg_goto (pc := 47) 5 hC dX7_granted_47 (by decide) ?_
          have e9 : md_granted1 (f + 1) N s q b i = md_granted1 f N s q false (i + 1) := by rw [md_granted1_s]; simp only [if_neg (Nat.not_le.mpr h3), if_neg (ts9 h4), if_neg (ts9 h5)]
          rw [e9] at hk
          refine sg_loc (L' := [some (.ref x), some (.int (nI s)), some (.int (nI q)), some (.int (md_b false)), some (.int (nI ((i + 1))))]) ⟨rfl, ⟨rfl, ⟨rfl, ⟨rfl, ⟨rfl, trivial⟩⟩⟩⟩⟩ ?_
          exact ih s q false (i + 1) _ hI (by first | omega | exact Nat.lt_of_le_of_lt Nat.and_le_left (by omega) | exact Nat.or_lt_two_pow (n := 16) (by omega) (by omega) | (simp [md_set, va_up]; done) | (simp [md_set, va_up]; omega)) (by first | omega | exact Nat.lt_of_le_of_lt Nat.and_le_left (by omega) | exact Nat.or_lt_two_pow (n := 16) (by omega) (by omega) | (simp [md_set, va_up]; done) | (simp [md_set, va_up]; omega)) (by first | omega | exact Nat.lt_of_le_of_lt Nat.and_le_left (by omega) | exact Nat.or_lt_two_pow (n := 16) (by omega) (by omega) | (simp [md_set, va_up]; done) | (simp [md_set, va_up]; omega)) hw hg (by first | omega | exact Nat.lt_of_le_of_lt Nat.and_le_left (by omega) | exact Nat.or_lt_two_pow (n := 16) (by omega) (by omega) | (simp [md_set, va_up]; done) | (simp [md_set, va_up]; omega)) hk
        · refine sg_iconst (pc := 38) (nI 1) hC dX7_granted_38 (by decide) ?_
          refine sg_goto (pc := 39) 43 hC dX7_granted_39 (by decide) ?_
          refine sg_istore_n (pc := 43) (x := nI 1) hC dX7_granted_43 (by decide) ?_
          show sg_W X M 0 0 44 [some (.ref x), some (.int (nI s)), some (.int (nI q)), some (.int (nI 1)), some (.int (nI i))] []
          refine sg_iincN (pc := 44) (a := i) (b := i + 1) hC dX7_granted_44 rfl (nI_1 _) (by decide) ?_
          show sg_W X M 0 0 47 [some (.ref x), some (.int (nI s)), some (.int (nI q)), some (.int (nI 1)), some (.int (nI (i + 1)))] []
          refine sg_goto (pc := 47) 5 hC dX7_granted_47 (by decide) ?_
          have e9 : md_granted1 (f + 1) N s q b i = md_granted1 f N s q true (i + 1) := by rw [md_granted1_s]; simp only [if_neg (Nat.not_le.mpr h3), if_neg (ts9 h4), if_pos h5]
          rw [e9] at hk
          refine sg_loc (L' := [some (.ref x), some (.int (nI s)), some (.int (nI q)), some (.int (md_b true)), some (.int (nI ((i + 1))))]) ⟨rfl, ⟨rfl, ⟨rfl, ⟨rfl, ⟨rfl, trivial⟩⟩⟩⟩⟩ ?_
          exact ih s q true (i + 1) _ hI (by first | omega | exact Nat.lt_of_le_of_lt Nat.and_le_left (by omega) | exact Nat.or_lt_two_pow (n := 16) (by omega) (by omega) | (simp [md_set, va_up]; done) | (simp [md_set, va_up]; omega)) (by first | omega | exact Nat.lt_of_le_of_lt Nat.and_le_left (by omega) | exact Nat.or_lt_two_pow (n := 16) (by omega) (by omega) | (simp [md_set, va_up]; done) | (simp [md_set, va_up]; omega)) (by first | omega | exact Nat.lt_of_le_of_lt Nat.and_le_left (by omega) | exact Nat.or_lt_two_pow (n := 16) (by omega) (by omega) | (simp [md_set, va_up]; done) | (simp [md_set, va_up]; omega)) hw hg (by first | omega | exact Nat.lt_of_le_of_lt Nat.and_le_left (by omega) | exact Nat.or_lt_two_pow (n := 16) (by omega) (by omega) | (simp [md_set, va_up]; done) | (simp [md_set, va_up]; omega)) hk

def md_granted (N : Nat → Nat → Nat) (s : Nat) (q : Nat) : Bool := md_granted1 (7) N s q false 0
set_option maxHeartbeats 4000000 in
set_option maxRecDepth 100000 in
theorem mm_granted {l : Launch} {G : sg_G} {d : Nat} {M0 M : sg_M} {x : Nat} {ad : Nat → Nat} {N : Nat → Nat → Nat} {kr : Option Value → sg_M → Prop} {kx : String → sg_M → Prop} (htr : l.stackTraces = false) (hI : md_I M0 M x ad N) (s : Nat) (q : Nat) (hs : s < 6) (hq : q < 86) (hw : ∀ r, N 4 r ≤ 3) (hg : ∀ r, N 12 r ≤ 6) (hk : kr (some (.int (md_b (md_granted N s q)))) M) : sg_Met l G yX7_granted cX7_granted 5 (some .boolean) (d + 4) 0 0 [.ref x, .int (nI s), .int (nI q)] M kr kx := by
  refine sg_enter [some (.ref x), some (.int (nI s)), some (.int (nI q)), none, none] (by decide) htr (Nat.le_of_ble_eq_true rfl) rfl ?_
  intro X hC hR
  have hC : sg_C X l G cX7_granted RX7 5 (d + 4) := hC
  have hg0 := hg s
  refine sg_iconst (pc := 0) (nI 0) hC dX7_granted_0 (by decide) ?_
  refine sg_istore_n (pc := 1) (x := nI 0) hC dX7_granted_1 (by decide) ?_
  show sg_W X M 0 0 2 [some (.ref x), some (.int (nI s)), some (.int (nI q)), some (.int (nI 0)), none] []
  refine sg_iconst (pc := 2) (nI 0) hC dX7_granted_2 (by decide) ?_
  refine sg_istore (pc := 3) (x := nI 0) hC dX7_granted_3 (by decide) ?_
  show sg_W X M 0 0 5 [some (.ref x), some (.int (nI s)), some (.int (nI q)), some (.int (nI 0)), some (.int (nI 0))] []
  have e9 : md_granted N s q = md_granted1 (7) N s q false 0 := by rw [md_granted]
  rw [e9] at hk
  refine sg_loc (L' := [some (.ref x), some (.int (nI s)), some (.int (nI q)), some (.int (md_b false)), some (.int (nI 0))]) ⟨rfl, ⟨rfl, ⟨rfl, ⟨rfl, ⟨rfl, trivial⟩⟩⟩⟩⟩ ?_
  exact mm_granted1 htr hC hR (7) s q false 0 _ hI (by first | omega | exact Nat.lt_of_le_of_lt Nat.and_le_left (by omega) | exact Nat.or_lt_two_pow (n := 16) (by omega) (by omega) | (simp [md_set, va_up]; done) | (simp [md_set, va_up]; omega)) (by first | omega | exact Nat.lt_of_le_of_lt Nat.and_le_left (by omega) | exact Nat.or_lt_two_pow (n := 16) (by omega) (by omega) | (simp [md_set, va_up]; done) | (simp [md_set, va_up]; omega)) (by first | omega | exact Nat.lt_of_le_of_lt Nat.and_le_left (by omega) | exact Nat.or_lt_two_pow (n := 16) (by omega) (by omega) | (simp [md_set, va_up]; done) | (simp [md_set, va_up]; omega)) hw hg (by first | omega | exact Nat.lt_of_le_of_lt Nat.and_le_left (by omega) | exact Nat.or_lt_two_pow (n := 16) (by omega) (by omega) | (simp [md_set, va_up]; done) | (simp [md_set, va_up]; omega)) hk
