theorem md_sh1 {k : Nat} (h : k < 6) : 1 <<< k < 2 ^ 31 := by
  rcases (show k = 0 ∨ k = 1 ∨ k = 2 ∨ k = 3 ∨ k = 4 ∨ k = 5 by omega) with rfl | rfl | rfl | rfl | rfl | rfl <;> decide
theorem md_copy4 {N : Nat → Nat → Nat} (u v r : Nat) : md_copy N u v 4 r = if r = v then N 4 u else N 4 r := by
  unfold md_copy
  show (md_set (md_set N 3 v (N 3 u)) 4 v (N 4 u)) 4 r = _
  rw [md_set_eq]
  rfl
theorem md_copy_lab {N : Nat → Nat → Nat} {u v : Nat} (hw : ∀ r, N 4 r ≤ 3) : ∀ r, md_copy N u v 4 r ≤ 3 := by
  intro r
  rw [md_copy4]
  split
  · exact hw u
  · exact hw r

def md_mayDo1 : Nat → (Nat → Nat → Nat) → Nat → Nat → Bool → Nat → Bool × (Nat → Nat → Nat)
  | 0, N, _, _, _, _ => (false, N)
  | f + 1, N, s, q, b, k => if 4 ≤ k then (b, N) else if b = true then if (N 7 q) &&& (1 <<< k) = 0 then md_mayDo1 f (md_set N 7 85 ((N 7 q) &&& (1 <<< k))) s q true (k + 1) else if (md_granted (md_set N 7 85 ((N 7 q) &&& (1 <<< k))) s 85) = true then md_mayDo1 f (md_set N 7 85 ((N 7 q) &&& (1 <<< k))) s q true (k + 1) else md_mayDo1 f (md_set N 7 85 ((N 7 q) &&& (1 <<< k))) s q false (k + 1) else (b, N)
theorem md_mayDo1_s (f : Nat) (N : Nat → Nat → Nat) (s : Nat) (q : Nat) (b : Bool) (k : Nat) : md_mayDo1 (f + 1) N s q b k = if 4 ≤ k then (b, N) else if b = true then if (N 7 q) &&& (1 <<< k) = 0 then md_mayDo1 f (md_set N 7 85 ((N 7 q) &&& (1 <<< k))) s q true (k + 1) else if (md_granted (md_set N 7 85 ((N 7 q) &&& (1 <<< k))) s 85) = true then md_mayDo1 f (md_set N 7 85 ((N 7 q) &&& (1 <<< k))) s q true (k + 1) else md_mayDo1 f (md_set N 7 85 ((N 7 q) &&& (1 <<< k))) s q false (k + 1) else (b, N) := rfl
set_option maxHeartbeats 4000000 in
set_option maxRecDepth 100000 in
theorem mm_mayDo1 {X : sg_X} {l : Launch} {G : sg_G} {d : Nat} {M0 : sg_M} {x : Nat} {ad : Nat → Nat} {kr : Option Value → sg_M → Prop} {kx : String → sg_M → Prop} (htr : l.stackTraces = false) (hC : sg_C X l G cX7_mayDo RX7 5 (d + 5)) (hR : sg_R X yX7_mayDo kr kx (some .boolean)) : ∀ (f : Nat) (s : Nat) (q : Nat) (b : Bool) (k : Nat) (N : Nat → Nat → Nat) {M : sg_M} (hI : md_I M0 M x ad N) (hf : 4 - k < f) (hs : s < 6) (hq : q < 85) (hw : ∀ r, N 4 r ≤ 3) (hg : ∀ r, N 12 r ≤ 6) (hk9 : k ≤ 4) (hk : ∀ M', md_I M0 M' x ad (md_mayDo1 f N s q b k).2 → kr (some (.int (md_b (md_mayDo1 f N s q b k).1))) M'), sg_W X M 0 0 37 [some (.ref x), some (.int (nI s)), some (.int (nI q)), some (.int (md_b b)), some (.int (nI k))] [] := by
  intro f
  induction f with
  | zero =>
    intro s q b k N M hI hf
    exact absurd hf (Nat.not_lt_zero _)
  | succ f ih =>
    intro s q b k N M hI hf hs hq hw hg hk9 hk
    refine sg_iload (pc := 37) (x := nI k) hC dX7_mayDo_37 rfl ?_
    refine sg_iconst (pc := 39) (nI 4) hC dX7_mayDo_39 (by decide) ?_
    refine sg_icmpN_ge (pc := 40) (a := k) (b := 4) 97 hC dX7_mayDo_40 (by decide) (by first | omega | exact Nat.lt_of_le_of_lt Nat.and_le_left (by omega) | exact Nat.or_lt_two_pow (n := 16) (by omega) (by omega) | (simp [md_set, va_up]; done) | (simp [md_set, va_up]; omega)) (by first | omega | exact Nat.lt_of_le_of_lt Nat.and_le_left (by omega) | exact Nat.or_lt_two_pow (n := 16) (by omega) (by omega) | (simp [md_set, va_up]; done) | (simp [md_set, va_up]; omega)) (fun h1 => ?_) (fun h1 => ?_)
    · refine sg_iload_n (pc := 97) (x := md_b b) hC dX7_mayDo_97 rfl ?_
      have e9 : md_mayDo1 (f + 1) N s q b k = (b, N) := by rw [md_mayDo1_s]; simp only [if_pos h1]
      rw [e9] at hk
      exact sg_zreturn (st := []) (v := md_b b) (pc := 98) (ty := .boolean) hC hR (md_narb _) dX7_mayDo_98 (hk M hI)
    · refine sg_iload_n (pc := 43) (x := md_b b) hC dX7_mayDo_43 rfl ?_
      refine sg_ifB_eq (pc := 44) (b := b) 97 hC dX7_mayDo_44 (by decide) (fun h2 => ?_) (fun h2 => ?_)
      · refine sg_iload_n (pc := 97) (x := md_b b) hC dX7_mayDo_97 rfl ?_
        have e9 : md_mayDo1 (f + 1) N s q b k = (b, N) := by rw [md_mayDo1_s]; simp only [if_neg (Nat.not_le.mpr h1), if_neg (ts9 h2)]
        rw [e9] at hk
        exact sg_zreturn (st := []) (v := md_b b) (pc := 98) (ty := .boolean) hC hR (md_narb _) dX7_mayDo_98 (hk M hI)
      · refine sg_aload_n (pc := 47) (v := .ref x) hC dX7_mayDo_47 rfl rfl ?_
        refine md_get (pc := 48) (i := 7) hC (by decide) tw_1193 dX7_mayDo_48 hI rfl ?_
        refine sg_bipush (pc := 51) (nI 85) hC dX7_mayDo_51 (by decide) ?_
        refine sg_aload_n (pc := 53) (v := .ref x) hC dX7_mayDo_53 rfl rfl ?_
        refine md_get (pc := 54) (i := 7) hC (by decide) tw_1193 dX7_mayDo_54 hI rfl ?_
        refine sg_iload_n (pc := 57) (x := nI q) hC dX7_mayDo_57 rfl ?_
        refine md_iald (pc := 58) (i := 7) (j := q) hC dX7_mayDo_58 hI rfl (by first | omega | exact Nat.lt_of_le_of_lt Nat.and_le_left (by omega) | exact Nat.or_lt_two_pow (n := 16) (by omega) (by omega) | (simp [md_set, va_up]; done) | (simp [md_set, va_up]; omega)) (by decide) (fun hv3 => ?_)
        show sg_W X M 0 0 59 [some (.ref x), some (.int (nI s)), some (.int (nI q)), some (.int (md_b b)), some (.int (nI k))] [.int (nI (N 7 q)), .int (nI 85), .ref (ad 7)]
        refine sg_iconst (pc := 59) (nI 1) hC dX7_mayDo_59 (by decide) ?_
        refine sg_iload (pc := 60) (x := nI k) hC dX7_mayDo_60 rfl ?_
        refine sg_ishlN (pc := 62) (a := 1) (b := k) hC dX7_mayDo_62 (by first | omega | exact Nat.lt_of_le_of_lt Nat.and_le_left (by omega) | exact Nat.or_lt_two_pow (n := 16) (by omega) (by omega) | (simp [md_set, va_up]; done) | (simp [md_set, va_up]; omega)) (by exact md_sh1 (by omega)) ?_
        refine sg_iandN (pc := 63) (a := N 7 q) (b := 1 <<< k) hC dX7_mayDo_63 ?_
        refine md_iast (pc := 64) (i := 7) (j := 85) (v := (N 7 q) &&& (1 <<< k)) hC dX7_mayDo_64 hI rfl (by first | omega | exact Nat.lt_of_le_of_lt Nat.and_le_left (by omega) | exact Nat.or_lt_two_pow (n := 16) (by omega) (by omega) | (simp [md_set, va_up]; done) | (simp [md_set, va_up]; omega)) (by decide) (by first | omega | exact Nat.lt_of_le_of_lt Nat.and_le_left (by omega) | exact Nat.or_lt_two_pow (n := 16) (by omega) (by omega) | (simp [md_set, va_up]; done) | (simp [md_set, va_up]; omega)) (fun M hI => ?_)
        refine sg_aload_n (pc := 65) (v := .ref x) hC dX7_mayDo_65 rfl rfl ?_
        refine md_get (pc := 66) (i := 7) hC (by decide) tw_1193 dX7_mayDo_66 hI rfl ?_
        refine sg_bipush (pc := 69) (nI 85) hC dX7_mayDo_69 (by decide) ?_
        refine md_iald (pc := 71) (i := 7) (j := 85) hC dX7_mayDo_71 hI rfl (by first | omega | exact Nat.lt_of_le_of_lt Nat.and_le_left (by omega) | exact Nat.or_lt_two_pow (n := 16) (by omega) (by omega) | (simp [md_set, va_up]; done) | (simp [md_set, va_up]; omega)) (by decide) (fun hv4 => ?_)
        have hv4 : (N 7 q) &&& (1 <<< k) < 65536 := hv4
        show sg_W X M 0 0 72 [some (.ref x), some (.int (nI s)), some (.int (nI q)), some (.int (md_b b)), some (.int (nI k))] [.int (nI ((N 7 q) &&& (1 <<< k)))]
        refine sg_ifN_eq (pc := 72) (a := (N 7 q) &&& (1 <<< k)) 85 hC dX7_mayDo_72 (by decide) (by first | omega | exact Nat.lt_of_le_of_lt Nat.and_le_left (by omega) | exact Nat.or_lt_two_pow (n := 16) (by omega) (by omega) | (simp [md_set, va_up]; done) | (simp [md_set, va_up]; omega)) (fun h5 => ?_) (fun h5 => ?_)
        · refine sg_iconst (pc := 85) (nI 1) hC dX7_mayDo_85 (by decide) ?_
          refine sg_goto (pc := 86) 90 hC dX7_mayDo_86 (by decide) ?_
          refine sg_istore_n (pc := 90) (x := nI 1) hC dX7_mayDo_90 (by decide) ?_
          show sg_W X M 0 0 91 [some (.ref x), some (.int (nI s)), some (.int (nI q)), some (.int (nI 1)), some (.int (nI k))] []
          refine sg_iincN (pc := 91) (a := k) (b := k + 1) hC dX7_mayDo_91 rfl (nI_1 _) (by decide) ?_
          show sg_W X M 0 0 94 [some (.ref x), some (.int (nI s)), some (.int (nI q)), some (.int (nI 1)), some (.int (nI (k + 1)))] []
          refine sg_goto (pc := 94) 37 hC dX7_mayDo_94 (by decide) ?_
          have e9 : md_mayDo1 (f + 1) N s q b k = md_mayDo1 f (md_set N 7 85 ((N 7 q) &&& (1 <<< k))) s q true (k + 1) := by rw [md_mayDo1_s]; simp only [if_neg (Nat.not_le.mpr h1), if_pos h2, if_pos h5]
          rw [e9] at hk
          refine sg_loc (L' := [some (.ref x), some (.int (nI s)), some (.int (nI q)), some (.int (md_b true)), some (.int (nI ((k + 1))))]) ⟨rfl, ⟨rfl, ⟨rfl, ⟨rfl, ⟨rfl, trivial⟩⟩⟩⟩⟩ ?_
          exact ih s q true (k + 1) _ hI (by first | omega | exact Nat.lt_of_le_of_lt Nat.and_le_left (by omega) | exact Nat.or_lt_two_pow (n := 16) (by omega) (by omega) | (simp [md_set, va_up]; done) | (simp [md_set, va_up]; omega)) (by first | omega | exact Nat.lt_of_le_of_lt Nat.and_le_left (by omega) | exact Nat.or_lt_two_pow (n := 16) (by omega) (by omega) | (simp [md_set, va_up]; done) | (simp [md_set, va_up]; omega)) (by first | omega | exact Nat.lt_of_le_of_lt Nat.and_le_left (by omega) | exact Nat.or_lt_two_pow (n := 16) (by omega) (by omega) | (simp [md_set, va_up]; done) | (simp [md_set, va_up]; omega)) (by intro r9; first | exact hw r9 | (show N 4 r9 ≤ 3; exact hw r9) | exact hw9 r9) (by intro r9; first | exact hg r9 | (show N 12 r9 ≤ 6; exact hg r9) | exact hg9 r9) (by first | omega | exact Nat.lt_of_le_of_lt Nat.and_le_left (by omega) | exact Nat.or_lt_two_pow (n := 16) (by omega) (by omega) | (simp [md_set, va_up]; done) | (simp [md_set, va_up]; omega)) hk
        · refine sg_aload_n (pc := 75) (v := .ref x) hC dX7_mayDo_75 rfl rfl ?_
          refine sg_iload_n (pc := 76) (x := nI s) hC dX7_mayDo_76 rfl ?_
          refine sg_bipush (pc := 77) (nI 85) hC dX7_mayDo_77 (by decide) ?_
          refine sg_callV (pc := 79) (As := [.int (nI s), .int (nI 85)]) (rest := []) (mc := 0) (ms := 0) hC tw_1393 tw_1395 tw_55 tw_72 tw_1396 yd_X7_granted (by decide) (ci := 10) rfl dX7_mayDo_79 hI.x rfl (Nat.le_of_ble_eq_true rfl) (Nat.zero_le _) (Nat.zero_le _) ?_
          refine mm_granted htr hI s 85 (by first | omega | exact Nat.lt_of_le_of_lt Nat.and_le_left (by omega) | exact Nat.or_lt_two_pow (n := 16) (by omega) (by omega) | (simp [md_set, va_up]; done) | (simp [md_set, va_up]; omega)) (by first | omega | exact Nat.lt_of_le_of_lt Nat.and_le_left (by omega) | exact Nat.or_lt_two_pow (n := 16) (by omega) (by omega) | (simp [md_set, va_up]; done) | (simp [md_set, va_up]; omega)) (by intro r9; first | exact hw r9 | (show N 4 r9 ≤ 3; exact hw r9) | exact hw9 r9) (by intro r9; first | exact hg r9 | (show N 12 r9 ≤ 6; exact hg r9) | exact hg9 r9) ?_
          show sg_W X M 0 0 82 [some (.ref x), some (.int (nI s)), some (.int (nI q)), some (.int (md_b b)), some (.int (nI k))] [.int (md_b ((md_granted (md_set N 7 85 ((N 7 q) &&& (1 <<< k))) s 85)))]
          refine sg_ifB_eq (pc := 82) (b := (md_granted (md_set N 7 85 ((N 7 q) &&& (1 <<< k))) s 85)) 89 hC dX7_mayDo_82 (by decide) (fun h6 => ?_) (fun h6 => ?_)
          · refine sg_iconst (pc := 89) (nI 0) hC dX7_mayDo_89 (by decide) ?_
            refine sg_istore_n (pc := 90) (x := nI 0) hC dX7_mayDo_90 (by decide) ?_
            show sg_W X M 0 0 91 [some (.ref x), some (.int (nI s)), some (.int (nI q)), some (.int (nI 0)), some (.int (nI k))] []
            refine sg_iincN (pc := 91) (a := k) (b := k + 1) hC dX7_mayDo_91 rfl (nI_1 _) (by decide) ?_
            show sg_W X M 0 0 94 [some (.ref x), some (.int (nI s)), some (.int (nI q)), some (.int (nI 0)), some (.int (nI (k + 1)))] []
            refine sg_goto (pc := 94) 37 hC dX7_mayDo_94 (by decide) ?_
            have e9 : md_mayDo1 (f + 1) N s q b k = md_mayDo1 f (md_set N 7 85 ((N 7 q) &&& (1 <<< k))) s q false (k + 1) := by rw [md_mayDo1_s]; simp only [if_neg (Nat.not_le.mpr h1), if_pos h2, if_neg h5, if_neg (ts9 h6)]
            rw [e9] at hk
            refine sg_loc (L' := [some (.ref x), some (.int (nI s)), some (.int (nI q)), some (.int (md_b false)), some (.int (nI ((k + 1))))]) ⟨rfl, ⟨rfl, ⟨rfl, ⟨rfl, ⟨rfl, trivial⟩⟩⟩⟩⟩ ?_
            exact ih s q false (k + 1) _ hI (by first | omega | exact Nat.lt_of_le_of_lt Nat.and_le_left (by omega) | exact Nat.or_lt_two_pow (n := 16) (by omega) (by omega) | (simp [md_set, va_up]; done) | (simp [md_set, va_up]; omega)) (by first | omega | exact Nat.lt_of_le_of_lt Nat.and_le_left (by omega) | exact Nat.or_lt_two_pow (n := 16) (by omega) (by omega) | (simp [md_set, va_up]; done) | (simp [md_set, va_up]; omega)) (by first | omega | exact Nat.lt_of_le_of_lt Nat.and_le_left (by omega) | exact Nat.or_lt_two_pow (n := 16) (by omega) (by omega) | (simp [md_set, va_up]; done) | (simp [md_set, va_up]; omega)) (by intro r9; first | exact hw r9 | (show N 4 r9 ≤ 3; exact hw r9) | exact hw9 r9) (by intro r9; first | exact hg r9 | (show N 12 r9 ≤ 6; exact hg r9) | exact hg9 r9) (by first | omega | exact Nat.lt_of_le_of_lt Nat.and_le_left (by omega) | exact Nat.or_lt_two_pow (n := 16) (by omega) (by omega) | (simp [md_set, va_up]; done) | (simp [md_set, va_up]; omega)) hk
          · refine sg_iconst (pc := 85) (nI 1) hC dX7_mayDo_85 (by decide) ?_
            refine sg_goto (pc := 86) 90 hC dX7_mayDo_86 (by decide) ?_
            refine sg_istore_n (pc := 90) (x := nI 1) hC dX7_mayDo_90 (by decide) ?_
            show sg_W X M 0 0 91 [some (.ref x), some (.int (nI s)), some (.int (nI q)), some (.int (nI 1)), some (.int (nI k))] []
            refine sg_iincN (pc := 91) (a := k) (b := k + 1) hC dX7_mayDo_91 rfl (nI_1 _) (by decide) ?_
            show sg_W X M 0 0 94 [some (.ref x), some (.int (nI s)), some (.int (nI q)), some (.int (nI 1)), some (.int (nI (k + 1)))] []
            refine sg_goto (pc := 94) 37 hC dX7_mayDo_94 (by decide) ?_
            have e9 : md_mayDo1 (f + 1) N s q b k = md_mayDo1 f (md_set N 7 85 ((N 7 q) &&& (1 <<< k))) s q true (k + 1) := by rw [md_mayDo1_s]; simp only [if_neg (Nat.not_le.mpr h1), if_pos h2, if_neg h5, if_pos h6]
            rw [e9] at hk
            refine sg_loc (L' := [some (.ref x), some (.int (nI s)), some (.int (nI q)), some (.int (md_b true)), some (.int (nI ((k + 1))))]) ⟨rfl, ⟨rfl, ⟨rfl, ⟨rfl, ⟨rfl, trivial⟩⟩⟩⟩⟩ ?_
            exact ih s q true (k + 1) _ hI (by first | omega | exact Nat.lt_of_le_of_lt Nat.and_le_left (by omega) | exact Nat.or_lt_two_pow (n := 16) (by omega) (by omega) | (simp [md_set, va_up]; done) | (simp [md_set, va_up]; omega)) (by first | omega | exact Nat.lt_of_le_of_lt Nat.and_le_left (by omega) | exact Nat.or_lt_two_pow (n := 16) (by omega) (by omega) | (simp [md_set, va_up]; done) | (simp [md_set, va_up]; omega)) (by first | omega | exact Nat.lt_of_le_of_lt Nat.and_le_left (by omega) | exact Nat.or_lt_two_pow (n := 16) (by omega) (by omega) | (simp [md_set, va_up]; done) | (simp [md_set, va_up]; omega)) (by intro r9; first | exact hw r9 | (show N 4 r9 ≤ 3; exact hw r9) | exact hw9 r9) (by intro r9; first | exact hg r9 | (show N 12 r9 ≤ 6; exact hg r9) | exact hg9 r9) (by first | omega | exact Nat.lt_of_le_of_lt Nat.and_le_left (by omega) | exact Nat.or_lt_two_pow (n := 16) (by omega) (by omega) | (simp [md_set, va_up]; done) | (simp [md_set, va_up]; omega)) hk

def md_mayDo (N : Nat → Nat → Nat) (s : Nat) (q : Nat) : Bool × (Nat → Nat → Nat) := if (md_granted N s q) = true then (true, N) else if N 3 q = 2 then md_mayDo1 (5) (md_copy N q 85) s q true 0 else md_mayDo1 (5) (md_copy N q 85) s q false 0
set_option maxHeartbeats 4000000 in
set_option maxRecDepth 100000 in
theorem mm_mayDo {l : Launch} {G : sg_G} {d : Nat} {M0 M : sg_M} {x : Nat} {ad : Nat → Nat} {N : Nat → Nat → Nat} {kr : Option Value → sg_M → Prop} {kx : String → sg_M → Prop} (htr : l.stackTraces = false) (hI : md_I M0 M x ad N) (s : Nat) (q : Nat) (hs : s < 6) (hq : q < 85) (hw : ∀ r, N 4 r ≤ 3) (hg : ∀ r, N 12 r ≤ 6) (hk : ∀ M', md_I M0 M' x ad (md_mayDo N s q).2 → kr (some (.int (md_b (md_mayDo N s q).1))) M') : sg_Met l G yX7_mayDo cX7_mayDo 5 (some .boolean) (d + 5) 0 0 [.ref x, .int (nI s), .int (nI q)] M kr kx := by
  refine sg_enter [some (.ref x), some (.int (nI s)), some (.int (nI q)), none, none] (by decide) htr (Nat.le_of_ble_eq_true rfl) rfl ?_
  intro X hC hR
  have hC : sg_C X l G cX7_mayDo RX7 5 (d + 5) := hC
  refine sg_aload_n (pc := 0) (v := .ref x) hC dX7_mayDo_0 rfl rfl ?_
  refine sg_iload_n (pc := 1) (x := nI s) hC dX7_mayDo_1 rfl ?_
  refine sg_iload_n (pc := 2) (x := nI q) hC dX7_mayDo_2 rfl ?_
  refine sg_callV (pc := 3) (As := [.int (nI s), .int (nI q)]) (rest := []) (mc := 0) (ms := 0) hC tw_1393 tw_1395 tw_55 tw_72 tw_1396 yd_X7_granted (by decide) (ci := 10) rfl dX7_mayDo_3 hI.x rfl (Nat.le_of_ble_eq_true rfl) (Nat.zero_le _) (Nat.zero_le _) ?_
  refine mm_granted htr hI s q (by first | omega | exact Nat.lt_of_le_of_lt Nat.and_le_left (by omega) | exact Nat.or_lt_two_pow (n := 16) (by omega) (by omega) | (simp [md_set, va_up]; done) | (simp [md_set, va_up]; omega)) (by first | omega | exact Nat.lt_of_le_of_lt Nat.and_le_left (by omega) | exact Nat.or_lt_two_pow (n := 16) (by omega) (by omega) | (simp [md_set, va_up]; done) | (simp [md_set, va_up]; omega)) hw hg ?_
  show sg_W X M 0 0 6 [some (.ref x), some (.int (nI s)), some (.int (nI q)), none, none] [.int (md_b ((md_granted N s q)))]
  refine sg_ifB_eq (pc := 6) (b := (md_granted N s q)) 11 hC dX7_mayDo_6 (by decide) (fun h1 => ?_) (fun h1 => ?_)
  · refine sg_aload_n (pc := 11) (v := .ref x) hC dX7_mayDo_11 rfl rfl ?_
    refine md_get (pc := 12) (i := 3) hC (by decide) tw_1189 dX7_mayDo_12 hI rfl ?_
    refine sg_iload_n (pc := 15) (x := nI q) hC dX7_mayDo_15 rfl ?_
    refine md_iald (pc := 16) (i := 3) (j := q) hC dX7_mayDo_16 hI rfl (by first | omega | exact Nat.lt_of_le_of_lt Nat.and_le_left (by omega) | exact Nat.or_lt_two_pow (n := 16) (by omega) (by omega) | (simp [md_set, va_up]; done) | (simp [md_set, va_up]; omega)) (by decide) (fun hv2 => ?_)
    show sg_W X M 0 0 17 [some (.ref x), some (.int (nI s)), some (.int (nI q)), none, none] [.int (nI (N 3 q))]
    refine sg_iconst (pc := 17) (nI 2) hC dX7_mayDo_17 (by decide) ?_
    refine sg_icmpN_ne (pc := 18) (a := N 3 q) (b := 2) 25 hC dX7_mayDo_18 (by decide) (by first | omega | exact Nat.lt_of_le_of_lt Nat.and_le_left (by omega) | exact Nat.or_lt_two_pow (n := 16) (by omega) (by omega) | (simp [md_set, va_up]; done) | (simp [md_set, va_up]; omega)) (by first | omega | exact Nat.lt_of_le_of_lt Nat.and_le_left (by omega) | exact Nat.or_lt_two_pow (n := 16) (by omega) (by omega) | (simp [md_set, va_up]; done) | (simp [md_set, va_up]; omega)) (fun h3 => ?_) (fun h3 => ?_)
    · refine sg_iconst (pc := 25) (nI 0) hC dX7_mayDo_25 (by decide) ?_
      refine sg_istore_n (pc := 26) (x := nI 0) hC dX7_mayDo_26 (by decide) ?_
      show sg_W X M 0 0 27 [some (.ref x), some (.int (nI s)), some (.int (nI q)), some (.int (nI 0)), none] []
      refine sg_aload_n (pc := 27) (v := .ref x) hC dX7_mayDo_27 rfl rfl ?_
      refine sg_iload_n (pc := 28) (x := nI q) hC dX7_mayDo_28 rfl ?_
      refine sg_bipush (pc := 29) (nI 85) hC dX7_mayDo_29 (by decide) ?_
      refine sg_callV (pc := 31) (As := [.int (nI q), .int (nI 85)]) (rest := []) (mc := 0) (ms := 0) hC tw_1329 tw_1331 tw_44 tw_72 tw_1332 yd_X7_copy (by decide) (ci := 10) rfl dX7_mayDo_31 hI.x rfl (Nat.le_of_ble_eq_true rfl) (Nat.zero_le _) (Nat.zero_le _) ?_
      refine mm_copy htr hI q 85 (by first | omega | exact Nat.lt_of_le_of_lt Nat.and_le_left (by omega) | exact Nat.or_lt_two_pow (n := 16) (by omega) (by omega) | (simp [md_set, va_up]; done) | (simp [md_set, va_up]; omega)) (by first | omega | exact Nat.lt_of_le_of_lt Nat.and_le_left (by omega) | exact Nat.or_lt_two_pow (n := 16) (by omega) (by omega) | (simp [md_set, va_up]; done) | (simp [md_set, va_up]; omega)) (fun M hI => ?_)
      show sg_W X M 0 0 34 [some (.ref x), some (.int (nI s)), some (.int (nI q)), some (.int (nI 0)), none] []
      have hw9 : ∀ r, (md_copy N q 85) 4 r ≤ 3 := md_copy_lab (fun r9 => hw r9)
      have hg9 : ∀ r, (md_copy N q 85) 12 r ≤ 6 := fun r9 => hg r9
      refine sg_iconst (pc := 34) (nI 0) hC dX7_mayDo_34 (by decide) ?_
      refine sg_istore (pc := 35) (x := nI 0) hC dX7_mayDo_35 (by decide) ?_
      show sg_W X M 0 0 37 [some (.ref x), some (.int (nI s)), some (.int (nI q)), some (.int (nI 0)), some (.int (nI 0))] []
      have e9 : md_mayDo N s q = md_mayDo1 (5) (md_copy N q 85) s q false 0 := by rw [md_mayDo]; simp only [if_neg (ts9 h1), if_neg h3]
      rw [e9] at hk
      refine sg_loc (L' := [some (.ref x), some (.int (nI s)), some (.int (nI q)), some (.int (md_b false)), some (.int (nI 0))]) ⟨rfl, ⟨rfl, ⟨rfl, ⟨rfl, ⟨rfl, trivial⟩⟩⟩⟩⟩ ?_
      exact mm_mayDo1 htr hC hR (5) s q false 0 _ hI (by first | omega | exact Nat.lt_of_le_of_lt Nat.and_le_left (by omega) | exact Nat.or_lt_two_pow (n := 16) (by omega) (by omega) | (simp [md_set, va_up]; done) | (simp [md_set, va_up]; omega)) (by first | omega | exact Nat.lt_of_le_of_lt Nat.and_le_left (by omega) | exact Nat.or_lt_two_pow (n := 16) (by omega) (by omega) | (simp [md_set, va_up]; done) | (simp [md_set, va_up]; omega)) (by first | omega | exact Nat.lt_of_le_of_lt Nat.and_le_left (by omega) | exact Nat.or_lt_two_pow (n := 16) (by omega) (by omega) | (simp [md_set, va_up]; done) | (simp [md_set, va_up]; omega)) (by intro r9; first | exact hw r9 | (show N 4 r9 ≤ 3; exact hw r9) | exact hw9 r9) (by intro r9; first | exact hg r9 | (show N 12 r9 ≤ 6; exact hg r9) | exact hg9 r9) (by first | omega | exact Nat.lt_of_le_of_lt Nat.and_le_left (by omega) | exact Nat.or_lt_two_pow (n := 16) (by omega) (by omega) | (simp [md_set, va_up]; done) | (simp [md_set, va_up]; omega)) hk
    · refine sg_iconst (pc := 21) (nI 1) hC dX7_mayDo_21 (by decide) ?_
      refine sg_goto (pc := 22) 26 hC dX7_mayDo_22 (by decide) ?_
      refine sg_istore_n (pc := 26) (x := nI 1) hC dX7_mayDo_26 (by decide) ?_
      show sg_W X M 0 0 27 [some (.ref x), some (.int (nI s)), some (.int (nI q)), some (.int (nI 1)), none] []
      refine sg_aload_n (pc := 27) (v := .ref x) hC dX7_mayDo_27 rfl rfl ?_
      refine sg_iload_n (pc := 28) (x := nI q) hC dX7_mayDo_28 rfl ?_
      refine sg_bipush (pc := 29) (nI 85) hC dX7_mayDo_29 (by decide) ?_
      refine sg_callV (pc := 31) (As := [.int (nI q), .int (nI 85)]) (rest := []) (mc := 0) (ms := 0) hC tw_1329 tw_1331 tw_44 tw_72 tw_1332 yd_X7_copy (by decide) (ci := 10) rfl dX7_mayDo_31 hI.x rfl (Nat.le_of_ble_eq_true rfl) (Nat.zero_le _) (Nat.zero_le _) ?_
      refine mm_copy htr hI q 85 (by first | omega | exact Nat.lt_of_le_of_lt Nat.and_le_left (by omega) | exact Nat.or_lt_two_pow (n := 16) (by omega) (by omega) | (simp [md_set, va_up]; done) | (simp [md_set, va_up]; omega)) (by first | omega | exact Nat.lt_of_le_of_lt Nat.and_le_left (by omega) | exact Nat.or_lt_two_pow (n := 16) (by omega) (by omega) | (simp [md_set, va_up]; done) | (simp [md_set, va_up]; omega)) (fun M hI => ?_)
      show sg_W X M 0 0 34 [some (.ref x), some (.int (nI s)), some (.int (nI q)), some (.int (nI 1)), none] []
      have hw9 : ∀ r, (md_copy N q 85) 4 r ≤ 3 := md_copy_lab (fun r9 => hw r9)
      have hg9 : ∀ r, (md_copy N q 85) 12 r ≤ 6 := fun r9 => hg r9
      refine sg_iconst (pc := 34) (nI 0) hC dX7_mayDo_34 (by decide) ?_
      refine sg_istore (pc := 35) (x := nI 0) hC dX7_mayDo_35 (by decide) ?_
      show sg_W X M 0 0 37 [some (.ref x), some (.int (nI s)), some (.int (nI q)), some (.int (nI 1)), some (.int (nI 0))] []
      have e9 : md_mayDo N s q = md_mayDo1 (5) (md_copy N q 85) s q true 0 := by rw [md_mayDo]; simp only [if_neg (ts9 h1), if_pos h3]
      rw [e9] at hk
      refine sg_loc (L' := [some (.ref x), some (.int (nI s)), some (.int (nI q)), some (.int (md_b true)), some (.int (nI 0))]) ⟨rfl, ⟨rfl, ⟨rfl, ⟨rfl, ⟨rfl, trivial⟩⟩⟩⟩⟩ ?_
      exact mm_mayDo1 htr hC hR (5) s q true 0 _ hI (by first | omega | exact Nat.lt_of_le_of_lt Nat.and_le_left (by omega) | exact Nat.or_lt_two_pow (n := 16) (by omega) (by omega) | (simp [md_set, va_up]; done) | (simp [md_set, va_up]; omega)) (by first | omega | exact Nat.lt_of_le_of_lt Nat.and_le_left (by omega) | exact Nat.or_lt_two_pow (n := 16) (by omega) (by omega) | (simp [md_set, va_up]; done) | (simp [md_set, va_up]; omega)) (by first | omega | exact Nat.lt_of_le_of_lt Nat.and_le_left (by omega) | exact Nat.or_lt_two_pow (n := 16) (by omega) (by omega) | (simp [md_set, va_up]; done) | (simp [md_set, va_up]; omega)) (by intro r9; first | exact hw r9 | (show N 4 r9 ≤ 3; exact hw r9) | exact hw9 r9) (by intro r9; first | exact hg r9 | (show N 12 r9 ≤ 6; exact hg r9) | exact hg9 r9) (by first | omega | exact Nat.lt_of_le_of_lt Nat.and_le_left (by omega) | exact Nat.or_lt_two_pow (n := 16) (by omega) (by omega) | (simp [md_set, va_up]; done) | (simp [md_set, va_up]; omega)) hk
  · refine sg_iconst (pc := 9) (nI 1) hC dX7_mayDo_9 (by decide) ?_
    have e9 : md_mayDo N s q = (true, N) := by rw [md_mayDo]; simp only [if_pos h1]
    rw [e9] at hk
    exact sg_zreturn (st := []) (v := md_b true) (pc := 10) (ty := .boolean) hC hR (md_narb _) dX7_mayDo_10 (hk M hI)

def md_may (N : Nat → Nat → Nat) (src : Int32) (slot : Int32) : Bool × (Nat → Nat → Nat) := if (md_in src (nI 0) (nI 5)) = true then if (md_isSlot N slot) = true then if (md_mayDo (md_set N 0 0 0) src.toNatClampNeg slot.toNatClampNeg).1 = true then (true, (md_mayDo (md_set N 0 0 0) src.toNatClampNeg slot.toNatClampNeg).2) else (false, (md_mayDo (md_set N 0 0 0) src.toNatClampNeg slot.toNatClampNeg).2) else (false, (md_set N 0 0 1)) else (false, (md_set N 0 0 1))
set_option maxHeartbeats 4000000 in
set_option maxRecDepth 100000 in
theorem mm_may {l : Launch} {G : sg_G} {d : Nat} {M0 M : sg_M} {x : Nat} {ad : Nat → Nat} {N : Nat → Nat → Nat} {kr : Option Value → sg_M → Prop} {kx : String → sg_M → Prop} (htr : l.stackTraces = false) (hI : md_I M0 M x ad N) (src : Int32) (slot : Int32) (hw : ∀ r, N 4 r ≤ 3) (hg : ∀ r, N 12 r ≤ 6) (hk : ∀ M', md_I M0 M' x ad (md_may N src slot).2 → kr (some (.int (md_b (md_may N src slot).1))) M') : sg_Met l G yX7_may cX7_may 3 (some .boolean) (d + 6) 0 0 [.ref x, .int src, .int slot] M kr kx := by
  refine sg_enter [some (.ref x), some (.int src), some (.int slot)] (by decide) htr (Nat.le_of_ble_eq_true rfl) rfl ?_
  intro X hC hR
  have hC : sg_C X l G cX7_may RX7 3 (d + 6) := hC
  refine sg_aload_n (pc := 0) (v := .ref x) hC dX7_may_0 rfl rfl ?_
  refine sg_iload_n (pc := 1) (x := src) hC dX7_may_1 rfl ?_
  refine sg_iconst (pc := 2) (nI 0) hC dX7_may_2 (by decide) ?_
  refine sg_iconst (pc := 3) (nI 5) hC dX7_may_3 (by decide) ?_
  refine sg_callS (pc := 4) (As := [.int src, .int (nI 0), .int (nI 5)]) (rest := [.ref x]) (mc := 0) (ms := 0) hC tw_1270 tw_1271 tw_72 tw_1272 yd_X7_in (by decide) dX7_may_4 rfl (Nat.le_of_ble_eq_true rfl) (Nat.zero_le _) (Nat.zero_le _) ?_
  refine mm_in htr  src (nI 0) (nI 5)  ?_
  show sg_W X M 0 0 7 [some (.ref x), some (.int src), some (.int slot)] [.int (md_b ((md_in src (nI 0) (nI 5)))), .ref x]
  refine sg_ifB_eq (pc := 7) (b := (md_in src (nI 0) (nI 5))) 22 hC dX7_may_7 (by decide) (fun h1 => ?_) (fun h1 => ?_)
  · refine sg_iconst (pc := 22) (nI 1) hC dX7_may_22 (by decide) ?_
    refine md_put0 (pc := 23) (v := 1) hC tw_1186 dX7_may_23 hI (by first | omega | exact Nat.lt_of_le_of_lt Nat.and_le_left (by omega) | exact Nat.or_lt_two_pow (n := 16) (by omega) (by omega) | (simp [md_set, va_up]; done) | (simp [md_set, va_up]; omega)) (fun M hI => ?_)
    refine sg_aload_n (pc := 26) (v := .ref x) hC dX7_may_26 rfl rfl ?_
    refine md_get (pc := 27) (i := 0) hC (by decide) tw_1186 dX7_may_27 hI rfl ?_
    show sg_W X M 0 0 30 [some (.ref x), some (.int src), some (.int slot)] [.int (nI 1)]
    refine sg_ifN_ne (pc := 30) (a := 1) 46 hC dX7_may_30 (by decide) (by decide) (fun _ => ?_) (fun h2 => absurd h2 (by decide))
    refine sg_iconst (pc := 46) (nI 0) hC dX7_may_46 (by decide) ?_
    have e9 : md_may N src slot = (false, (md_set N 0 0 1)) := by rw [md_may]; simp only [if_neg (ts9 h1)]
    rw [e9] at hk
    exact sg_zreturn (st := []) (v := md_b false) (pc := 47) (ty := .boolean) hC hR (md_narb _) dX7_may_47 (hk M hI)
  · obtain ⟨hs3, hs4⟩ := md_in_nat h1 (by first | omega | exact Nat.lt_of_le_of_lt Nat.and_le_left (by omega) | exact Nat.or_lt_two_pow (n := 16) (by omega) (by omega) | (simp [md_set, va_up]; done) | (simp [md_set, va_up]; omega))
    rw [hs3]
    show sg_W X M 0 0 10 [some (.ref x), some (.int (nI src.toNatClampNeg)), some (.int slot)] [.ref x]
    refine sg_aload_n (pc := 10) (v := .ref x) hC dX7_may_10 rfl rfl ?_
    refine sg_iload_n (pc := 11) (x := slot) hC dX7_may_11 rfl ?_
    refine sg_callV (pc := 12) (As := [.int slot]) (rest := [.ref x]) (mc := 0) (ms := 0) hC tw_1337 tw_1339 tw_45 tw_72 tw_1340 yd_X7_isSlot (by decide) (ci := 10) rfl dX7_may_12 hI.x rfl (Nat.le_of_ble_eq_true rfl) (Nat.zero_le _) (Nat.zero_le _) ?_
    refine mm_isSlot htr hI slot  ?_
    show sg_W X M 0 0 15 [some (.ref x), some (.int (nI src.toNatClampNeg)), some (.int slot)] [.int (md_b ((md_isSlot N slot))), .ref x]
    refine sg_ifB_eq (pc := 15) (b := (md_isSlot N slot)) 22 hC dX7_may_15 (by decide) (fun h5 => ?_) (fun h5 => ?_)
    · refine sg_iconst (pc := 22) (nI 1) hC dX7_may_22 (by decide) ?_
      refine md_put0 (pc := 23) (v := 1) hC tw_1186 dX7_may_23 hI (by first | omega | exact Nat.lt_of_le_of_lt Nat.and_le_left (by omega) | exact Nat.or_lt_two_pow (n := 16) (by omega) (by omega) | (simp [md_set, va_up]; done) | (simp [md_set, va_up]; omega)) (fun M hI => ?_)
      refine sg_aload_n (pc := 26) (v := .ref x) hC dX7_may_26 rfl rfl ?_
      refine md_get (pc := 27) (i := 0) hC (by decide) tw_1186 dX7_may_27 hI rfl ?_
      show sg_W X M 0 0 30 [some (.ref x), some (.int (nI src.toNatClampNeg)), some (.int slot)] [.int (nI 1)]
      refine sg_ifN_ne (pc := 30) (a := 1) 46 hC dX7_may_30 (by decide) (by decide) (fun _ => ?_) (fun h6 => absurd h6 (by decide))
      refine sg_iconst (pc := 46) (nI 0) hC dX7_may_46 (by decide) ?_
      have e9 : md_may N src slot = (false, (md_set N 0 0 1)) := by rw [md_may]; simp only [if_pos h1, if_neg (ts9 h5)]
      rw [e9] at hk
      exact sg_zreturn (st := []) (v := md_b false) (pc := 47) (ty := .boolean) hC hR (md_narb _) dX7_may_47 (hk M hI)
    · obtain ⟨hs7, hs8⟩ := md_isSlot_nat h5
      rw [hs7]
      show sg_W X M 0 0 18 [some (.ref x), some (.int (nI src.toNatClampNeg)), some (.int (nI slot.toNatClampNeg))] [.ref x]
      obtain ⟨hs9, hs10⟩ := hs8
      refine sg_iconst (pc := 18) (nI 0) hC dX7_may_18 (by decide) ?_
      refine sg_goto (pc := 19) 23 hC dX7_may_19 (by decide) ?_
      refine md_put0 (pc := 23) (v := 0) hC tw_1186 dX7_may_23 hI (by first | omega | exact Nat.lt_of_le_of_lt Nat.and_le_left (by omega) | exact Nat.or_lt_two_pow (n := 16) (by omega) (by omega) | (simp [md_set, va_up]; done) | (simp [md_set, va_up]; omega)) (fun M hI => ?_)
      refine sg_aload_n (pc := 26) (v := .ref x) hC dX7_may_26 rfl rfl ?_
      refine md_get (pc := 27) (i := 0) hC (by decide) tw_1186 dX7_may_27 hI rfl ?_
      show sg_W X M 0 0 30 [some (.ref x), some (.int (nI src.toNatClampNeg)), some (.int (nI slot.toNatClampNeg))] [.int (nI 0)]
      refine sg_ifN_ne (pc := 30) (a := 0) 46 hC dX7_may_30 (by decide) (by decide) (fun h11 => absurd h11 (by decide)) (fun _ => ?_)
      refine sg_aload_n (pc := 33) (v := .ref x) hC dX7_may_33 rfl rfl ?_
      refine sg_iload_n (pc := 34) (x := nI src.toNatClampNeg) hC dX7_may_34 rfl ?_
      refine sg_iload_n (pc := 35) (x := nI slot.toNatClampNeg) hC dX7_may_35 rfl ?_
      refine sg_callV (pc := 36) (As := [.int (nI src.toNatClampNeg), .int (nI slot.toNatClampNeg)]) (rest := []) (mc := 0) (ms := 0) hC tw_1389 tw_1391 tw_54 tw_72 tw_1392 yd_X7_mayDo (by decide) (ci := 10) rfl dX7_may_36 hI.x rfl (Nat.le_of_ble_eq_true rfl) (Nat.zero_le _) (Nat.zero_le _) ?_
      refine mm_mayDo htr hI src.toNatClampNeg slot.toNatClampNeg (by first | omega | exact Nat.lt_of_le_of_lt Nat.and_le_left (by omega) | exact Nat.or_lt_two_pow (n := 16) (by omega) (by omega) | (simp [md_set, va_up]; done) | (simp [md_set, va_up]; omega)) (by first | omega | exact Nat.lt_of_le_of_lt Nat.and_le_left (by omega) | exact Nat.or_lt_two_pow (n := 16) (by omega) (by omega) | (simp [md_set, va_up]; done) | (simp [md_set, va_up]; omega)) (by intro r9; first | exact hw r9 | (show N 4 r9 ≤ 3; exact hw r9) | exact hw9 r9) (by intro r9; first | exact hg r9 | (show N 12 r9 ≤ 6; exact hg r9) | exact hg9 r9) (fun M hI => ?_)
      show sg_W X M 0 0 39 [some (.ref x), some (.int (nI src.toNatClampNeg)), some (.int (nI slot.toNatClampNeg))] [.int (md_b ((md_mayDo (md_set N 0 0 0) src.toNatClampNeg slot.toNatClampNeg).1))]
      refine sg_ifB_eq (pc := 39) (b := (md_mayDo (md_set N 0 0 0) src.toNatClampNeg slot.toNatClampNeg).1) 46 hC dX7_may_39 (by decide) (fun h12 => ?_) (fun h12 => ?_)
      · refine sg_iconst (pc := 46) (nI 0) hC dX7_may_46 (by decide) ?_
        have e9 : md_may N src slot = (false, (md_mayDo (md_set N 0 0 0) src.toNatClampNeg slot.toNatClampNeg).2) := by rw [md_may]; simp only [if_pos h1, if_pos h5, if_neg (ts9 h12)]
        rw [e9] at hk
        exact sg_zreturn (st := []) (v := md_b false) (pc := 47) (ty := .boolean) hC hR (md_narb _) dX7_may_47 (hk M hI)
      · refine sg_iconst (pc := 42) (nI 1) hC dX7_may_42 (by decide) ?_
        refine sg_goto (pc := 43) 47 hC dX7_may_43 (by decide) ?_
        have e9 : md_may N src slot = (true, (md_mayDo (md_set N 0 0 0) src.toNatClampNeg slot.toNatClampNeg).2) := by rw [md_may]; simp only [if_pos h1, if_pos h5, if_pos h12]
        rw [e9] at hk
        exact sg_zreturn (st := []) (v := md_b true) (pc := 47) (ty := .boolean) hC hR (md_narb _) dX7_may_47 (hk M hI)

def md_grant (N : Nat → Nat → Nat) (src : Int32) (slot : Int32) : Nat × (Nat → Nat → Nat) := if (md_in src (nI 0) (nI 5)) = true then if (md_isSlot (md_set N 0 0 0) slot) = true then if N 12 src.toNatClampNeg = 6 then ((md_fail (md_set N 0 0 0) 2).1, (md_fail (md_set N 0 0 0) 2).2) else ((N 12 src.toNatClampNeg) + 1, (md_set (md_copy (md_set N 0 0 0) slot.toNatClampNeg ((8 + (6 * src.toNatClampNeg)) + (N 12 src.toNatClampNeg))) 12 src.toNatClampNeg ((N 12 src.toNatClampNeg) + 1))) else ((md_fail (md_set N 0 0 0) 1).1, (md_fail (md_set N 0 0 0) 1).2) else ((md_fail (md_set N 0 0 0) 1).1, (md_fail (md_set N 0 0 0) 1).2)
set_option maxHeartbeats 4000000 in
set_option maxRecDepth 100000 in
theorem mm_grant {l : Launch} {G : sg_G} {d : Nat} {M0 M : sg_M} {x : Nat} {ad : Nat → Nat} {N : Nat → Nat → Nat} {kr : Option Value → sg_M → Prop} {kx : String → sg_M → Prop} (htr : l.stackTraces = false) (hI : md_I M0 M x ad N) (src : Int32) (slot : Int32) (hw : ∀ r, N 4 r ≤ 3) (hg : ∀ r, N 12 r ≤ 6) (hk : ∀ M', md_I M0 M' x ad (md_grant N src slot).2 → kr (some (.int (nI (md_grant N src slot).1))) M') : sg_Met l G yX7_grant cX7_grant 3 (some .int) (d + 2) 0 0 [.ref x, .int src, .int slot] M kr kx := by
  refine sg_enter [some (.ref x), some (.int src), some (.int slot)] (by decide) htr (Nat.le_of_ble_eq_true rfl) rfl ?_
  intro X hC hR
  have hC : sg_C X l G cX7_grant RX7 3 (d + 2) := hC
  refine sg_aload_n (pc := 0) (v := .ref x) hC dX7_grant_0 rfl rfl ?_
  refine sg_iconst (pc := 1) (nI 0) hC dX7_grant_1 (by decide) ?_
  refine md_put0 (pc := 2) (v := 0) hC tw_1186 dX7_grant_2 hI (by first | omega | exact Nat.lt_of_le_of_lt Nat.and_le_left (by omega) | exact Nat.or_lt_two_pow (n := 16) (by omega) (by omega) | (simp [md_set, va_up]; done) | (simp [md_set, va_up]; omega)) (fun M hI => ?_)
  refine sg_iload_n (pc := 5) (x := src) hC dX7_grant_5 rfl ?_
  refine sg_iconst (pc := 6) (nI 0) hC dX7_grant_6 (by decide) ?_
  refine sg_iconst (pc := 7) (nI 5) hC dX7_grant_7 (by decide) ?_
  refine sg_callS (pc := 8) (As := [.int src, .int (nI 0), .int (nI 5)]) (rest := []) (mc := 0) (ms := 0) hC tw_1270 tw_1271 tw_72 tw_1272 yd_X7_in (by decide) dX7_grant_8 rfl (Nat.le_of_ble_eq_true rfl) (Nat.zero_le _) (Nat.zero_le _) ?_
  refine mm_in htr  src (nI 0) (nI 5)  ?_
  show sg_W X M 0 0 11 [some (.ref x), some (.int src), some (.int slot)] [.int (md_b ((md_in src (nI 0) (nI 5))))]
  refine sg_ifB_eq (pc := 11) (b := (md_in src (nI 0) (nI 5))) 22 hC dX7_grant_11 (by decide) (fun h1 => ?_) (fun h1 => ?_)
  · refine sg_aload_n (pc := 22) (v := .ref x) hC dX7_grant_22 rfl rfl ?_
    refine sg_iconst (pc := 23) (nI 1) hC dX7_grant_23 (by decide) ?_
    refine sg_callV (pc := 24) (As := [.int (nI 1)]) (rest := []) (mc := 0) (ms := 0) hC tw_1273 tw_1275 tw_33 tw_72 tw_1276 yd_X7_fail (by decide) (ci := 10) rfl dX7_grant_24 hI.x rfl (Nat.le_of_ble_eq_true rfl) (Nat.zero_le _) (Nat.zero_le _) ?_
    refine mm_fail htr hI 1 (by first | omega | exact Nat.lt_of_le_of_lt Nat.and_le_left (by omega) | exact Nat.or_lt_two_pow (n := 16) (by omega) (by omega) | (simp [md_set, va_up]; done) | (simp [md_set, va_up]; omega)) (fun M hI => ?_)
    show sg_W X M 0 0 27 [some (.ref x), some (.int src), some (.int slot)] [.int (nI ((md_fail (md_set N 0 0 0) 1).1))]
    have e9 : md_grant N src slot = ((md_fail (md_set N 0 0 0) 1).1, (md_fail (md_set N 0 0 0) 1).2) := by rw [md_grant]; simp only [if_neg (ts9 h1)]
    rw [e9] at hk
    exact sg_ireturn (st := []) (v := nI ((md_fail (md_set N 0 0 0) 1).1)) (pc := 27) hC hR dX7_grant_27 (hk M hI)
  · obtain ⟨hs2, hs3⟩ := md_in_nat h1 (by first | omega | exact Nat.lt_of_le_of_lt Nat.and_le_left (by omega) | exact Nat.or_lt_two_pow (n := 16) (by omega) (by omega) | (simp [md_set, va_up]; done) | (simp [md_set, va_up]; omega))
    rw [hs2]
    show sg_W X M 0 0 14 [some (.ref x), some (.int (nI src.toNatClampNeg)), some (.int slot)] []
    refine sg_aload_n (pc := 14) (v := .ref x) hC dX7_grant_14 rfl rfl ?_
    refine sg_iload_n (pc := 15) (x := slot) hC dX7_grant_15 rfl ?_
    refine sg_callV (pc := 16) (As := [.int slot]) (rest := []) (mc := 0) (ms := 0) hC tw_1337 tw_1339 tw_45 tw_72 tw_1340 yd_X7_isSlot (by decide) (ci := 10) rfl dX7_grant_16 hI.x rfl (Nat.le_of_ble_eq_true rfl) (Nat.zero_le _) (Nat.zero_le _) ?_
    refine mm_isSlot htr hI slot  ?_
    show sg_W X M 0 0 19 [some (.ref x), some (.int (nI src.toNatClampNeg)), some (.int slot)] [.int (md_b ((md_isSlot (md_set N 0 0 0) slot)))]
    refine sg_ifB_ne (pc := 19) (b := (md_isSlot (md_set N 0 0 0) slot)) 28 hC dX7_grant_19 (by decide) (fun h4 => ?_) (fun h4 => ?_)
    · obtain ⟨hs5, hs6⟩ := md_isSlot_nat h4
      rw [hs5]
      show sg_W X M 0 0 28 [some (.ref x), some (.int (nI src.toNatClampNeg)), some (.int (nI slot.toNatClampNeg))] []
      obtain ⟨hs7, hs8⟩ := hs6
      refine sg_aload_n (pc := 28) (v := .ref x) hC dX7_grant_28 rfl rfl ?_
      refine md_get (pc := 29) (i := 12) hC (by decide) tw_1198 dX7_grant_29 hI rfl ?_
      refine sg_iload_n (pc := 32) (x := nI src.toNatClampNeg) hC dX7_grant_32 rfl ?_
      refine md_iald (pc := 33) (i := 12) (j := src.toNatClampNeg) hC dX7_grant_33 hI rfl (by first | omega | exact Nat.lt_of_le_of_lt Nat.and_le_left (by omega) | exact Nat.or_lt_two_pow (n := 16) (by omega) (by omega) | (simp [md_set, va_up]; done) | (simp [md_set, va_up]; omega)) (by decide) (fun hv9 => ?_)
      have hv9 : N 12 src.toNatClampNeg < 65536 := hv9
      show sg_W X M 0 0 34 [some (.ref x), some (.int (nI src.toNatClampNeg)), some (.int (nI slot.toNatClampNeg))] [.int (nI (N 12 src.toNatClampNeg))]
      have hW10 := hg src.toNatClampNeg
      refine sg_bipush (pc := 34) (nI 6) hC dX7_grant_34 (by decide) ?_
      refine sg_icmpN_ne (pc := 36) (a := N 12 src.toNatClampNeg) (b := 6) 45 hC dX7_grant_36 (by decide) (by first | omega | exact Nat.lt_of_le_of_lt Nat.and_le_left (by omega) | exact Nat.or_lt_two_pow (n := 16) (by omega) (by omega) | (simp [md_set, va_up]; done) | (simp [md_set, va_up]; omega)) (by first | omega | exact Nat.lt_of_le_of_lt Nat.and_le_left (by omega) | exact Nat.or_lt_two_pow (n := 16) (by omega) (by omega) | (simp [md_set, va_up]; done) | (simp [md_set, va_up]; omega)) (fun h11 => ?_) (fun h11 => ?_)
      · refine sg_aload_n (pc := 45) (v := .ref x) hC dX7_grant_45 rfl rfl ?_
        refine sg_iload_n (pc := 46) (x := nI slot.toNatClampNeg) hC dX7_grant_46 rfl ?_
        refine sg_bipush (pc := 47) (nI 8) hC dX7_grant_47 (by decide) ?_
        refine sg_bipush (pc := 49) (nI 6) hC dX7_grant_49 (by decide) ?_
        refine sg_iload_n (pc := 51) (x := nI src.toNatClampNeg) hC dX7_grant_51 rfl ?_
        refine sg_imulN (pc := 52) (a := 6) (b := src.toNatClampNeg) hC dX7_grant_52 ?_
        refine sg_iaddN (pc := 53) (a := 8) (b := 6 * src.toNatClampNeg) hC dX7_grant_53 ?_
        refine sg_aload_n (pc := 54) (v := .ref x) hC dX7_grant_54 rfl rfl ?_
        refine md_get (pc := 55) (i := 12) hC (by decide) tw_1198 dX7_grant_55 hI rfl ?_
        refine sg_iload_n (pc := 58) (x := nI src.toNatClampNeg) hC dX7_grant_58 rfl ?_
        refine md_iald (pc := 59) (i := 12) (j := src.toNatClampNeg) hC dX7_grant_59 hI rfl (by first | omega | exact Nat.lt_of_le_of_lt Nat.and_le_left (by omega) | exact Nat.or_lt_two_pow (n := 16) (by omega) (by omega) | (simp [md_set, va_up]; done) | (simp [md_set, va_up]; omega)) (by decide) (fun hv12 => ?_)
        have hv12 : N 12 src.toNatClampNeg < 65536 := hv12
        show sg_W X M 0 0 60 [some (.ref x), some (.int (nI src.toNatClampNeg)), some (.int (nI slot.toNatClampNeg))] [.int (nI (N 12 src.toNatClampNeg)), .int (nI (8 + (6 * src.toNatClampNeg))), .int (nI slot.toNatClampNeg), .ref x]
        have hW13 := hg src.toNatClampNeg
        refine sg_iaddN (pc := 60) (a := 8 + (6 * src.toNatClampNeg)) (b := N 12 src.toNatClampNeg) hC dX7_grant_60 ?_
        refine sg_callV (pc := 61) (As := [.int (nI slot.toNatClampNeg), .int (nI ((8 + (6 * src.toNatClampNeg)) + (N 12 src.toNatClampNeg)))]) (rest := []) (mc := 0) (ms := 0) hC tw_1329 tw_1331 tw_44 tw_72 tw_1332 yd_X7_copy (by decide) (ci := 10) rfl dX7_grant_61 hI.x rfl (Nat.le_of_ble_eq_true rfl) (Nat.zero_le _) (Nat.zero_le _) ?_
        refine mm_copy htr hI slot.toNatClampNeg ((8 + (6 * src.toNatClampNeg)) + (N 12 src.toNatClampNeg)) (by first | omega | exact Nat.lt_of_le_of_lt Nat.and_le_left (by omega) | exact Nat.or_lt_two_pow (n := 16) (by omega) (by omega) | (simp [md_set, va_up]; done) | (simp [md_set, va_up]; omega)) (by first | omega | exact Nat.lt_of_le_of_lt Nat.and_le_left (by omega) | exact Nat.or_lt_two_pow (n := 16) (by omega) (by omega) | (simp [md_set, va_up]; done) | (simp [md_set, va_up]; omega)) (fun M hI => ?_)
        show sg_W X M 0 0 64 [some (.ref x), some (.int (nI src.toNatClampNeg)), some (.int (nI slot.toNatClampNeg))] []
        have hw9 : ∀ r, (md_copy (md_set N 0 0 0) slot.toNatClampNeg ((8 + (6 * src.toNatClampNeg)) + (N 12 src.toNatClampNeg))) 4 r ≤ 3 := md_copy_lab (fun r9 => hw r9)
        have hg9 : ∀ r, (md_copy (md_set N 0 0 0) slot.toNatClampNeg ((8 + (6 * src.toNatClampNeg)) + (N 12 src.toNatClampNeg))) 12 r ≤ 6 := fun r9 => hg r9
        refine sg_aload_n (pc := 64) (v := .ref x) hC dX7_grant_64 rfl rfl ?_
        refine md_get (pc := 65) (i := 12) hC (by decide) tw_1198 dX7_grant_65 hI rfl ?_
        refine sg_iload_n (pc := 68) (x := nI src.toNatClampNeg) hC dX7_grant_68 rfl ?_
        refine sg_dup2 (pc := 69) hC dX7_grant_69 rfl rfl ?_
        refine md_iald (pc := 70) (i := 12) (j := src.toNatClampNeg) hC dX7_grant_70 hI rfl (by first | omega | exact Nat.lt_of_le_of_lt Nat.and_le_left (by omega) | exact Nat.or_lt_two_pow (n := 16) (by omega) (by omega) | (simp [md_set, va_up]; done) | (simp [md_set, va_up]; omega)) (by decide) (fun hv14 => ?_)
        have hv14 : N 12 src.toNatClampNeg < 65536 := hv14
        show sg_W X M 0 0 71 [some (.ref x), some (.int (nI src.toNatClampNeg)), some (.int (nI slot.toNatClampNeg))] [.int (nI (N 12 src.toNatClampNeg)), .int (nI src.toNatClampNeg), .ref (ad 12)]
        have hW15 := hg src.toNatClampNeg
        refine sg_iconst (pc := 71) (nI 1) hC dX7_grant_71 (by decide) ?_
        refine sg_iaddN (pc := 72) (a := N 12 src.toNatClampNeg) (b := 1) hC dX7_grant_72 ?_
        refine md_iast (pc := 73) (i := 12) (j := src.toNatClampNeg) (v := (N 12 src.toNatClampNeg) + 1) hC dX7_grant_73 hI rfl (by first | omega | exact Nat.lt_of_le_of_lt Nat.and_le_left (by omega) | exact Nat.or_lt_two_pow (n := 16) (by omega) (by omega) | (simp [md_set, va_up]; done) | (simp [md_set, va_up]; omega)) (by decide) (by first | omega | exact Nat.lt_of_le_of_lt Nat.and_le_left (by omega) | exact Nat.or_lt_two_pow (n := 16) (by omega) (by omega) | (simp [md_set, va_up]; done) | (simp [md_set, va_up]; omega)) (fun M hI => ?_)
        refine sg_aload_n (pc := 74) (v := .ref x) hC dX7_grant_74 rfl rfl ?_
        refine md_get (pc := 75) (i := 12) hC (by decide) tw_1198 dX7_grant_75 hI rfl ?_
        refine sg_iload_n (pc := 78) (x := nI src.toNatClampNeg) hC dX7_grant_78 rfl ?_
        refine md_iald (pc := 79) (i := 12) (j := src.toNatClampNeg) hC dX7_grant_79 hI rfl (by first | omega | exact Nat.lt_of_le_of_lt Nat.and_le_left (by omega) | exact Nat.or_lt_two_pow (n := 16) (by omega) (by omega) | (simp [md_set, va_up]; done) | (simp [md_set, va_up]; omega)) (by decide) (fun hv16 => ?_)
        rw [show (md_set (md_copy (md_set N 0 0 0) slot.toNatClampNeg ((8 + (6 * src.toNatClampNeg)) + (N 12 src.toNatClampNeg))) 12 src.toNatClampNeg ((N 12 src.toNatClampNeg) + 1)) 12 src.toNatClampNeg = (N 12 src.toNatClampNeg) + 1 from by simp [md_set, va_up]]
        show sg_W X M 0 0 80 [some (.ref x), some (.int (nI src.toNatClampNeg)), some (.int (nI slot.toNatClampNeg))] [.int (nI ((N 12 src.toNatClampNeg) + 1))]
        have e9 : md_grant N src slot = ((N 12 src.toNatClampNeg) + 1, (md_set (md_copy (md_set N 0 0 0) slot.toNatClampNeg ((8 + (6 * src.toNatClampNeg)) + (N 12 src.toNatClampNeg))) 12 src.toNatClampNeg ((N 12 src.toNatClampNeg) + 1))) := by rw [md_grant]; simp only [if_pos h1, if_pos h4, if_neg h11]
        rw [e9] at hk
        exact sg_ireturn (st := []) (v := nI ((N 12 src.toNatClampNeg) + 1)) (pc := 80) hC hR dX7_grant_80 (hk M hI)
      · refine sg_aload_n (pc := 39) (v := .ref x) hC dX7_grant_39 rfl rfl ?_
        refine sg_iconst (pc := 40) (nI 2) hC dX7_grant_40 (by decide) ?_
        refine sg_callV (pc := 41) (As := [.int (nI 2)]) (rest := []) (mc := 0) (ms := 0) hC tw_1273 tw_1275 tw_33 tw_72 tw_1276 yd_X7_fail (by decide) (ci := 10) rfl dX7_grant_41 hI.x rfl (Nat.le_of_ble_eq_true rfl) (Nat.zero_le _) (Nat.zero_le _) ?_
        refine mm_fail htr hI 2 (by first | omega | exact Nat.lt_of_le_of_lt Nat.and_le_left (by omega) | exact Nat.or_lt_two_pow (n := 16) (by omega) (by omega) | (simp [md_set, va_up]; done) | (simp [md_set, va_up]; omega)) (fun M hI => ?_)
        show sg_W X M 0 0 44 [some (.ref x), some (.int (nI src.toNatClampNeg)), some (.int (nI slot.toNatClampNeg))] [.int (nI ((md_fail (md_set N 0 0 0) 2).1))]
        have e9 : md_grant N src slot = ((md_fail (md_set N 0 0 0) 2).1, (md_fail (md_set N 0 0 0) 2).2) := by rw [md_grant]; simp only [if_pos h1, if_pos h4, if_pos h11]
        rw [e9] at hk
        exact sg_ireturn (st := []) (v := nI ((md_fail (md_set N 0 0 0) 2).1)) (pc := 44) hC hR dX7_grant_44 (hk M hI)
    · refine sg_aload_n (pc := 22) (v := .ref x) hC dX7_grant_22 rfl rfl ?_
      refine sg_iconst (pc := 23) (nI 1) hC dX7_grant_23 (by decide) ?_
      refine sg_callV (pc := 24) (As := [.int (nI 1)]) (rest := []) (mc := 0) (ms := 0) hC tw_1273 tw_1275 tw_33 tw_72 tw_1276 yd_X7_fail (by decide) (ci := 10) rfl dX7_grant_24 hI.x rfl (Nat.le_of_ble_eq_true rfl) (Nat.zero_le _) (Nat.zero_le _) ?_
      refine mm_fail htr hI 1 (by first | omega | exact Nat.lt_of_le_of_lt Nat.and_le_left (by omega) | exact Nat.or_lt_two_pow (n := 16) (by omega) (by omega) | (simp [md_set, va_up]; done) | (simp [md_set, va_up]; omega)) (fun M hI => ?_)
      show sg_W X M 0 0 27 [some (.ref x), some (.int (nI src.toNatClampNeg)), some (.int slot)] [.int (nI ((md_fail (md_set N 0 0 0) 1).1))]
      have e9 : md_grant N src slot = ((md_fail (md_set N 0 0 0) 1).1, (md_fail (md_set N 0 0 0) 1).2) := by rw [md_grant]; simp only [if_pos h1, if_neg (ts9 h4)]
      rw [e9] at hk
      exact sg_ireturn (st := []) (v := nI ((md_fail (md_set N 0 0 0) 1).1)) (pc := 27) hC hR dX7_grant_27 (hk M hI)
