def k_isG1 (g : Nat → RQ) (n : Nat) (t : RQ) : Nat → Bool → Int32 → Nat → Bool
  | 0, _, _, _ => false
  | f + 1, bl, m, i => if n ≤ i then if bl = true then if m = 0 then true else false else false else if (k_incl (g i) t) = true then true else if bl = true then if (k_reach (g i) t) = true then k_isG1 g n t f bl (m &&& (((nI (dp (g i))) ^^^ (((-1)))))) (i + 1) else k_isG1 g n t f bl m (i + 1) else k_isG1 g n t f bl m (i + 1)
theorem k_isG1_s (g : Nat → RQ) (n : Nat) (t : RQ) (f : Nat) (bl : Bool) (m : Int32) (i : Nat) : k_isG1 g n t (f + 1) bl m i = if n ≤ i then if bl = true then if m = 0 then true else false else false else if (k_incl (g i) t) = true then true else if bl = true then if (k_reach (g i) t) = true then k_isG1 g n t f bl (m &&& (((nI (dp (g i))) ^^^ (((-1)))))) (i + 1) else k_isG1 g n t f bl m (i + 1) else k_isG1 g n t f bl m (i + 1) := rfl
set_option maxHeartbeats 400000 in
set_option maxRecDepth 100000 in
theorem c_isG1 {X : sg_X} {l : Launch} {G : sg_G} {d : Nat} {M : sg_M} {kr : Option Value → sg_M → Prop} {kx : String → sg_M → Prop} (htr : l.stackTraces = false) (hC : sg_C X l G cX5_isGranted RX5 6 (d + 7)) (hR : sg_R X yX5_isGranted kr kx (some .boolean)) {a ts la u1 u2 n : Nat} {f0 : Nat → Option Nat} {g : Nat → RQ} {b : Nat} {t : RQ} (hA : M a = some (ts, .inr (8, [.ref la]))) (hL : al_r G u1 u2 M la n f0) (hF : ∀ j, j < n → ∃ p, f0 j = some p ∧ pm_r M p (g j)) (hn : n ≤ 6) (hB : pm_r M b t) : ∀ (f : Nat) (bl : Bool) (m : Int32) (i : Nat) (_ : n - i < f) (hi : i ≤ n) (hk : kr (some (.int (md_b (k_isG1 g n t f bl m i)))) M), sg_W X M 0 0 23 [some (.ref a), some (.ref b), some (.int (md_b bl)), some (.int m), some (.int (nI i)), none] [] := by
  intro f
  induction f with
  | zero =>
    intro bl m i hf
    exact absurd hf (Nat.not_lt_zero _)
  | succ f ih =>
    intro bl m i hf hi hk
    obtain ⟨tB, lB, hB1, hB2, hB3, hB4⟩ := id hB
    have hbB1 := dk_lt t
    have hbB2 := dw_lt hB4
    have hbB3 := hB3.le
    refine sg_iload (pc := 23) (x := nI i) hC dX5_isGranted_23 rfl ?_
    refine sg_aload_n (pc := 25) (v := .ref a) hC dX5_isGranted_25 rfl rfl ?_
    refine sg_get (pc := 26) (a := a) (v := .ref la) 0 hC rfl inw_X5 (by decide) tw_173 dX5_isGranted_26 hA rfl ?_
    obtain ⟨_, _, _, _, _, hx1, -⟩ := id hL
    refine sg_callV (pc := 29) (As := []) (rest := [.int (nI i)]) (mc := 0) (ms := 0) hC tw_969 tw_868 tw_869 tw_69 tw_870 yd_Jx4a65c_size_8abf5 (by decide) (ci := 2) rfl dX5_isGranted_29 hx1 rfl (Nat.le_of_ble_eq_true rfl) (by first | omega | decide) (by first | omega | decide) ?_
    refine c_alSize htr hL ?_
    show sg_W X M 0 0 32 [some (.ref a), some (.ref b), some (.int (md_b bl)), some (.int m), some (.int (nI i)), none] [.int (nI n), .int (nI i)]
    refine sg_icmpN_ge (pc := 32) (a := i) (b := n) 89 hC dX5_isGranted_32 (by decide) (by first | omega | decide) (by first | omega | decide) (fun h2 => ?_) (fun h2 => ?_)
    · refine sg_iload_n (pc := 89) (x := md_b bl) hC dX5_isGranted_89 rfl ?_
      refine sg_ifB_eq (pc := 90) (b := bl) 101 hC dX5_isGranted_90 (by decide) (fun h3 => ?_) (fun h3 => ?_)
      · refine sg_iconst (pc := 101) (nI 0) hC dX5_isGranted_101 (by decide) ?_
        have e9 : k_isG1 g n t (f + 1) bl m i = false := by rw [k_isG1_s]; simp only [if_pos h2, if_neg (ts9 h3)]
        rw [e9] at hk
        exact sg_zreturn (st := []) (v := md_b false) (pc := 102) (ty := .boolean) hC hR (md_narb _) dX5_isGranted_102 hk
      · refine sg_iload_n (pc := 93) (x := m) hC dX5_isGranted_93 rfl ?_
        refine sg_if_ne (pc := 94) (x := m) 101 hC dX5_isGranted_94 (by decide) (fun h4 => ?_) (fun h4 => ?_)
        · refine sg_iconst (pc := 101) (nI 0) hC dX5_isGranted_101 (by decide) ?_
          have e9 : k_isG1 g n t (f + 1) bl m i = false := by rw [k_isG1_s]; simp only [if_pos h2, if_pos h3, if_neg h4]
          rw [e9] at hk
          exact sg_zreturn (st := []) (v := md_b false) (pc := 102) (ty := .boolean) hC hR (md_narb _) dX5_isGranted_102 hk
        · refine sg_iconst (pc := 97) (nI 1) hC dX5_isGranted_97 (by decide) ?_
          refine sg_goto (pc := 98) 102 hC dX5_isGranted_98 (by decide) ?_
          have e9 : k_isG1 g n t (f + 1) bl m i = true := by rw [k_isG1_s]; simp only [if_pos h2, if_pos h3, if_pos h4]
          rw [e9] at hk
          exact sg_zreturn (st := []) (v := md_b true) (pc := 102) (ty := .boolean) hC hR (md_narb _) dX5_isGranted_102 hk
    · refine sg_aload_n (pc := 35) (v := .ref a) hC dX5_isGranted_35 rfl rfl ?_
      refine sg_get (pc := 36) (a := a) (v := .ref la) 0 hC rfl inw_X5 (by decide) tw_173 dX5_isGranted_36 hA rfl ?_
      refine sg_iload (pc := 39) (x := nI i) hC dX5_isGranted_39 rfl ?_
      obtain ⟨_, _, _, _, _, hx5, -⟩ := id hL
      refine sg_callV (pc := 41) (As := [.int (nI i)]) (rest := []) (mc := 0) (ms := 0) hC tw_970 tw_971 tw_972 tw_69 tw_973 yd_Jx4a65c_get_915e3 (by decide) (ci := 2) rfl dX5_isGranted_41 hx5 rfl (Nat.le_of_ble_eq_true rfl) (by first | omega | decide) (by first | omega | decide) ?_
      obtain ⟨q6, hq7, hp8⟩ := hF i (by first | omega | decide)
      refine c_alGet htr hL (by first | omega | decide) hq7 ?_
      show sg_W X M 0 0 44 [some (.ref a), some (.ref b), some (.int (md_b bl)), some (.int m), some (.int (nI i)), none] [.ref q6]
      obtain ⟨_, hx9⟩ := hp8.x
      refine sg_castC (pc := 44) (ci := 6) hC rfl (by simp [sg_wk]) tw_978 dX5_isGranted_44 hx9 ?_
      refine sg_astore (pc := 47) (v := .ref q6) hC dX5_isGranted_47 (by decide) rfl ?_
      show sg_W X M 0 0 49 [some (.ref a), some (.ref b), some (.int (md_b bl)), some (.int m), some (.int (nI i)), some (.ref q6)] []
      refine sg_aload (pc := 49) (v := .ref q6) hC dX5_isGranted_49 rfl rfl ?_
      refine sg_aload_n (pc := 51) (v := .ref b) hC dX5_isGranted_51 rfl rfl ?_
      obtain ⟨_, hx10⟩ := hp8.x
      refine sg_callV (pc := 52) (As := [.ref b]) (rest := []) (mc := 0) (ms := 0) hC tw_979 tw_838 tw_839 tw_87 tw_840 yd_X3_includes (by decide) (ci := 6) rfl dX5_isGranted_52 hx10 rfl (Nat.le_of_ble_eq_true rfl) (by first | omega | decide) (by first | omega | decide) ?_
      refine c_incl htr hp8 hB ?_
      show sg_W X M 0 0 55 [some (.ref a), some (.ref b), some (.int (md_b bl)), some (.int m), some (.int (nI i)), some (.ref q6)] [.int (md_b ((k_incl (g i) t)))]
      refine sg_ifB_eq (pc := 55) (b := (k_incl (g i) t)) 60 hC dX5_isGranted_55 (by decide) (fun h11 => ?_) (fun h11 => ?_)
      · refine sg_iload_n (pc := 60) (x := md_b bl) hC dX5_isGranted_60 rfl ?_
        refine sg_ifB_eq (pc := 61) (b := bl) 83 hC dX5_isGranted_61 (by decide) (fun h12 => ?_) (fun h12 => ?_)
        · refine sg_iincN (pc := 83) (a := i) (b := i + 1) hC dX5_isGranted_83 rfl (nI_1 _) (by decide) ?_
          show sg_W X M 0 0 86 [some (.ref a), some (.ref b), some (.int (md_b bl)), some (.int m), some (.int (nI (i + 1))), some (.ref q6)] []
          refine sg_goto (pc := 86) 23 hC dX5_isGranted_86 (by decide) ?_
          have e9 : k_isG1 g n t (f + 1) bl m i = k_isG1 g n t f bl m (i + 1) := by rw [k_isG1_s]; simp only [if_neg (Nat.not_le.mpr h2), if_neg (ts9 h11), if_neg (ts9 h12)]
          rw [e9] at hk
          refine sg_loc (L' := [some (.ref a), some (.ref b), some (.int (md_b bl)), some (.int m), some (.int (nI ((i + 1)))), none]) ⟨rfl, ⟨rfl, ⟨rfl, ⟨rfl, ⟨rfl, trivial⟩⟩⟩⟩⟩ ?_
          exact ih bl m (i + 1) (by first | omega | decide) (by first | omega | decide) hk
        · refine sg_aload (pc := 64) (v := .ref q6) hC dX5_isGranted_64 rfl rfl ?_
          refine sg_aload_n (pc := 66) (v := .ref b) hC dX5_isGranted_66 rfl rfl ?_
          obtain ⟨_, hx13⟩ := hp8.x
          refine sg_callV (pc := 67) (As := [.ref b]) (rest := []) (mc := 0) (ms := 0) hC tw_980 tw_842 tw_843 tw_87 tw_844 yd_X3_reaches (by decide) (ci := 6) rfl dX5_isGranted_67 hx13 rfl (Nat.le_of_ble_eq_true rfl) (by first | omega | decide) (by first | omega | decide) ?_
          refine c_reach htr hp8 hB ?_
          show sg_W X M 0 0 70 [some (.ref a), some (.ref b), some (.int (md_b bl)), some (.int m), some (.int (nI i)), some (.ref q6)] [.int (md_b ((k_reach (g i) t)))]
          refine sg_ifB_eq (pc := 70) (b := (k_reach (g i) t)) 83 hC dX5_isGranted_70 (by decide) (fun h14 => ?_) (fun h14 => ?_)
          · refine sg_iincN (pc := 83) (a := i) (b := i + 1) hC dX5_isGranted_83 rfl (nI_1 _) (by decide) ?_
            show sg_W X M 0 0 86 [some (.ref a), some (.ref b), some (.int (md_b bl)), some (.int m), some (.int (nI (i + 1))), some (.ref q6)] []
            refine sg_goto (pc := 86) 23 hC dX5_isGranted_86 (by decide) ?_
            have e9 : k_isG1 g n t (f + 1) bl m i = k_isG1 g n t f bl m (i + 1) := by rw [k_isG1_s]; simp only [if_neg (Nat.not_le.mpr h2), if_neg (ts9 h11), if_pos h12, if_neg (ts9 h14)]
            rw [e9] at hk
            refine sg_loc (L' := [some (.ref a), some (.ref b), some (.int (md_b bl)), some (.int m), some (.int (nI ((i + 1)))), none]) ⟨rfl, ⟨rfl, ⟨rfl, ⟨rfl, ⟨rfl, trivial⟩⟩⟩⟩⟩ ?_
            exact ih bl m (i + 1) (by first | omega | decide) (by first | omega | decide) hk
          · refine sg_iload_n (pc := 73) (x := m) hC dX5_isGranted_73 rfl ?_
            refine sg_aload (pc := 74) (v := .ref q6) hC dX5_isGranted_74 rfl rfl ?_
            obtain ⟨t15, l16, hc17, -, -, -⟩ := id hp8
            refine sg_get (pc := 76) (a := q6) (v := .int (nI (dp (g i)))) 2 hC rfl inw_X3 (by decide) tw_803 dX5_isGranted_76 hc17 rfl ?_
            refine sg_iconst (pc := 79) (((-1))) hC dX5_isGranted_79 (by decide) ?_
            refine sg_ixor (pc := 80) (x := nI (dp (g i))) (y := ((-1))) hC dX5_isGranted_80 ?_
            refine sg_iand (pc := 81) (x := m) (y := ((nI (dp (g i))) ^^^ (((-1))))) hC dX5_isGranted_81 ?_
            refine sg_istore_n (pc := 82) (x := (m &&& (((nI (dp (g i))) ^^^ (((-1))))))) hC dX5_isGranted_82 (by decide) ?_
            show sg_W X M 0 0 83 [some (.ref a), some (.ref b), some (.int (md_b bl)), some (.int (m &&& (((nI (dp (g i))) ^^^ (((-1))))))), some (.int (nI i)), some (.ref q6)] []
            refine sg_iincN (pc := 83) (a := i) (b := i + 1) hC dX5_isGranted_83 rfl (nI_1 _) (by decide) ?_
            show sg_W X M 0 0 86 [some (.ref a), some (.ref b), some (.int (md_b bl)), some (.int (m &&& (((nI (dp (g i))) ^^^ (((-1))))))), some (.int (nI (i + 1))), some (.ref q6)] []
            refine sg_goto (pc := 86) 23 hC dX5_isGranted_86 (by decide) ?_
            have e9 : k_isG1 g n t (f + 1) bl m i = k_isG1 g n t f bl (m &&& (((nI (dp (g i))) ^^^ (((-1)))))) (i + 1) := by rw [k_isG1_s]; simp only [if_neg (Nat.not_le.mpr h2), if_neg (ts9 h11), if_pos h12, if_pos h14]
            rw [e9] at hk
            refine sg_loc (L' := [some (.ref a), some (.ref b), some (.int (md_b bl)), some (.int ((m &&& (((nI (dp (g i))) ^^^ (((-1)))))))), some (.int (nI ((i + 1)))), none]) ⟨rfl, ⟨rfl, ⟨rfl, ⟨rfl, ⟨rfl, trivial⟩⟩⟩⟩⟩ ?_
            exact ih bl (m &&& (((nI (dp (g i))) ^^^ (((-1)))))) (i + 1) (by first | omega | decide) (by first | omega | decide) hk
      · refine sg_iconst (pc := 58) (nI 1) hC dX5_isGranted_58 (by decide) ?_
        have e9 : k_isG1 g n t (f + 1) bl m i = true := by rw [k_isG1_s]; simp only [if_neg (Nat.not_le.mpr h2), if_pos h11]
        rw [e9] at hk
        exact sg_zreturn (st := []) (v := md_b true) (pc := 59) (ty := .boolean) hC hR (md_narb _) dX5_isGranted_59 hk

def k_isG (g : Nat → RQ) (n : Nat) (t : RQ) : Bool := if dk t = 102 then k_isG1 g n t (n + 1) true (nI (dp t)) 0 else k_isG1 g n t (n + 1) false (nI (dp t)) 0
set_option maxHeartbeats 400000 in
set_option maxRecDepth 100000 in
theorem c_isG {l : Launch} {G : sg_G} {d : Nat} {M : sg_M} {kr : Option Value → sg_M → Prop} {kx : String → sg_M → Prop} (htr : l.stackTraces = false) {a ts la u1 u2 n : Nat} {f0 : Nat → Option Nat} {g : Nat → RQ} {b : Nat} {t : RQ} (hA : M a = some (ts, .inr (8, [.ref la]))) (hL : al_r G u1 u2 M la n f0) (hF : ∀ j, j < n → ∃ p, f0 j = some p ∧ pm_r M p (g j)) (hn : n ≤ 6) (hB : pm_r M b t) (hk : kr (some (.int (md_b (k_isG g n t)))) M) : sg_Met l G yX5_isGranted cX5_isGranted 6 (some .boolean) (d + 7) 0 0 [.ref a, .ref b] M kr kx := by
  refine sg_enter [some (.ref a), some (.ref b), none, none, none, none] (by decide) htr (Nat.le_of_ble_eq_true rfl) rfl ?_
  intro X hC hR
  have hC : sg_C X l G cX5_isGranted RX5 6 (d + 7) := hC
  obtain ⟨tB, lB, hB1, hB2, hB3, hB4⟩ := id hB
  have hbB1 := dk_lt t
  have hbB2 := dw_lt hB4
  have hbB3 := hB3.le
  refine sg_aload_n (pc := 0) (v := .ref b) hC dX5_isGranted_0 rfl rfl ?_
  refine sg_get (pc := 1) (a := b) (v := .int (nI (dk t))) 0 hC rfl inw_X3 (by decide) tw_799 dX5_isGranted_1 hB1 rfl ?_
  refine sg_bipush (pc := 4) (nI 102) hC dX5_isGranted_4 (by decide) ?_
  refine sg_icmpN_ne (pc := 6) (a := dk t) (b := 102) 13 hC dX5_isGranted_6 (by decide) (by first | omega | decide) (by first | omega | decide) (fun h1 => ?_) (fun h1 => ?_)
  · refine sg_iconst (pc := 13) (nI 0) hC dX5_isGranted_13 (by decide) ?_
    refine sg_istore_n (pc := 14) (x := nI 0) hC dX5_isGranted_14 (by decide) ?_
    show sg_W X M 0 0 15 [some (.ref a), some (.ref b), some (.int (nI 0)), none, none, none] []
    refine sg_aload_n (pc := 15) (v := .ref b) hC dX5_isGranted_15 rfl rfl ?_
    refine sg_get (pc := 16) (a := b) (v := .int (nI (dp t))) 2 hC rfl inw_X3 (by decide) tw_803 dX5_isGranted_16 hB1 rfl ?_
    refine sg_istore_n (pc := 19) (x := nI (dp t)) hC dX5_isGranted_19 (by decide) ?_
    show sg_W X M 0 0 20 [some (.ref a), some (.ref b), some (.int (nI 0)), some (.int (nI (dp t))), none, none] []
    refine sg_iconst (pc := 20) (nI 0) hC dX5_isGranted_20 (by decide) ?_
    refine sg_istore (pc := 21) (x := nI 0) hC dX5_isGranted_21 (by decide) ?_
    show sg_W X M 0 0 23 [some (.ref a), some (.ref b), some (.int (nI 0)), some (.int (nI (dp t))), some (.int (nI 0)), none] []
    have e9 : k_isG g n t = k_isG1 g n t (n + 1) false (nI (dp t)) 0 := by rw [k_isG]; simp only [if_neg h1]
    rw [e9] at hk
    refine sg_loc (L' := [some (.ref a), some (.ref b), some (.int (md_b false)), some (.int ((nI (dp t)))), some (.int (nI 0)), none]) ⟨rfl, ⟨rfl, ⟨rfl, ⟨rfl, ⟨rfl, trivial⟩⟩⟩⟩⟩ ?_
    exact c_isG1 htr hC hR hA hL hF hn hB (n + 1) false (nI (dp t)) 0 (by first | omega | decide) (by first | omega | decide) hk
  · refine sg_iconst (pc := 9) (nI 1) hC dX5_isGranted_9 (by decide) ?_
    refine sg_goto (pc := 10) 14 hC dX5_isGranted_10 (by decide) ?_
    refine sg_istore_n (pc := 14) (x := nI 1) hC dX5_isGranted_14 (by decide) ?_
    show sg_W X M 0 0 15 [some (.ref a), some (.ref b), some (.int (nI 1)), none, none, none] []
    refine sg_aload_n (pc := 15) (v := .ref b) hC dX5_isGranted_15 rfl rfl ?_
    refine sg_get (pc := 16) (a := b) (v := .int (nI (dp t))) 2 hC rfl inw_X3 (by decide) tw_803 dX5_isGranted_16 hB1 rfl ?_
    refine sg_istore_n (pc := 19) (x := nI (dp t)) hC dX5_isGranted_19 (by decide) ?_
    show sg_W X M 0 0 20 [some (.ref a), some (.ref b), some (.int (nI 1)), some (.int (nI (dp t))), none, none] []
    refine sg_iconst (pc := 20) (nI 0) hC dX5_isGranted_20 (by decide) ?_
    refine sg_istore (pc := 21) (x := nI 0) hC dX5_isGranted_21 (by decide) ?_
    show sg_W X M 0 0 23 [some (.ref a), some (.ref b), some (.int (nI 1)), some (.int (nI (dp t))), some (.int (nI 0)), none] []
    have e9 : k_isG g n t = k_isG1 g n t (n + 1) true (nI (dp t)) 0 := by rw [k_isG]; simp only [if_pos h1]
    rw [e9] at hk
    refine sg_loc (L' := [some (.ref a), some (.ref b), some (.int (md_b true)), some (.int ((nI (dp t)))), some (.int (nI 0)), none]) ⟨rfl, ⟨rfl, ⟨rfl, ⟨rfl, ⟨rfl, trivial⟩⟩⟩⟩⟩ ?_
    exact c_isG1 htr hC hR hA hL hF hn hB (n + 1) true (nI (dp t)) 0 (by first | omega | decide) (by first | omega | decide) hk

def k_ano1 (g : Nat → RQ) (n : Nat) (ix : Nat) : Nat → Nat → Bool
  | 0, _ => false
  | f + 1, i => if n ≤ i then false else if i = ix then k_ano1 g n ix f (i + 1) else if (k_incl (g i) (g ix)) = true then true else k_ano1 g n ix f (i + 1)
theorem k_ano1_s (g : Nat → RQ) (n : Nat) (ix : Nat) (f : Nat) (i : Nat) : k_ano1 g n ix (f + 1) i = if n ≤ i then false else if i = ix then k_ano1 g n ix f (i + 1) else if (k_incl (g i) (g ix)) = true then true else k_ano1 g n ix f (i + 1) := rfl
set_option maxHeartbeats 400000 in
set_option maxRecDepth 100000 in
theorem c_ano1 {X : sg_X} {l : Launch} {G : sg_G} {d : Nat} {M : sg_M} {kr : Option Value → sg_M → Prop} {kx : String → sg_M → Prop} (htr : l.stackTraces = false) (hC : sg_C X l G cX5_anotherIncludes RX5 3 (d + 7)) (hR : sg_R X yX5_anotherIncludes kr kx (some .boolean)) {a ts la u1 u2 n : Nat} {f0 : Nat → Option Nat} {g : Nat → RQ} {ix : Nat} (hA : M a = some (ts, .inr (8, [.ref la]))) (hL : al_r G u1 u2 M la n f0) (hF : ∀ j, j < n → ∃ p, f0 j = some p ∧ pm_r M p (g j)) (hn : n ≤ 6) (hx : ix < n) : ∀ (f : Nat) (i : Nat) (_ : n - i < f) (hi : i ≤ n) (hk : kr (some (.int (md_b (k_ano1 g n ix f i)))) M), sg_W X M 0 0 2 [some (.ref a), some (.int (nI ix)), some (.int (nI i))] [] := by
  intro f
  induction f with
  | zero =>
    intro i hf
    exact absurd hf (Nat.not_lt_zero _)
  | succ f ih =>
    intro i hf hi hk
    refine sg_iload_n (pc := 2) (x := nI i) hC dX5_anotherIncludes_2 rfl ?_
    refine sg_aload_n (pc := 3) (v := .ref a) hC dX5_anotherIncludes_3 rfl rfl ?_
    refine sg_get (pc := 4) (a := a) (v := .ref la) 0 hC rfl inw_X5 (by decide) tw_173 dX5_anotherIncludes_4 hA rfl ?_
    obtain ⟨_, _, _, _, _, hx1, -⟩ := id hL
    refine sg_callV (pc := 7) (As := []) (rest := [.int (nI i)]) (mc := 0) (ms := 0) hC tw_969 tw_868 tw_869 tw_69 tw_870 yd_Jx4a65c_size_8abf5 (by decide) (ci := 2) rfl dX5_anotherIncludes_7 hx1 rfl (Nat.le_of_ble_eq_true rfl) (by first | omega | decide) (by first | omega | decide) ?_
    refine c_alSize htr hL ?_
    show sg_W X M 0 0 10 [some (.ref a), some (.int (nI ix)), some (.int (nI i))] [.int (nI n), .int (nI i)]
    refine sg_icmpN_ge (pc := 10) (a := i) (b := n) 54 hC dX5_anotherIncludes_10 (by decide) (by first | omega | decide) (by first | omega | decide) (fun h2 => ?_) (fun h2 => ?_)
    · refine sg_iconst (pc := 54) (nI 0) hC dX5_anotherIncludes_54 (by decide) ?_
      have e9 : k_ano1 g n ix (f + 1) i = false := by rw [k_ano1_s]; simp only [if_pos h2]
      rw [e9] at hk
      exact sg_zreturn (st := []) (v := md_b false) (pc := 55) (ty := .boolean) hC hR (md_narb _) dX5_anotherIncludes_55 hk
    · refine sg_iload_n (pc := 13) (x := nI i) hC dX5_anotherIncludes_13 rfl ?_
      refine sg_iload_n (pc := 14) (x := nI ix) hC dX5_anotherIncludes_14 rfl ?_
      refine sg_icmpN_eq (pc := 15) (a := i) (b := ix) 48 hC dX5_anotherIncludes_15 (by decide) (by first | omega | decide) (by first | omega | decide) (fun h3 => ?_) (fun h3 => ?_)
      · refine sg_iincN (pc := 48) (a := i) (b := i + 1) hC dX5_anotherIncludes_48 rfl (nI_1 _) (by decide) ?_
        show sg_W X M 0 0 51 [some (.ref a), some (.int (nI ix)), some (.int (nI (i + 1)))] []
        refine sg_goto (pc := 51) 2 hC dX5_anotherIncludes_51 (by decide) ?_
        have e9 : k_ano1 g n ix (f + 1) i = k_ano1 g n ix f (i + 1) := by rw [k_ano1_s]; simp only [if_neg (Nat.not_le.mpr h2), if_pos h3]
        rw [e9] at hk
        refine sg_loc (L' := [some (.ref a), some (.int (nI ix)), some (.int (nI ((i + 1))))]) ⟨rfl, ⟨rfl, ⟨rfl, trivial⟩⟩⟩ ?_
        exact ih (i + 1) (by first | omega | decide) (by first | omega | decide) hk
      · refine sg_aload_n (pc := 18) (v := .ref a) hC dX5_anotherIncludes_18 rfl rfl ?_
        refine sg_get (pc := 19) (a := a) (v := .ref la) 0 hC rfl inw_X5 (by decide) tw_173 dX5_anotherIncludes_19 hA rfl ?_
        refine sg_iload_n (pc := 22) (x := nI i) hC dX5_anotherIncludes_22 rfl ?_
        obtain ⟨_, _, _, _, _, hx4, -⟩ := id hL
        refine sg_callV (pc := 23) (As := [.int (nI i)]) (rest := []) (mc := 0) (ms := 0) hC tw_970 tw_971 tw_972 tw_69 tw_973 yd_Jx4a65c_get_915e3 (by decide) (ci := 2) rfl dX5_anotherIncludes_23 hx4 rfl (Nat.le_of_ble_eq_true rfl) (by first | omega | decide) (by first | omega | decide) ?_
        obtain ⟨q5, hq6, hp7⟩ := hF i (by first | omega | decide)
        refine c_alGet htr hL (by first | omega | decide) hq6 ?_
        show sg_W X M 0 0 26 [some (.ref a), some (.int (nI ix)), some (.int (nI i))] [.ref q5]
        obtain ⟨_, hx8⟩ := hp7.x
        refine sg_castC (pc := 26) (ci := 6) hC rfl (by simp [sg_wk]) tw_978 dX5_anotherIncludes_26 hx8 ?_
        refine sg_aload_n (pc := 29) (v := .ref a) hC dX5_anotherIncludes_29 rfl rfl ?_
        refine sg_get (pc := 30) (a := a) (v := .ref la) 0 hC rfl inw_X5 (by decide) tw_173 dX5_anotherIncludes_30 hA rfl ?_
        refine sg_iload_n (pc := 33) (x := nI ix) hC dX5_anotherIncludes_33 rfl ?_
        obtain ⟨_, _, _, _, _, hx9, -⟩ := id hL
        refine sg_callV (pc := 34) (As := [.int (nI ix)]) (rest := [.ref q5]) (mc := 0) (ms := 0) hC tw_970 tw_971 tw_972 tw_69 tw_973 yd_Jx4a65c_get_915e3 (by decide) (ci := 2) rfl dX5_anotherIncludes_34 hx9 rfl (Nat.le_of_ble_eq_true rfl) (by first | omega | decide) (by first | omega | decide) ?_
        obtain ⟨q10, hq11, hp12⟩ := hF ix (by first | omega | decide)
        refine c_alGet htr hL (by first | omega | decide) hq11 ?_
        show sg_W X M 0 0 37 [some (.ref a), some (.int (nI ix)), some (.int (nI i))] [.ref q10, .ref q5]
        obtain ⟨_, hx13⟩ := hp12.x
        refine sg_castC (pc := 37) (ci := 6) hC rfl (by simp [sg_wk]) tw_978 dX5_anotherIncludes_37 hx13 ?_
        obtain ⟨_, hx14⟩ := hp7.x
        refine sg_callV (pc := 40) (As := [.ref q10]) (rest := []) (mc := 0) (ms := 0) hC tw_979 tw_838 tw_839 tw_87 tw_840 yd_X3_includes (by decide) (ci := 6) rfl dX5_anotherIncludes_40 hx14 rfl (Nat.le_of_ble_eq_true rfl) (by first | omega | decide) (by first | omega | decide) ?_
        refine c_incl htr hp7 hp12 ?_
        show sg_W X M 0 0 43 [some (.ref a), some (.int (nI ix)), some (.int (nI i))] [.int (md_b ((k_incl (g i) (g ix))))]
        refine sg_ifB_eq (pc := 43) (b := (k_incl (g i) (g ix))) 48 hC dX5_anotherIncludes_43 (by decide) (fun h15 => ?_) (fun h15 => ?_)
        · refine sg_iincN (pc := 48) (a := i) (b := i + 1) hC dX5_anotherIncludes_48 rfl (nI_1 _) (by decide) ?_
          show sg_W X M 0 0 51 [some (.ref a), some (.int (nI ix)), some (.int (nI (i + 1)))] []
          refine sg_goto (pc := 51) 2 hC dX5_anotherIncludes_51 (by decide) ?_
          have e9 : k_ano1 g n ix (f + 1) i = k_ano1 g n ix f (i + 1) := by rw [k_ano1_s]; simp only [if_neg (Nat.not_le.mpr h2), if_neg h3, if_neg (ts9 h15)]
          rw [e9] at hk
          refine sg_loc (L' := [some (.ref a), some (.int (nI ix)), some (.int (nI ((i + 1))))]) ⟨rfl, ⟨rfl, ⟨rfl, trivial⟩⟩⟩ ?_
          exact ih (i + 1) (by first | omega | decide) (by first | omega | decide) hk
        · refine sg_iconst (pc := 46) (nI 1) hC dX5_anotherIncludes_46 (by decide) ?_
          have e9 : k_ano1 g n ix (f + 1) i = true := by rw [k_ano1_s]; simp only [if_neg (Nat.not_le.mpr h2), if_neg h3, if_pos h15]
          rw [e9] at hk
          exact sg_zreturn (st := []) (v := md_b true) (pc := 47) (ty := .boolean) hC hR (md_narb _) dX5_anotherIncludes_47 hk

def k_ano (g : Nat → RQ) (n : Nat) (ix : Nat) : Bool := k_ano1 g n ix (n + 1) 0
set_option maxHeartbeats 400000 in
set_option maxRecDepth 100000 in
theorem c_ano {l : Launch} {G : sg_G} {d : Nat} {M : sg_M} {kr : Option Value → sg_M → Prop} {kx : String → sg_M → Prop} (htr : l.stackTraces = false) {a ts la u1 u2 n : Nat} {f0 : Nat → Option Nat} {g : Nat → RQ} {ix : Nat} (hA : M a = some (ts, .inr (8, [.ref la]))) (hL : al_r G u1 u2 M la n f0) (hF : ∀ j, j < n → ∃ p, f0 j = some p ∧ pm_r M p (g j)) (hn : n ≤ 6) (hx : ix < n) (hk : kr (some (.int (md_b (k_ano g n ix)))) M) : sg_Met l G yX5_anotherIncludes cX5_anotherIncludes 3 (some .boolean) (d + 7) 0 0 [.ref a, .int (nI ix)] M kr kx := by
  refine sg_enter [some (.ref a), some (.int (nI ix)), none] (by decide) htr (Nat.le_of_ble_eq_true rfl) rfl ?_
  intro X hC hR
  have hC : sg_C X l G cX5_anotherIncludes RX5 3 (d + 7) := hC
  refine sg_iconst (pc := 0) (nI 0) hC dX5_anotherIncludes_0 (by decide) ?_
  refine sg_istore_n (pc := 1) (x := nI 0) hC dX5_anotherIncludes_1 (by decide) ?_
  show sg_W X M 0 0 2 [some (.ref a), some (.int (nI ix)), some (.int (nI 0))] []
  have e9 : k_ano g n ix = k_ano1 g n ix (n + 1) 0 := by rw [k_ano]
  rw [e9] at hk
  refine sg_loc (L' := [some (.ref a), some (.int (nI ix)), some (.int (nI 0))]) ⟨rfl, ⟨rfl, ⟨rfl, trivial⟩⟩⟩ ?_
  exact c_ano1 htr hC hR hA hL hF hn hx (n + 1) 0 (by first | omega | decide) (by first | omega | decide) hk

def k_idl1 (g : Nat → RQ) (n : Nat) : Nat → Nat → Nat → UInt32
  | 0, _, _ => 0
  | f + 1, c, i => if n ≤ i then FP.fdiv (FP.i2f (nI c)) (FP.i2f (nI n)) else if (k_ano g n i) = true then k_idl1 g n f (c + 1) (i + 1) else k_idl1 g n f c (i + 1)
theorem k_idl1_s (g : Nat → RQ) (n : Nat) (f : Nat) (c : Nat) (i : Nat) : k_idl1 g n (f + 1) c i = if n ≤ i then FP.fdiv (FP.i2f (nI c)) (FP.i2f (nI n)) else if (k_ano g n i) = true then k_idl1 g n f (c + 1) (i + 1) else k_idl1 g n f c (i + 1) := rfl
set_option maxHeartbeats 400000 in
set_option maxRecDepth 100000 in
theorem c_idl1 {X : sg_X} {l : Launch} {G : sg_G} {d : Nat} {M : sg_M} {kr : Option Value → sg_M → Prop} {kx : String → sg_M → Prop} (htr : l.stackTraces = false) (hC : sg_C X l G cX5_idlePart RX5 3 (d + 8)) (hR : sg_R X yX5_idlePart kr kx (some .float)) {a ts la u1 u2 n : Nat} {f0 : Nat → Option Nat} {g : Nat → RQ}  (hA : M a = some (ts, .inr (8, [.ref la]))) (hL : al_r G u1 u2 M la n f0) (hF : ∀ j, j < n → ∃ p, f0 j = some p ∧ pm_r M p (g j)) (hn : n ≤ 6) (hn0 : 0 < n) : ∀ (f : Nat) (c : Nat) (i : Nat) (_ : n - i < f) (hi : i ≤ n) (hc : c ≤ i) (hk : kr (some (.float (k_idl1 g n f c i))) M), sg_W X M 0 0 16 [some (.ref a), some (.int (nI c)), some (.int (nI i))] [] := by
  intro f
  induction f with
  | zero =>
    intro c i hf
    exact absurd hf (Nat.not_lt_zero _)
  | succ f ih =>
    intro c i hf hi hc hk
    refine sg_iload_n (pc := 16) (x := nI i) hC dX5_idlePart_16 rfl ?_
    refine sg_aload_n (pc := 17) (v := .ref a) hC dX5_idlePart_17 rfl rfl ?_
    refine sg_get (pc := 18) (a := a) (v := .ref la) 0 hC rfl inw_X5 (by decide) tw_173 dX5_idlePart_18 hA rfl ?_
    obtain ⟨_, _, _, _, _, hx1, -⟩ := id hL
    refine sg_callV (pc := 21) (As := []) (rest := [.int (nI i)]) (mc := 0) (ms := 0) hC tw_969 tw_868 tw_869 tw_69 tw_870 yd_Jx4a65c_size_8abf5 (by decide) (ci := 2) rfl dX5_idlePart_21 hx1 rfl (Nat.le_of_ble_eq_true rfl) (by first | omega | decide) (by first | omega | decide) ?_
    refine c_alSize htr hL ?_
    show sg_W X M 0 0 24 [some (.ref a), some (.int (nI c)), some (.int (nI i))] [.int (nI n), .int (nI i)]
    refine sg_icmpN_ge (pc := 24) (a := i) (b := n) 44 hC dX5_idlePart_24 (by decide) (by first | omega | decide) (by first | omega | decide) (fun h2 => ?_) (fun h2 => ?_)
    · refine sg_iload_n (pc := 44) (x := nI c) hC dX5_idlePart_44 rfl ?_
      refine sg_i2f (pc := 45) (x := nI c) hC dX5_idlePart_45 ?_
      refine sg_aload_n (pc := 46) (v := .ref a) hC dX5_idlePart_46 rfl rfl ?_
      refine sg_get (pc := 47) (a := a) (v := .ref la) 0 hC rfl inw_X5 (by decide) tw_173 dX5_idlePart_47 hA rfl ?_
      obtain ⟨_, _, _, _, _, hx3, -⟩ := id hL
      refine sg_callV (pc := 50) (As := []) (rest := [.float (FP.i2f (nI c))]) (mc := 0) (ms := 0) hC tw_969 tw_868 tw_869 tw_69 tw_870 yd_Jx4a65c_size_8abf5 (by decide) (ci := 2) rfl dX5_idlePart_50 hx3 rfl (Nat.le_of_ble_eq_true rfl) (by first | omega | decide) (by first | omega | decide) ?_
      refine c_alSize htr hL ?_
      show sg_W X M 0 0 53 [some (.ref a), some (.int (nI c)), some (.int (nI i))] [.int (nI n), .float (FP.i2f (nI c))]
      refine sg_i2f (pc := 53) (x := nI n) hC dX5_idlePart_53 ?_
      refine sg_fdiv (pc := 54) (x := FP.i2f (nI c)) (y := FP.i2f (nI n)) hC dX5_idlePart_54 (md_fdivok (by omega) (by omega) (by omega)) ?_
      have e9 : k_idl1 g n (f + 1) c i = FP.fdiv (FP.i2f (nI c)) (FP.i2f (nI n)) := by rw [k_idl1_s]; simp only [if_pos h2]
      rw [e9] at hk
      exact sg_freturn (st := []) (v := FP.fdiv (FP.i2f (nI c)) (FP.i2f (nI n))) (pc := 55) hC hR dX5_idlePart_55 hk
    · refine sg_aload_n (pc := 27) (v := .ref a) hC dX5_idlePart_27 rfl rfl ?_
      refine sg_iload_n (pc := 28) (x := nI i) hC dX5_idlePart_28 rfl ?_
      refine sg_callV (pc := 29) (As := [.int (nI i)]) (rest := []) (mc := 0) (ms := 0) hC tw_1176 tw_1178 tw_32 tw_70 tw_1179 yd_X5_anotherIncludes (by decide) (ci := 8) rfl dX5_idlePart_29 hA rfl (Nat.le_of_ble_eq_true rfl) (by first | omega | decide) (by first | omega | decide) ?_
      refine c_ano (f0 := f0) (g := g) htr hA hL hF hn (by first | omega | decide) ?_
      show sg_W X M 0 0 32 [some (.ref a), some (.int (nI c)), some (.int (nI i))] [.int (md_b ((k_ano g n i)))]
      refine sg_ifB_eq (pc := 32) (b := (k_ano g n i)) 38 hC dX5_idlePart_32 (by decide) (fun h4 => ?_) (fun h4 => ?_)
      · refine sg_iincN (pc := 38) (a := i) (b := i + 1) hC dX5_idlePart_38 rfl (nI_1 _) (by decide) ?_
        show sg_W X M 0 0 41 [some (.ref a), some (.int (nI c)), some (.int (nI (i + 1)))] []
        refine sg_goto (pc := 41) 16 hC dX5_idlePart_41 (by decide) ?_
        have e9 : k_idl1 g n (f + 1) c i = k_idl1 g n f c (i + 1) := by rw [k_idl1_s]; simp only [if_neg (Nat.not_le.mpr h2), if_neg (ts9 h4)]
        rw [e9] at hk
        refine sg_loc (L' := [some (.ref a), some (.int (nI c)), some (.int (nI ((i + 1))))]) ⟨rfl, ⟨rfl, ⟨rfl, trivial⟩⟩⟩ ?_
        exact ih c (i + 1) (by first | omega | decide) (by first | omega | decide) (by first | omega | decide) hk
      · refine sg_iincN (pc := 35) (a := c) (b := c + 1) hC dX5_idlePart_35 rfl (nI_1 _) (by decide) ?_
        show sg_W X M 0 0 38 [some (.ref a), some (.int (nI (c + 1))), some (.int (nI i))] []
        refine sg_iincN (pc := 38) (a := i) (b := i + 1) hC dX5_idlePart_38 rfl (nI_1 _) (by decide) ?_
        show sg_W X M 0 0 41 [some (.ref a), some (.int (nI (c + 1))), some (.int (nI (i + 1)))] []
        refine sg_goto (pc := 41) 16 hC dX5_idlePart_41 (by decide) ?_
        have e9 : k_idl1 g n (f + 1) c i = k_idl1 g n f (c + 1) (i + 1) := by rw [k_idl1_s]; simp only [if_neg (Nat.not_le.mpr h2), if_pos h4]
        rw [e9] at hk
        refine sg_loc (L' := [some (.ref a), some (.int (nI ((c + 1)))), some (.int (nI ((i + 1))))]) ⟨rfl, ⟨rfl, ⟨rfl, trivial⟩⟩⟩ ?_
        exact ih (c + 1) (i + 1) (by first | omega | decide) (by first | omega | decide) (by first | omega | decide) hk

def k_idl (g : Nat → RQ) (n : Nat) : UInt32 := if (if n = 0 then 1 else 0) = 0 then k_idl1 g n (n + 1) 0 0 else 0
set_option maxHeartbeats 400000 in
set_option maxRecDepth 100000 in
theorem c_idl {l : Launch} {G : sg_G} {d : Nat} {M : sg_M} {kr : Option Value → sg_M → Prop} {kx : String → sg_M → Prop} (htr : l.stackTraces = false) {a ts la u1 u2 n : Nat} {f0 : Nat → Option Nat} {g : Nat → RQ}  (hA : M a = some (ts, .inr (8, [.ref la]))) (hL : al_r G u1 u2 M la n f0) (hF : ∀ j, j < n → ∃ p, f0 j = some p ∧ pm_r M p (g j)) (hn : n ≤ 6) (hk : kr (some (.float (k_idl g n))) M) : sg_Met l G yX5_idlePart cX5_idlePart 3 (some .float) (d + 8) 0 0 [.ref a] M kr kx := by
  refine sg_enter [some (.ref a), none, none] (by decide) htr (Nat.le_of_ble_eq_true rfl) rfl ?_
  intro X hC hR
  have hC : sg_C X l G cX5_idlePart RX5 3 (d + 8) := hC
  refine sg_aload_n (pc := 0) (v := .ref a) hC dX5_idlePart_0 rfl rfl ?_
  refine sg_get (pc := 1) (a := a) (v := .ref la) 0 hC rfl inw_X5 (by decide) tw_173 dX5_idlePart_1 hA rfl ?_
  obtain ⟨_, _, _, _, _, hx1, -⟩ := id hL
  refine sg_callV (pc := 4) (As := []) (rest := []) (mc := 0) (ms := 0) hC tw_1175 tw_1042 tw_1043 tw_69 tw_1044 yd_Jx4a65c_isEmpty_aae02 (by decide) (ci := 2) rfl dX5_idlePart_4 hx1 rfl (Nat.le_of_ble_eq_true rfl) (by first | omega | decide | (split <;> omega)) (by first | omega | decide | (split <;> omega)) ?_
  refine c_alEmpty htr hL ?_
  show sg_W X M 0 0 7 [some (.ref a), none, none] [.int (nI ((if n = 0 then 1 else 0)))]
  refine sg_ifN_eq (pc := 7) (a := (if n = 0 then 1 else 0)) 12 hC dX5_idlePart_7 (by decide) (by first | omega | decide | (split <;> omega)) (fun h2 => ?_) (fun h2 => ?_)
  · have hz9 : 0 < n := by
      rcases Nat.eq_zero_or_pos n with e | e
      · rw [if_pos e] at h2; omega
      · exact e
    refine sg_iconst (pc := 12) (nI 0) hC dX5_idlePart_12 (by decide) ?_
    refine sg_istore_n (pc := 13) (x := nI 0) hC dX5_idlePart_13 (by decide) ?_
    show sg_W X M 0 0 14 [some (.ref a), some (.int (nI 0)), none] []
    refine sg_iconst (pc := 14) (nI 0) hC dX5_idlePart_14 (by decide) ?_
    refine sg_istore_n (pc := 15) (x := nI 0) hC dX5_idlePart_15 (by decide) ?_
    show sg_W X M 0 0 16 [some (.ref a), some (.int (nI 0)), some (.int (nI 0))] []
    have e9 : k_idl g n = k_idl1 g n (n + 1) 0 0 := by rw [k_idl]; simp only [if_pos h2]
    rw [e9] at hk
    refine sg_loc (L' := [some (.ref a), some (.int (nI 0)), some (.int (nI 0))]) ⟨rfl, ⟨rfl, ⟨rfl, trivial⟩⟩⟩ ?_
    exact c_idl1 htr hC hR hA hL hF hn (by omega) (n + 1) 0 0 (by first | omega | decide | (split <;> omega)) (by first | omega | decide | (split <;> omega)) (by first | omega | decide | (split <;> omega)) hk
  · refine sg_fconst0 (pc := 10) hC dX5_idlePart_10 ?_
    have e9 : k_idl g n = 0 := by rw [k_idl]; simp only [if_neg h2]
    rw [e9] at hk
    exact sg_freturn (st := []) (v := 0) (pc := 11) hC hR dX5_idlePart_11 hk

theorem pand {m l : Nat} (hm : m < 16) (hl : l < 16) : nI m &&& (nI l ^^^ (-1)) = nI (m &&& (15 ^^^ l)) := by
  have h : ∀ (m l : Fin 16), nI m.val &&& (nI l.val ^^^ (-1)) = nI (m.val &&& (15 ^^^ l.val)) := by decide +kernel
  exact h ⟨m, hm⟩ ⟨l, hl⟩
theorem nz16 {m : Nat} (hm : m < 16) : nI m = 0 ↔ m = 0 := by
  have h : ∀ (m : Fin 16), nI m.val = 0 ↔ m.val = 0 := by decide +kernel
  exact h ⟨m, hm⟩
theorem rg_cons {i n : Nat} (h : i < n) : List.range' i (n - i) = i :: List.range' (i + 1) (n - (i + 1)) := by
  obtain ⟨m, hm⟩ : ∃ m, n - i = m + 1 := ⟨n - i - 1, by omega⟩
  rw [hm, List.range'_succ, show n - (i + 1) = m by omega]
theorem k_isG1_f {g : Nat → RQ} {n : Nat} {t : RQ} (hg : ∀ j, j < n → wq (g j)) (ht : wq t) : ∀ (f : Nat) (m : Int32) (i : Nat), n - i < f → i ≤ n → k_isG1 g n t f false m i = ((List.range' i (n - i)).map g).any (fun x => inc x t) := by
  intro f
  induction f with
  | zero => intro m i h; omega
  | succ f ih =>
    intro m i h hi
    rw [k_isG1]
    by_cases h1 : n ≤ i
    · rw [if_pos h1, show n - i = 0 by omega]; rfl
    · rw [if_neg h1, rg_cons (by omega), List.map_cons, List.any_cons, k_incl_eq (hg i (by omega)) ht, if_neg (show ¬ false = true by decide), ih m (i + 1) (by omega) (by omega)]
      cases inc (g i) t <;> rfl
theorem k_isG1_t {g : Nat → RQ} {n : Nat} {t : RQ} (hg : ∀ j, j < n → wq (g j)) (ht : wq t) (h2 : t.1 = 2) : ∀ (f m i : Nat), n - i < f → i ≤ n → m < 16 → k_isG1 g n t f true (nI m) i = cg ((List.range' i (n - i)).map g) t m := by
  intro f
  induction f with
  | zero => intro m i h; omega
  | succ f ih =>
    intro m i h hi hm
    rw [k_isG1]
    by_cases h1 : n ≤ i
    · rw [if_pos h1, if_pos rfl, show n - i = 0 by omega]
      show _ = (decide (t.1 = 2) && decide (m = 0))
      by_cases h0 : m = 0
      · rw [if_pos ((nz16 hm).mpr h0)]; simp [h2, h0]
      · rw [if_neg (fun e => h0 ((nz16 hm).mp e))]; simp [h0]
    · rw [if_neg h1, rg_cons (by omega), List.map_cons, cg, k_incl_eq (hg i (by omega)) ht, k_reach_eq (hg i (by omega)) ht, if_pos rfl]
      cases hi9 : inc (g i) t with
      | true => rfl
      | false =>
        simp only [Bool.false_eq_true, if_false]
        by_cases hr : reach (g i) t = true
        · have hg2 : (g i).1 = 2 := by
            unfold inc prt at hi9
            unfold reach at hr hi9
            by_cases h1 : (g i).1 = 1
            · simp [h1] at hi9
            · simp [h1] at hr; omega
          have hl := ((hg i (by omega)).2.2.2.2.2.1 hg2).2.2
          rw [if_pos hr, if_pos ⟨h2, hr⟩, show dp (g i) = (g i).2.2.2.1 from by simp [dp, hg2], pand hm hl, ih _ (i + 1) (by omega) (by omega) (bit_l hl)]
        · rw [if_neg hr, if_neg (fun e => hr e.2), ih _ (i + 1) (by omega) (by omega) hm]
theorem k_isG_eq {g : Nat → RQ} {n : Nat} {t : RQ} (hg : ∀ j, j < n → wq (g j)) (ht : wq t) : k_isG g n t = isg ((List.range' 0 n).map g) t := by
  unfold k_isG
  by_cases h2 : t.1 = 2
  · have hm := (ht.2.2.2.2.2.1 h2).2.2
    rw [if_pos ((dk_2 ht).mpr h2), show dp t = t.2.2.2.1 from by simp [dp, h2], k_isG1_t hg ht h2 _ _ 0 (by omega) (Nat.zero_le _) hm, Nat.sub_zero]
    refine cg_isg (fun x hx => ?_) ht
    obtain ⟨j, hj, rfl⟩ := List.mem_map.mp hx
    exact hg j (by simpa using hj)
  · rw [if_neg (fun e => h2 ((dk_2 ht).mp e)), k_isG1_f hg ht _ _ 0 (by omega) (Nat.zero_le _), Nat.sub_zero]
    simp [isg, h2]
theorem k_ano_eq {g : Nat → RQ} {n ix : Nat} (hg : ∀ j, j < n → wq (g j)) (hx : ix < n) : k_ano g n ix = an g n ix := by
  have key : ∀ (f i : Nat), n - i < f → i ≤ n → k_ano1 g n ix f i = (List.range' i (n - i)).any (anP g ix) := by
    intro f
    induction f with
    | zero => intro i h; omega
    | succ f ih =>
      intro i h hi
      rw [k_ano1]
      by_cases h1 : n ≤ i
      · rw [if_pos h1, show n - i = 0 by omega]; rfl
      · rw [if_neg h1, rg_cons (by omega), List.any_cons, ih (i + 1) (by omega) (by omega)]
        by_cases he : i = ix
        · rw [if_pos he]; simp [anP, he]
        · rw [if_neg he, k_incl_eq (hg i (by omega)) (hg ix hx)]
          unfold anP
          cases inc (g i) (g ix) <;> simp [he]
  unfold k_ano an
  rw [key _ 0 (by omega) (Nat.zero_le _), Nat.sub_zero]
theorem k_idl_eq {g : Nat → RQ} {n : Nat} (hg : ∀ j, j < n → wq (g j)) (hn : 0 < n) : k_idl g n = FP.fdiv (FP.i2f (nI (ids g n))) (FP.i2f (nI n)) := by
  have key : ∀ (f c i : Nat), n - i < f → i ≤ n → k_idl1 g n f c i = FP.fdiv (FP.i2f (nI (c + ((List.range' i (n - i)).filter (an g n)).length))) (FP.i2f (nI n)) := by
    intro f
    induction f with
    | zero => intro c i h; omega
    | succ f ih =>
      intro c i h hi
      rw [k_idl1]
      by_cases h1 : n ≤ i
      · rw [if_pos h1, show n - i = 0 by omega]; rfl
      · rw [if_neg h1, rg_cons (by omega), List.filter_cons, k_ano_eq hg (by omega), ih _ (i + 1) (by omega) (by omega), ih _ (i + 1) (by omega) (by omega)]
        cases an g n i with
        | true =>
          rw [if_pos rfl, if_pos rfl, List.length_cons]
          congr 3
          omega
        | false => rfl
  unfold k_idl ids
  rw [if_pos (by rw [if_neg (by omega)]), key _ 0 0 (by omega) (Nat.zero_le _), Nat.sub_zero, Nat.zero_add]
theorem k_idl_0 {g : Nat → RQ} : k_idl g 0 = 0 := rfl
