theorem and31 (v : Int32) : ∃ k, k < 32 ∧ v &&& nI 31 = nI k := by
  refine ⟨(v.toBitVec &&& BitVec.ofNat 32 31).toNat, ?_, ?_⟩
  · rw [BitVec.toNat_and]
    exact Nat.lt_of_le_of_lt Nat.and_le_right (by decide)
  · apply Int32.toBitVec_inj.mp
    show v.toBitVec &&& BitVec.ofNat 32 31 = BitVec.ofNat 32 (v.toBitVec &&& BitVec.ofNat 32 31).toNat
    rw [BitVec.ofNat_toNat, BitVec.setWidth_eq]
theorem gt4 {n i : Nat} (hn : n ≤ 256) (hi : i ≤ 260) (h : ¬ nI n - nI 4 < nI i) : i + 4 ≤ n := by
  rw [Int32.lt_iff_toInt_lt, pk_sub_toInt (by omega) (by decide), nI_toInt (by omega)] at h
  omega

set_option maxHeartbeats 1000000 in
set_option maxRecDepth 100000 in
theorem lw_loop {X : sg_X} {l : Launch} {G : sg_G} {d : Nat} {ca pb sl so th cx nt x oa od b n : Nat} {ad : Nat → Nat} {xs : Nat → Int32} (htr : l.stackTraces = false) (hC : sg_C X l G cL_law RL 8 (d + 12)) (hn : n ≤ 256) (hfin : ∀ M cb sb L, sg_W X M cb sb 1337 L []) :
    ∀ (k : Nat) (M : sg_M) (g : Nat → Int64) (gd : Nat → UInt64) (N : Nat → Nat → Nat) (i : Nat), lp G M ca pb sl so th cx nt x oa od b n ad xs g gd N → n < i + 4 * k + 4 → i ≤ 260 → sg_W X M (14 * k) (127 * k) 28 [some (.ref b), some (.ref ca), some (.ref x), some (.ref oa), some (.ref od), some (.int (nI i)), none, none] [] := by
  intro k
  induction k with
  | zero =>
    intro M g gd N i hP hk hi
    obtain ⟨-, -, -, -, -, -, hB⟩ := id hP
    refine sg_iload (pc := 28) (x := nI i) hC dL_law_28 rfl ?_
    refine sg_aload_n (pc := 30) (v := .ref b) hC dL_law_30 rfl rfl ?_
    refine sg_alen (pc := 31) 0 hC dL_law_31 hB rfl ?_
    show sg_W X M _ _ 32 [some (.ref b), some (.ref ca), some (.ref x), some (.ref oa), some (.ref od), some (.int (nI i)), none, none] [.int (nI n), .int (nI i)]
    refine sg_iconst (pc := 32) (nI 4) hC dL_law_32 (by decide) ?_
    refine sg_isub (pc := 33) (x := nI n) (y := nI 4) hC dL_law_33 ?_
    refine sg_icmp_gt (pc := 34) (x := nI i) (y := nI n - nI 4) 1337 hC dL_law_34 (by decide) (fun _ => hfin _ _ _ _) (fun h9 => ?_)
    have hi4 : i + 4 ≤ n := gt4 hn (by omega) h9
    omega
  | succ k ih =>
    intro M g gd N i hP hk hi
    obtain ⟨-, -, -, -, -, -, hB⟩ := id hP
    refine sg_iload (pc := 28) (x := nI i) hC dL_law_28 rfl ?_
    refine sg_aload_n (pc := 30) (v := .ref b) hC dL_law_30 rfl rfl ?_
    refine sg_alen (pc := 31) 0 hC dL_law_31 hB rfl ?_
    show sg_W X M _ _ 32 [some (.ref b), some (.ref ca), some (.ref x), some (.ref oa), some (.ref od), some (.int (nI i)), none, none] [.int (nI n), .int (nI i)]
    refine sg_iconst (pc := 32) (nI 4) hC dL_law_32 (by decide) ?_
    refine sg_isub (pc := 33) (x := nI n) (y := nI 4) hC dL_law_33 ?_
    refine sg_icmp_gt (pc := 34) (x := nI i) (y := nI n - nI 4) 1337 hC dL_law_34 (by decide) (fun _ => hfin _ _ _ _) (fun h9 => ?_)
    have hi4 : i + 4 ≤ n := gt4 hn (by omega) h9
    refine sg_aload_n (pc := 37) (v := .ref b) hC dL_law_37 rfl rfl ?_
    refine sg_iload (pc := 38) (x := nI i) hC dL_law_38 rfl ?_
    refine sg_iald (pc := 40) (i := nI i) hC dL_law_40 hB (vp_in_nI (by omega) (by omega)) ?_
    rw [nI_clamp (by omega)]
    refine sg_bipush (pc := 41) (nI 31) hC dL_law_41 (by decide) ?_
    refine sg_iand (pc := 43) (x := xs i) (y := nI 31) hC dL_law_43 ?_
    obtain ⟨w, hw32, hwe⟩ := and31 (xs i)
    rw [hwe]
    have kk : ∀ M' g' gd' N', lp G M' ca pb sl so th cx nt x oa od b n ad xs g' gd' N' → sg_W X M' (14 * k) (127 * k) 28 [some (.ref b), some (.ref ca), some (.ref x), some (.ref oa), some (.ref od), some (.int (nI (i + 4))), none, none] [] := fun M' g' gd' N' hP' => ih M' g' gd' N' (i + 4) hP' (by omega) (by omega)
    by_cases hw19 : 19 ≤ w
    · refine sg_tableOut (pc := 44) (x := nI w) 1331 hC dL_law_44 (Or.inr (by rw [nI_toInt (by omega)]; omega)) (by decide) ?_
      refine sg_iincN (pc := 1331) (a := i) (b := i + 4) hC dL_law_1331 rfl (nI_4 i) (by decide) ?_
      refine sg_goto (pc := 1334) 28 hC dL_law_1334 (by decide) ?_
      refine sg_less (cb' := 14 * k) (sb' := 127 * k) (by omega) (by omega) ?_
      exact kk M g gd N hP
    · rcases (show w = 0 ∨ w = 1 ∨ w = 2 ∨ w = 3 ∨ w = 4 ∨ w = 5 ∨ w = 6 ∨ w = 7 ∨ w = 8 ∨ w = 9 ∨ w = 10 ∨ w = 11 ∨ w = 12 ∨ w = 13 ∨ w = 14 ∨ w = 15 ∨ w = 16 ∨ w = 17 ∨ w = 18 by omega) with rfl | rfl | rfl | rfl | rfl | rfl | rfl | rfl | rfl | rfl | rfl | rfl | rfl | rfl | rfl | rfl | rfl | rfl | rfl
      · refine sg_tableIn (pc := 44) (x := nI 0) (off := 92) 136 hC dL_law_44 (by decide) (by decide) (by decide) (by decide) ?_
        exact lw_c0 (cb := 14 * k) (sb := 127 * k) htr hC hP hi4 hn kk
      · refine sg_tableIn (pc := 44) (x := nI 1) (off := 119) 163 hC dL_law_44 (by decide) (by decide) (by decide) (by decide) ?_
        exact lw_c1 (cb := 14 * k) (sb := 127 * k) htr hC hP hi4 hn kk
      · refine sg_tableIn (pc := 44) (x := nI 2) (off := 175) 219 hC dL_law_44 (by decide) (by decide) (by decide) (by decide) ?_
        exact lw_c2 (cb := 14 * k) (sb := 127 * k) htr hC hP hi4 hn kk
      · refine sg_tableIn (pc := 44) (x := nI 3) (off := 243) 287 hC dL_law_44 (by decide) (by decide) (by decide) (by decide) ?_
        exact lw_c3 (cb := 14 * k) (sb := 127 * k) htr hC hP hi4 hn kk
      · refine sg_tableIn (pc := 44) (x := nI 4) (off := 318) 362 hC dL_law_44 (by decide) (by decide) (by decide) (by decide) ?_
        exact lw_c4 (cb := 14 * k) (sb := 127 * k) htr hC hP hi4 hn kk
      · refine sg_tableIn (pc := 44) (x := nI 5) (off := 386) 430 hC dL_law_44 (by decide) (by decide) (by decide) (by decide) ?_
        exact lw_c5 (cb := 14 * k) (sb := 127 * k) htr hC hP hi4 hn kk
      · refine sg_tableIn (pc := 44) (x := nI 6) (off := 454) 498 hC dL_law_44 (by decide) (by decide) (by decide) (by decide) ?_
        exact lw_c6 (cb := 14 * k) (sb := 127 * k) htr hC hP hi4 hn kk
      · refine sg_tableIn (pc := 44) (x := nI 7) (off := 529) 573 hC dL_law_44 (by decide) (by decide) (by decide) (by decide) ?_
        exact lw_c7 (cb := 14 * k) (sb := 127 * k) htr hC hP hi4 hn kk
      · refine sg_tableIn (pc := 44) (x := nI 8) (off := 597) 641 hC dL_law_44 (by decide) (by decide) (by decide) (by decide) ?_
        exact lw_c8 (cb := 14 * k) (sb := 127 * k) htr hC hP hi4 hn kk
      · refine sg_tableIn (pc := 44) (x := nI 9) (off := 653) 697 hC dL_law_44 (by decide) (by decide) (by decide) (by decide) ?_
        exact lw_c9 (cb := 14 * k) (sb := 127 * k) htr hC hP hi4 hn kk
      · refine sg_tableIn (pc := 44) (x := nI 10) (off := 713) 757 hC dL_law_44 (by decide) (by decide) (by decide) (by decide) ?_
        exact lw_c10 (cb := 14 * k) (sb := 127 * k) htr hC hP hi4 hn kk
      · refine sg_tableIn (pc := 44) (x := nI 11) (off := 781) 825 hC dL_law_44 (by decide) (by decide) (by decide) (by decide) ?_
        exact lw_c11 (cb := 14 * k) (sb := 127 * k) htr hC hP hi4 hn kk
      · refine sg_tableIn (pc := 44) (x := nI 12) (off := 837) 881 hC dL_law_44 (by decide) (by decide) (by decide) (by decide) ?_
        exact lw_c12 (cb := 14 * k) (sb := 127 * k) htr hC hP hi4 hn kk
      · refine sg_tableIn (pc := 44) (x := nI 13) (off := 905) 949 hC dL_law_44 (by decide) (by decide) (by decide) (by decide) ?_
        exact lw_c13 (cb := 14 * k) (sb := 127 * k) htr hC hP hi4 hn kk
      · refine sg_tableIn (pc := 44) (x := nI 14) (off := 961) 1005 hC dL_law_44 (by decide) (by decide) (by decide) (by decide) ?_
        exact lw_c14 (cb := 14 * k) (sb := 127 * k) htr hC hP hi4 hn kk
      · refine sg_tableIn (pc := 44) (x := nI 15) (off := 1017) 1061 hC dL_law_44 (by decide) (by decide) (by decide) (by decide) ?_
        exact lw_c15 (cb := 14 * k) (sb := 127 * k) htr hC hP hi4 hn kk
      · refine sg_tableIn (pc := 44) (x := nI 16) (off := 1085) 1129 hC dL_law_44 (by decide) (by decide) (by decide) (by decide) ?_
        exact lw_c16 (cb := 14 * k) (sb := 127 * k) htr hC hP hi4 hn kk
      · refine sg_tableIn (pc := 44) (x := nI 17) (off := 1141) 1185 hC dL_law_44 (by decide) (by decide) (by decide) (by decide) ?_
        exact lw_c17 (cb := 14 * k) (sb := 127 * k) htr hC hP hi4 hn kk
      · refine sg_tableIn (pc := 44) (x := nI 18) (off := 1209) 1253 hC dL_law_44 (by decide) (by decide) (by decide) (by decide) ?_
        exact lw_c18 (cb := 14 * k) (sb := 127 * k) htr hC hP hi4 hn kk

theorem yq_X7_init : yX7_init.cls ≠ "java/lang/invoke/MethodHandle" ∧ yX7_init.cls ≠ "java/lang/invoke/VarHandle" ∧ (parseMethodDescriptor yX7_init.desc).map (fun d => d.parameters.length) = some 0 := ⟨by decide, by decide, by decide +kernel⟩
set_option maxHeartbeats 1000000 in
set_option maxRecDepth 100000 in
theorem lw_entry {X : sg_X} {l : Launch} {G : sg_G} {d : Nat} {M : sg_M} {cb sb b n : Nat} {xs : Nat → Int32} (htr : l.stackTraces = false) (hC : sg_C X l G cL_law RL 8 (d + 12)) (hEv : ev G M) (hB : M b = some (0, .inl (.int, n, .inl xs)))
    (kk : ∀ (M' : sg_M) (ca pb sl so th cx nt x oa od : Nat) (ad : Nat → Nat) (g : Nat → Int64) (gd : Nat → UInt64), lp G M' ca pb sl so th cx nt x oa od b n ad xs g gd md_N0 → sg_W X M' cb sb 28 [some (.ref b), some (.ref ca), some (.ref x), some (.ref oa), some (.ref od), some (.int (nI 0)), none, none] []) : sg_W X M (cb + 50) (sb + 1200) 0 [some (.ref b), none, none, none, none, none, none, none] [] := by
  refine sg_new (pc := 0) (ci := 9) (1) [.null, .null, .null, .null, .null, .null] hC rfl inw_X6 tyX6 tyX6_ok tw_92 tw_93 tw_62 (by intro j hj; have h9 : j = 0 ∨ j = 1 ∨ j = 2 ∨ j = 3 ∨ j = 4 ∨ j = 5 := (by omega); rcases h9 with rfl | rfl | rfl | rfl | rfl | rfl <;> rfl) dL_law_0 (by decide) (by omega) (by omega) (fun ca hq => ?_)
  refine sg_nm (fun M1 hw1 => ?_)
  refine sg_dup (pc := 3) hC dL_law_3 rfl ?_
  refine sg_callI (pc := 4) (b := ca) (As := []) (rest := [.ref ca]) (mc := 21) (ms := 78) hC tw_94 tw_95 tw_62 tw_96 rfl yd_X6_init (by decide) dL_law_4 rfl (Nat.le_of_ble_eq_true rfl) (by omega) (by omega) ?_
  have hEv1 : ev G M1 := hEv.nw hw1 hq
  have hB1 : M1 b = some (0, .inl (.int, n, .inl xs)) := hw1.n hB (sg_fresh hB hq)
  refine c_sgInit htr hw1.1 hEv1 (fun pb sl so th cx nt M2 hJ hf => ?_)
  have hEv2 : ev G M2 := hEv1.cf hf
  have hB2 : M2 b = some (0, .inl (.int, n, .inl xs)) := hf.k hB1 (by simp [cf, cm])
  refine sg_astore_n (pc := 7) (v := .ref ca) hC dL_law_7 (by decide) rfl ?_
  show sg_W X M2 _ _ 8 [some (.ref b), some (.ref ca), none, none, none, none, none, none] []
  refine sg_new (pc := 8) (ci := 10) (100) [.int 0, .int 0, .null, .null, .null, .null, .null, .null, .null, .null, .int 0, .null, .null, .null, .null, .null, .null, .null, .null, .null, .null, .int 0, .null] hC rfl inw_X7 tyX7 tyX7_ok tw_1180 tw_1181 tw_72 (by intro j hj; have h9 : j = 0 ∨ j = 1 ∨ j = 2 ∨ j = 3 ∨ j = 4 ∨ j = 5 ∨ j = 6 ∨ j = 7 ∨ j = 8 ∨ j = 9 ∨ j = 10 ∨ j = 11 ∨ j = 12 ∨ j = 13 ∨ j = 14 ∨ j = 15 ∨ j = 16 ∨ j = 17 ∨ j = 18 ∨ j = 19 ∨ j = 20 ∨ j = 21 ∨ j = 22 := (by omega); rcases h9 with rfl | rfl | rfl | rfl | rfl | rfl | rfl | rfl | rfl | rfl | rfl | rfl | rfl | rfl | rfl | rfl | rfl | rfl | rfl | rfl | rfl | rfl | rfl <;> rfl) dL_law_8 (by decide) (by omega) (by omega) (fun x hqx => ?_)
  refine sg_nm (fun M3 hw3 => ?_)
  refine sg_dup (pc := 11) hC dL_law_11 rfl ?_
  refine sg_callI (pc := 12) (b := x) (As := []) (rest := [.ref x]) (mc := 19) (ms := 978) hC tw_1182 tw_1183 tw_72 tw_1184 rfl yq_X7_init (by decide) dL_law_12 rfl (Nat.le_of_ble_eq_true rfl) (by omega) (by omega) ?_
  have hn3 := sf_nw hw3 hqx
  have h15 : ∀ t, md_N0 15 t ≤ 10 := fun t => WN0 15 t
  have hJ3 := hJ.o h15 hn3 (by simp)
  refine mm_init htr hw3.1 (fun M4 ad hI => ?_)
  have hk4 := hI.2.kp
  have hJ4 := hJ3.k9 h15 hk4 refL_b
  have hEv4 := (hEv2.nw hw3 hqx).k9 hk4 (by decide)
  have hB4 : M4 b = some (0, .inl (.int, n, .inl xs)) := hk4 _ _ _ (hw3.n hB2 (sg_fresh hB2 hqx)) (by decide)
  refine sg_astore_n (pc := 15) (v := .ref x) hC dL_law_15 (by decide) rfl ?_
  show sg_W X M4 _ _ 16 [some (.ref b), some (.ref ca), some (.ref x), none, none, none, none, none] []
  refine sg_iconst (pc := 16) (nI 1) hC dL_law_16 (by decide) ?_
  refine sg_new_long (pc := 17) (N := 1) 90 hC tw_1468 dL_law_17 rfl (by decide) (by decide) (by omega) (by omega) (fun oa hqo => ?_)
  refine sg_nm (fun M5 hw5 => ?_)
  refine sg_astore_n (pc := 19) (v := .ref oa) hC dL_law_19 (by decide) rfl ?_
  show sg_W X M5 _ _ 20 [some (.ref b), some (.ref ca), some (.ref x), some (.ref oa), none, none, none, none] []
  refine sg_iconst (pc := 20) (nI 1) hC dL_law_20 (by decide) ?_
  refine sg_new_double (pc := 21) (N := 1) 91 hC tw_1469 dL_law_21 rfl (by decide) (by decide) (by omega) (by omega) (fun od hqd => ?_)
  refine sg_nm (fun M6 hw6 => ?_)
  refine sg_astore (pc := 23) (v := .ref od) hC dL_law_23 (by decide) rfl ?_
  show sg_W X M6 _ _ 25 [some (.ref b), some (.ref ca), some (.ref x), some (.ref oa), some (.ref od), none, none, none] []
  refine sg_iconst (pc := 25) (nI 0) hC dL_law_25 (by decide) ?_
  refine sg_istore (pc := 26) (x := nI 0) hC dL_law_26 (by decide) ?_
  show sg_W X M6 _ _ 28 [some (.ref b), some (.ref ca), some (.ref x), some (.ref oa), some (.ref od), some (.int (nI 0)), none, none] []
  refine sg_less (cb' := cb) (sb' := sb) (by omega) (by omega) ?_
  have hn5 := sf_nw hw5 hqo
  have hn6 := sf_nw hw6 hqd
  have hR6 : md_Rep M6 x ad md_N0 := (hI.1.sf9 (hn5.mono (fun a t h => by simp [pk] at h))).sf9 (hn6.mono (fun a t h => by simp [pk] at h))
  refine kk M6 ca pb sl so th cx nt x oa od ad _ _ ⟨(hJ4.o h15 hn5 (by simp)).o h15 hn6 (by simp), hR6, WN0.wb, hw6.n hw5.1 (sg_fresh hw5.1 hqd), hw6.1, (hEv4.nw hw5 hqo).nw hw6 hqd, hw6.n (hw5.n hB4 (sg_fresh hB4 hqo)) (sg_fresh (hw5.n hB4 (sg_fresh hB4 hqo)) hqd)⟩
