theorem sb_r.le {M : sg_M} {t u a : Nat} {w : List Nat} (h : sb_r t u M a w) : w.length ≤ 16 := by
  obtain ⟨_, _, _, -, -, h, -⟩ := h
  exact h
theorem dg_r.a {G : sg_G} {M M' : sg_M} {b v : Nat} {e : sg_E} (h : dg_r G M) (hf : sf (fun c _ => c = b) M M') (hb : M b = some (v, e)) (h1 : 0 ≠ v) : dg_r G M' := by
  obtain ⟨dg, p1, p2⟩ := h
  exact ⟨dg, hf.k p1 (fun e => sg_net p1 hb h1 e), p2⟩

set_option maxHeartbeats 400000 in
set_option maxRecDepth 100000 in
theorem c_rdInit {l : Launch} {G : sg_G} {d : Nat} {M : sg_M} {kr : Option Value → sg_M → Prop} {kx : String → sg_M → Prop} (htr : l.stackTraces = false) {x ta : Nat} {tx : List Nat} (hX : M x = some (74, .inr (7, [.null, .int (nI 0), .int (nI 0), .null, .int (nI 0), .int (nI 0), .int (nI 0), .int (nI 0)]))) (hS : st_r 71 72 M ta tx) (h16 : tx.length ≤ 16) (hk : ∀ b M', rd_r M' x ta b 0 tx rs0 → sf (pk [74]) M M' → kr none M') : sg_Met l G yX4_init cX4_init 2 none (d + 3) 2 20 [.ref x, .ref ta] M kr kx := by
  refine sg_enter [some (.ref x), some (.ref ta)] (by decide) htr (Nat.le_of_ble_eq_true rfl) rfl ?_
  intro X hC hR
  have hC : sg_C X l G cX4_init RX4 2 (d + 3) := hC
  have hf : sf (pk [74]) M M := sf.rf
  refine sg_aload_n (pc := 0) (v := .ref x) hC dX4_init_0 rfl rfl ?_
  refine sg_objInit (pc := 1) hC tw_547 tw_98 tw_99 dX4_init_1 (Nat.le_of_ble_eq_true rfl) ?_
  show sg_W X M 2 20 4 [some (.ref x), some (.ref ta)] []
  refine sg_aload_n (pc := 4) (v := .ref x) hC dX4_init_4 rfl rfl ?_
  refine sg_iconst (pc := 5) (nI 0) hC dX4_init_5 (by decide) ?_
  refine sg_put (pc := 6) (a := x) (v := .int (nI 0)) 2 hC rfl inw_X4 tyX4 tyX4_ok nmX4 (by decide) tw_552 rfl rfl (jp_c (by first | omega | decide)) rfl dX4_init_6 hX (by first | omega | decide) (Nat.le_of_ble_eq_true rfl) ?_
  refine sg_nm (fun M1 hw2 => ?_)
  have hS : st_r 71 72 M1 ta tx := hS.st hw2 hX (by first | omega | decide) (by first | omega | decide)
  have hf : sf (pk [74]) M M1 := hf.st hw2 hX (by simp [pk])
  have hX : M1 x = some (74, .inr (7, [.null, .int (nI 0), .int (nI 0), .null, .int (nI 0), .int (nI 0), .int (nI 0), .int (nI 0)])) := hw2.1
  refine sg_aload_n (pc := 9) (v := .ref x) hC dX4_init_9 rfl rfl ?_
  refine sg_new (pc := 10) (ci := 1) (75) [.null, .int (nI 0), .int (nI 0), .int (nI 0)] hC rfl inw_J4 tyJ4 tyJ4_ok tw_548 tw_101 tw_64 (by intro j hj; have h9 : j = 0 ∨ j = 1 ∨ j = 2 ∨ j = 3 := (by omega); rcases h9 with rfl | rfl | rfl | rfl <;> rfl) dX4_init_10 (by first | omega | decide) (by first | omega | decide) (by first | omega | decide) (fun q3 hq4 => ?_)
  refine sg_nm (fun M5 hw6 => ?_)
  have ne7 : x ≠ q3 := sg_fresh hX hq4
  have hX : M5 x = some (74, .inr (7, [.null, .int (nI 0), .int (nI 0), .null, .int (nI 0), .int (nI 0), .int (nI 0), .int (nI 0)])) := hw6.n hX ne7
  have hS : st_r 71 72 M5 ta tx := hS.nw hw6 hq4
  have hn8 : M q3 = none := hf.fr hq4
  have hf : sf (pk [74]) M M5 := hf.nw hw6 hn8
  have hF9 : M5 q3 = some (75, .inr (1, [.null, .int (nI 0), .int (nI 0), .int (nI 0)])) := hw6.1
  show sg_W X M5 1 16 13 [some (.ref x), some (.ref ta)] [.ref q3, .ref x]
  have hF9s := hF9
  refine sg_dup (pc := 13) hC dX4_init_13 rfl ?_
  refine sg_callI (pc := 14) (b := q3) (As := []) (rest := [.ref q3, .ref x]) (mc := 1) (ms := 16) hC tw_549 tw_103 tw_64 tw_104 rfl yd_J4_init_da8c8 (by decide) dX4_init_14 rfl (Nat.le_of_ble_eq_true rfl) (by first | omega | decide) (by first | omega | decide) ?_
  refine c_sbInit (t := 75) (u := 76) htr hF9 (by first | omega | decide) (by first | omega | decide) (fun M10 hs11 hf12 => ?_)
  have hX : M10 x = some (74, .inr (7, [.null, .int (nI 0), .int (nI 0), .null, .int (nI 0), .int (nI 0), .int (nI 0), .int (nI 0)])) := hf12.k hX ne7
  have hS : st_r 71 72 M10 ta tx := hS.a hf12 (Or.inr ⟨_, _, hF9s, by decide, by decide⟩)
  have hf : sf (pk [74]) M M10 := hf.trN hf12 (fun b t h => Or.inr (by rw [h]; exact hn8))
  show sg_W X M10 0 0 17 [some (.ref x), some (.ref ta)] [.ref q3, .ref x]
  refine sg_putF (pc := 17) (a := x) (v := .ref q3) 3 hC hR rfl rfl inw_X4 tyX4 tyX4_ok nmX4 (by decide) tw_553 rfl rfl rfl rfl rfl dX4_init_17 hX (by first | omega | decide) (Nat.le_of_ble_eq_true rfl) ?_
  refine sg_nm (fun M13 hw14 => ?_)
  have hS : st_r 71 72 M13 ta tx := hS.st hw14 hX (by first | omega | decide) (by first | omega | decide)
  have hs11 : sb_r 75 76 M13 q3 ([]) := hs11.st hw14 hX (by first | omega | decide) (by first | omega | decide)
  have hf : sf (pk [74]) M M13 := hf.st hw14 hX (by simp [pk])
  have hX : M13 x = some (74, .inr (7, [.null, .int (nI 0), .int (nI 0), .ref q3, .int (nI 0), .int (nI 0), .int (nI 0), .int (nI 0)])) := hw14.1
  refine sg_aload_n (pc := 20) (v := .ref x) hC dX4_init_20 rfl rfl ?_
  refine sg_iconst (pc := 21) (nI 0) hC dX4_init_21 (by decide) ?_
  refine sg_put (pc := 22) (a := x) (v := .int (nI 0)) 4 hC rfl inw_X4 tyX4 tyX4_ok nmX4 (by decide) tw_554 rfl rfl rfl rfl dX4_init_22 hX (by first | omega | decide) (Nat.le_of_ble_eq_true rfl) ?_
  refine sg_nm (fun M15 hw16 => ?_)
  have hS : st_r 71 72 M15 ta tx := hS.st hw16 hX (by first | omega | decide) (by first | omega | decide)
  have hs11 : sb_r 75 76 M15 q3 ([]) := hs11.st hw16 hX (by first | omega | decide) (by first | omega | decide)
  have hf : sf (pk [74]) M M15 := hf.st hw16 hX (by simp [pk])
  have hX : M15 x = some (74, .inr (7, [.null, .int (nI 0), .int (nI 0), .ref q3, .int (nI 0), .int (nI 0), .int (nI 0), .int (nI 0)])) := hw16.1
  refine sg_aload_n (pc := 25) (v := .ref x) hC dX4_init_25 rfl rfl ?_
  refine sg_aload_n (pc := 26) (v := .ref ta) hC dX4_init_26 rfl rfl ?_
  refine sg_putF (pc := 27) (a := x) (v := .ref ta) 0 hC hR rfl rfl inw_X4 tyX4 tyX4_ok nmX4 (by decide) tw_550 rfl rfl rfl rfl rfl dX4_init_27 hX (by first | omega | decide) (Nat.le_of_ble_eq_true rfl) ?_
  refine sg_nm (fun M17 hw18 => ?_)
  have hS : st_r 71 72 M17 ta tx := hS.st hw18 hX (by first | omega | decide) (by first | omega | decide)
  have hs11 : sb_r 75 76 M17 q3 ([]) := hs11.st hw18 hX (by first | omega | decide) (by first | omega | decide)
  have hf : sf (pk [74]) M M17 := hf.st hw18 hX (by simp [pk])
  have hX : M17 x = some (74, .inr (7, [.ref ta, .int (nI 0), .int (nI 0), .ref q3, .int (nI 0), .int (nI 0), .int (nI 0), .int (nI 0)])) := hw18.1
  exact sg_vreturn (st := []) (pc := 30) hC hR dX4_init_30 (hk q3 _ ⟨hX, hS, hs11, Nat.zero_le _, h16⟩ hf)

set_option maxHeartbeats 400000 in
set_option maxRecDepth 100000 in
theorem c_appL {l : Launch} {G : sg_G} {d : Nat} {M : sg_M} {kr : Option Value → sg_M → Prop} {kx : String → sg_M → Prop} (htr : l.stackTraces = false) {x ta b e kd : Nat} {s : RS} {w : List Nat} (hX : M x = some (74, .inr (7, [.ref ta, .int (nI s.1), .int (nI kd), .ref b, .int (nI s.2.2.1), .int (nI s.2.2.2.1), .int (nI s.2.2.2.2.1), .int (nI s.2.2.2.2.2)]))) (hL : st_r 0 0 M (G.2.2.2 1) [114, 119, 120, 100]) (hE : sb_r 77 78 M e w) (hm : s.2.2.2.1 < 16) (hw : w.length ≤ 12) (hk : ∀ M', sb_r 77 78 M' e (w ++ lets s.2.2.2.1) → sf (pk [77, 78]) M M' → kr none M') : sg_Met l G yX4_appendLetters cX4_appendLetters 3 none (d + 4) 0 0 [.ref x, .ref e] M kr kx := by
  refine sg_enter [some (.ref x), some (.ref e), none] (by decide) htr (Nat.le_of_ble_eq_true rfl) rfl ?_
  intro X hC hR
  have hC : sg_C X l G cX4_appendLetters RX4 3 (d + 4) := hC
  have hf : sf (pk [77, 78]) M M := sf.rf
  refine sg_iconst (pc := 0) (nI 0) hC dX4_appendLetters_0 (by decide) ?_
  refine sg_istore_n (pc := 1) (x := nI 0) hC dX4_appendLetters_1 (by decide) ?_
  show sg_W X M 0 0 2 [some (.ref x), some (.ref e), some (.int (nI 0))] []
  refine sg_iload_n (pc := 2) (x := nI 0) hC dX4_appendLetters_2 rfl ?_
  refine sg_ldc_rwxd (pc := 3) hC dX4_appendLetters_3 ?_
  obtain ⟨_, _, _, _, hx2, -⟩ := id hL
  refine sg_callV (pc := 5) (As := []) (rest := [.int (nI 0)]) (mc := 0) (ms := 0) hC tw_610 tw_482 tw_483 tw_65 tw_484 yd_J0_length_8abf5 (by decide) (ci := 0) rfl dX4_appendLetters_5 hx2 rfl (Nat.le_of_ble_eq_true rfl) (by first | omega | decide | exact Nat.lt_of_le_of_lt jshr (by omega) | exact Nat.lt_of_le_of_lt jand1 (by decide) | (simp only [List.length_append, List.length_cons, List.length_nil]; omega)) (by first | omega | decide | exact Nat.lt_of_le_of_lt jshr (by omega) | exact Nat.lt_of_le_of_lt jand1 (by decide) | (simp only [List.length_append, List.length_cons, List.length_nil]; omega)) ?_
  refine c_slen htr hL ?_
  show sg_W X M 0 0 8 [some (.ref x), some (.ref e), some (.int (nI 0))] [.int (nI 4), .int (nI 0)]
  refine sg_icmpN_ge (pc := 8) (a := 0) (b := 4) 40 hC dX4_appendLetters_8 (by decide) (by decide) (by decide) (fun h3 => absurd h3 (by decide)) (fun _ => ?_)
  refine sg_aload_n (pc := 11) (v := .ref x) hC dX4_appendLetters_11 rfl rfl ?_
  refine sg_get (pc := 12) (a := x) (v := .int (nI s.2.2.2.1)) 5 hC rfl inw_X4 (by decide) tw_555 dX4_appendLetters_12 hX rfl ?_
  refine sg_iload_n (pc := 15) (x := nI 0) hC dX4_appendLetters_15 rfl ?_
  refine sg_ishrN (pc := 16) (a := s.2.2.2.1) (b := 0) hC dX4_appendLetters_16 (by first | omega | decide | exact Nat.lt_of_le_of_lt jshr (by omega) | exact Nat.lt_of_le_of_lt jand1 (by decide) | (simp only [List.length_append, List.length_cons, List.length_nil]; omega)) (by first | omega | exact Nat.lt_of_le_of_lt jshr (by omega)) ?_
  show sg_W X M 0 0 17 [some (.ref x), some (.ref e), some (.int (nI 0))] [.int (nI s.2.2.2.1)]
  refine sg_iconst (pc := 17) (nI 1) hC dX4_appendLetters_17 (by decide) ?_
  refine sg_iandN (pc := 18) (a := s.2.2.2.1) (b := 1) hC dX4_appendLetters_18 ?_
  refine sg_iconst (pc := 19) (nI 1) hC dX4_appendLetters_19 (by decide) ?_
  refine sg_icmpN_ne (pc := 20) (a := s.2.2.2.1 &&& 1) (b := 1) 34 hC dX4_appendLetters_20 (by decide) (by first | omega | decide | exact Nat.lt_of_le_of_lt jshr (by omega) | exact Nat.lt_of_le_of_lt jand1 (by decide) | (simp only [List.length_append, List.length_cons, List.length_nil]; omega)) (by first | omega | decide | exact Nat.lt_of_le_of_lt jshr (by omega) | exact Nat.lt_of_le_of_lt jand1 (by decide) | (simp only [List.length_append, List.length_cons, List.length_nil]; omega)) (fun h4 => ?_) (fun h4 => ?_)
  · refine sg_iincN (pc := 34) (a := 0) (b := 1) hC dX4_appendLetters_34 rfl (nI_1 _) (by decide) ?_
    show sg_W X M 0 0 37 [some (.ref x), some (.ref e), some (.int (nI 1))] []
    refine sg_goto (pc := 37) 2 hC dX4_appendLetters_37 (by decide) ?_
    refine sg_iload_n (pc := 2) (x := nI 1) hC dX4_appendLetters_2 rfl ?_
    refine sg_ldc_rwxd (pc := 3) hC dX4_appendLetters_3 ?_
    obtain ⟨_, _, _, _, hx6, -⟩ := id hL
    refine sg_callV (pc := 5) (As := []) (rest := [.int (nI 1)]) (mc := 0) (ms := 0) hC tw_610 tw_482 tw_483 tw_65 tw_484 yd_J0_length_8abf5 (by decide) (ci := 0) rfl dX4_appendLetters_5 hx6 rfl (Nat.le_of_ble_eq_true rfl) (by first | omega | decide | exact Nat.lt_of_le_of_lt jshr (by omega) | exact Nat.lt_of_le_of_lt jand1 (by decide) | (simp only [List.length_append, List.length_cons, List.length_nil]; omega)) (by first | omega | decide | exact Nat.lt_of_le_of_lt jshr (by omega) | exact Nat.lt_of_le_of_lt jand1 (by decide) | (simp only [List.length_append, List.length_cons, List.length_nil]; omega)) ?_
    refine c_slen htr hL ?_
    show sg_W X M 0 0 8 [some (.ref x), some (.ref e), some (.int (nI 1))] [.int (nI 4), .int (nI 1)]
    refine sg_icmpN_ge (pc := 8) (a := 1) (b := 4) 40 hC dX4_appendLetters_8 (by decide) (by decide) (by decide) (fun h7 => absurd h7 (by decide)) (fun _ => ?_)
    refine sg_aload_n (pc := 11) (v := .ref x) hC dX4_appendLetters_11 rfl rfl ?_
    refine sg_get (pc := 12) (a := x) (v := .int (nI s.2.2.2.1)) 5 hC rfl inw_X4 (by decide) tw_555 dX4_appendLetters_12 hX rfl ?_
    refine sg_iload_n (pc := 15) (x := nI 1) hC dX4_appendLetters_15 rfl ?_
    refine sg_ishrN (pc := 16) (a := s.2.2.2.1) (b := 1) hC dX4_appendLetters_16 (by first | omega | decide | exact Nat.lt_of_le_of_lt jshr (by omega) | exact Nat.lt_of_le_of_lt jand1 (by decide) | (simp only [List.length_append, List.length_cons, List.length_nil]; omega)) (by first | omega | exact Nat.lt_of_le_of_lt jshr (by omega)) ?_
    refine sg_iconst (pc := 17) (nI 1) hC dX4_appendLetters_17 (by decide) ?_
    refine sg_iandN (pc := 18) (a := s.2.2.2.1 >>> 1) (b := 1) hC dX4_appendLetters_18 ?_
    refine sg_iconst (pc := 19) (nI 1) hC dX4_appendLetters_19 (by decide) ?_
    refine sg_icmpN_ne (pc := 20) (a := (s.2.2.2.1 >>> 1) &&& 1) (b := 1) 34 hC dX4_appendLetters_20 (by decide) (by first | omega | decide | exact Nat.lt_of_le_of_lt jshr (by omega) | exact Nat.lt_of_le_of_lt jand1 (by decide) | (simp only [List.length_append, List.length_cons, List.length_nil]; omega)) (by first | omega | decide | exact Nat.lt_of_le_of_lt jshr (by omega) | exact Nat.lt_of_le_of_lt jand1 (by decide) | (simp only [List.length_append, List.length_cons, List.length_nil]; omega)) (fun h8 => ?_) (fun h8 => ?_)
    · refine sg_iincN (pc := 34) (a := 1) (b := 2) hC dX4_appendLetters_34 rfl (nI_1 _) (by decide) ?_
      show sg_W X M 0 0 37 [some (.ref x), some (.ref e), some (.int (nI 2))] []
      refine sg_goto (pc := 37) 2 hC dX4_appendLetters_37 (by decide) ?_
      refine sg_iload_n (pc := 2) (x := nI 2) hC dX4_appendLetters_2 rfl ?_
      refine sg_ldc_rwxd (pc := 3) hC dX4_appendLetters_3 ?_
      obtain ⟨_, _, _, _, hx10, -⟩ := id hL
      refine sg_callV (pc := 5) (As := []) (rest := [.int (nI 2)]) (mc := 0) (ms := 0) hC tw_610 tw_482 tw_483 tw_65 tw_484 yd_J0_length_8abf5 (by decide) (ci := 0) rfl dX4_appendLetters_5 hx10 rfl (Nat.le_of_ble_eq_true rfl) (by first | omega | decide | exact Nat.lt_of_le_of_lt jshr (by omega) | exact Nat.lt_of_le_of_lt jand1 (by decide) | (simp only [List.length_append, List.length_cons, List.length_nil]; omega)) (by first | omega | decide | exact Nat.lt_of_le_of_lt jshr (by omega) | exact Nat.lt_of_le_of_lt jand1 (by decide) | (simp only [List.length_append, List.length_cons, List.length_nil]; omega)) ?_
      refine c_slen htr hL ?_
      show sg_W X M 0 0 8 [some (.ref x), some (.ref e), some (.int (nI 2))] [.int (nI 4), .int (nI 2)]
      refine sg_icmpN_ge (pc := 8) (a := 2) (b := 4) 40 hC dX4_appendLetters_8 (by decide) (by decide) (by decide) (fun h11 => absurd h11 (by decide)) (fun _ => ?_)
      refine sg_aload_n (pc := 11) (v := .ref x) hC dX4_appendLetters_11 rfl rfl ?_
      refine sg_get (pc := 12) (a := x) (v := .int (nI s.2.2.2.1)) 5 hC rfl inw_X4 (by decide) tw_555 dX4_appendLetters_12 hX rfl ?_
      refine sg_iload_n (pc := 15) (x := nI 2) hC dX4_appendLetters_15 rfl ?_
      refine sg_ishrN (pc := 16) (a := s.2.2.2.1) (b := 2) hC dX4_appendLetters_16 (by first | omega | decide | exact Nat.lt_of_le_of_lt jshr (by omega) | exact Nat.lt_of_le_of_lt jand1 (by decide) | (simp only [List.length_append, List.length_cons, List.length_nil]; omega)) (by first | omega | exact Nat.lt_of_le_of_lt jshr (by omega)) ?_
      refine sg_iconst (pc := 17) (nI 1) hC dX4_appendLetters_17 (by decide) ?_
      refine sg_iandN (pc := 18) (a := s.2.2.2.1 >>> 2) (b := 1) hC dX4_appendLetters_18 ?_
      refine sg_iconst (pc := 19) (nI 1) hC dX4_appendLetters_19 (by decide) ?_
      refine sg_icmpN_ne (pc := 20) (a := (s.2.2.2.1 >>> 2) &&& 1) (b := 1) 34 hC dX4_appendLetters_20 (by decide) (by first | omega | decide | exact Nat.lt_of_le_of_lt jshr (by omega) | exact Nat.lt_of_le_of_lt jand1 (by decide) | (simp only [List.length_append, List.length_cons, List.length_nil]; omega)) (by first | omega | decide | exact Nat.lt_of_le_of_lt jshr (by omega) | exact Nat.lt_of_le_of_lt jand1 (by decide) | (simp only [List.length_append, List.length_cons, List.length_nil]; omega)) (fun h12 => ?_) (fun h12 => ?_)
      · refine sg_iincN (pc := 34) (a := 2) (b := 3) hC dX4_appendLetters_34 rfl (nI_1 _) (by decide) ?_
        show sg_W X M 0 0 37 [some (.ref x), some (.ref e), some (.int (nI 3))] []
        refine sg_goto (pc := 37) 2 hC dX4_appendLetters_37 (by decide) ?_
        refine sg_iload_n (pc := 2) (x := nI 3) hC dX4_appendLetters_2 rfl ?_
        refine sg_ldc_rwxd (pc := 3) hC dX4_appendLetters_3 ?_
        obtain ⟨_, _, _, _, hx14, -⟩ := id hL
        refine sg_callV (pc := 5) (As := []) (rest := [.int (nI 3)]) (mc := 0) (ms := 0) hC tw_610 tw_482 tw_483 tw_65 tw_484 yd_J0_length_8abf5 (by decide) (ci := 0) rfl dX4_appendLetters_5 hx14 rfl (Nat.le_of_ble_eq_true rfl) (by first | omega | decide | exact Nat.lt_of_le_of_lt jshr (by omega) | exact Nat.lt_of_le_of_lt jand1 (by decide) | (simp only [List.length_append, List.length_cons, List.length_nil]; omega)) (by first | omega | decide | exact Nat.lt_of_le_of_lt jshr (by omega) | exact Nat.lt_of_le_of_lt jand1 (by decide) | (simp only [List.length_append, List.length_cons, List.length_nil]; omega)) ?_
        refine c_slen htr hL ?_
        show sg_W X M 0 0 8 [some (.ref x), some (.ref e), some (.int (nI 3))] [.int (nI 4), .int (nI 3)]
        refine sg_icmpN_ge (pc := 8) (a := 3) (b := 4) 40 hC dX4_appendLetters_8 (by decide) (by decide) (by decide) (fun h15 => absurd h15 (by decide)) (fun _ => ?_)
        refine sg_aload_n (pc := 11) (v := .ref x) hC dX4_appendLetters_11 rfl rfl ?_
        refine sg_get (pc := 12) (a := x) (v := .int (nI s.2.2.2.1)) 5 hC rfl inw_X4 (by decide) tw_555 dX4_appendLetters_12 hX rfl ?_
        refine sg_iload_n (pc := 15) (x := nI 3) hC dX4_appendLetters_15 rfl ?_
        refine sg_ishrN (pc := 16) (a := s.2.2.2.1) (b := 3) hC dX4_appendLetters_16 (by first | omega | decide | exact Nat.lt_of_le_of_lt jshr (by omega) | exact Nat.lt_of_le_of_lt jand1 (by decide) | (simp only [List.length_append, List.length_cons, List.length_nil]; omega)) (by first | omega | exact Nat.lt_of_le_of_lt jshr (by omega)) ?_
        refine sg_iconst (pc := 17) (nI 1) hC dX4_appendLetters_17 (by decide) ?_
        refine sg_iandN (pc := 18) (a := s.2.2.2.1 >>> 3) (b := 1) hC dX4_appendLetters_18 ?_
        refine sg_iconst (pc := 19) (nI 1) hC dX4_appendLetters_19 (by decide) ?_
        refine sg_icmpN_ne (pc := 20) (a := (s.2.2.2.1 >>> 3) &&& 1) (b := 1) 34 hC dX4_appendLetters_20 (by decide) (by first | omega | decide | exact Nat.lt_of_le_of_lt jshr (by omega) | exact Nat.lt_of_le_of_lt jand1 (by decide) | (simp only [List.length_append, List.length_cons, List.length_nil]; omega)) (by first | omega | decide | exact Nat.lt_of_le_of_lt jshr (by omega) | exact Nat.lt_of_le_of_lt jand1 (by decide) | (simp only [List.length_append, List.length_cons, List.length_nil]; omega)) (fun h16 => ?_) (fun h16 => ?_)
        · refine sg_iincN (pc := 34) (a := 3) (b := 4) hC dX4_appendLetters_34 rfl (nI_1 _) (by decide) ?_
          show sg_W X M 0 0 37 [some (.ref x), some (.ref e), some (.int (nI 4))] []
          refine sg_goto (pc := 37) 2 hC dX4_appendLetters_37 (by decide) ?_
          refine sg_iload_n (pc := 2) (x := nI 4) hC dX4_appendLetters_2 rfl ?_
          refine sg_ldc_rwxd (pc := 3) hC dX4_appendLetters_3 ?_
          obtain ⟨_, _, _, _, hx18, -⟩ := id hL
          refine sg_callV (pc := 5) (As := []) (rest := [.int (nI 4)]) (mc := 0) (ms := 0) hC tw_610 tw_482 tw_483 tw_65 tw_484 yd_J0_length_8abf5 (by decide) (ci := 0) rfl dX4_appendLetters_5 hx18 rfl (Nat.le_of_ble_eq_true rfl) (by first | omega | decide | exact Nat.lt_of_le_of_lt jshr (by omega) | exact Nat.lt_of_le_of_lt jand1 (by decide) | (simp only [List.length_append, List.length_cons, List.length_nil]; omega)) (by first | omega | decide | exact Nat.lt_of_le_of_lt jshr (by omega) | exact Nat.lt_of_le_of_lt jand1 (by decide) | (simp only [List.length_append, List.length_cons, List.length_nil]; omega)) ?_
          refine c_slen htr hL ?_
          show sg_W X M 0 0 8 [some (.ref x), some (.ref e), some (.int (nI 4))] [.int (nI 4), .int (nI 4)]
          refine sg_icmpN_ge (pc := 8) (a := 4) (b := 4) 40 hC dX4_appendLetters_8 (by decide) (by decide) (by decide) (fun _ => ?_) (fun h19 => absurd h19 (by decide))
          have e9 : w ++ lets s.2.2.2.1 = w := by unfold lets; rw [if_neg h4, if_neg h8, if_neg h12, if_neg h16]; simp
          rw [e9] at hk
          exact sg_vreturn (st := []) (pc := 40) hC hR dX4_appendLetters_40 (hk _ hE hf)
        · refine sg_aload_n (pc := 23) (v := .ref e) hC dX4_appendLetters_23 rfl rfl ?_
          refine sg_ldc_rwxd (pc := 24) hC dX4_appendLetters_24 ?_
          refine sg_iload_n (pc := 26) (x := nI 3) hC dX4_appendLetters_26 rfl ?_
          obtain ⟨_, _, _, _, hx21, -⟩ := id hL
          refine sg_callV (pc := 27) (As := [.int (nI 3)]) (rest := [.ref e]) (mc := 0) (ms := 0) hC tw_611 tw_612 tw_613 tw_65 tw_614 yd_J0_charAt_5068e (by decide) (ci := 0) rfl dX4_appendLetters_27 hx21 rfl (Nat.le_of_ble_eq_true rfl) (by first | omega | decide | exact Nat.lt_of_le_of_lt jshr (by omega) | exact Nat.lt_of_le_of_lt jand1 (by decide) | (simp only [List.length_append, List.length_cons, List.length_nil]; omega)) (by first | omega | decide | exact Nat.lt_of_le_of_lt jshr (by omega) | exact Nat.lt_of_le_of_lt jand1 (by decide) | (simp only [List.length_append, List.length_cons, List.length_nil]; omega)) ?_
          refine c_charAt htr hL (by first | omega | decide | exact Nat.lt_of_le_of_lt jshr (by omega) | exact Nat.lt_of_le_of_lt jand1 (by decide) | (simp only [List.length_append, List.length_cons, List.length_nil]; omega)) ?_
          show sg_W X M 0 0 30 [some (.ref x), some (.ref e), some (.int (nI 3))] [.int (nI 100), .ref e]
          obtain ⟨_, _, _, hx22, -⟩ := id hE
          refine sg_callV (pc := 30) (As := [.int (nI 100)]) (rest := []) (mc := 0) (ms := 0) hC tw_642 tw_224 tw_225 tw_64 tw_226 yd_J4_append_cf468 (by decide) (ci := 1) rfl dX4_appendLetters_30 hx22 rfl (Nat.le_of_ble_eq_true rfl) (by first | omega | decide | exact Nat.lt_of_le_of_lt jshr (by omega) | exact Nat.lt_of_le_of_lt jand1 (by decide) | (simp only [List.length_append, List.length_cons, List.length_nil]; omega)) (by first | omega | decide | exact Nat.lt_of_le_of_lt jshr (by omega) | exact Nat.lt_of_le_of_lt jand1 (by decide) | (simp only [List.length_append, List.length_cons, List.length_nil]; omega)) ?_
          refine c_sbAppC htr hE (by first | omega | decide | exact Nat.lt_of_le_of_lt jshr (by omega) | exact Nat.lt_of_le_of_lt jand1 (by decide) | (simp only [List.length_append, List.length_cons, List.length_nil]; omega)) (by first | omega | decide | exact Nat.lt_of_le_of_lt jshr (by omega) | exact Nat.lt_of_le_of_lt jand1 (by decide) | (simp only [List.length_append, List.length_cons, List.length_nil]; omega)) (by first | omega | decide | exact Nat.lt_of_le_of_lt jshr (by omega) | exact Nat.lt_of_le_of_lt jand1 (by decide) | (simp only [List.length_append, List.length_cons, List.length_nil]; omega)) (by first | omega | decide | exact Nat.lt_of_le_of_lt jshr (by omega) | exact Nat.lt_of_le_of_lt jand1 (by decide) | (simp only [List.length_append, List.length_cons, List.length_nil]; omega)) (by first | omega | decide | exact Nat.lt_of_le_of_lt jshr (by omega) | exact Nat.lt_of_le_of_lt jand1 (by decide) | (simp only [List.length_append, List.length_cons, List.length_nil]; omega)) (fun M23 hs24 hf25 => ?_)
          have hX : M23 x = some (74, .inr (7, [.ref ta, .int (nI s.1), .int (nI kd), .ref b, .int (nI s.2.2.1), .int (nI s.2.2.2.1), .int (nI s.2.2.2.2.1), .int (nI s.2.2.2.2.2)])) := hf25.p hX (by first | decide | (simp; done) | (simp; omega))
          have hL : st_r 0 0 M23 (G.2.2.2 1) ([114, 119, 120, 100]) := hL.p hf25 (by first | decide | (simp; done) | (simp; omega)) (by first | decide | (simp; done) | (simp; omega))
          have hf : sf (pk [77, 78]) M M23 := hf.tr hf25 (fun a t h => by first | exact h | (simp [pk] at h; done) | (simp [pk] at h ⊢; omega) | (simp [pk] at h ⊢; done))
          show sg_W X M23 0 0 33 [some (.ref x), some (.ref e), some (.int (nI 3))] [.ref e]
          refine sg_pop (pc := 33) hC dX4_appendLetters_33 rfl ?_
          refine sg_iincN (pc := 34) (a := 3) (b := 4) hC dX4_appendLetters_34 rfl (nI_1 _) (by decide) ?_
          show sg_W X M23 0 0 37 [some (.ref x), some (.ref e), some (.int (nI 4))] []
          refine sg_goto (pc := 37) 2 hC dX4_appendLetters_37 (by decide) ?_
          refine sg_iload_n (pc := 2) (x := nI 4) hC dX4_appendLetters_2 rfl ?_
          refine sg_ldc_rwxd (pc := 3) hC dX4_appendLetters_3 ?_
          obtain ⟨_, _, _, _, hx27, -⟩ := id hL
          refine sg_callV (pc := 5) (As := []) (rest := [.int (nI 4)]) (mc := 0) (ms := 0) hC tw_610 tw_482 tw_483 tw_65 tw_484 yd_J0_length_8abf5 (by decide) (ci := 0) rfl dX4_appendLetters_5 hx27 rfl (Nat.le_of_ble_eq_true rfl) (by first | omega | decide | exact Nat.lt_of_le_of_lt jshr (by omega) | exact Nat.lt_of_le_of_lt jand1 (by decide) | (simp only [List.length_append, List.length_cons, List.length_nil]; omega)) (by first | omega | decide | exact Nat.lt_of_le_of_lt jshr (by omega) | exact Nat.lt_of_le_of_lt jand1 (by decide) | (simp only [List.length_append, List.length_cons, List.length_nil]; omega)) ?_
          refine c_slen htr hL ?_
          show sg_W X M23 0 0 8 [some (.ref x), some (.ref e), some (.int (nI 4))] [.int (nI 4), .int (nI 4)]
          refine sg_icmpN_ge (pc := 8) (a := 4) (b := 4) 40 hC dX4_appendLetters_8 (by decide) (by decide) (by decide) (fun _ => ?_) (fun h28 => absurd h28 (by decide))
          have e9 : w ++ lets s.2.2.2.1 = w ++ [100] := by unfold lets; rw [if_neg h4, if_neg h8, if_neg h12, if_pos h16]; simp
          rw [e9] at hk
          exact sg_vreturn (st := []) (pc := 40) hC hR dX4_appendLetters_40 (hk _ hs24 hf)
      · refine sg_aload_n (pc := 23) (v := .ref e) hC dX4_appendLetters_23 rfl rfl ?_
        refine sg_ldc_rwxd (pc := 24) hC dX4_appendLetters_24 ?_
        refine sg_iload_n (pc := 26) (x := nI 2) hC dX4_appendLetters_26 rfl ?_
        obtain ⟨_, _, _, _, hx30, -⟩ := id hL
        refine sg_callV (pc := 27) (As := [.int (nI 2)]) (rest := [.ref e]) (mc := 0) (ms := 0) hC tw_611 tw_612 tw_613 tw_65 tw_614 yd_J0_charAt_5068e (by decide) (ci := 0) rfl dX4_appendLetters_27 hx30 rfl (Nat.le_of_ble_eq_true rfl) (by first | omega | decide | exact Nat.lt_of_le_of_lt jshr (by omega) | exact Nat.lt_of_le_of_lt jand1 (by decide) | (simp only [List.length_append, List.length_cons, List.length_nil]; omega)) (by first | omega | decide | exact Nat.lt_of_le_of_lt jshr (by omega) | exact Nat.lt_of_le_of_lt jand1 (by decide) | (simp only [List.length_append, List.length_cons, List.length_nil]; omega)) ?_
        refine c_charAt htr hL (by first | omega | decide | exact Nat.lt_of_le_of_lt jshr (by omega) | exact Nat.lt_of_le_of_lt jand1 (by decide) | (simp only [List.length_append, List.length_cons, List.length_nil]; omega)) ?_
        show sg_W X M 0 0 30 [some (.ref x), some (.ref e), some (.int (nI 2))] [.int (nI 120), .ref e]
        obtain ⟨_, _, _, hx31, -⟩ := id hE
        refine sg_callV (pc := 30) (As := [.int (nI 120)]) (rest := []) (mc := 0) (ms := 0) hC tw_642 tw_224 tw_225 tw_64 tw_226 yd_J4_append_cf468 (by decide) (ci := 1) rfl dX4_appendLetters_30 hx31 rfl (Nat.le_of_ble_eq_true rfl) (by first | omega | decide | exact Nat.lt_of_le_of_lt jshr (by omega) | exact Nat.lt_of_le_of_lt jand1 (by decide) | (simp only [List.length_append, List.length_cons, List.length_nil]; omega)) (by first | omega | decide | exact Nat.lt_of_le_of_lt jshr (by omega) | exact Nat.lt_of_le_of_lt jand1 (by decide) | (simp only [List.length_append, List.length_cons, List.length_nil]; omega)) ?_
        refine c_sbAppC htr hE (by first | omega | decide | exact Nat.lt_of_le_of_lt jshr (by omega) | exact Nat.lt_of_le_of_lt jand1 (by decide) | (simp only [List.length_append, List.length_cons, List.length_nil]; omega)) (by first | omega | decide | exact Nat.lt_of_le_of_lt jshr (by omega) | exact Nat.lt_of_le_of_lt jand1 (by decide) | (simp only [List.length_append, List.length_cons, List.length_nil]; omega)) (by first | omega | decide | exact Nat.lt_of_le_of_lt jshr (by omega) | exact Nat.lt_of_le_of_lt jand1 (by decide) | (simp only [List.length_append, List.length_cons, List.length_nil]; omega)) (by first | omega | decide | exact Nat.lt_of_le_of_lt jshr (by omega) | exact Nat.lt_of_le_of_lt jand1 (by decide) | (simp only [List.length_append, List.length_cons, List.length_nil]; omega)) (by first | omega | decide | exact Nat.lt_of_le_of_lt jshr (by omega) | exact Nat.lt_of_le_of_lt jand1 (by decide) | (simp only [List.length_append, List.length_cons, List.length_nil]; omega)) (fun M32 hs33 hf34 => ?_)
        have hX : M32 x = some (74, .inr (7, [.ref ta, .int (nI s.1), .int (nI kd), .ref b, .int (nI s.2.2.1), .int (nI s.2.2.2.1), .int (nI s.2.2.2.2.1), .int (nI s.2.2.2.2.2)])) := hf34.p hX (by first | decide | (simp; done) | (simp; omega))
        have hL : st_r 0 0 M32 (G.2.2.2 1) ([114, 119, 120, 100]) := hL.p hf34 (by first | decide | (simp; done) | (simp; omega)) (by first | decide | (simp; done) | (simp; omega))
        have hf : sf (pk [77, 78]) M M32 := hf.tr hf34 (fun a t h => by first | exact h | (simp [pk] at h; done) | (simp [pk] at h ⊢; omega) | (simp [pk] at h ⊢; done))
        show sg_W X M32 0 0 33 [some (.ref x), some (.ref e), some (.int (nI 2))] [.ref e]
        refine sg_pop (pc := 33) hC dX4_appendLetters_33 rfl ?_
        refine sg_iincN (pc := 34) (a := 2) (b := 3) hC dX4_appendLetters_34 rfl (nI_1 _) (by decide) ?_
        show sg_W X M32 0 0 37 [some (.ref x), some (.ref e), some (.int (nI 3))] []
        refine sg_goto (pc := 37) 2 hC dX4_appendLetters_37 (by decide) ?_
        refine sg_iload_n (pc := 2) (x := nI 3) hC dX4_appendLetters_2 rfl ?_
        refine sg_ldc_rwxd (pc := 3) hC dX4_appendLetters_3 ?_
        obtain ⟨_, _, _, _, hx36, -⟩ := id hL
        refine sg_callV (pc := 5) (As := []) (rest := [.int (nI 3)]) (mc := 0) (ms := 0) hC tw_610 tw_482 tw_483 tw_65 tw_484 yd_J0_length_8abf5 (by decide) (ci := 0) rfl dX4_appendLetters_5 hx36 rfl (Nat.le_of_ble_eq_true rfl) (by first | omega | decide | exact Nat.lt_of_le_of_lt jshr (by omega) | exact Nat.lt_of_le_of_lt jand1 (by decide) | (simp only [List.length_append, List.length_cons, List.length_nil]; omega)) (by first | omega | decide | exact Nat.lt_of_le_of_lt jshr (by omega) | exact Nat.lt_of_le_of_lt jand1 (by decide) | (simp only [List.length_append, List.length_cons, List.length_nil]; omega)) ?_
        refine c_slen htr hL ?_
        show sg_W X M32 0 0 8 [some (.ref x), some (.ref e), some (.int (nI 3))] [.int (nI 4), .int (nI 3)]
        refine sg_icmpN_ge (pc := 8) (a := 3) (b := 4) 40 hC dX4_appendLetters_8 (by decide) (by decide) (by decide) (fun h37 => absurd h37 (by decide)) (fun _ => ?_)
        refine sg_aload_n (pc := 11) (v := .ref x) hC dX4_appendLetters_11 rfl rfl ?_
        refine sg_get (pc := 12) (a := x) (v := .int (nI s.2.2.2.1)) 5 hC rfl inw_X4 (by decide) tw_555 dX4_appendLetters_12 hX rfl ?_
        refine sg_iload_n (pc := 15) (x := nI 3) hC dX4_appendLetters_15 rfl ?_
        refine sg_ishrN (pc := 16) (a := s.2.2.2.1) (b := 3) hC dX4_appendLetters_16 (by first | omega | decide | exact Nat.lt_of_le_of_lt jshr (by omega) | exact Nat.lt_of_le_of_lt jand1 (by decide) | (simp only [List.length_append, List.length_cons, List.length_nil]; omega)) (by first | omega | exact Nat.lt_of_le_of_lt jshr (by omega)) ?_
        refine sg_iconst (pc := 17) (nI 1) hC dX4_appendLetters_17 (by decide) ?_
        refine sg_iandN (pc := 18) (a := s.2.2.2.1 >>> 3) (b := 1) hC dX4_appendLetters_18 ?_
        refine sg_iconst (pc := 19) (nI 1) hC dX4_appendLetters_19 (by decide) ?_
        refine sg_icmpN_ne (pc := 20) (a := (s.2.2.2.1 >>> 3) &&& 1) (b := 1) 34 hC dX4_appendLetters_20 (by decide) (by first | omega | decide | exact Nat.lt_of_le_of_lt jshr (by omega) | exact Nat.lt_of_le_of_lt jand1 (by decide) | (simp only [List.length_append, List.length_cons, List.length_nil]; omega)) (by first | omega | decide | exact Nat.lt_of_le_of_lt jshr (by omega) | exact Nat.lt_of_le_of_lt jand1 (by decide) | (simp only [List.length_append, List.length_cons, List.length_nil]; omega)) (fun h38 => ?_) (fun h38 => ?_)
        · refine sg_iincN (pc := 34) (a := 3) (b := 4) hC dX4_appendLetters_34 rfl (nI_1 _) (by decide) ?_
          show sg_W X M32 0 0 37 [some (.ref x), some (.ref e), some (.int (nI 4))] []
          refine sg_goto (pc := 37) 2 hC dX4_appendLetters_37 (by decide) ?_
          refine sg_iload_n (pc := 2) (x := nI 4) hC dX4_appendLetters_2 rfl ?_
          refine sg_ldc_rwxd (pc := 3) hC dX4_appendLetters_3 ?_
          obtain ⟨_, _, _, _, hx40, -⟩ := id hL
          refine sg_callV (pc := 5) (As := []) (rest := [.int (nI 4)]) (mc := 0) (ms := 0) hC tw_610 tw_482 tw_483 tw_65 tw_484 yd_J0_length_8abf5 (by decide) (ci := 0) rfl dX4_appendLetters_5 hx40 rfl (Nat.le_of_ble_eq_true rfl) (by first | omega | decide | exact Nat.lt_of_le_of_lt jshr (by omega) | exact Nat.lt_of_le_of_lt jand1 (by decide) | (simp only [List.length_append, List.length_cons, List.length_nil]; omega)) (by first | omega | decide | exact Nat.lt_of_le_of_lt jshr (by omega) | exact Nat.lt_of_le_of_lt jand1 (by decide) | (simp only [List.length_append, List.length_cons, List.length_nil]; omega)) ?_
          refine c_slen htr hL ?_
          show sg_W X M32 0 0 8 [some (.ref x), some (.ref e), some (.int (nI 4))] [.int (nI 4), .int (nI 4)]
          refine sg_icmpN_ge (pc := 8) (a := 4) (b := 4) 40 hC dX4_appendLetters_8 (by decide) (by decide) (by decide) (fun _ => ?_) (fun h41 => absurd h41 (by decide))
          have e9 : w ++ lets s.2.2.2.1 = w ++ [120] := by unfold lets; rw [if_neg h4, if_neg h8, if_pos h12, if_neg h38]; simp
          rw [e9] at hk
          exact sg_vreturn (st := []) (pc := 40) hC hR dX4_appendLetters_40 (hk _ hs33 hf)
        · refine sg_aload_n (pc := 23) (v := .ref e) hC dX4_appendLetters_23 rfl rfl ?_
          refine sg_ldc_rwxd (pc := 24) hC dX4_appendLetters_24 ?_
          refine sg_iload_n (pc := 26) (x := nI 3) hC dX4_appendLetters_26 rfl ?_
          obtain ⟨_, _, _, _, hx43, -⟩ := id hL
          refine sg_callV (pc := 27) (As := [.int (nI 3)]) (rest := [.ref e]) (mc := 0) (ms := 0) hC tw_611 tw_612 tw_613 tw_65 tw_614 yd_J0_charAt_5068e (by decide) (ci := 0) rfl dX4_appendLetters_27 hx43 rfl (Nat.le_of_ble_eq_true rfl) (by first | omega | decide | exact Nat.lt_of_le_of_lt jshr (by omega) | exact Nat.lt_of_le_of_lt jand1 (by decide) | (simp only [List.length_append, List.length_cons, List.length_nil]; omega)) (by first | omega | decide | exact Nat.lt_of_le_of_lt jshr (by omega) | exact Nat.lt_of_le_of_lt jand1 (by decide) | (simp only [List.length_append, List.length_cons, List.length_nil]; omega)) ?_
          refine c_charAt htr hL (by first | omega | decide | exact Nat.lt_of_le_of_lt jshr (by omega) | exact Nat.lt_of_le_of_lt jand1 (by decide) | (simp only [List.length_append, List.length_cons, List.length_nil]; omega)) ?_
          show sg_W X M32 0 0 30 [some (.ref x), some (.ref e), some (.int (nI 3))] [.int (nI 100), .ref e]
          obtain ⟨_, _, _, hx44, -⟩ := id hs33
          refine sg_callV (pc := 30) (As := [.int (nI 100)]) (rest := []) (mc := 0) (ms := 0) hC tw_642 tw_224 tw_225 tw_64 tw_226 yd_J4_append_cf468 (by decide) (ci := 1) rfl dX4_appendLetters_30 hx44 rfl (Nat.le_of_ble_eq_true rfl) (by first | omega | decide | exact Nat.lt_of_le_of_lt jshr (by omega) | exact Nat.lt_of_le_of_lt jand1 (by decide) | (simp only [List.length_append, List.length_cons, List.length_nil]; omega)) (by first | omega | decide | exact Nat.lt_of_le_of_lt jshr (by omega) | exact Nat.lt_of_le_of_lt jand1 (by decide) | (simp only [List.length_append, List.length_cons, List.length_nil]; omega)) ?_
          refine c_sbAppC htr hs33 (by first | omega | decide | exact Nat.lt_of_le_of_lt jshr (by omega) | exact Nat.lt_of_le_of_lt jand1 (by decide) | (simp only [List.length_append, List.length_cons, List.length_nil]; omega)) (by first | omega | decide | exact Nat.lt_of_le_of_lt jshr (by omega) | exact Nat.lt_of_le_of_lt jand1 (by decide) | (simp only [List.length_append, List.length_cons, List.length_nil]; omega)) (by first | omega | decide | exact Nat.lt_of_le_of_lt jshr (by omega) | exact Nat.lt_of_le_of_lt jand1 (by decide) | (simp only [List.length_append, List.length_cons, List.length_nil]; omega)) (by first | omega | decide | exact Nat.lt_of_le_of_lt jshr (by omega) | exact Nat.lt_of_le_of_lt jand1 (by decide) | (simp only [List.length_append, List.length_cons, List.length_nil]; omega)) (by first | omega | decide | exact Nat.lt_of_le_of_lt jshr (by omega) | exact Nat.lt_of_le_of_lt jand1 (by decide) | (simp only [List.length_append, List.length_cons, List.length_nil]; omega)) (fun M45 hs46 hf47 => ?_)
          have hX : M45 x = some (74, .inr (7, [.ref ta, .int (nI s.1), .int (nI kd), .ref b, .int (nI s.2.2.1), .int (nI s.2.2.2.1), .int (nI s.2.2.2.2.1), .int (nI s.2.2.2.2.2)])) := hf47.p hX (by first | decide | (simp; done) | (simp; omega))
          have hL : st_r 0 0 M45 (G.2.2.2 1) ([114, 119, 120, 100]) := hL.p hf47 (by first | decide | (simp; done) | (simp; omega)) (by first | decide | (simp; done) | (simp; omega))
          have hf : sf (pk [77, 78]) M M45 := hf.tr hf47 (fun a t h => by first | exact h | (simp [pk] at h; done) | (simp [pk] at h ⊢; omega) | (simp [pk] at h ⊢; done))
          show sg_W X M45 0 0 33 [some (.ref x), some (.ref e), some (.int (nI 3))] [.ref e]
          refine sg_pop (pc := 33) hC dX4_appendLetters_33 rfl ?_
          refine sg_iincN (pc := 34) (a := 3) (b := 4) hC dX4_appendLetters_34 rfl (nI_1 _) (by decide) ?_
          show sg_W X M45 0 0 37 [some (.ref x), some (.ref e), some (.int (nI 4))] []
          refine sg_goto (pc := 37) 2 hC dX4_appendLetters_37 (by decide) ?_
          refine sg_iload_n (pc := 2) (x := nI 4) hC dX4_appendLetters_2 rfl ?_
          refine sg_ldc_rwxd (pc := 3) hC dX4_appendLetters_3 ?_
          obtain ⟨_, _, _, _, hx49, -⟩ := id hL
          refine sg_callV (pc := 5) (As := []) (rest := [.int (nI 4)]) (mc := 0) (ms := 0) hC tw_610 tw_482 tw_483 tw_65 tw_484 yd_J0_length_8abf5 (by decide) (ci := 0) rfl dX4_appendLetters_5 hx49 rfl (Nat.le_of_ble_eq_true rfl) (by first | omega | decide | exact Nat.lt_of_le_of_lt jshr (by omega) | exact Nat.lt_of_le_of_lt jand1 (by decide) | (simp only [List.length_append, List.length_cons, List.length_nil]; omega)) (by first | omega | decide | exact Nat.lt_of_le_of_lt jshr (by omega) | exact Nat.lt_of_le_of_lt jand1 (by decide) | (simp only [List.length_append, List.length_cons, List.length_nil]; omega)) ?_
          refine c_slen htr hL ?_
          show sg_W X M45 0 0 8 [some (.ref x), some (.ref e), some (.int (nI 4))] [.int (nI 4), .int (nI 4)]
          refine sg_icmpN_ge (pc := 8) (a := 4) (b := 4) 40 hC dX4_appendLetters_8 (by decide) (by decide) (by decide) (fun _ => ?_) (fun h50 => absurd h50 (by decide))
          have e9 : w ++ lets s.2.2.2.1 = w ++ [120] ++ [100] := by unfold lets; rw [if_neg h4, if_neg h8, if_pos h12, if_pos h38]; simp
          rw [e9] at hk
          exact sg_vreturn (st := []) (pc := 40) hC hR dX4_appendLetters_40 (hk _ hs46 hf)
    · refine sg_aload_n (pc := 23) (v := .ref e) hC dX4_appendLetters_23 rfl rfl ?_
      refine sg_ldc_rwxd (pc := 24) hC dX4_appendLetters_24 ?_
      refine sg_iload_n (pc := 26) (x := nI 1) hC dX4_appendLetters_26 rfl ?_
      obtain ⟨_, _, _, _, hx52, -⟩ := id hL
      refine sg_callV (pc := 27) (As := [.int (nI 1)]) (rest := [.ref e]) (mc := 0) (ms := 0) hC tw_611 tw_612 tw_613 tw_65 tw_614 yd_J0_charAt_5068e (by decide) (ci := 0) rfl dX4_appendLetters_27 hx52 rfl (Nat.le_of_ble_eq_true rfl) (by first | omega | decide | exact Nat.lt_of_le_of_lt jshr (by omega) | exact Nat.lt_of_le_of_lt jand1 (by decide) | (simp only [List.length_append, List.length_cons, List.length_nil]; omega)) (by first | omega | decide | exact Nat.lt_of_le_of_lt jshr (by omega) | exact Nat.lt_of_le_of_lt jand1 (by decide) | (simp only [List.length_append, List.length_cons, List.length_nil]; omega)) ?_
      refine c_charAt htr hL (by first | omega | decide | exact Nat.lt_of_le_of_lt jshr (by omega) | exact Nat.lt_of_le_of_lt jand1 (by decide) | (simp only [List.length_append, List.length_cons, List.length_nil]; omega)) ?_
      show sg_W X M 0 0 30 [some (.ref x), some (.ref e), some (.int (nI 1))] [.int (nI 119), .ref e]
      obtain ⟨_, _, _, hx53, -⟩ := id hE
      refine sg_callV (pc := 30) (As := [.int (nI 119)]) (rest := []) (mc := 0) (ms := 0) hC tw_642 tw_224 tw_225 tw_64 tw_226 yd_J4_append_cf468 (by decide) (ci := 1) rfl dX4_appendLetters_30 hx53 rfl (Nat.le_of_ble_eq_true rfl) (by first | omega | decide | exact Nat.lt_of_le_of_lt jshr (by omega) | exact Nat.lt_of_le_of_lt jand1 (by decide) | (simp only [List.length_append, List.length_cons, List.length_nil]; omega)) (by first | omega | decide | exact Nat.lt_of_le_of_lt jshr (by omega) | exact Nat.lt_of_le_of_lt jand1 (by decide) | (simp only [List.length_append, List.length_cons, List.length_nil]; omega)) ?_
      refine c_sbAppC htr hE (by first | omega | decide | exact Nat.lt_of_le_of_lt jshr (by omega) | exact Nat.lt_of_le_of_lt jand1 (by decide) | (simp only [List.length_append, List.length_cons, List.length_nil]; omega)) (by first | omega | decide | exact Nat.lt_of_le_of_lt jshr (by omega) | exact Nat.lt_of_le_of_lt jand1 (by decide) | (simp only [List.length_append, List.length_cons, List.length_nil]; omega)) (by first | omega | decide | exact Nat.lt_of_le_of_lt jshr (by omega) | exact Nat.lt_of_le_of_lt jand1 (by decide) | (simp only [List.length_append, List.length_cons, List.length_nil]; omega)) (by first | omega | decide | exact Nat.lt_of_le_of_lt jshr (by omega) | exact Nat.lt_of_le_of_lt jand1 (by decide) | (simp only [List.length_append, List.length_cons, List.length_nil]; omega)) (by first | omega | decide | exact Nat.lt_of_le_of_lt jshr (by omega) | exact Nat.lt_of_le_of_lt jand1 (by decide) | (simp only [List.length_append, List.length_cons, List.length_nil]; omega)) (fun M54 hs55 hf56 => ?_)
      have hX : M54 x = some (74, .inr (7, [.ref ta, .int (nI s.1), .int (nI kd), .ref b, .int (nI s.2.2.1), .int (nI s.2.2.2.1), .int (nI s.2.2.2.2.1), .int (nI s.2.2.2.2.2)])) := hf56.p hX (by first | decide | (simp; done) | (simp; omega))
      have hL : st_r 0 0 M54 (G.2.2.2 1) ([114, 119, 120, 100]) := hL.p hf56 (by first | decide | (simp; done) | (simp; omega)) (by first | decide | (simp; done) | (simp; omega))
      have hf : sf (pk [77, 78]) M M54 := hf.tr hf56 (fun a t h => by first | exact h | (simp [pk] at h; done) | (simp [pk] at h ⊢; omega) | (simp [pk] at h ⊢; done))
      show sg_W X M54 0 0 33 [some (.ref x), some (.ref e), some (.int (nI 1))] [.ref e]
      refine sg_pop (pc := 33) hC dX4_appendLetters_33 rfl ?_
      refine sg_iincN (pc := 34) (a := 1) (b := 2) hC dX4_appendLetters_34 rfl (nI_1 _) (by decide) ?_
      show sg_W X M54 0 0 37 [some (.ref x), some (.ref e), some (.int (nI 2))] []
      refine sg_goto (pc := 37) 2 hC dX4_appendLetters_37 (by decide) ?_
      refine sg_iload_n (pc := 2) (x := nI 2) hC dX4_appendLetters_2 rfl ?_
      refine sg_ldc_rwxd (pc := 3) hC dX4_appendLetters_3 ?_
      obtain ⟨_, _, _, _, hx58, -⟩ := id hL
      refine sg_callV (pc := 5) (As := []) (rest := [.int (nI 2)]) (mc := 0) (ms := 0) hC tw_610 tw_482 tw_483 tw_65 tw_484 yd_J0_length_8abf5 (by decide) (ci := 0) rfl dX4_appendLetters_5 hx58 rfl (Nat.le_of_ble_eq_true rfl) (by first | omega | decide | exact Nat.lt_of_le_of_lt jshr (by omega) | exact Nat.lt_of_le_of_lt jand1 (by decide) | (simp only [List.length_append, List.length_cons, List.length_nil]; omega)) (by first | omega | decide | exact Nat.lt_of_le_of_lt jshr (by omega) | exact Nat.lt_of_le_of_lt jand1 (by decide) | (simp only [List.length_append, List.length_cons, List.length_nil]; omega)) ?_
      refine c_slen htr hL ?_
      show sg_W X M54 0 0 8 [some (.ref x), some (.ref e), some (.int (nI 2))] [.int (nI 4), .int (nI 2)]
      refine sg_icmpN_ge (pc := 8) (a := 2) (b := 4) 40 hC dX4_appendLetters_8 (by decide) (by decide) (by decide) (fun h59 => absurd h59 (by decide)) (fun _ => ?_)
      refine sg_aload_n (pc := 11) (v := .ref x) hC dX4_appendLetters_11 rfl rfl ?_
      refine sg_get (pc := 12) (a := x) (v := .int (nI s.2.2.2.1)) 5 hC rfl inw_X4 (by decide) tw_555 dX4_appendLetters_12 hX rfl ?_
      refine sg_iload_n (pc := 15) (x := nI 2) hC dX4_appendLetters_15 rfl ?_
      refine sg_ishrN (pc := 16) (a := s.2.2.2.1) (b := 2) hC dX4_appendLetters_16 (by first | omega | decide | exact Nat.lt_of_le_of_lt jshr (by omega) | exact Nat.lt_of_le_of_lt jand1 (by decide) | (simp only [List.length_append, List.length_cons, List.length_nil]; omega)) (by first | omega | exact Nat.lt_of_le_of_lt jshr (by omega)) ?_
      refine sg_iconst (pc := 17) (nI 1) hC dX4_appendLetters_17 (by decide) ?_
      refine sg_iandN (pc := 18) (a := s.2.2.2.1 >>> 2) (b := 1) hC dX4_appendLetters_18 ?_
      refine sg_iconst (pc := 19) (nI 1) hC dX4_appendLetters_19 (by decide) ?_
      refine sg_icmpN_ne (pc := 20) (a := (s.2.2.2.1 >>> 2) &&& 1) (b := 1) 34 hC dX4_appendLetters_20 (by decide) (by first | omega | decide | exact Nat.lt_of_le_of_lt jshr (by omega) | exact Nat.lt_of_le_of_lt jand1 (by decide) | (simp only [List.length_append, List.length_cons, List.length_nil]; omega)) (by first | omega | decide | exact Nat.lt_of_le_of_lt jshr (by omega) | exact Nat.lt_of_le_of_lt jand1 (by decide) | (simp only [List.length_append, List.length_cons, List.length_nil]; omega)) (fun h60 => ?_) (fun h60 => ?_)
      · refine sg_iincN (pc := 34) (a := 2) (b := 3) hC dX4_appendLetters_34 rfl (nI_1 _) (by decide) ?_
        show sg_W X M54 0 0 37 [some (.ref x), some (.ref e), some (.int (nI 3))] []
        refine sg_goto (pc := 37) 2 hC dX4_appendLetters_37 (by decide) ?_
        refine sg_iload_n (pc := 2) (x := nI 3) hC dX4_appendLetters_2 rfl ?_
        refine sg_ldc_rwxd (pc := 3) hC dX4_appendLetters_3 ?_
        obtain ⟨_, _, _, _, hx62, -⟩ := id hL
        refine sg_callV (pc := 5) (As := []) (rest := [.int (nI 3)]) (mc := 0) (ms := 0) hC tw_610 tw_482 tw_483 tw_65 tw_484 yd_J0_length_8abf5 (by decide) (ci := 0) rfl dX4_appendLetters_5 hx62 rfl (Nat.le_of_ble_eq_true rfl) (by first | omega | decide | exact Nat.lt_of_le_of_lt jshr (by omega) | exact Nat.lt_of_le_of_lt jand1 (by decide) | (simp only [List.length_append, List.length_cons, List.length_nil]; omega)) (by first | omega | decide | exact Nat.lt_of_le_of_lt jshr (by omega) | exact Nat.lt_of_le_of_lt jand1 (by decide) | (simp only [List.length_append, List.length_cons, List.length_nil]; omega)) ?_
        refine c_slen htr hL ?_
        show sg_W X M54 0 0 8 [some (.ref x), some (.ref e), some (.int (nI 3))] [.int (nI 4), .int (nI 3)]
        refine sg_icmpN_ge (pc := 8) (a := 3) (b := 4) 40 hC dX4_appendLetters_8 (by decide) (by decide) (by decide) (fun h63 => absurd h63 (by decide)) (fun _ => ?_)
        refine sg_aload_n (pc := 11) (v := .ref x) hC dX4_appendLetters_11 rfl rfl ?_
        refine sg_get (pc := 12) (a := x) (v := .int (nI s.2.2.2.1)) 5 hC rfl inw_X4 (by decide) tw_555 dX4_appendLetters_12 hX rfl ?_
        refine sg_iload_n (pc := 15) (x := nI 3) hC dX4_appendLetters_15 rfl ?_
        refine sg_ishrN (pc := 16) (a := s.2.2.2.1) (b := 3) hC dX4_appendLetters_16 (by first | omega | decide | exact Nat.lt_of_le_of_lt jshr (by omega) | exact Nat.lt_of_le_of_lt jand1 (by decide) | (simp only [List.length_append, List.length_cons, List.length_nil]; omega)) (by first | omega | exact Nat.lt_of_le_of_lt jshr (by omega)) ?_
        refine sg_iconst (pc := 17) (nI 1) hC dX4_appendLetters_17 (by decide) ?_
        refine sg_iandN (pc := 18) (a := s.2.2.2.1 >>> 3) (b := 1) hC dX4_appendLetters_18 ?_
        refine sg_iconst (pc := 19) (nI 1) hC dX4_appendLetters_19 (by decide) ?_
        refine sg_icmpN_ne (pc := 20) (a := (s.2.2.2.1 >>> 3) &&& 1) (b := 1) 34 hC dX4_appendLetters_20 (by decide) (by first | omega | decide | exact Nat.lt_of_le_of_lt jshr (by omega) | exact Nat.lt_of_le_of_lt jand1 (by decide) | (simp only [List.length_append, List.length_cons, List.length_nil]; omega)) (by first | omega | decide | exact Nat.lt_of_le_of_lt jshr (by omega) | exact Nat.lt_of_le_of_lt jand1 (by decide) | (simp only [List.length_append, List.length_cons, List.length_nil]; omega)) (fun h64 => ?_) (fun h64 => ?_)
        · refine sg_iincN (pc := 34) (a := 3) (b := 4) hC dX4_appendLetters_34 rfl (nI_1 _) (by decide) ?_
          show sg_W X M54 0 0 37 [some (.ref x), some (.ref e), some (.int (nI 4))] []
          refine sg_goto (pc := 37) 2 hC dX4_appendLetters_37 (by decide) ?_
          refine sg_iload_n (pc := 2) (x := nI 4) hC dX4_appendLetters_2 rfl ?_
          refine sg_ldc_rwxd (pc := 3) hC dX4_appendLetters_3 ?_
          obtain ⟨_, _, _, _, hx66, -⟩ := id hL
          refine sg_callV (pc := 5) (As := []) (rest := [.int (nI 4)]) (mc := 0) (ms := 0) hC tw_610 tw_482 tw_483 tw_65 tw_484 yd_J0_length_8abf5 (by decide) (ci := 0) rfl dX4_appendLetters_5 hx66 rfl (Nat.le_of_ble_eq_true rfl) (by first | omega | decide | exact Nat.lt_of_le_of_lt jshr (by omega) | exact Nat.lt_of_le_of_lt jand1 (by decide) | (simp only [List.length_append, List.length_cons, List.length_nil]; omega)) (by first | omega | decide | exact Nat.lt_of_le_of_lt jshr (by omega) | exact Nat.lt_of_le_of_lt jand1 (by decide) | (simp only [List.length_append, List.length_cons, List.length_nil]; omega)) ?_
          refine c_slen htr hL ?_
          show sg_W X M54 0 0 8 [some (.ref x), some (.ref e), some (.int (nI 4))] [.int (nI 4), .int (nI 4)]
          refine sg_icmpN_ge (pc := 8) (a := 4) (b := 4) 40 hC dX4_appendLetters_8 (by decide) (by decide) (by decide) (fun _ => ?_) (fun h67 => absurd h67 (by decide))
          have e9 : w ++ lets s.2.2.2.1 = w ++ [119] := by unfold lets; rw [if_neg h4, if_pos h8, if_neg h60, if_neg h64]; simp
          rw [e9] at hk
          exact sg_vreturn (st := []) (pc := 40) hC hR dX4_appendLetters_40 (hk _ hs55 hf)
        · refine sg_aload_n (pc := 23) (v := .ref e) hC dX4_appendLetters_23 rfl rfl ?_
          refine sg_ldc_rwxd (pc := 24) hC dX4_appendLetters_24 ?_
          refine sg_iload_n (pc := 26) (x := nI 3) hC dX4_appendLetters_26 rfl ?_
          obtain ⟨_, _, _, _, hx69, -⟩ := id hL
          refine sg_callV (pc := 27) (As := [.int (nI 3)]) (rest := [.ref e]) (mc := 0) (ms := 0) hC tw_611 tw_612 tw_613 tw_65 tw_614 yd_J0_charAt_5068e (by decide) (ci := 0) rfl dX4_appendLetters_27 hx69 rfl (Nat.le_of_ble_eq_true rfl) (by first | omega | decide | exact Nat.lt_of_le_of_lt jshr (by omega) | exact Nat.lt_of_le_of_lt jand1 (by decide) | (simp only [List.length_append, List.length_cons, List.length_nil]; omega)) (by first | omega | decide | exact Nat.lt_of_le_of_lt jshr (by omega) | exact Nat.lt_of_le_of_lt jand1 (by decide) | (simp only [List.length_append, List.length_cons, List.length_nil]; omega)) ?_
          refine c_charAt htr hL (by first | omega | decide | exact Nat.lt_of_le_of_lt jshr (by omega) | exact Nat.lt_of_le_of_lt jand1 (by decide) | (simp only [List.length_append, List.length_cons, List.length_nil]; omega)) ?_
          show sg_W X M54 0 0 30 [some (.ref x), some (.ref e), some (.int (nI 3))] [.int (nI 100), .ref e]
          obtain ⟨_, _, _, hx70, -⟩ := id hs55
          refine sg_callV (pc := 30) (As := [.int (nI 100)]) (rest := []) (mc := 0) (ms := 0) hC tw_642 tw_224 tw_225 tw_64 tw_226 yd_J4_append_cf468 (by decide) (ci := 1) rfl dX4_appendLetters_30 hx70 rfl (Nat.le_of_ble_eq_true rfl) (by first | omega | decide | exact Nat.lt_of_le_of_lt jshr (by omega) | exact Nat.lt_of_le_of_lt jand1 (by decide) | (simp only [List.length_append, List.length_cons, List.length_nil]; omega)) (by first | omega | decide | exact Nat.lt_of_le_of_lt jshr (by omega) | exact Nat.lt_of_le_of_lt jand1 (by decide) | (simp only [List.length_append, List.length_cons, List.length_nil]; omega)) ?_
          refine c_sbAppC htr hs55 (by first | omega | decide | exact Nat.lt_of_le_of_lt jshr (by omega) | exact Nat.lt_of_le_of_lt jand1 (by decide) | (simp only [List.length_append, List.length_cons, List.length_nil]; omega)) (by first | omega | decide | exact Nat.lt_of_le_of_lt jshr (by omega) | exact Nat.lt_of_le_of_lt jand1 (by decide) | (simp only [List.length_append, List.length_cons, List.length_nil]; omega)) (by first | omega | decide | exact Nat.lt_of_le_of_lt jshr (by omega) | exact Nat.lt_of_le_of_lt jand1 (by decide) | (simp only [List.length_append, List.length_cons, List.length_nil]; omega)) (by first | omega | decide | exact Nat.lt_of_le_of_lt jshr (by omega) | exact Nat.lt_of_le_of_lt jand1 (by decide) | (simp only [List.length_append, List.length_cons, List.length_nil]; omega)) (by first | omega | decide | exact Nat.lt_of_le_of_lt jshr (by omega) | exact Nat.lt_of_le_of_lt jand1 (by decide) | (simp only [List.length_append, List.length_cons, List.length_nil]; omega)) (fun M71 hs72 hf73 => ?_)
          have hX : M71 x = some (74, .inr (7, [.ref ta, .int (nI s.1), .int (nI kd), .ref b, .int (nI s.2.2.1), .int (nI s.2.2.2.1), .int (nI s.2.2.2.2.1), .int (nI s.2.2.2.2.2)])) := hf73.p hX (by first | decide | (simp; done) | (simp; omega))
          have hL : st_r 0 0 M71 (G.2.2.2 1) ([114, 119, 120, 100]) := hL.p hf73 (by first | decide | (simp; done) | (simp; omega)) (by first | decide | (simp; done) | (simp; omega))
          have hf : sf (pk [77, 78]) M M71 := hf.tr hf73 (fun a t h => by first | exact h | (simp [pk] at h; done) | (simp [pk] at h ⊢; omega) | (simp [pk] at h ⊢; done))
          show sg_W X M71 0 0 33 [some (.ref x), some (.ref e), some (.int (nI 3))] [.ref e]
          refine sg_pop (pc := 33) hC dX4_appendLetters_33 rfl ?_
          refine sg_iincN (pc := 34) (a := 3) (b := 4) hC dX4_appendLetters_34 rfl (nI_1 _) (by decide) ?_
          show sg_W X M71 0 0 37 [some (.ref x), some (.ref e), some (.int (nI 4))] []
          refine sg_goto (pc := 37) 2 hC dX4_appendLetters_37 (by decide) ?_
          refine sg_iload_n (pc := 2) (x := nI 4) hC dX4_appendLetters_2 rfl ?_
          refine sg_ldc_rwxd (pc := 3) hC dX4_appendLetters_3 ?_
          obtain ⟨_, _, _, _, hx75, -⟩ := id hL
          refine sg_callV (pc := 5) (As := []) (rest := [.int (nI 4)]) (mc := 0) (ms := 0) hC tw_610 tw_482 tw_483 tw_65 tw_484 yd_J0_length_8abf5 (by decide) (ci := 0) rfl dX4_appendLetters_5 hx75 rfl (Nat.le_of_ble_eq_true rfl) (by first | omega | decide | exact Nat.lt_of_le_of_lt jshr (by omega) | exact Nat.lt_of_le_of_lt jand1 (by decide) | (simp only [List.length_append, List.length_cons, List.length_nil]; omega)) (by first | omega | decide | exact Nat.lt_of_le_of_lt jshr (by omega) | exact Nat.lt_of_le_of_lt jand1 (by decide) | (simp only [List.length_append, List.length_cons, List.length_nil]; omega)) ?_
          refine c_slen htr hL ?_
          show sg_W X M71 0 0 8 [some (.ref x), some (.ref e), some (.int (nI 4))] [.int (nI 4), .int (nI 4)]
          refine sg_icmpN_ge (pc := 8) (a := 4) (b := 4) 40 hC dX4_appendLetters_8 (by decide) (by decide) (by decide) (fun _ => ?_) (fun h76 => absurd h76 (by decide))
          have e9 : w ++ lets s.2.2.2.1 = w ++ [119] ++ [100] := by unfold lets; rw [if_neg h4, if_pos h8, if_neg h60, if_pos h64]; simp
          rw [e9] at hk
          exact sg_vreturn (st := []) (pc := 40) hC hR dX4_appendLetters_40 (hk _ hs72 hf)
      · refine sg_aload_n (pc := 23) (v := .ref e) hC dX4_appendLetters_23 rfl rfl ?_
        refine sg_ldc_rwxd (pc := 24) hC dX4_appendLetters_24 ?_
        refine sg_iload_n (pc := 26) (x := nI 2) hC dX4_appendLetters_26 rfl ?_
        obtain ⟨_, _, _, _, hx78, -⟩ := id hL
        refine sg_callV (pc := 27) (As := [.int (nI 2)]) (rest := [.ref e]) (mc := 0) (ms := 0) hC tw_611 tw_612 tw_613 tw_65 tw_614 yd_J0_charAt_5068e (by decide) (ci := 0) rfl dX4_appendLetters_27 hx78 rfl (Nat.le_of_ble_eq_true rfl) (by first | omega | decide | exact Nat.lt_of_le_of_lt jshr (by omega) | exact Nat.lt_of_le_of_lt jand1 (by decide) | (simp only [List.length_append, List.length_cons, List.length_nil]; omega)) (by first | omega | decide | exact Nat.lt_of_le_of_lt jshr (by omega) | exact Nat.lt_of_le_of_lt jand1 (by decide) | (simp only [List.length_append, List.length_cons, List.length_nil]; omega)) ?_
        refine c_charAt htr hL (by first | omega | decide | exact Nat.lt_of_le_of_lt jshr (by omega) | exact Nat.lt_of_le_of_lt jand1 (by decide) | (simp only [List.length_append, List.length_cons, List.length_nil]; omega)) ?_
        show sg_W X M54 0 0 30 [some (.ref x), some (.ref e), some (.int (nI 2))] [.int (nI 120), .ref e]
        obtain ⟨_, _, _, hx79, -⟩ := id hs55
        refine sg_callV (pc := 30) (As := [.int (nI 120)]) (rest := []) (mc := 0) (ms := 0) hC tw_642 tw_224 tw_225 tw_64 tw_226 yd_J4_append_cf468 (by decide) (ci := 1) rfl dX4_appendLetters_30 hx79 rfl (Nat.le_of_ble_eq_true rfl) (by first | omega | decide | exact Nat.lt_of_le_of_lt jshr (by omega) | exact Nat.lt_of_le_of_lt jand1 (by decide) | (simp only [List.length_append, List.length_cons, List.length_nil]; omega)) (by first | omega | decide | exact Nat.lt_of_le_of_lt jshr (by omega) | exact Nat.lt_of_le_of_lt jand1 (by decide) | (simp only [List.length_append, List.length_cons, List.length_nil]; omega)) ?_
        refine c_sbAppC htr hs55 (by first | omega | decide | exact Nat.lt_of_le_of_lt jshr (by omega) | exact Nat.lt_of_le_of_lt jand1 (by decide) | (simp only [List.length_append, List.length_cons, List.length_nil]; omega)) (by first | omega | decide | exact Nat.lt_of_le_of_lt jshr (by omega) | exact Nat.lt_of_le_of_lt jand1 (by decide) | (simp only [List.length_append, List.length_cons, List.length_nil]; omega)) (by first | omega | decide | exact Nat.lt_of_le_of_lt jshr (by omega) | exact Nat.lt_of_le_of_lt jand1 (by decide) | (simp only [List.length_append, List.length_cons, List.length_nil]; omega)) (by first | omega | decide | exact Nat.lt_of_le_of_lt jshr (by omega) | exact Nat.lt_of_le_of_lt jand1 (by decide) | (simp only [List.length_append, List.length_cons, List.length_nil]; omega)) (by first | omega | decide | exact Nat.lt_of_le_of_lt jshr (by omega) | exact Nat.lt_of_le_of_lt jand1 (by decide) | (simp only [List.length_append, List.length_cons, List.length_nil]; omega)) (fun M80 hs81 hf82 => ?_)
        have hX : M80 x = some (74, .inr (7, [.ref ta, .int (nI s.1), .int (nI kd), .ref b, .int (nI s.2.2.1), .int (nI s.2.2.2.1), .int (nI s.2.2.2.2.1), .int (nI s.2.2.2.2.2)])) := hf82.p hX (by first | decide | (simp; done) | (simp; omega))
        have hL : st_r 0 0 M80 (G.2.2.2 1) ([114, 119, 120, 100]) := hL.p hf82 (by first | decide | (simp; done) | (simp; omega)) (by first | decide | (simp; done) | (simp; omega))
        have hf : sf (pk [77, 78]) M M80 := hf.tr hf82 (fun a t h => by first | exact h | (simp [pk] at h; done) | (simp [pk] at h ⊢; omega) | (simp [pk] at h ⊢; done))
        show sg_W X M80 0 0 33 [some (.ref x), some (.ref e), some (.int (nI 2))] [.ref e]
        refine sg_pop (pc := 33) hC dX4_appendLetters_33 rfl ?_
        refine sg_iincN (pc := 34) (a := 2) (b := 3) hC dX4_appendLetters_34 rfl (nI_1 _) (by decide) ?_
        show sg_W X M80 0 0 37 [some (.ref x), some (.ref e), some (.int (nI 3))] []
        refine sg_goto (pc := 37) 2 hC dX4_appendLetters_37 (by decide) ?_
        refine sg_iload_n (pc := 2) (x := nI 3) hC dX4_appendLetters_2 rfl ?_
        refine sg_ldc_rwxd (pc := 3) hC dX4_appendLetters_3 ?_
        obtain ⟨_, _, _, _, hx84, -⟩ := id hL
        refine sg_callV (pc := 5) (As := []) (rest := [.int (nI 3)]) (mc := 0) (ms := 0) hC tw_610 tw_482 tw_483 tw_65 tw_484 yd_J0_length_8abf5 (by decide) (ci := 0) rfl dX4_appendLetters_5 hx84 rfl (Nat.le_of_ble_eq_true rfl) (by first | omega | decide | exact Nat.lt_of_le_of_lt jshr (by omega) | exact Nat.lt_of_le_of_lt jand1 (by decide) | (simp only [List.length_append, List.length_cons, List.length_nil]; omega)) (by first | omega | decide | exact Nat.lt_of_le_of_lt jshr (by omega) | exact Nat.lt_of_le_of_lt jand1 (by decide) | (simp only [List.length_append, List.length_cons, List.length_nil]; omega)) ?_
        refine c_slen htr hL ?_
        show sg_W X M80 0 0 8 [some (.ref x), some (.ref e), some (.int (nI 3))] [.int (nI 4), .int (nI 3)]
        refine sg_icmpN_ge (pc := 8) (a := 3) (b := 4) 40 hC dX4_appendLetters_8 (by decide) (by decide) (by decide) (fun h85 => absurd h85 (by decide)) (fun _ => ?_)
        refine sg_aload_n (pc := 11) (v := .ref x) hC dX4_appendLetters_11 rfl rfl ?_
        refine sg_get (pc := 12) (a := x) (v := .int (nI s.2.2.2.1)) 5 hC rfl inw_X4 (by decide) tw_555 dX4_appendLetters_12 hX rfl ?_
        refine sg_iload_n (pc := 15) (x := nI 3) hC dX4_appendLetters_15 rfl ?_
        refine sg_ishrN (pc := 16) (a := s.2.2.2.1) (b := 3) hC dX4_appendLetters_16 (by first | omega | decide | exact Nat.lt_of_le_of_lt jshr (by omega) | exact Nat.lt_of_le_of_lt jand1 (by decide) | (simp only [List.length_append, List.length_cons, List.length_nil]; omega)) (by first | omega | exact Nat.lt_of_le_of_lt jshr (by omega)) ?_
        refine sg_iconst (pc := 17) (nI 1) hC dX4_appendLetters_17 (by decide) ?_
        refine sg_iandN (pc := 18) (a := s.2.2.2.1 >>> 3) (b := 1) hC dX4_appendLetters_18 ?_
        refine sg_iconst (pc := 19) (nI 1) hC dX4_appendLetters_19 (by decide) ?_
        refine sg_icmpN_ne (pc := 20) (a := (s.2.2.2.1 >>> 3) &&& 1) (b := 1) 34 hC dX4_appendLetters_20 (by decide) (by first | omega | decide | exact Nat.lt_of_le_of_lt jshr (by omega) | exact Nat.lt_of_le_of_lt jand1 (by decide) | (simp only [List.length_append, List.length_cons, List.length_nil]; omega)) (by first | omega | decide | exact Nat.lt_of_le_of_lt jshr (by omega) | exact Nat.lt_of_le_of_lt jand1 (by decide) | (simp only [List.length_append, List.length_cons, List.length_nil]; omega)) (fun h86 => ?_) (fun h86 => ?_)
        · refine sg_iincN (pc := 34) (a := 3) (b := 4) hC dX4_appendLetters_34 rfl (nI_1 _) (by decide) ?_
          show sg_W X M80 0 0 37 [some (.ref x), some (.ref e), some (.int (nI 4))] []
          refine sg_goto (pc := 37) 2 hC dX4_appendLetters_37 (by decide) ?_
          refine sg_iload_n (pc := 2) (x := nI 4) hC dX4_appendLetters_2 rfl ?_
          refine sg_ldc_rwxd (pc := 3) hC dX4_appendLetters_3 ?_
          obtain ⟨_, _, _, _, hx88, -⟩ := id hL
          refine sg_callV (pc := 5) (As := []) (rest := [.int (nI 4)]) (mc := 0) (ms := 0) hC tw_610 tw_482 tw_483 tw_65 tw_484 yd_J0_length_8abf5 (by decide) (ci := 0) rfl dX4_appendLetters_5 hx88 rfl (Nat.le_of_ble_eq_true rfl) (by first | omega | decide | exact Nat.lt_of_le_of_lt jshr (by omega) | exact Nat.lt_of_le_of_lt jand1 (by decide) | (simp only [List.length_append, List.length_cons, List.length_nil]; omega)) (by first | omega | decide | exact Nat.lt_of_le_of_lt jshr (by omega) | exact Nat.lt_of_le_of_lt jand1 (by decide) | (simp only [List.length_append, List.length_cons, List.length_nil]; omega)) ?_
          refine c_slen htr hL ?_
          show sg_W X M80 0 0 8 [some (.ref x), some (.ref e), some (.int (nI 4))] [.int (nI 4), .int (nI 4)]
          refine sg_icmpN_ge (pc := 8) (a := 4) (b := 4) 40 hC dX4_appendLetters_8 (by decide) (by decide) (by decide) (fun _ => ?_) (fun h89 => absurd h89 (by decide))
          have e9 : w ++ lets s.2.2.2.1 = w ++ [119] ++ [120] := by unfold lets; rw [if_neg h4, if_pos h8, if_pos h60, if_neg h86]; simp
          rw [e9] at hk
          exact sg_vreturn (st := []) (pc := 40) hC hR dX4_appendLetters_40 (hk _ hs81 hf)
        · refine sg_aload_n (pc := 23) (v := .ref e) hC dX4_appendLetters_23 rfl rfl ?_
          refine sg_ldc_rwxd (pc := 24) hC dX4_appendLetters_24 ?_
          refine sg_iload_n (pc := 26) (x := nI 3) hC dX4_appendLetters_26 rfl ?_
          obtain ⟨_, _, _, _, hx91, -⟩ := id hL
          refine sg_callV (pc := 27) (As := [.int (nI 3)]) (rest := [.ref e]) (mc := 0) (ms := 0) hC tw_611 tw_612 tw_613 tw_65 tw_614 yd_J0_charAt_5068e (by decide) (ci := 0) rfl dX4_appendLetters_27 hx91 rfl (Nat.le_of_ble_eq_true rfl) (by first | omega | decide | exact Nat.lt_of_le_of_lt jshr (by omega) | exact Nat.lt_of_le_of_lt jand1 (by decide) | (simp only [List.length_append, List.length_cons, List.length_nil]; omega)) (by first | omega | decide | exact Nat.lt_of_le_of_lt jshr (by omega) | exact Nat.lt_of_le_of_lt jand1 (by decide) | (simp only [List.length_append, List.length_cons, List.length_nil]; omega)) ?_
          refine c_charAt htr hL (by first | omega | decide | exact Nat.lt_of_le_of_lt jshr (by omega) | exact Nat.lt_of_le_of_lt jand1 (by decide) | (simp only [List.length_append, List.length_cons, List.length_nil]; omega)) ?_
          show sg_W X M80 0 0 30 [some (.ref x), some (.ref e), some (.int (nI 3))] [.int (nI 100), .ref e]
          obtain ⟨_, _, _, hx92, -⟩ := id hs81
          refine sg_callV (pc := 30) (As := [.int (nI 100)]) (rest := []) (mc := 0) (ms := 0) hC tw_642 tw_224 tw_225 tw_64 tw_226 yd_J4_append_cf468 (by decide) (ci := 1) rfl dX4_appendLetters_30 hx92 rfl (Nat.le_of_ble_eq_true rfl) (by first | omega | decide | exact Nat.lt_of_le_of_lt jshr (by omega) | exact Nat.lt_of_le_of_lt jand1 (by decide) | (simp only [List.length_append, List.length_cons, List.length_nil]; omega)) (by first | omega | decide | exact Nat.lt_of_le_of_lt jshr (by omega) | exact Nat.lt_of_le_of_lt jand1 (by decide) | (simp only [List.length_append, List.length_cons, List.length_nil]; omega)) ?_
          refine c_sbAppC htr hs81 (by first | omega | decide | exact Nat.lt_of_le_of_lt jshr (by omega) | exact Nat.lt_of_le_of_lt jand1 (by decide) | (simp only [List.length_append, List.length_cons, List.length_nil]; omega)) (by first | omega | decide | exact Nat.lt_of_le_of_lt jshr (by omega) | exact Nat.lt_of_le_of_lt jand1 (by decide) | (simp only [List.length_append, List.length_cons, List.length_nil]; omega)) (by first | omega | decide | exact Nat.lt_of_le_of_lt jshr (by omega) | exact Nat.lt_of_le_of_lt jand1 (by decide) | (simp only [List.length_append, List.length_cons, List.length_nil]; omega)) (by first | omega | decide | exact Nat.lt_of_le_of_lt jshr (by omega) | exact Nat.lt_of_le_of_lt jand1 (by decide) | (simp only [List.length_append, List.length_cons, List.length_nil]; omega)) (by first | omega | decide | exact Nat.lt_of_le_of_lt jshr (by omega) | exact Nat.lt_of_le_of_lt jand1 (by decide) | (simp only [List.length_append, List.length_cons, List.length_nil]; omega)) (fun M93 hs94 hf95 => ?_)
          have hX : M93 x = some (74, .inr (7, [.ref ta, .int (nI s.1), .int (nI kd), .ref b, .int (nI s.2.2.1), .int (nI s.2.2.2.1), .int (nI s.2.2.2.2.1), .int (nI s.2.2.2.2.2)])) := hf95.p hX (by first | decide | (simp; done) | (simp; omega))
          have hL : st_r 0 0 M93 (G.2.2.2 1) ([114, 119, 120, 100]) := hL.p hf95 (by first | decide | (simp; done) | (simp; omega)) (by first | decide | (simp; done) | (simp; omega))
          have hf : sf (pk [77, 78]) M M93 := hf.tr hf95 (fun a t h => by first | exact h | (simp [pk] at h; done) | (simp [pk] at h ⊢; omega) | (simp [pk] at h ⊢; done))
          show sg_W X M93 0 0 33 [some (.ref x), some (.ref e), some (.int (nI 3))] [.ref e]
          refine sg_pop (pc := 33) hC dX4_appendLetters_33 rfl ?_
          refine sg_iincN (pc := 34) (a := 3) (b := 4) hC dX4_appendLetters_34 rfl (nI_1 _) (by decide) ?_
          show sg_W X M93 0 0 37 [some (.ref x), some (.ref e), some (.int (nI 4))] []
          refine sg_goto (pc := 37) 2 hC dX4_appendLetters_37 (by decide) ?_
          refine sg_iload_n (pc := 2) (x := nI 4) hC dX4_appendLetters_2 rfl ?_
          refine sg_ldc_rwxd (pc := 3) hC dX4_appendLetters_3 ?_
          obtain ⟨_, _, _, _, hx97, -⟩ := id hL
          refine sg_callV (pc := 5) (As := []) (rest := [.int (nI 4)]) (mc := 0) (ms := 0) hC tw_610 tw_482 tw_483 tw_65 tw_484 yd_J0_length_8abf5 (by decide) (ci := 0) rfl dX4_appendLetters_5 hx97 rfl (Nat.le_of_ble_eq_true rfl) (by first | omega | decide | exact Nat.lt_of_le_of_lt jshr (by omega) | exact Nat.lt_of_le_of_lt jand1 (by decide) | (simp only [List.length_append, List.length_cons, List.length_nil]; omega)) (by first | omega | decide | exact Nat.lt_of_le_of_lt jshr (by omega) | exact Nat.lt_of_le_of_lt jand1 (by decide) | (simp only [List.length_append, List.length_cons, List.length_nil]; omega)) ?_
          refine c_slen htr hL ?_
          show sg_W X M93 0 0 8 [some (.ref x), some (.ref e), some (.int (nI 4))] [.int (nI 4), .int (nI 4)]
          refine sg_icmpN_ge (pc := 8) (a := 4) (b := 4) 40 hC dX4_appendLetters_8 (by decide) (by decide) (by decide) (fun _ => ?_) (fun h98 => absurd h98 (by decide))
          have e9 : w ++ lets s.2.2.2.1 = w ++ [119] ++ [120] ++ [100] := by unfold lets; rw [if_neg h4, if_pos h8, if_pos h60, if_pos h86]; simp
          rw [e9] at hk
          exact sg_vreturn (st := []) (pc := 40) hC hR dX4_appendLetters_40 (hk _ hs94 hf)
  · refine sg_aload_n (pc := 23) (v := .ref e) hC dX4_appendLetters_23 rfl rfl ?_
    refine sg_ldc_rwxd (pc := 24) hC dX4_appendLetters_24 ?_
    refine sg_iload_n (pc := 26) (x := nI 0) hC dX4_appendLetters_26 rfl ?_
    obtain ⟨_, _, _, _, hx100, -⟩ := id hL
    refine sg_callV (pc := 27) (As := [.int (nI 0)]) (rest := [.ref e]) (mc := 0) (ms := 0) hC tw_611 tw_612 tw_613 tw_65 tw_614 yd_J0_charAt_5068e (by decide) (ci := 0) rfl dX4_appendLetters_27 hx100 rfl (Nat.le_of_ble_eq_true rfl) (by first | omega | decide | exact Nat.lt_of_le_of_lt jshr (by omega) | exact Nat.lt_of_le_of_lt jand1 (by decide) | (simp only [List.length_append, List.length_cons, List.length_nil]; omega)) (by first | omega | decide | exact Nat.lt_of_le_of_lt jshr (by omega) | exact Nat.lt_of_le_of_lt jand1 (by decide) | (simp only [List.length_append, List.length_cons, List.length_nil]; omega)) ?_
    refine c_charAt htr hL (by first | omega | decide | exact Nat.lt_of_le_of_lt jshr (by omega) | exact Nat.lt_of_le_of_lt jand1 (by decide) | (simp only [List.length_append, List.length_cons, List.length_nil]; omega)) ?_
    show sg_W X M 0 0 30 [some (.ref x), some (.ref e), some (.int (nI 0))] [.int (nI 114), .ref e]
    obtain ⟨_, _, _, hx101, -⟩ := id hE
    refine sg_callV (pc := 30) (As := [.int (nI 114)]) (rest := []) (mc := 0) (ms := 0) hC tw_642 tw_224 tw_225 tw_64 tw_226 yd_J4_append_cf468 (by decide) (ci := 1) rfl dX4_appendLetters_30 hx101 rfl (Nat.le_of_ble_eq_true rfl) (by first | omega | decide | exact Nat.lt_of_le_of_lt jshr (by omega) | exact Nat.lt_of_le_of_lt jand1 (by decide) | (simp only [List.length_append, List.length_cons, List.length_nil]; omega)) (by first | omega | decide | exact Nat.lt_of_le_of_lt jshr (by omega) | exact Nat.lt_of_le_of_lt jand1 (by decide) | (simp only [List.length_append, List.length_cons, List.length_nil]; omega)) ?_
    refine c_sbAppC htr hE (by first | omega | decide | exact Nat.lt_of_le_of_lt jshr (by omega) | exact Nat.lt_of_le_of_lt jand1 (by decide) | (simp only [List.length_append, List.length_cons, List.length_nil]; omega)) (by first | omega | decide | exact Nat.lt_of_le_of_lt jshr (by omega) | exact Nat.lt_of_le_of_lt jand1 (by decide) | (simp only [List.length_append, List.length_cons, List.length_nil]; omega)) (by first | omega | decide | exact Nat.lt_of_le_of_lt jshr (by omega) | exact Nat.lt_of_le_of_lt jand1 (by decide) | (simp only [List.length_append, List.length_cons, List.length_nil]; omega)) (by first | omega | decide | exact Nat.lt_of_le_of_lt jshr (by omega) | exact Nat.lt_of_le_of_lt jand1 (by decide) | (simp only [List.length_append, List.length_cons, List.length_nil]; omega)) (by first | omega | decide | exact Nat.lt_of_le_of_lt jshr (by omega) | exact Nat.lt_of_le_of_lt jand1 (by decide) | (simp only [List.length_append, List.length_cons, List.length_nil]; omega)) (fun M102 hs103 hf104 => ?_)
    have hX : M102 x = some (74, .inr (7, [.ref ta, .int (nI s.1), .int (nI kd), .ref b, .int (nI s.2.2.1), .int (nI s.2.2.2.1), .int (nI s.2.2.2.2.1), .int (nI s.2.2.2.2.2)])) := hf104.p hX (by first | decide | (simp; done) | (simp; omega))
    have hL : st_r 0 0 M102 (G.2.2.2 1) ([114, 119, 120, 100]) := hL.p hf104 (by first | decide | (simp; done) | (simp; omega)) (by first | decide | (simp; done) | (simp; omega))
    have hf : sf (pk [77, 78]) M M102 := hf.tr hf104 (fun a t h => by first | exact h | (simp [pk] at h; done) | (simp [pk] at h ⊢; omega) | (simp [pk] at h ⊢; done))
    show sg_W X M102 0 0 33 [some (.ref x), some (.ref e), some (.int (nI 0))] [.ref e]
    refine sg_pop (pc := 33) hC dX4_appendLetters_33 rfl ?_
    refine sg_iincN (pc := 34) (a := 0) (b := 1) hC dX4_appendLetters_34 rfl (nI_1 _) (by decide) ?_
    show sg_W X M102 0 0 37 [some (.ref x), some (.ref e), some (.int (nI 1))] []
    refine sg_goto (pc := 37) 2 hC dX4_appendLetters_37 (by decide) ?_
    refine sg_iload_n (pc := 2) (x := nI 1) hC dX4_appendLetters_2 rfl ?_
    refine sg_ldc_rwxd (pc := 3) hC dX4_appendLetters_3 ?_
    obtain ⟨_, _, _, _, hx106, -⟩ := id hL
    refine sg_callV (pc := 5) (As := []) (rest := [.int (nI 1)]) (mc := 0) (ms := 0) hC tw_610 tw_482 tw_483 tw_65 tw_484 yd_J0_length_8abf5 (by decide) (ci := 0) rfl dX4_appendLetters_5 hx106 rfl (Nat.le_of_ble_eq_true rfl) (by first | omega | decide | exact Nat.lt_of_le_of_lt jshr (by omega) | exact Nat.lt_of_le_of_lt jand1 (by decide) | (simp only [List.length_append, List.length_cons, List.length_nil]; omega)) (by first | omega | decide | exact Nat.lt_of_le_of_lt jshr (by omega) | exact Nat.lt_of_le_of_lt jand1 (by decide) | (simp only [List.length_append, List.length_cons, List.length_nil]; omega)) ?_
    refine c_slen htr hL ?_
    show sg_W X M102 0 0 8 [some (.ref x), some (.ref e), some (.int (nI 1))] [.int (nI 4), .int (nI 1)]
    refine sg_icmpN_ge (pc := 8) (a := 1) (b := 4) 40 hC dX4_appendLetters_8 (by decide) (by decide) (by decide) (fun h107 => absurd h107 (by decide)) (fun _ => ?_)
    refine sg_aload_n (pc := 11) (v := .ref x) hC dX4_appendLetters_11 rfl rfl ?_
    refine sg_get (pc := 12) (a := x) (v := .int (nI s.2.2.2.1)) 5 hC rfl inw_X4 (by decide) tw_555 dX4_appendLetters_12 hX rfl ?_
    refine sg_iload_n (pc := 15) (x := nI 1) hC dX4_appendLetters_15 rfl ?_
    refine sg_ishrN (pc := 16) (a := s.2.2.2.1) (b := 1) hC dX4_appendLetters_16 (by first | omega | decide | exact Nat.lt_of_le_of_lt jshr (by omega) | exact Nat.lt_of_le_of_lt jand1 (by decide) | (simp only [List.length_append, List.length_cons, List.length_nil]; omega)) (by first | omega | exact Nat.lt_of_le_of_lt jshr (by omega)) ?_
    refine sg_iconst (pc := 17) (nI 1) hC dX4_appendLetters_17 (by decide) ?_
    refine sg_iandN (pc := 18) (a := s.2.2.2.1 >>> 1) (b := 1) hC dX4_appendLetters_18 ?_
    refine sg_iconst (pc := 19) (nI 1) hC dX4_appendLetters_19 (by decide) ?_
    refine sg_icmpN_ne (pc := 20) (a := (s.2.2.2.1 >>> 1) &&& 1) (b := 1) 34 hC dX4_appendLetters_20 (by decide) (by first | omega | decide | exact Nat.lt_of_le_of_lt jshr (by omega) | exact Nat.lt_of_le_of_lt jand1 (by decide) | (simp only [List.length_append, List.length_cons, List.length_nil]; omega)) (by first | omega | decide | exact Nat.lt_of_le_of_lt jshr (by omega) | exact Nat.lt_of_le_of_lt jand1 (by decide) | (simp only [List.length_append, List.length_cons, List.length_nil]; omega)) (fun h108 => ?_) (fun h108 => ?_)
    · refine sg_iincN (pc := 34) (a := 1) (b := 2) hC dX4_appendLetters_34 rfl (nI_1 _) (by decide) ?_
      show sg_W X M102 0 0 37 [some (.ref x), some (.ref e), some (.int (nI 2))] []
      refine sg_goto (pc := 37) 2 hC dX4_appendLetters_37 (by decide) ?_
      refine sg_iload_n (pc := 2) (x := nI 2) hC dX4_appendLetters_2 rfl ?_
      refine sg_ldc_rwxd (pc := 3) hC dX4_appendLetters_3 ?_
      obtain ⟨_, _, _, _, hx110, -⟩ := id hL
      refine sg_callV (pc := 5) (As := []) (rest := [.int (nI 2)]) (mc := 0) (ms := 0) hC tw_610 tw_482 tw_483 tw_65 tw_484 yd_J0_length_8abf5 (by decide) (ci := 0) rfl dX4_appendLetters_5 hx110 rfl (Nat.le_of_ble_eq_true rfl) (by first | omega | decide | exact Nat.lt_of_le_of_lt jshr (by omega) | exact Nat.lt_of_le_of_lt jand1 (by decide) | (simp only [List.length_append, List.length_cons, List.length_nil]; omega)) (by first | omega | decide | exact Nat.lt_of_le_of_lt jshr (by omega) | exact Nat.lt_of_le_of_lt jand1 (by decide) | (simp only [List.length_append, List.length_cons, List.length_nil]; omega)) ?_
      refine c_slen htr hL ?_
      show sg_W X M102 0 0 8 [some (.ref x), some (.ref e), some (.int (nI 2))] [.int (nI 4), .int (nI 2)]
      refine sg_icmpN_ge (pc := 8) (a := 2) (b := 4) 40 hC dX4_appendLetters_8 (by decide) (by decide) (by decide) (fun h111 => absurd h111 (by decide)) (fun _ => ?_)
      refine sg_aload_n (pc := 11) (v := .ref x) hC dX4_appendLetters_11 rfl rfl ?_
      refine sg_get (pc := 12) (a := x) (v := .int (nI s.2.2.2.1)) 5 hC rfl inw_X4 (by decide) tw_555 dX4_appendLetters_12 hX rfl ?_
      refine sg_iload_n (pc := 15) (x := nI 2) hC dX4_appendLetters_15 rfl ?_
      refine sg_ishrN (pc := 16) (a := s.2.2.2.1) (b := 2) hC dX4_appendLetters_16 (by first | omega | decide | exact Nat.lt_of_le_of_lt jshr (by omega) | exact Nat.lt_of_le_of_lt jand1 (by decide) | (simp only [List.length_append, List.length_cons, List.length_nil]; omega)) (by first | omega | exact Nat.lt_of_le_of_lt jshr (by omega)) ?_
      refine sg_iconst (pc := 17) (nI 1) hC dX4_appendLetters_17 (by decide) ?_
      refine sg_iandN (pc := 18) (a := s.2.2.2.1 >>> 2) (b := 1) hC dX4_appendLetters_18 ?_
      refine sg_iconst (pc := 19) (nI 1) hC dX4_appendLetters_19 (by decide) ?_
      refine sg_icmpN_ne (pc := 20) (a := (s.2.2.2.1 >>> 2) &&& 1) (b := 1) 34 hC dX4_appendLetters_20 (by decide) (by first | omega | decide | exact Nat.lt_of_le_of_lt jshr (by omega) | exact Nat.lt_of_le_of_lt jand1 (by decide) | (simp only [List.length_append, List.length_cons, List.length_nil]; omega)) (by first | omega | decide | exact Nat.lt_of_le_of_lt jshr (by omega) | exact Nat.lt_of_le_of_lt jand1 (by decide) | (simp only [List.length_append, List.length_cons, List.length_nil]; omega)) (fun h112 => ?_) (fun h112 => ?_)
      · refine sg_iincN (pc := 34) (a := 2) (b := 3) hC dX4_appendLetters_34 rfl (nI_1 _) (by decide) ?_
        show sg_W X M102 0 0 37 [some (.ref x), some (.ref e), some (.int (nI 3))] []
        refine sg_goto (pc := 37) 2 hC dX4_appendLetters_37 (by decide) ?_
        refine sg_iload_n (pc := 2) (x := nI 3) hC dX4_appendLetters_2 rfl ?_
        refine sg_ldc_rwxd (pc := 3) hC dX4_appendLetters_3 ?_
        obtain ⟨_, _, _, _, hx114, -⟩ := id hL
        refine sg_callV (pc := 5) (As := []) (rest := [.int (nI 3)]) (mc := 0) (ms := 0) hC tw_610 tw_482 tw_483 tw_65 tw_484 yd_J0_length_8abf5 (by decide) (ci := 0) rfl dX4_appendLetters_5 hx114 rfl (Nat.le_of_ble_eq_true rfl) (by first | omega | decide | exact Nat.lt_of_le_of_lt jshr (by omega) | exact Nat.lt_of_le_of_lt jand1 (by decide) | (simp only [List.length_append, List.length_cons, List.length_nil]; omega)) (by first | omega | decide | exact Nat.lt_of_le_of_lt jshr (by omega) | exact Nat.lt_of_le_of_lt jand1 (by decide) | (simp only [List.length_append, List.length_cons, List.length_nil]; omega)) ?_
        refine c_slen htr hL ?_
        show sg_W X M102 0 0 8 [some (.ref x), some (.ref e), some (.int (nI 3))] [.int (nI 4), .int (nI 3)]
        refine sg_icmpN_ge (pc := 8) (a := 3) (b := 4) 40 hC dX4_appendLetters_8 (by decide) (by decide) (by decide) (fun h115 => absurd h115 (by decide)) (fun _ => ?_)
        refine sg_aload_n (pc := 11) (v := .ref x) hC dX4_appendLetters_11 rfl rfl ?_
        refine sg_get (pc := 12) (a := x) (v := .int (nI s.2.2.2.1)) 5 hC rfl inw_X4 (by decide) tw_555 dX4_appendLetters_12 hX rfl ?_
        refine sg_iload_n (pc := 15) (x := nI 3) hC dX4_appendLetters_15 rfl ?_
        refine sg_ishrN (pc := 16) (a := s.2.2.2.1) (b := 3) hC dX4_appendLetters_16 (by first | omega | decide | exact Nat.lt_of_le_of_lt jshr (by omega) | exact Nat.lt_of_le_of_lt jand1 (by decide) | (simp only [List.length_append, List.length_cons, List.length_nil]; omega)) (by first | omega | exact Nat.lt_of_le_of_lt jshr (by omega)) ?_
        refine sg_iconst (pc := 17) (nI 1) hC dX4_appendLetters_17 (by decide) ?_
        refine sg_iandN (pc := 18) (a := s.2.2.2.1 >>> 3) (b := 1) hC dX4_appendLetters_18 ?_
        refine sg_iconst (pc := 19) (nI 1) hC dX4_appendLetters_19 (by decide) ?_
        refine sg_icmpN_ne (pc := 20) (a := (s.2.2.2.1 >>> 3) &&& 1) (b := 1) 34 hC dX4_appendLetters_20 (by decide) (by first | omega | decide | exact Nat.lt_of_le_of_lt jshr (by omega) | exact Nat.lt_of_le_of_lt jand1 (by decide) | (simp only [List.length_append, List.length_cons, List.length_nil]; omega)) (by first | omega | decide | exact Nat.lt_of_le_of_lt jshr (by omega) | exact Nat.lt_of_le_of_lt jand1 (by decide) | (simp only [List.length_append, List.length_cons, List.length_nil]; omega)) (fun h116 => ?_) (fun h116 => ?_)
        · refine sg_iincN (pc := 34) (a := 3) (b := 4) hC dX4_appendLetters_34 rfl (nI_1 _) (by decide) ?_
          show sg_W X M102 0 0 37 [some (.ref x), some (.ref e), some (.int (nI 4))] []
          refine sg_goto (pc := 37) 2 hC dX4_appendLetters_37 (by decide) ?_
          refine sg_iload_n (pc := 2) (x := nI 4) hC dX4_appendLetters_2 rfl ?_
          refine sg_ldc_rwxd (pc := 3) hC dX4_appendLetters_3 ?_
          obtain ⟨_, _, _, _, hx118, -⟩ := id hL
          refine sg_callV (pc := 5) (As := []) (rest := [.int (nI 4)]) (mc := 0) (ms := 0) hC tw_610 tw_482 tw_483 tw_65 tw_484 yd_J0_length_8abf5 (by decide) (ci := 0) rfl dX4_appendLetters_5 hx118 rfl (Nat.le_of_ble_eq_true rfl) (by first | omega | decide | exact Nat.lt_of_le_of_lt jshr (by omega) | exact Nat.lt_of_le_of_lt jand1 (by decide) | (simp only [List.length_append, List.length_cons, List.length_nil]; omega)) (by first | omega | decide | exact Nat.lt_of_le_of_lt jshr (by omega) | exact Nat.lt_of_le_of_lt jand1 (by decide) | (simp only [List.length_append, List.length_cons, List.length_nil]; omega)) ?_
          refine c_slen htr hL ?_
          show sg_W X M102 0 0 8 [some (.ref x), some (.ref e), some (.int (nI 4))] [.int (nI 4), .int (nI 4)]
          refine sg_icmpN_ge (pc := 8) (a := 4) (b := 4) 40 hC dX4_appendLetters_8 (by decide) (by decide) (by decide) (fun _ => ?_) (fun h119 => absurd h119 (by decide))
          have e9 : w ++ lets s.2.2.2.1 = w ++ [114] := by unfold lets; rw [if_pos h4, if_neg h108, if_neg h112, if_neg h116]; simp
          rw [e9] at hk
          exact sg_vreturn (st := []) (pc := 40) hC hR dX4_appendLetters_40 (hk _ hs103 hf)
        · refine sg_aload_n (pc := 23) (v := .ref e) hC dX4_appendLetters_23 rfl rfl ?_
          refine sg_ldc_rwxd (pc := 24) hC dX4_appendLetters_24 ?_
          refine sg_iload_n (pc := 26) (x := nI 3) hC dX4_appendLetters_26 rfl ?_
          obtain ⟨_, _, _, _, hx121, -⟩ := id hL
          refine sg_callV (pc := 27) (As := [.int (nI 3)]) (rest := [.ref e]) (mc := 0) (ms := 0) hC tw_611 tw_612 tw_613 tw_65 tw_614 yd_J0_charAt_5068e (by decide) (ci := 0) rfl dX4_appendLetters_27 hx121 rfl (Nat.le_of_ble_eq_true rfl) (by first | omega | decide | exact Nat.lt_of_le_of_lt jshr (by omega) | exact Nat.lt_of_le_of_lt jand1 (by decide) | (simp only [List.length_append, List.length_cons, List.length_nil]; omega)) (by first | omega | decide | exact Nat.lt_of_le_of_lt jshr (by omega) | exact Nat.lt_of_le_of_lt jand1 (by decide) | (simp only [List.length_append, List.length_cons, List.length_nil]; omega)) ?_
          refine c_charAt htr hL (by first | omega | decide | exact Nat.lt_of_le_of_lt jshr (by omega) | exact Nat.lt_of_le_of_lt jand1 (by decide) | (simp only [List.length_append, List.length_cons, List.length_nil]; omega)) ?_
          show sg_W X M102 0 0 30 [some (.ref x), some (.ref e), some (.int (nI 3))] [.int (nI 100), .ref e]
          obtain ⟨_, _, _, hx122, -⟩ := id hs103
          refine sg_callV (pc := 30) (As := [.int (nI 100)]) (rest := []) (mc := 0) (ms := 0) hC tw_642 tw_224 tw_225 tw_64 tw_226 yd_J4_append_cf468 (by decide) (ci := 1) rfl dX4_appendLetters_30 hx122 rfl (Nat.le_of_ble_eq_true rfl) (by first | omega | decide | exact Nat.lt_of_le_of_lt jshr (by omega) | exact Nat.lt_of_le_of_lt jand1 (by decide) | (simp only [List.length_append, List.length_cons, List.length_nil]; omega)) (by first | omega | decide | exact Nat.lt_of_le_of_lt jshr (by omega) | exact Nat.lt_of_le_of_lt jand1 (by decide) | (simp only [List.length_append, List.length_cons, List.length_nil]; omega)) ?_
          refine c_sbAppC htr hs103 (by first | omega | decide | exact Nat.lt_of_le_of_lt jshr (by omega) | exact Nat.lt_of_le_of_lt jand1 (by decide) | (simp only [List.length_append, List.length_cons, List.length_nil]; omega)) (by first | omega | decide | exact Nat.lt_of_le_of_lt jshr (by omega) | exact Nat.lt_of_le_of_lt jand1 (by decide) | (simp only [List.length_append, List.length_cons, List.length_nil]; omega)) (by first | omega | decide | exact Nat.lt_of_le_of_lt jshr (by omega) | exact Nat.lt_of_le_of_lt jand1 (by decide) | (simp only [List.length_append, List.length_cons, List.length_nil]; omega)) (by first | omega | decide | exact Nat.lt_of_le_of_lt jshr (by omega) | exact Nat.lt_of_le_of_lt jand1 (by decide) | (simp only [List.length_append, List.length_cons, List.length_nil]; omega)) (by first | omega | decide | exact Nat.lt_of_le_of_lt jshr (by omega) | exact Nat.lt_of_le_of_lt jand1 (by decide) | (simp only [List.length_append, List.length_cons, List.length_nil]; omega)) (fun M123 hs124 hf125 => ?_)
          have hX : M123 x = some (74, .inr (7, [.ref ta, .int (nI s.1), .int (nI kd), .ref b, .int (nI s.2.2.1), .int (nI s.2.2.2.1), .int (nI s.2.2.2.2.1), .int (nI s.2.2.2.2.2)])) := hf125.p hX (by first | decide | (simp; done) | (simp; omega))
          have hL : st_r 0 0 M123 (G.2.2.2 1) ([114, 119, 120, 100]) := hL.p hf125 (by first | decide | (simp; done) | (simp; omega)) (by first | decide | (simp; done) | (simp; omega))
          have hf : sf (pk [77, 78]) M M123 := hf.tr hf125 (fun a t h => by first | exact h | (simp [pk] at h; done) | (simp [pk] at h ⊢; omega) | (simp [pk] at h ⊢; done))
          show sg_W X M123 0 0 33 [some (.ref x), some (.ref e), some (.int (nI 3))] [.ref e]
          refine sg_pop (pc := 33) hC dX4_appendLetters_33 rfl ?_
          refine sg_iincN (pc := 34) (a := 3) (b := 4) hC dX4_appendLetters_34 rfl (nI_1 _) (by decide) ?_
          show sg_W X M123 0 0 37 [some (.ref x), some (.ref e), some (.int (nI 4))] []
          refine sg_goto (pc := 37) 2 hC dX4_appendLetters_37 (by decide) ?_
          refine sg_iload_n (pc := 2) (x := nI 4) hC dX4_appendLetters_2 rfl ?_
          refine sg_ldc_rwxd (pc := 3) hC dX4_appendLetters_3 ?_
          obtain ⟨_, _, _, _, hx127, -⟩ := id hL
          refine sg_callV (pc := 5) (As := []) (rest := [.int (nI 4)]) (mc := 0) (ms := 0) hC tw_610 tw_482 tw_483 tw_65 tw_484 yd_J0_length_8abf5 (by decide) (ci := 0) rfl dX4_appendLetters_5 hx127 rfl (Nat.le_of_ble_eq_true rfl) (by first | omega | decide | exact Nat.lt_of_le_of_lt jshr (by omega) | exact Nat.lt_of_le_of_lt jand1 (by decide) | (simp only [List.length_append, List.length_cons, List.length_nil]; omega)) (by first | omega | decide | exact Nat.lt_of_le_of_lt jshr (by omega) | exact Nat.lt_of_le_of_lt jand1 (by decide) | (simp only [List.length_append, List.length_cons, List.length_nil]; omega)) ?_
          refine c_slen htr hL ?_
          show sg_W X M123 0 0 8 [some (.ref x), some (.ref e), some (.int (nI 4))] [.int (nI 4), .int (nI 4)]
          refine sg_icmpN_ge (pc := 8) (a := 4) (b := 4) 40 hC dX4_appendLetters_8 (by decide) (by decide) (by decide) (fun _ => ?_) (fun h128 => absurd h128 (by decide))
          have e9 : w ++ lets s.2.2.2.1 = w ++ [114] ++ [100] := by unfold lets; rw [if_pos h4, if_neg h108, if_neg h112, if_pos h116]; simp
          rw [e9] at hk
          exact sg_vreturn (st := []) (pc := 40) hC hR dX4_appendLetters_40 (hk _ hs124 hf)
      · refine sg_aload_n (pc := 23) (v := .ref e) hC dX4_appendLetters_23 rfl rfl ?_
        refine sg_ldc_rwxd (pc := 24) hC dX4_appendLetters_24 ?_
        refine sg_iload_n (pc := 26) (x := nI 2) hC dX4_appendLetters_26 rfl ?_
        obtain ⟨_, _, _, _, hx130, -⟩ := id hL
        refine sg_callV (pc := 27) (As := [.int (nI 2)]) (rest := [.ref e]) (mc := 0) (ms := 0) hC tw_611 tw_612 tw_613 tw_65 tw_614 yd_J0_charAt_5068e (by decide) (ci := 0) rfl dX4_appendLetters_27 hx130 rfl (Nat.le_of_ble_eq_true rfl) (by first | omega | decide | exact Nat.lt_of_le_of_lt jshr (by omega) | exact Nat.lt_of_le_of_lt jand1 (by decide) | (simp only [List.length_append, List.length_cons, List.length_nil]; omega)) (by first | omega | decide | exact Nat.lt_of_le_of_lt jshr (by omega) | exact Nat.lt_of_le_of_lt jand1 (by decide) | (simp only [List.length_append, List.length_cons, List.length_nil]; omega)) ?_
        refine c_charAt htr hL (by first | omega | decide | exact Nat.lt_of_le_of_lt jshr (by omega) | exact Nat.lt_of_le_of_lt jand1 (by decide) | (simp only [List.length_append, List.length_cons, List.length_nil]; omega)) ?_
        show sg_W X M102 0 0 30 [some (.ref x), some (.ref e), some (.int (nI 2))] [.int (nI 120), .ref e]
        obtain ⟨_, _, _, hx131, -⟩ := id hs103
        refine sg_callV (pc := 30) (As := [.int (nI 120)]) (rest := []) (mc := 0) (ms := 0) hC tw_642 tw_224 tw_225 tw_64 tw_226 yd_J4_append_cf468 (by decide) (ci := 1) rfl dX4_appendLetters_30 hx131 rfl (Nat.le_of_ble_eq_true rfl) (by first | omega | decide | exact Nat.lt_of_le_of_lt jshr (by omega) | exact Nat.lt_of_le_of_lt jand1 (by decide) | (simp only [List.length_append, List.length_cons, List.length_nil]; omega)) (by first | omega | decide | exact Nat.lt_of_le_of_lt jshr (by omega) | exact Nat.lt_of_le_of_lt jand1 (by decide) | (simp only [List.length_append, List.length_cons, List.length_nil]; omega)) ?_
        refine c_sbAppC htr hs103 (by first | omega | decide | exact Nat.lt_of_le_of_lt jshr (by omega) | exact Nat.lt_of_le_of_lt jand1 (by decide) | (simp only [List.length_append, List.length_cons, List.length_nil]; omega)) (by first | omega | decide | exact Nat.lt_of_le_of_lt jshr (by omega) | exact Nat.lt_of_le_of_lt jand1 (by decide) | (simp only [List.length_append, List.length_cons, List.length_nil]; omega)) (by first | omega | decide | exact Nat.lt_of_le_of_lt jshr (by omega) | exact Nat.lt_of_le_of_lt jand1 (by decide) | (simp only [List.length_append, List.length_cons, List.length_nil]; omega)) (by first | omega | decide | exact Nat.lt_of_le_of_lt jshr (by omega) | exact Nat.lt_of_le_of_lt jand1 (by decide) | (simp only [List.length_append, List.length_cons, List.length_nil]; omega)) (by first | omega | decide | exact Nat.lt_of_le_of_lt jshr (by omega) | exact Nat.lt_of_le_of_lt jand1 (by decide) | (simp only [List.length_append, List.length_cons, List.length_nil]; omega)) (fun M132 hs133 hf134 => ?_)
        have hX : M132 x = some (74, .inr (7, [.ref ta, .int (nI s.1), .int (nI kd), .ref b, .int (nI s.2.2.1), .int (nI s.2.2.2.1), .int (nI s.2.2.2.2.1), .int (nI s.2.2.2.2.2)])) := hf134.p hX (by first | decide | (simp; done) | (simp; omega))
        have hL : st_r 0 0 M132 (G.2.2.2 1) ([114, 119, 120, 100]) := hL.p hf134 (by first | decide | (simp; done) | (simp; omega)) (by first | decide | (simp; done) | (simp; omega))
        have hf : sf (pk [77, 78]) M M132 := hf.tr hf134 (fun a t h => by first | exact h | (simp [pk] at h; done) | (simp [pk] at h ⊢; omega) | (simp [pk] at h ⊢; done))
        show sg_W X M132 0 0 33 [some (.ref x), some (.ref e), some (.int (nI 2))] [.ref e]
        refine sg_pop (pc := 33) hC dX4_appendLetters_33 rfl ?_
        refine sg_iincN (pc := 34) (a := 2) (b := 3) hC dX4_appendLetters_34 rfl (nI_1 _) (by decide) ?_
        show sg_W X M132 0 0 37 [some (.ref x), some (.ref e), some (.int (nI 3))] []
        refine sg_goto (pc := 37) 2 hC dX4_appendLetters_37 (by decide) ?_
        refine sg_iload_n (pc := 2) (x := nI 3) hC dX4_appendLetters_2 rfl ?_
        refine sg_ldc_rwxd (pc := 3) hC dX4_appendLetters_3 ?_
        obtain ⟨_, _, _, _, hx136, -⟩ := id hL
        refine sg_callV (pc := 5) (As := []) (rest := [.int (nI 3)]) (mc := 0) (ms := 0) hC tw_610 tw_482 tw_483 tw_65 tw_484 yd_J0_length_8abf5 (by decide) (ci := 0) rfl dX4_appendLetters_5 hx136 rfl (Nat.le_of_ble_eq_true rfl) (by first | omega | decide | exact Nat.lt_of_le_of_lt jshr (by omega) | exact Nat.lt_of_le_of_lt jand1 (by decide) | (simp only [List.length_append, List.length_cons, List.length_nil]; omega)) (by first | omega | decide | exact Nat.lt_of_le_of_lt jshr (by omega) | exact Nat.lt_of_le_of_lt jand1 (by decide) | (simp only [List.length_append, List.length_cons, List.length_nil]; omega)) ?_
        refine c_slen htr hL ?_
        show sg_W X M132 0 0 8 [some (.ref x), some (.ref e), some (.int (nI 3))] [.int (nI 4), .int (nI 3)]
        refine sg_icmpN_ge (pc := 8) (a := 3) (b := 4) 40 hC dX4_appendLetters_8 (by decide) (by decide) (by decide) (fun h137 => absurd h137 (by decide)) (fun _ => ?_)
        refine sg_aload_n (pc := 11) (v := .ref x) hC dX4_appendLetters_11 rfl rfl ?_
        refine sg_get (pc := 12) (a := x) (v := .int (nI s.2.2.2.1)) 5 hC rfl inw_X4 (by decide) tw_555 dX4_appendLetters_12 hX rfl ?_
        refine sg_iload_n (pc := 15) (x := nI 3) hC dX4_appendLetters_15 rfl ?_
        refine sg_ishrN (pc := 16) (a := s.2.2.2.1) (b := 3) hC dX4_appendLetters_16 (by first | omega | decide | exact Nat.lt_of_le_of_lt jshr (by omega) | exact Nat.lt_of_le_of_lt jand1 (by decide) | (simp only [List.length_append, List.length_cons, List.length_nil]; omega)) (by first | omega | exact Nat.lt_of_le_of_lt jshr (by omega)) ?_
        refine sg_iconst (pc := 17) (nI 1) hC dX4_appendLetters_17 (by decide) ?_
        refine sg_iandN (pc := 18) (a := s.2.2.2.1 >>> 3) (b := 1) hC dX4_appendLetters_18 ?_
        refine sg_iconst (pc := 19) (nI 1) hC dX4_appendLetters_19 (by decide) ?_
        refine sg_icmpN_ne (pc := 20) (a := (s.2.2.2.1 >>> 3) &&& 1) (b := 1) 34 hC dX4_appendLetters_20 (by decide) (by first | omega | decide | exact Nat.lt_of_le_of_lt jshr (by omega) | exact Nat.lt_of_le_of_lt jand1 (by decide) | (simp only [List.length_append, List.length_cons, List.length_nil]; omega)) (by first | omega | decide | exact Nat.lt_of_le_of_lt jshr (by omega) | exact Nat.lt_of_le_of_lt jand1 (by decide) | (simp only [List.length_append, List.length_cons, List.length_nil]; omega)) (fun h138 => ?_) (fun h138 => ?_)
        · refine sg_iincN (pc := 34) (a := 3) (b := 4) hC dX4_appendLetters_34 rfl (nI_1 _) (by decide) ?_
          show sg_W X M132 0 0 37 [some (.ref x), some (.ref e), some (.int (nI 4))] []
          refine sg_goto (pc := 37) 2 hC dX4_appendLetters_37 (by decide) ?_
          refine sg_iload_n (pc := 2) (x := nI 4) hC dX4_appendLetters_2 rfl ?_
          refine sg_ldc_rwxd (pc := 3) hC dX4_appendLetters_3 ?_
          obtain ⟨_, _, _, _, hx140, -⟩ := id hL
          refine sg_callV (pc := 5) (As := []) (rest := [.int (nI 4)]) (mc := 0) (ms := 0) hC tw_610 tw_482 tw_483 tw_65 tw_484 yd_J0_length_8abf5 (by decide) (ci := 0) rfl dX4_appendLetters_5 hx140 rfl (Nat.le_of_ble_eq_true rfl) (by first | omega | decide | exact Nat.lt_of_le_of_lt jshr (by omega) | exact Nat.lt_of_le_of_lt jand1 (by decide) | (simp only [List.length_append, List.length_cons, List.length_nil]; omega)) (by first | omega | decide | exact Nat.lt_of_le_of_lt jshr (by omega) | exact Nat.lt_of_le_of_lt jand1 (by decide) | (simp only [List.length_append, List.length_cons, List.length_nil]; omega)) ?_
          refine c_slen htr hL ?_
          show sg_W X M132 0 0 8 [some (.ref x), some (.ref e), some (.int (nI 4))] [.int (nI 4), .int (nI 4)]
          refine sg_icmpN_ge (pc := 8) (a := 4) (b := 4) 40 hC dX4_appendLetters_8 (by decide) (by decide) (by decide) (fun _ => ?_) (fun h141 => absurd h141 (by decide))
          have e9 : w ++ lets s.2.2.2.1 = w ++ [114] ++ [120] := by unfold lets; rw [if_pos h4, if_neg h108, if_pos h112, if_neg h138]; simp
          rw [e9] at hk
          exact sg_vreturn (st := []) (pc := 40) hC hR dX4_appendLetters_40 (hk _ hs133 hf)
        · refine sg_aload_n (pc := 23) (v := .ref e) hC dX4_appendLetters_23 rfl rfl ?_
          refine sg_ldc_rwxd (pc := 24) hC dX4_appendLetters_24 ?_
          refine sg_iload_n (pc := 26) (x := nI 3) hC dX4_appendLetters_26 rfl ?_
          obtain ⟨_, _, _, _, hx143, -⟩ := id hL
          refine sg_callV (pc := 27) (As := [.int (nI 3)]) (rest := [.ref e]) (mc := 0) (ms := 0) hC tw_611 tw_612 tw_613 tw_65 tw_614 yd_J0_charAt_5068e (by decide) (ci := 0) rfl dX4_appendLetters_27 hx143 rfl (Nat.le_of_ble_eq_true rfl) (by first | omega | decide | exact Nat.lt_of_le_of_lt jshr (by omega) | exact Nat.lt_of_le_of_lt jand1 (by decide) | (simp only [List.length_append, List.length_cons, List.length_nil]; omega)) (by first | omega | decide | exact Nat.lt_of_le_of_lt jshr (by omega) | exact Nat.lt_of_le_of_lt jand1 (by decide) | (simp only [List.length_append, List.length_cons, List.length_nil]; omega)) ?_
          refine c_charAt htr hL (by first | omega | decide | exact Nat.lt_of_le_of_lt jshr (by omega) | exact Nat.lt_of_le_of_lt jand1 (by decide) | (simp only [List.length_append, List.length_cons, List.length_nil]; omega)) ?_
          show sg_W X M132 0 0 30 [some (.ref x), some (.ref e), some (.int (nI 3))] [.int (nI 100), .ref e]
          obtain ⟨_, _, _, hx144, -⟩ := id hs133
          refine sg_callV (pc := 30) (As := [.int (nI 100)]) (rest := []) (mc := 0) (ms := 0) hC tw_642 tw_224 tw_225 tw_64 tw_226 yd_J4_append_cf468 (by decide) (ci := 1) rfl dX4_appendLetters_30 hx144 rfl (Nat.le_of_ble_eq_true rfl) (by first | omega | decide | exact Nat.lt_of_le_of_lt jshr (by omega) | exact Nat.lt_of_le_of_lt jand1 (by decide) | (simp only [List.length_append, List.length_cons, List.length_nil]; omega)) (by first | omega | decide | exact Nat.lt_of_le_of_lt jshr (by omega) | exact Nat.lt_of_le_of_lt jand1 (by decide) | (simp only [List.length_append, List.length_cons, List.length_nil]; omega)) ?_
          refine c_sbAppC htr hs133 (by first | omega | decide | exact Nat.lt_of_le_of_lt jshr (by omega) | exact Nat.lt_of_le_of_lt jand1 (by decide) | (simp only [List.length_append, List.length_cons, List.length_nil]; omega)) (by first | omega | decide | exact Nat.lt_of_le_of_lt jshr (by omega) | exact Nat.lt_of_le_of_lt jand1 (by decide) | (simp only [List.length_append, List.length_cons, List.length_nil]; omega)) (by first | omega | decide | exact Nat.lt_of_le_of_lt jshr (by omega) | exact Nat.lt_of_le_of_lt jand1 (by decide) | (simp only [List.length_append, List.length_cons, List.length_nil]; omega)) (by first | omega | decide | exact Nat.lt_of_le_of_lt jshr (by omega) | exact Nat.lt_of_le_of_lt jand1 (by decide) | (simp only [List.length_append, List.length_cons, List.length_nil]; omega)) (by first | omega | decide | exact Nat.lt_of_le_of_lt jshr (by omega) | exact Nat.lt_of_le_of_lt jand1 (by decide) | (simp only [List.length_append, List.length_cons, List.length_nil]; omega)) (fun M145 hs146 hf147 => ?_)
          have hX : M145 x = some (74, .inr (7, [.ref ta, .int (nI s.1), .int (nI kd), .ref b, .int (nI s.2.2.1), .int (nI s.2.2.2.1), .int (nI s.2.2.2.2.1), .int (nI s.2.2.2.2.2)])) := hf147.p hX (by first | decide | (simp; done) | (simp; omega))
          have hL : st_r 0 0 M145 (G.2.2.2 1) ([114, 119, 120, 100]) := hL.p hf147 (by first | decide | (simp; done) | (simp; omega)) (by first | decide | (simp; done) | (simp; omega))
          have hf : sf (pk [77, 78]) M M145 := hf.tr hf147 (fun a t h => by first | exact h | (simp [pk] at h; done) | (simp [pk] at h ⊢; omega) | (simp [pk] at h ⊢; done))
          show sg_W X M145 0 0 33 [some (.ref x), some (.ref e), some (.int (nI 3))] [.ref e]
          refine sg_pop (pc := 33) hC dX4_appendLetters_33 rfl ?_
          refine sg_iincN (pc := 34) (a := 3) (b := 4) hC dX4_appendLetters_34 rfl (nI_1 _) (by decide) ?_
          show sg_W X M145 0 0 37 [some (.ref x), some (.ref e), some (.int (nI 4))] []
          refine sg_goto (pc := 37) 2 hC dX4_appendLetters_37 (by decide) ?_
          refine sg_iload_n (pc := 2) (x := nI 4) hC dX4_appendLetters_2 rfl ?_
          refine sg_ldc_rwxd (pc := 3) hC dX4_appendLetters_3 ?_
          obtain ⟨_, _, _, _, hx149, -⟩ := id hL
          refine sg_callV (pc := 5) (As := []) (rest := [.int (nI 4)]) (mc := 0) (ms := 0) hC tw_610 tw_482 tw_483 tw_65 tw_484 yd_J0_length_8abf5 (by decide) (ci := 0) rfl dX4_appendLetters_5 hx149 rfl (Nat.le_of_ble_eq_true rfl) (by first | omega | decide | exact Nat.lt_of_le_of_lt jshr (by omega) | exact Nat.lt_of_le_of_lt jand1 (by decide) | (simp only [List.length_append, List.length_cons, List.length_nil]; omega)) (by first | omega | decide | exact Nat.lt_of_le_of_lt jshr (by omega) | exact Nat.lt_of_le_of_lt jand1 (by decide) | (simp only [List.length_append, List.length_cons, List.length_nil]; omega)) ?_
          refine c_slen htr hL ?_
          show sg_W X M145 0 0 8 [some (.ref x), some (.ref e), some (.int (nI 4))] [.int (nI 4), .int (nI 4)]
          refine sg_icmpN_ge (pc := 8) (a := 4) (b := 4) 40 hC dX4_appendLetters_8 (by decide) (by decide) (by decide) (fun _ => ?_) (fun h150 => absurd h150 (by decide))
          have e9 : w ++ lets s.2.2.2.1 = w ++ [114] ++ [120] ++ [100] := by unfold lets; rw [if_pos h4, if_neg h108, if_pos h112, if_pos h138]; simp
          rw [e9] at hk
          exact sg_vreturn (st := []) (pc := 40) hC hR dX4_appendLetters_40 (hk _ hs146 hf)
    · refine sg_aload_n (pc := 23) (v := .ref e) hC dX4_appendLetters_23 rfl rfl ?_
      refine sg_ldc_rwxd (pc := 24) hC dX4_appendLetters_24 ?_
      refine sg_iload_n (pc := 26) (x := nI 1) hC dX4_appendLetters_26 rfl ?_
      obtain ⟨_, _, _, _, hx152, -⟩ := id hL
      refine sg_callV (pc := 27) (As := [.int (nI 1)]) (rest := [.ref e]) (mc := 0) (ms := 0) hC tw_611 tw_612 tw_613 tw_65 tw_614 yd_J0_charAt_5068e (by decide) (ci := 0) rfl dX4_appendLetters_27 hx152 rfl (Nat.le_of_ble_eq_true rfl) (by first | omega | decide | exact Nat.lt_of_le_of_lt jshr (by omega) | exact Nat.lt_of_le_of_lt jand1 (by decide) | (simp only [List.length_append, List.length_cons, List.length_nil]; omega)) (by first | omega | decide | exact Nat.lt_of_le_of_lt jshr (by omega) | exact Nat.lt_of_le_of_lt jand1 (by decide) | (simp only [List.length_append, List.length_cons, List.length_nil]; omega)) ?_
      refine c_charAt htr hL (by first | omega | decide | exact Nat.lt_of_le_of_lt jshr (by omega) | exact Nat.lt_of_le_of_lt jand1 (by decide) | (simp only [List.length_append, List.length_cons, List.length_nil]; omega)) ?_
      show sg_W X M102 0 0 30 [some (.ref x), some (.ref e), some (.int (nI 1))] [.int (nI 119), .ref e]
      obtain ⟨_, _, _, hx153, -⟩ := id hs103
      refine sg_callV (pc := 30) (As := [.int (nI 119)]) (rest := []) (mc := 0) (ms := 0) hC tw_642 tw_224 tw_225 tw_64 tw_226 yd_J4_append_cf468 (by decide) (ci := 1) rfl dX4_appendLetters_30 hx153 rfl (Nat.le_of_ble_eq_true rfl) (by first | omega | decide | exact Nat.lt_of_le_of_lt jshr (by omega) | exact Nat.lt_of_le_of_lt jand1 (by decide) | (simp only [List.length_append, List.length_cons, List.length_nil]; omega)) (by first | omega | decide | exact Nat.lt_of_le_of_lt jshr (by omega) | exact Nat.lt_of_le_of_lt jand1 (by decide) | (simp only [List.length_append, List.length_cons, List.length_nil]; omega)) ?_
      refine c_sbAppC htr hs103 (by first | omega | decide | exact Nat.lt_of_le_of_lt jshr (by omega) | exact Nat.lt_of_le_of_lt jand1 (by decide) | (simp only [List.length_append, List.length_cons, List.length_nil]; omega)) (by first | omega | decide | exact Nat.lt_of_le_of_lt jshr (by omega) | exact Nat.lt_of_le_of_lt jand1 (by decide) | (simp only [List.length_append, List.length_cons, List.length_nil]; omega)) (by first | omega | decide | exact Nat.lt_of_le_of_lt jshr (by omega) | exact Nat.lt_of_le_of_lt jand1 (by decide) | (simp only [List.length_append, List.length_cons, List.length_nil]; omega)) (by first | omega | decide | exact Nat.lt_of_le_of_lt jshr (by omega) | exact Nat.lt_of_le_of_lt jand1 (by decide) | (simp only [List.length_append, List.length_cons, List.length_nil]; omega)) (by first | omega | decide | exact Nat.lt_of_le_of_lt jshr (by omega) | exact Nat.lt_of_le_of_lt jand1 (by decide) | (simp only [List.length_append, List.length_cons, List.length_nil]; omega)) (fun M154 hs155 hf156 => ?_)
      have hX : M154 x = some (74, .inr (7, [.ref ta, .int (nI s.1), .int (nI kd), .ref b, .int (nI s.2.2.1), .int (nI s.2.2.2.1), .int (nI s.2.2.2.2.1), .int (nI s.2.2.2.2.2)])) := hf156.p hX (by first | decide | (simp; done) | (simp; omega))
      have hL : st_r 0 0 M154 (G.2.2.2 1) ([114, 119, 120, 100]) := hL.p hf156 (by first | decide | (simp; done) | (simp; omega)) (by first | decide | (simp; done) | (simp; omega))
      have hf : sf (pk [77, 78]) M M154 := hf.tr hf156 (fun a t h => by first | exact h | (simp [pk] at h; done) | (simp [pk] at h ⊢; omega) | (simp [pk] at h ⊢; done))
      show sg_W X M154 0 0 33 [some (.ref x), some (.ref e), some (.int (nI 1))] [.ref e]
      refine sg_pop (pc := 33) hC dX4_appendLetters_33 rfl ?_
      refine sg_iincN (pc := 34) (a := 1) (b := 2) hC dX4_appendLetters_34 rfl (nI_1 _) (by decide) ?_
      show sg_W X M154 0 0 37 [some (.ref x), some (.ref e), some (.int (nI 2))] []
      refine sg_goto (pc := 37) 2 hC dX4_appendLetters_37 (by decide) ?_
      refine sg_iload_n (pc := 2) (x := nI 2) hC dX4_appendLetters_2 rfl ?_
      refine sg_ldc_rwxd (pc := 3) hC dX4_appendLetters_3 ?_
      obtain ⟨_, _, _, _, hx158, -⟩ := id hL
      refine sg_callV (pc := 5) (As := []) (rest := [.int (nI 2)]) (mc := 0) (ms := 0) hC tw_610 tw_482 tw_483 tw_65 tw_484 yd_J0_length_8abf5 (by decide) (ci := 0) rfl dX4_appendLetters_5 hx158 rfl (Nat.le_of_ble_eq_true rfl) (by first | omega | decide | exact Nat.lt_of_le_of_lt jshr (by omega) | exact Nat.lt_of_le_of_lt jand1 (by decide) | (simp only [List.length_append, List.length_cons, List.length_nil]; omega)) (by first | omega | decide | exact Nat.lt_of_le_of_lt jshr (by omega) | exact Nat.lt_of_le_of_lt jand1 (by decide) | (simp only [List.length_append, List.length_cons, List.length_nil]; omega)) ?_
      refine c_slen htr hL ?_
      show sg_W X M154 0 0 8 [some (.ref x), some (.ref e), some (.int (nI 2))] [.int (nI 4), .int (nI 2)]
      refine sg_icmpN_ge (pc := 8) (a := 2) (b := 4) 40 hC dX4_appendLetters_8 (by decide) (by decide) (by decide) (fun h159 => absurd h159 (by decide)) (fun _ => ?_)
      refine sg_aload_n (pc := 11) (v := .ref x) hC dX4_appendLetters_11 rfl rfl ?_
      refine sg_get (pc := 12) (a := x) (v := .int (nI s.2.2.2.1)) 5 hC rfl inw_X4 (by decide) tw_555 dX4_appendLetters_12 hX rfl ?_
      refine sg_iload_n (pc := 15) (x := nI 2) hC dX4_appendLetters_15 rfl ?_
      refine sg_ishrN (pc := 16) (a := s.2.2.2.1) (b := 2) hC dX4_appendLetters_16 (by first | omega | decide | exact Nat.lt_of_le_of_lt jshr (by omega) | exact Nat.lt_of_le_of_lt jand1 (by decide) | (simp only [List.length_append, List.length_cons, List.length_nil]; omega)) (by first | omega | exact Nat.lt_of_le_of_lt jshr (by omega)) ?_
      refine sg_iconst (pc := 17) (nI 1) hC dX4_appendLetters_17 (by decide) ?_
      refine sg_iandN (pc := 18) (a := s.2.2.2.1 >>> 2) (b := 1) hC dX4_appendLetters_18 ?_
      refine sg_iconst (pc := 19) (nI 1) hC dX4_appendLetters_19 (by decide) ?_
      refine sg_icmpN_ne (pc := 20) (a := (s.2.2.2.1 >>> 2) &&& 1) (b := 1) 34 hC dX4_appendLetters_20 (by decide) (by first | omega | decide | exact Nat.lt_of_le_of_lt jshr (by omega) | exact Nat.lt_of_le_of_lt jand1 (by decide) | (simp only [List.length_append, List.length_cons, List.length_nil]; omega)) (by first | omega | decide | exact Nat.lt_of_le_of_lt jshr (by omega) | exact Nat.lt_of_le_of_lt jand1 (by decide) | (simp only [List.length_append, List.length_cons, List.length_nil]; omega)) (fun h160 => ?_) (fun h160 => ?_)
      · refine sg_iincN (pc := 34) (a := 2) (b := 3) hC dX4_appendLetters_34 rfl (nI_1 _) (by decide) ?_
        show sg_W X M154 0 0 37 [some (.ref x), some (.ref e), some (.int (nI 3))] []
        refine sg_goto (pc := 37) 2 hC dX4_appendLetters_37 (by decide) ?_
        refine sg_iload_n (pc := 2) (x := nI 3) hC dX4_appendLetters_2 rfl ?_
        refine sg_ldc_rwxd (pc := 3) hC dX4_appendLetters_3 ?_
        obtain ⟨_, _, _, _, hx162, -⟩ := id hL
        refine sg_callV (pc := 5) (As := []) (rest := [.int (nI 3)]) (mc := 0) (ms := 0) hC tw_610 tw_482 tw_483 tw_65 tw_484 yd_J0_length_8abf5 (by decide) (ci := 0) rfl dX4_appendLetters_5 hx162 rfl (Nat.le_of_ble_eq_true rfl) (by first | omega | decide | exact Nat.lt_of_le_of_lt jshr (by omega) | exact Nat.lt_of_le_of_lt jand1 (by decide) | (simp only [List.length_append, List.length_cons, List.length_nil]; omega)) (by first | omega | decide | exact Nat.lt_of_le_of_lt jshr (by omega) | exact Nat.lt_of_le_of_lt jand1 (by decide) | (simp only [List.length_append, List.length_cons, List.length_nil]; omega)) ?_
        refine c_slen htr hL ?_
        show sg_W X M154 0 0 8 [some (.ref x), some (.ref e), some (.int (nI 3))] [.int (nI 4), .int (nI 3)]
        refine sg_icmpN_ge (pc := 8) (a := 3) (b := 4) 40 hC dX4_appendLetters_8 (by decide) (by decide) (by decide) (fun h163 => absurd h163 (by decide)) (fun _ => ?_)
        refine sg_aload_n (pc := 11) (v := .ref x) hC dX4_appendLetters_11 rfl rfl ?_
        refine sg_get (pc := 12) (a := x) (v := .int (nI s.2.2.2.1)) 5 hC rfl inw_X4 (by decide) tw_555 dX4_appendLetters_12 hX rfl ?_
        refine sg_iload_n (pc := 15) (x := nI 3) hC dX4_appendLetters_15 rfl ?_
        refine sg_ishrN (pc := 16) (a := s.2.2.2.1) (b := 3) hC dX4_appendLetters_16 (by first | omega | decide | exact Nat.lt_of_le_of_lt jshr (by omega) | exact Nat.lt_of_le_of_lt jand1 (by decide) | (simp only [List.length_append, List.length_cons, List.length_nil]; omega)) (by first | omega | exact Nat.lt_of_le_of_lt jshr (by omega)) ?_
        refine sg_iconst (pc := 17) (nI 1) hC dX4_appendLetters_17 (by decide) ?_
        refine sg_iandN (pc := 18) (a := s.2.2.2.1 >>> 3) (b := 1) hC dX4_appendLetters_18 ?_
        refine sg_iconst (pc := 19) (nI 1) hC dX4_appendLetters_19 (by decide) ?_
        refine sg_icmpN_ne (pc := 20) (a := (s.2.2.2.1 >>> 3) &&& 1) (b := 1) 34 hC dX4_appendLetters_20 (by decide) (by first | omega | decide | exact Nat.lt_of_le_of_lt jshr (by omega) | exact Nat.lt_of_le_of_lt jand1 (by decide) | (simp only [List.length_append, List.length_cons, List.length_nil]; omega)) (by first | omega | decide | exact Nat.lt_of_le_of_lt jshr (by omega) | exact Nat.lt_of_le_of_lt jand1 (by decide) | (simp only [List.length_append, List.length_cons, List.length_nil]; omega)) (fun h164 => ?_) (fun h164 => ?_)
        · refine sg_iincN (pc := 34) (a := 3) (b := 4) hC dX4_appendLetters_34 rfl (nI_1 _) (by decide) ?_
          show sg_W X M154 0 0 37 [some (.ref x), some (.ref e), some (.int (nI 4))] []
          refine sg_goto (pc := 37) 2 hC dX4_appendLetters_37 (by decide) ?_
          refine sg_iload_n (pc := 2) (x := nI 4) hC dX4_appendLetters_2 rfl ?_
          refine sg_ldc_rwxd (pc := 3) hC dX4_appendLetters_3 ?_
          obtain ⟨_, _, _, _, hx166, -⟩ := id hL
          refine sg_callV (pc := 5) (As := []) (rest := [.int (nI 4)]) (mc := 0) (ms := 0) hC tw_610 tw_482 tw_483 tw_65 tw_484 yd_J0_length_8abf5 (by decide) (ci := 0) rfl dX4_appendLetters_5 hx166 rfl (Nat.le_of_ble_eq_true rfl) (by first | omega | decide | exact Nat.lt_of_le_of_lt jshr (by omega) | exact Nat.lt_of_le_of_lt jand1 (by decide) | (simp only [List.length_append, List.length_cons, List.length_nil]; omega)) (by first | omega | decide | exact Nat.lt_of_le_of_lt jshr (by omega) | exact Nat.lt_of_le_of_lt jand1 (by decide) | (simp only [List.length_append, List.length_cons, List.length_nil]; omega)) ?_
          refine c_slen htr hL ?_
          show sg_W X M154 0 0 8 [some (.ref x), some (.ref e), some (.int (nI 4))] [.int (nI 4), .int (nI 4)]
          refine sg_icmpN_ge (pc := 8) (a := 4) (b := 4) 40 hC dX4_appendLetters_8 (by decide) (by decide) (by decide) (fun _ => ?_) (fun h167 => absurd h167 (by decide))
          have e9 : w ++ lets s.2.2.2.1 = w ++ [114] ++ [119] := by unfold lets; rw [if_pos h4, if_pos h108, if_neg h160, if_neg h164]; simp
          rw [e9] at hk
          exact sg_vreturn (st := []) (pc := 40) hC hR dX4_appendLetters_40 (hk _ hs155 hf)
        · refine sg_aload_n (pc := 23) (v := .ref e) hC dX4_appendLetters_23 rfl rfl ?_
          refine sg_ldc_rwxd (pc := 24) hC dX4_appendLetters_24 ?_
          refine sg_iload_n (pc := 26) (x := nI 3) hC dX4_appendLetters_26 rfl ?_
          obtain ⟨_, _, _, _, hx169, -⟩ := id hL
          refine sg_callV (pc := 27) (As := [.int (nI 3)]) (rest := [.ref e]) (mc := 0) (ms := 0) hC tw_611 tw_612 tw_613 tw_65 tw_614 yd_J0_charAt_5068e (by decide) (ci := 0) rfl dX4_appendLetters_27 hx169 rfl (Nat.le_of_ble_eq_true rfl) (by first | omega | decide | exact Nat.lt_of_le_of_lt jshr (by omega) | exact Nat.lt_of_le_of_lt jand1 (by decide) | (simp only [List.length_append, List.length_cons, List.length_nil]; omega)) (by first | omega | decide | exact Nat.lt_of_le_of_lt jshr (by omega) | exact Nat.lt_of_le_of_lt jand1 (by decide) | (simp only [List.length_append, List.length_cons, List.length_nil]; omega)) ?_
          refine c_charAt htr hL (by first | omega | decide | exact Nat.lt_of_le_of_lt jshr (by omega) | exact Nat.lt_of_le_of_lt jand1 (by decide) | (simp only [List.length_append, List.length_cons, List.length_nil]; omega)) ?_
          show sg_W X M154 0 0 30 [some (.ref x), some (.ref e), some (.int (nI 3))] [.int (nI 100), .ref e]
          obtain ⟨_, _, _, hx170, -⟩ := id hs155
          refine sg_callV (pc := 30) (As := [.int (nI 100)]) (rest := []) (mc := 0) (ms := 0) hC tw_642 tw_224 tw_225 tw_64 tw_226 yd_J4_append_cf468 (by decide) (ci := 1) rfl dX4_appendLetters_30 hx170 rfl (Nat.le_of_ble_eq_true rfl) (by first | omega | decide | exact Nat.lt_of_le_of_lt jshr (by omega) | exact Nat.lt_of_le_of_lt jand1 (by decide) | (simp only [List.length_append, List.length_cons, List.length_nil]; omega)) (by first | omega | decide | exact Nat.lt_of_le_of_lt jshr (by omega) | exact Nat.lt_of_le_of_lt jand1 (by decide) | (simp only [List.length_append, List.length_cons, List.length_nil]; omega)) ?_
          refine c_sbAppC htr hs155 (by first | omega | decide | exact Nat.lt_of_le_of_lt jshr (by omega) | exact Nat.lt_of_le_of_lt jand1 (by decide) | (simp only [List.length_append, List.length_cons, List.length_nil]; omega)) (by first | omega | decide | exact Nat.lt_of_le_of_lt jshr (by omega) | exact Nat.lt_of_le_of_lt jand1 (by decide) | (simp only [List.length_append, List.length_cons, List.length_nil]; omega)) (by first | omega | decide | exact Nat.lt_of_le_of_lt jshr (by omega) | exact Nat.lt_of_le_of_lt jand1 (by decide) | (simp only [List.length_append, List.length_cons, List.length_nil]; omega)) (by first | omega | decide | exact Nat.lt_of_le_of_lt jshr (by omega) | exact Nat.lt_of_le_of_lt jand1 (by decide) | (simp only [List.length_append, List.length_cons, List.length_nil]; omega)) (by first | omega | decide | exact Nat.lt_of_le_of_lt jshr (by omega) | exact Nat.lt_of_le_of_lt jand1 (by decide) | (simp only [List.length_append, List.length_cons, List.length_nil]; omega)) (fun M171 hs172 hf173 => ?_)
          have hX : M171 x = some (74, .inr (7, [.ref ta, .int (nI s.1), .int (nI kd), .ref b, .int (nI s.2.2.1), .int (nI s.2.2.2.1), .int (nI s.2.2.2.2.1), .int (nI s.2.2.2.2.2)])) := hf173.p hX (by first | decide | (simp; done) | (simp; omega))
          have hL : st_r 0 0 M171 (G.2.2.2 1) ([114, 119, 120, 100]) := hL.p hf173 (by first | decide | (simp; done) | (simp; omega)) (by first | decide | (simp; done) | (simp; omega))
          have hf : sf (pk [77, 78]) M M171 := hf.tr hf173 (fun a t h => by first | exact h | (simp [pk] at h; done) | (simp [pk] at h ⊢; omega) | (simp [pk] at h ⊢; done))
          show sg_W X M171 0 0 33 [some (.ref x), some (.ref e), some (.int (nI 3))] [.ref e]
          refine sg_pop (pc := 33) hC dX4_appendLetters_33 rfl ?_
          refine sg_iincN (pc := 34) (a := 3) (b := 4) hC dX4_appendLetters_34 rfl (nI_1 _) (by decide) ?_
          show sg_W X M171 0 0 37 [some (.ref x), some (.ref e), some (.int (nI 4))] []
          refine sg_goto (pc := 37) 2 hC dX4_appendLetters_37 (by decide) ?_
          refine sg_iload_n (pc := 2) (x := nI 4) hC dX4_appendLetters_2 rfl ?_
          refine sg_ldc_rwxd (pc := 3) hC dX4_appendLetters_3 ?_
          obtain ⟨_, _, _, _, hx175, -⟩ := id hL
          refine sg_callV (pc := 5) (As := []) (rest := [.int (nI 4)]) (mc := 0) (ms := 0) hC tw_610 tw_482 tw_483 tw_65 tw_484 yd_J0_length_8abf5 (by decide) (ci := 0) rfl dX4_appendLetters_5 hx175 rfl (Nat.le_of_ble_eq_true rfl) (by first | omega | decide | exact Nat.lt_of_le_of_lt jshr (by omega) | exact Nat.lt_of_le_of_lt jand1 (by decide) | (simp only [List.length_append, List.length_cons, List.length_nil]; omega)) (by first | omega | decide | exact Nat.lt_of_le_of_lt jshr (by omega) | exact Nat.lt_of_le_of_lt jand1 (by decide) | (simp only [List.length_append, List.length_cons, List.length_nil]; omega)) ?_
          refine c_slen htr hL ?_
          show sg_W X M171 0 0 8 [some (.ref x), some (.ref e), some (.int (nI 4))] [.int (nI 4), .int (nI 4)]
          refine sg_icmpN_ge (pc := 8) (a := 4) (b := 4) 40 hC dX4_appendLetters_8 (by decide) (by decide) (by decide) (fun _ => ?_) (fun h176 => absurd h176 (by decide))
          have e9 : w ++ lets s.2.2.2.1 = w ++ [114] ++ [119] ++ [100] := by unfold lets; rw [if_pos h4, if_pos h108, if_neg h160, if_pos h164]; simp
          rw [e9] at hk
          exact sg_vreturn (st := []) (pc := 40) hC hR dX4_appendLetters_40 (hk _ hs172 hf)
      · refine sg_aload_n (pc := 23) (v := .ref e) hC dX4_appendLetters_23 rfl rfl ?_
        refine sg_ldc_rwxd (pc := 24) hC dX4_appendLetters_24 ?_
        refine sg_iload_n (pc := 26) (x := nI 2) hC dX4_appendLetters_26 rfl ?_
        obtain ⟨_, _, _, _, hx178, -⟩ := id hL
        refine sg_callV (pc := 27) (As := [.int (nI 2)]) (rest := [.ref e]) (mc := 0) (ms := 0) hC tw_611 tw_612 tw_613 tw_65 tw_614 yd_J0_charAt_5068e (by decide) (ci := 0) rfl dX4_appendLetters_27 hx178 rfl (Nat.le_of_ble_eq_true rfl) (by first | omega | decide | exact Nat.lt_of_le_of_lt jshr (by omega) | exact Nat.lt_of_le_of_lt jand1 (by decide) | (simp only [List.length_append, List.length_cons, List.length_nil]; omega)) (by first | omega | decide | exact Nat.lt_of_le_of_lt jshr (by omega) | exact Nat.lt_of_le_of_lt jand1 (by decide) | (simp only [List.length_append, List.length_cons, List.length_nil]; omega)) ?_
        refine c_charAt htr hL (by first | omega | decide | exact Nat.lt_of_le_of_lt jshr (by omega) | exact Nat.lt_of_le_of_lt jand1 (by decide) | (simp only [List.length_append, List.length_cons, List.length_nil]; omega)) ?_
        show sg_W X M154 0 0 30 [some (.ref x), some (.ref e), some (.int (nI 2))] [.int (nI 120), .ref e]
        obtain ⟨_, _, _, hx179, -⟩ := id hs155
        refine sg_callV (pc := 30) (As := [.int (nI 120)]) (rest := []) (mc := 0) (ms := 0) hC tw_642 tw_224 tw_225 tw_64 tw_226 yd_J4_append_cf468 (by decide) (ci := 1) rfl dX4_appendLetters_30 hx179 rfl (Nat.le_of_ble_eq_true rfl) (by first | omega | decide | exact Nat.lt_of_le_of_lt jshr (by omega) | exact Nat.lt_of_le_of_lt jand1 (by decide) | (simp only [List.length_append, List.length_cons, List.length_nil]; omega)) (by first | omega | decide | exact Nat.lt_of_le_of_lt jshr (by omega) | exact Nat.lt_of_le_of_lt jand1 (by decide) | (simp only [List.length_append, List.length_cons, List.length_nil]; omega)) ?_
        refine c_sbAppC htr hs155 (by first | omega | decide | exact Nat.lt_of_le_of_lt jshr (by omega) | exact Nat.lt_of_le_of_lt jand1 (by decide) | (simp only [List.length_append, List.length_cons, List.length_nil]; omega)) (by first | omega | decide | exact Nat.lt_of_le_of_lt jshr (by omega) | exact Nat.lt_of_le_of_lt jand1 (by decide) | (simp only [List.length_append, List.length_cons, List.length_nil]; omega)) (by first | omega | decide | exact Nat.lt_of_le_of_lt jshr (by omega) | exact Nat.lt_of_le_of_lt jand1 (by decide) | (simp only [List.length_append, List.length_cons, List.length_nil]; omega)) (by first | omega | decide | exact Nat.lt_of_le_of_lt jshr (by omega) | exact Nat.lt_of_le_of_lt jand1 (by decide) | (simp only [List.length_append, List.length_cons, List.length_nil]; omega)) (by first | omega | decide | exact Nat.lt_of_le_of_lt jshr (by omega) | exact Nat.lt_of_le_of_lt jand1 (by decide) | (simp only [List.length_append, List.length_cons, List.length_nil]; omega)) (fun M180 hs181 hf182 => ?_)
        have hX : M180 x = some (74, .inr (7, [.ref ta, .int (nI s.1), .int (nI kd), .ref b, .int (nI s.2.2.1), .int (nI s.2.2.2.1), .int (nI s.2.2.2.2.1), .int (nI s.2.2.2.2.2)])) := hf182.p hX (by first | decide | (simp; done) | (simp; omega))
        have hL : st_r 0 0 M180 (G.2.2.2 1) ([114, 119, 120, 100]) := hL.p hf182 (by first | decide | (simp; done) | (simp; omega)) (by first | decide | (simp; done) | (simp; omega))
        have hf : sf (pk [77, 78]) M M180 := hf.tr hf182 (fun a t h => by first | exact h | (simp [pk] at h; done) | (simp [pk] at h ⊢; omega) | (simp [pk] at h ⊢; done))
        show sg_W X M180 0 0 33 [some (.ref x), some (.ref e), some (.int (nI 2))] [.ref e]
        refine sg_pop (pc := 33) hC dX4_appendLetters_33 rfl ?_
        refine sg_iincN (pc := 34) (a := 2) (b := 3) hC dX4_appendLetters_34 rfl (nI_1 _) (by decide) ?_
        show sg_W X M180 0 0 37 [some (.ref x), some (.ref e), some (.int (nI 3))] []
        refine sg_goto (pc := 37) 2 hC dX4_appendLetters_37 (by decide) ?_
        refine sg_iload_n (pc := 2) (x := nI 3) hC dX4_appendLetters_2 rfl ?_
        refine sg_ldc_rwxd (pc := 3) hC dX4_appendLetters_3 ?_
        obtain ⟨_, _, _, _, hx184, -⟩ := id hL
        refine sg_callV (pc := 5) (As := []) (rest := [.int (nI 3)]) (mc := 0) (ms := 0) hC tw_610 tw_482 tw_483 tw_65 tw_484 yd_J0_length_8abf5 (by decide) (ci := 0) rfl dX4_appendLetters_5 hx184 rfl (Nat.le_of_ble_eq_true rfl) (by first | omega | decide | exact Nat.lt_of_le_of_lt jshr (by omega) | exact Nat.lt_of_le_of_lt jand1 (by decide) | (simp only [List.length_append, List.length_cons, List.length_nil]; omega)) (by first | omega | decide | exact Nat.lt_of_le_of_lt jshr (by omega) | exact Nat.lt_of_le_of_lt jand1 (by decide) | (simp only [List.length_append, List.length_cons, List.length_nil]; omega)) ?_
        refine c_slen htr hL ?_
        show sg_W X M180 0 0 8 [some (.ref x), some (.ref e), some (.int (nI 3))] [.int (nI 4), .int (nI 3)]
        refine sg_icmpN_ge (pc := 8) (a := 3) (b := 4) 40 hC dX4_appendLetters_8 (by decide) (by decide) (by decide) (fun h185 => absurd h185 (by decide)) (fun _ => ?_)
        refine sg_aload_n (pc := 11) (v := .ref x) hC dX4_appendLetters_11 rfl rfl ?_
        refine sg_get (pc := 12) (a := x) (v := .int (nI s.2.2.2.1)) 5 hC rfl inw_X4 (by decide) tw_555 dX4_appendLetters_12 hX rfl ?_
        refine sg_iload_n (pc := 15) (x := nI 3) hC dX4_appendLetters_15 rfl ?_
        refine sg_ishrN (pc := 16) (a := s.2.2.2.1) (b := 3) hC dX4_appendLetters_16 (by first | omega | decide | exact Nat.lt_of_le_of_lt jshr (by omega) | exact Nat.lt_of_le_of_lt jand1 (by decide) | (simp only [List.length_append, List.length_cons, List.length_nil]; omega)) (by first | omega | exact Nat.lt_of_le_of_lt jshr (by omega)) ?_
        refine sg_iconst (pc := 17) (nI 1) hC dX4_appendLetters_17 (by decide) ?_
        refine sg_iandN (pc := 18) (a := s.2.2.2.1 >>> 3) (b := 1) hC dX4_appendLetters_18 ?_
        refine sg_iconst (pc := 19) (nI 1) hC dX4_appendLetters_19 (by decide) ?_
        refine sg_icmpN_ne (pc := 20) (a := (s.2.2.2.1 >>> 3) &&& 1) (b := 1) 34 hC dX4_appendLetters_20 (by decide) (by first | omega | decide | exact Nat.lt_of_le_of_lt jshr (by omega) | exact Nat.lt_of_le_of_lt jand1 (by decide) | (simp only [List.length_append, List.length_cons, List.length_nil]; omega)) (by first | omega | decide | exact Nat.lt_of_le_of_lt jshr (by omega) | exact Nat.lt_of_le_of_lt jand1 (by decide) | (simp only [List.length_append, List.length_cons, List.length_nil]; omega)) (fun h186 => ?_) (fun h186 => ?_)
        · refine sg_iincN (pc := 34) (a := 3) (b := 4) hC dX4_appendLetters_34 rfl (nI_1 _) (by decide) ?_
          show sg_W X M180 0 0 37 [some (.ref x), some (.ref e), some (.int (nI 4))] []
          refine sg_goto (pc := 37) 2 hC dX4_appendLetters_37 (by decide) ?_
          refine sg_iload_n (pc := 2) (x := nI 4) hC dX4_appendLetters_2 rfl ?_
          refine sg_ldc_rwxd (pc := 3) hC dX4_appendLetters_3 ?_
          obtain ⟨_, _, _, _, hx188, -⟩ := id hL
          refine sg_callV (pc := 5) (As := []) (rest := [.int (nI 4)]) (mc := 0) (ms := 0) hC tw_610 tw_482 tw_483 tw_65 tw_484 yd_J0_length_8abf5 (by decide) (ci := 0) rfl dX4_appendLetters_5 hx188 rfl (Nat.le_of_ble_eq_true rfl) (by first | omega | decide | exact Nat.lt_of_le_of_lt jshr (by omega) | exact Nat.lt_of_le_of_lt jand1 (by decide) | (simp only [List.length_append, List.length_cons, List.length_nil]; omega)) (by first | omega | decide | exact Nat.lt_of_le_of_lt jshr (by omega) | exact Nat.lt_of_le_of_lt jand1 (by decide) | (simp only [List.length_append, List.length_cons, List.length_nil]; omega)) ?_
          refine c_slen htr hL ?_
          show sg_W X M180 0 0 8 [some (.ref x), some (.ref e), some (.int (nI 4))] [.int (nI 4), .int (nI 4)]
          refine sg_icmpN_ge (pc := 8) (a := 4) (b := 4) 40 hC dX4_appendLetters_8 (by decide) (by decide) (by decide) (fun _ => ?_) (fun h189 => absurd h189 (by decide))
          have e9 : w ++ lets s.2.2.2.1 = w ++ [114] ++ [119] ++ [120] := by unfold lets; rw [if_pos h4, if_pos h108, if_pos h160, if_neg h186]; simp
          rw [e9] at hk
          exact sg_vreturn (st := []) (pc := 40) hC hR dX4_appendLetters_40 (hk _ hs181 hf)
        · refine sg_aload_n (pc := 23) (v := .ref e) hC dX4_appendLetters_23 rfl rfl ?_
          refine sg_ldc_rwxd (pc := 24) hC dX4_appendLetters_24 ?_
          refine sg_iload_n (pc := 26) (x := nI 3) hC dX4_appendLetters_26 rfl ?_
          obtain ⟨_, _, _, _, hx191, -⟩ := id hL
          refine sg_callV (pc := 27) (As := [.int (nI 3)]) (rest := [.ref e]) (mc := 0) (ms := 0) hC tw_611 tw_612 tw_613 tw_65 tw_614 yd_J0_charAt_5068e (by decide) (ci := 0) rfl dX4_appendLetters_27 hx191 rfl (Nat.le_of_ble_eq_true rfl) (by first | omega | decide | exact Nat.lt_of_le_of_lt jshr (by omega) | exact Nat.lt_of_le_of_lt jand1 (by decide) | (simp only [List.length_append, List.length_cons, List.length_nil]; omega)) (by first | omega | decide | exact Nat.lt_of_le_of_lt jshr (by omega) | exact Nat.lt_of_le_of_lt jand1 (by decide) | (simp only [List.length_append, List.length_cons, List.length_nil]; omega)) ?_
          refine c_charAt htr hL (by first | omega | decide | exact Nat.lt_of_le_of_lt jshr (by omega) | exact Nat.lt_of_le_of_lt jand1 (by decide) | (simp only [List.length_append, List.length_cons, List.length_nil]; omega)) ?_
          show sg_W X M180 0 0 30 [some (.ref x), some (.ref e), some (.int (nI 3))] [.int (nI 100), .ref e]
          obtain ⟨_, _, _, hx192, -⟩ := id hs181
          refine sg_callV (pc := 30) (As := [.int (nI 100)]) (rest := []) (mc := 0) (ms := 0) hC tw_642 tw_224 tw_225 tw_64 tw_226 yd_J4_append_cf468 (by decide) (ci := 1) rfl dX4_appendLetters_30 hx192 rfl (Nat.le_of_ble_eq_true rfl) (by first | omega | decide | exact Nat.lt_of_le_of_lt jshr (by omega) | exact Nat.lt_of_le_of_lt jand1 (by decide) | (simp only [List.length_append, List.length_cons, List.length_nil]; omega)) (by first | omega | decide | exact Nat.lt_of_le_of_lt jshr (by omega) | exact Nat.lt_of_le_of_lt jand1 (by decide) | (simp only [List.length_append, List.length_cons, List.length_nil]; omega)) ?_
          refine c_sbAppC htr hs181 (by first | omega | decide | exact Nat.lt_of_le_of_lt jshr (by omega) | exact Nat.lt_of_le_of_lt jand1 (by decide) | (simp only [List.length_append, List.length_cons, List.length_nil]; omega)) (by first | omega | decide | exact Nat.lt_of_le_of_lt jshr (by omega) | exact Nat.lt_of_le_of_lt jand1 (by decide) | (simp only [List.length_append, List.length_cons, List.length_nil]; omega)) (by first | omega | decide | exact Nat.lt_of_le_of_lt jshr (by omega) | exact Nat.lt_of_le_of_lt jand1 (by decide) | (simp only [List.length_append, List.length_cons, List.length_nil]; omega)) (by first | omega | decide | exact Nat.lt_of_le_of_lt jshr (by omega) | exact Nat.lt_of_le_of_lt jand1 (by decide) | (simp only [List.length_append, List.length_cons, List.length_nil]; omega)) (by first | omega | decide | exact Nat.lt_of_le_of_lt jshr (by omega) | exact Nat.lt_of_le_of_lt jand1 (by decide) | (simp only [List.length_append, List.length_cons, List.length_nil]; omega)) (fun M193 hs194 hf195 => ?_)
          have hX : M193 x = some (74, .inr (7, [.ref ta, .int (nI s.1), .int (nI kd), .ref b, .int (nI s.2.2.1), .int (nI s.2.2.2.1), .int (nI s.2.2.2.2.1), .int (nI s.2.2.2.2.2)])) := hf195.p hX (by first | decide | (simp; done) | (simp; omega))
          have hL : st_r 0 0 M193 (G.2.2.2 1) ([114, 119, 120, 100]) := hL.p hf195 (by first | decide | (simp; done) | (simp; omega)) (by first | decide | (simp; done) | (simp; omega))
          have hf : sf (pk [77, 78]) M M193 := hf.tr hf195 (fun a t h => by first | exact h | (simp [pk] at h; done) | (simp [pk] at h ⊢; omega) | (simp [pk] at h ⊢; done))
          show sg_W X M193 0 0 33 [some (.ref x), some (.ref e), some (.int (nI 3))] [.ref e]
          refine sg_pop (pc := 33) hC dX4_appendLetters_33 rfl ?_
          refine sg_iincN (pc := 34) (a := 3) (b := 4) hC dX4_appendLetters_34 rfl (nI_1 _) (by decide) ?_
          show sg_W X M193 0 0 37 [some (.ref x), some (.ref e), some (.int (nI 4))] []
          refine sg_goto (pc := 37) 2 hC dX4_appendLetters_37 (by decide) ?_
          refine sg_iload_n (pc := 2) (x := nI 4) hC dX4_appendLetters_2 rfl ?_
          refine sg_ldc_rwxd (pc := 3) hC dX4_appendLetters_3 ?_
          obtain ⟨_, _, _, _, hx197, -⟩ := id hL
          refine sg_callV (pc := 5) (As := []) (rest := [.int (nI 4)]) (mc := 0) (ms := 0) hC tw_610 tw_482 tw_483 tw_65 tw_484 yd_J0_length_8abf5 (by decide) (ci := 0) rfl dX4_appendLetters_5 hx197 rfl (Nat.le_of_ble_eq_true rfl) (by first | omega | decide | exact Nat.lt_of_le_of_lt jshr (by omega) | exact Nat.lt_of_le_of_lt jand1 (by decide) | (simp only [List.length_append, List.length_cons, List.length_nil]; omega)) (by first | omega | decide | exact Nat.lt_of_le_of_lt jshr (by omega) | exact Nat.lt_of_le_of_lt jand1 (by decide) | (simp only [List.length_append, List.length_cons, List.length_nil]; omega)) ?_
          refine c_slen htr hL ?_
          show sg_W X M193 0 0 8 [some (.ref x), some (.ref e), some (.int (nI 4))] [.int (nI 4), .int (nI 4)]
          refine sg_icmpN_ge (pc := 8) (a := 4) (b := 4) 40 hC dX4_appendLetters_8 (by decide) (by decide) (by decide) (fun _ => ?_) (fun h198 => absurd h198 (by decide))
          have e9 : w ++ lets s.2.2.2.1 = w ++ [114] ++ [119] ++ [120] ++ [100] := by unfold lets; rw [if_pos h4, if_pos h108, if_pos h160, if_pos h186]; simp
          rw [e9] at hk
          exact sg_vreturn (st := []) (pc := 40) hC hR dX4_appendLetters_40 (hk _ hs194 hf)

set_option maxHeartbeats 400000 in
set_option maxRecDepth 100000 in
theorem c_appR {l : Launch} {G : sg_G} {d : Nat} {M : sg_M} {kr : Option Value → sg_M → Prop} {kx : String → sg_M → Prop} (htr : l.stackTraces = false) {x ta b e kd : Nat} {s : RS} {w : List Nat} (hX : M x = some (74, .inr (7, [.ref ta, .int (nI s.1), .int (nI kd), .ref b, .int (nI s.2.2.1), .int (nI s.2.2.2.1), .int (nI s.2.2.2.2.1), .int (nI s.2.2.2.2.2)]))) (hDG : dg_r G M) (hE : sb_r 77 78 M e w) (hlo : s.2.2.2.2.1 < 10) (hhi : s.2.2.2.2.2 < 10) (hw : w.length ≤ 12) (hk : ∀ M', sb_r 77 78 M' e (w ++ rngt s.2.2.2.2.1 s.2.2.2.2.2) → sf (pk [77, 78]) M M' → kr none M') : sg_Met l G yX4_appendRange cX4_appendRange 2 none (d + 3) 0 0 [.ref x, .ref e] M kr kx := by
  refine sg_enter [some (.ref x), some (.ref e)] (by decide) htr (Nat.le_of_ble_eq_true rfl) rfl ?_
  intro X hC hR
  have hC : sg_C X l G cX4_appendRange RX4 2 (d + 3) := hC
  have hf : sf (pk [77, 78]) M M := sf.rf
  refine sg_aload_n (pc := 0) (v := .ref e) hC dX4_appendRange_0 rfl rfl ?_
  refine sg_aload_n (pc := 1) (v := .ref x) hC dX4_appendRange_1 rfl rfl ?_
  refine sg_get (pc := 2) (a := x) (v := .int (nI s.2.2.2.2.1)) 6 hC rfl inw_X4 (by decide) tw_556 dX4_appendRange_2 hX rfl ?_
  obtain ⟨_, _, _, hx1, -⟩ := id hE
  refine sg_callV (pc := 5) (As := [.int (nI s.2.2.2.2.1)]) (rest := []) (mc := 0) (ms := 0) hC tw_791 tw_433 tw_434 tw_64 tw_435 yd_J4_append_bf812 (by decide) (ci := 1) rfl dX4_appendRange_5 hx1 rfl (Nat.le_of_ble_eq_true rfl) (by first | omega | decide | exact Nat.lt_of_le_of_lt jshr (by omega) | exact Nat.lt_of_le_of_lt jand1 (by decide) | (simp only [List.length_append, List.length_cons, List.length_nil]; omega)) (by first | omega | decide | exact Nat.lt_of_le_of_lt jshr (by omega) | exact Nat.lt_of_le_of_lt jand1 (by decide) | (simp only [List.length_append, List.length_cons, List.length_nil]; omega)) ?_
  refine c_sbAppI htr hE (by first | omega | decide | exact Nat.lt_of_le_of_lt jshr (by omega) | exact Nat.lt_of_le_of_lt jand1 (by decide) | (simp only [List.length_append, List.length_cons, List.length_nil]; omega)) (by first | omega | decide | exact Nat.lt_of_le_of_lt jshr (by omega) | exact Nat.lt_of_le_of_lt jand1 (by decide) | (simp only [List.length_append, List.length_cons, List.length_nil]; omega)) (by first | omega | decide | exact Nat.lt_of_le_of_lt jshr (by omega) | exact Nat.lt_of_le_of_lt jand1 (by decide) | (simp only [List.length_append, List.length_cons, List.length_nil]; omega)) hDG (by first | omega | decide | exact Nat.lt_of_le_of_lt jshr (by omega) | exact Nat.lt_of_le_of_lt jand1 (by decide) | (simp only [List.length_append, List.length_cons, List.length_nil]; omega)) (by first | omega | decide | exact Nat.lt_of_le_of_lt jshr (by omega) | exact Nat.lt_of_le_of_lt jand1 (by decide) | (simp only [List.length_append, List.length_cons, List.length_nil]; omega)) (fun M2 hs3 hf4 => ?_)
  have hX : M2 x = some (74, .inr (7, [.ref ta, .int (nI s.1), .int (nI kd), .ref b, .int (nI s.2.2.1), .int (nI s.2.2.2.1), .int (nI s.2.2.2.2.1), .int (nI s.2.2.2.2.2)])) := hf4.p hX (by first | decide | (simp; done) | (simp; omega))
  have hDG : dg_r G M2 := hDG.p hf4 (by first | decide | (simp; done) | (simp; omega))
  have hf : sf (pk [77, 78]) M M2 := hf.tr hf4 (fun a t h => by first | exact h | (simp [pk] at h; done) | (simp [pk] at h ⊢; omega) | (simp [pk] at h ⊢; done))
  show sg_W X M2 0 0 8 [some (.ref x), some (.ref e)] [.ref e]
  refine sg_pop (pc := 8) hC dX4_appendRange_8 rfl ?_
  refine sg_aload_n (pc := 9) (v := .ref x) hC dX4_appendRange_9 rfl rfl ?_
  refine sg_get (pc := 10) (a := x) (v := .int (nI s.2.2.2.2.2)) 7 hC rfl inw_X4 (by decide) tw_557 dX4_appendRange_10 hX rfl ?_
  refine sg_aload_n (pc := 13) (v := .ref x) hC dX4_appendRange_13 rfl rfl ?_
  refine sg_get (pc := 14) (a := x) (v := .int (nI s.2.2.2.2.1)) 6 hC rfl inw_X4 (by decide) tw_556 dX4_appendRange_14 hX rfl ?_
  refine sg_icmpN_le (pc := 17) (a := s.2.2.2.2.2) (b := s.2.2.2.2.1) 34 hC dX4_appendRange_17 (by decide) (by first | omega | decide | exact Nat.lt_of_le_of_lt jshr (by omega) | exact Nat.lt_of_le_of_lt jand1 (by decide) | (simp only [List.length_append, List.length_cons, List.length_nil]; omega)) (by first | omega | decide | exact Nat.lt_of_le_of_lt jshr (by omega) | exact Nat.lt_of_le_of_lt jand1 (by decide) | (simp only [List.length_append, List.length_cons, List.length_nil]; omega)) (fun h5 => ?_) (fun h5 => ?_)
  · have e9 : w ++ rngt s.2.2.2.2.1 s.2.2.2.2.2 = w ++ [48 + s.2.2.2.2.1] := by unfold rngt; rw [if_pos h5] <;> simp
    rw [e9] at hk
    exact sg_vreturn (st := []) (pc := 34) hC hR dX4_appendRange_34 (hk _ hs3 hf)
  · refine sg_aload_n (pc := 20) (v := .ref e) hC dX4_appendRange_20 rfl rfl ?_
    refine sg_bipush (pc := 21) (nI 45) hC dX4_appendRange_21 (by decide) ?_
    obtain ⟨_, _, _, hx6, -⟩ := id hs3
    refine sg_callV (pc := 23) (As := [.int (nI 45)]) (rest := []) (mc := 0) (ms := 0) hC tw_642 tw_224 tw_225 tw_64 tw_226 yd_J4_append_cf468 (by decide) (ci := 1) rfl dX4_appendRange_23 hx6 rfl (Nat.le_of_ble_eq_true rfl) (by first | omega | decide | exact Nat.lt_of_le_of_lt jshr (by omega) | exact Nat.lt_of_le_of_lt jand1 (by decide) | (simp only [List.length_append, List.length_cons, List.length_nil]; omega)) (by first | omega | decide | exact Nat.lt_of_le_of_lt jshr (by omega) | exact Nat.lt_of_le_of_lt jand1 (by decide) | (simp only [List.length_append, List.length_cons, List.length_nil]; omega)) ?_
    refine c_sbAppC htr hs3 (by first | omega | decide | exact Nat.lt_of_le_of_lt jshr (by omega) | exact Nat.lt_of_le_of_lt jand1 (by decide) | (simp only [List.length_append, List.length_cons, List.length_nil]; omega)) (by first | omega | decide | exact Nat.lt_of_le_of_lt jshr (by omega) | exact Nat.lt_of_le_of_lt jand1 (by decide) | (simp only [List.length_append, List.length_cons, List.length_nil]; omega)) (by first | omega | decide | exact Nat.lt_of_le_of_lt jshr (by omega) | exact Nat.lt_of_le_of_lt jand1 (by decide) | (simp only [List.length_append, List.length_cons, List.length_nil]; omega)) (by first | omega | decide | exact Nat.lt_of_le_of_lt jshr (by omega) | exact Nat.lt_of_le_of_lt jand1 (by decide) | (simp only [List.length_append, List.length_cons, List.length_nil]; omega)) (by first | omega | decide | exact Nat.lt_of_le_of_lt jshr (by omega) | exact Nat.lt_of_le_of_lt jand1 (by decide) | (simp only [List.length_append, List.length_cons, List.length_nil]; omega)) (fun M7 hs8 hf9 => ?_)
    have hX : M7 x = some (74, .inr (7, [.ref ta, .int (nI s.1), .int (nI kd), .ref b, .int (nI s.2.2.1), .int (nI s.2.2.2.1), .int (nI s.2.2.2.2.1), .int (nI s.2.2.2.2.2)])) := hf9.p hX (by first | decide | (simp; done) | (simp; omega))
    have hDG : dg_r G M7 := hDG.p hf9 (by first | decide | (simp; done) | (simp; omega))
    have hf : sf (pk [77, 78]) M M7 := hf.tr hf9 (fun a t h => by first | exact h | (simp [pk] at h; done) | (simp [pk] at h ⊢; omega) | (simp [pk] at h ⊢; done))
    show sg_W X M7 0 0 26 [some (.ref x), some (.ref e)] [.ref e]
    refine sg_aload_n (pc := 26) (v := .ref x) hC dX4_appendRange_26 rfl rfl ?_
    refine sg_get (pc := 27) (a := x) (v := .int (nI s.2.2.2.2.2)) 7 hC rfl inw_X4 (by decide) tw_557 dX4_appendRange_27 hX rfl ?_
    obtain ⟨_, _, _, hx10, -⟩ := id hs8
    refine sg_callV (pc := 30) (As := [.int (nI s.2.2.2.2.2)]) (rest := []) (mc := 0) (ms := 0) hC tw_791 tw_433 tw_434 tw_64 tw_435 yd_J4_append_bf812 (by decide) (ci := 1) rfl dX4_appendRange_30 hx10 rfl (Nat.le_of_ble_eq_true rfl) (by first | omega | decide | exact Nat.lt_of_le_of_lt jshr (by omega) | exact Nat.lt_of_le_of_lt jand1 (by decide) | (simp only [List.length_append, List.length_cons, List.length_nil]; omega)) (by first | omega | decide | exact Nat.lt_of_le_of_lt jshr (by omega) | exact Nat.lt_of_le_of_lt jand1 (by decide) | (simp only [List.length_append, List.length_cons, List.length_nil]; omega)) ?_
    refine c_sbAppI htr hs8 (by first | omega | decide | exact Nat.lt_of_le_of_lt jshr (by omega) | exact Nat.lt_of_le_of_lt jand1 (by decide) | (simp only [List.length_append, List.length_cons, List.length_nil]; omega)) (by first | omega | decide | exact Nat.lt_of_le_of_lt jshr (by omega) | exact Nat.lt_of_le_of_lt jand1 (by decide) | (simp only [List.length_append, List.length_cons, List.length_nil]; omega)) (by first | omega | decide | exact Nat.lt_of_le_of_lt jshr (by omega) | exact Nat.lt_of_le_of_lt jand1 (by decide) | (simp only [List.length_append, List.length_cons, List.length_nil]; omega)) hDG (by first | omega | decide | exact Nat.lt_of_le_of_lt jshr (by omega) | exact Nat.lt_of_le_of_lt jand1 (by decide) | (simp only [List.length_append, List.length_cons, List.length_nil]; omega)) (by first | omega | decide | exact Nat.lt_of_le_of_lt jshr (by omega) | exact Nat.lt_of_le_of_lt jand1 (by decide) | (simp only [List.length_append, List.length_cons, List.length_nil]; omega)) (fun M11 hs12 hf13 => ?_)
    have hX : M11 x = some (74, .inr (7, [.ref ta, .int (nI s.1), .int (nI kd), .ref b, .int (nI s.2.2.1), .int (nI s.2.2.2.1), .int (nI s.2.2.2.2.1), .int (nI s.2.2.2.2.2)])) := hf13.p hX (by first | decide | (simp; done) | (simp; omega))
    have hDG : dg_r G M11 := hDG.p hf13 (by first | decide | (simp; done) | (simp; omega))
    have hf : sf (pk [77, 78]) M M11 := hf.tr hf13 (fun a t h => by first | exact h | (simp [pk] at h; done) | (simp [pk] at h ⊢; omega) | (simp [pk] at h ⊢; done))
    show sg_W X M11 0 0 33 [some (.ref x), some (.ref e)] [.ref e]
    refine sg_pop (pc := 33) hC dX4_appendRange_33 rfl ?_
    have e9 : w ++ rngt s.2.2.2.2.1 s.2.2.2.2.2 = w ++ [48 + s.2.2.2.2.1] ++ [45] ++ [48 + s.2.2.2.2.2] := by unfold rngt; rw [if_neg (by omega)] <;> simp
    rw [e9] at hk
    exact sg_vreturn (st := []) (pc := 34) hC hR dX4_appendRange_34 (hk _ hs12 hf)

theorem jx_lt {tx : List Nat} {c : Nat} : ∀ (f i k : Nat), jx tx c f i = some k → k < tx.length := by
  intro f
  induction f with
  | zero => intro i k h; cases h
  | succ f ih =>
    intro i k h
    rw [jx] at h
    repeat' split at h
    · cases h
    · cases h; omega
    · exact ih _ _ h
/-- what writing the text wants -/
def wtok (tx : List Nat) (s : RS) : Prop := ∀ c, jx tx 58 (tx.length + 1) 0 = some c → c ≤ 9 ∧ (tx.getD 0 0 = 102 → s.2.2.2.1 < 16) ∧ (tx.getD 0 0 ≠ 102 → s.2.2.2.2.1 < 10 ∧ s.2.2.2.2.2 < 10)
theorem wtext_n {tx : List Nat} {s : RS} (h : jx tx 58 (tx.length + 1) 0 = none) : wtext tx s = tx := by
  unfold wtext
  rw [h]
theorem wtext_s {tx : List Nat} {s : RS} {c : Nat} (h : jx tx 58 (tx.length + 1) 0 = some c) : wtext tx s = tx.take (c + 1) ++ (if tx.getD 0 0 = 102 then lets s.2.2.2.1 else rngt s.2.2.2.2.1 s.2.2.2.2.2) := by
  unfold wtext
  rw [h]

set_option maxHeartbeats 400000 in
set_option maxRecDepth 100000 in
theorem c_wText {l : Launch} {G : sg_G} {d : Nat} {M : sg_M} {kr : Option Value → sg_M → Prop} {kx : String → sg_M → Prop} (htr : l.stackTraces = false) {x ta b : Nat} {tx : List Nat} {s : RS} (hI : rd_r M x ta b (tx.getD 0 0) tx s) (hL : st_r 0 0 M (G.2.2.2 1) [114, 119, 120, 100]) (hDG : dg_r G M) (hok : wtok tx s) (hk : ∀ a' M', st_r 71 72 M' a' (wtext tx s) → sf (pk [77, 78]) M M' → kr (some (.ref a')) M') : sg_Met l G yX4_writtenText cX4_writtenText 3 (some (.object "java/lang/String")) (d + 6) 6 54 [.ref x] M kr kx := by
  refine sg_enter [some (.ref x), none, none] (by decide) htr (Nat.le_of_ble_eq_true rfl) rfl ?_
  intro X hC hR
  have hC : sg_C X l G cX4_writtenText RX4 3 (d + 6) := hC
  obtain ⟨hX, hS, hB, h9z, h16⟩ := id hI
  have hf : sf (pk [77, 78]) M M := sf.rf
  refine sg_aload_n (pc := 0) (v := .ref x) hC dX4_writtenText_0 rfl rfl ?_
  refine sg_get (pc := 1) (a := x) (v := .ref ta) 0 hC rfl inw_X4 (by decide) tw_550 dX4_writtenText_1 hX rfl ?_
  refine sg_bipush (pc := 4) (nI 58) hC dX4_writtenText_4 (by decide) ?_
  obtain ⟨_, _, _, _, hx2, -⟩ := id hS
  refine sg_callV (pc := 6) (As := [.int (nI 58)]) (rest := []) (mc := 0) (ms := 0) hC tw_648 tw_649 tw_650 tw_65 tw_651 yd_J0_indexOf_0f7a4 (by decide) (ci := 0) rfl dX4_writtenText_6 hx2 rfl (Nat.le_of_ble_eq_true rfl) (by first | omega | decide | (simp only [List.length_append, List.length_cons, List.length_nil, List.length_take]; omega)) (by first | omega | decide | (simp only [List.length_append, List.length_cons, List.length_nil, List.length_take]; omega)) ?_
  refine c_indexOf htr hS (by first | omega | decide | (simp only [List.length_append, List.length_cons, List.length_nil, List.length_take]; omega)) ?_
  show sg_W X M 6 54 9 [some (.ref x), none, none] [.int (md_o (jx tx 58 (tx.length + 1) 0))]
  refine sg_istore_n (pc := 9) (x := md_o (jx tx 58 (tx.length + 1) 0)) hC dX4_writtenText_9 (by decide) ?_
  show sg_W X M 6 54 10 [some (.ref x), some (.int (md_o (jx tx 58 (tx.length + 1) 0))), none] []
  refine sg_iload_n (pc := 10) (x := md_o (jx tx 58 (tx.length + 1) 0)) hC dX4_writtenText_10 rfl ?_
  refine sg_ifO_ge (pc := 11) (r := jx tx 58 (tx.length + 1) 0) 19 hC dX4_writtenText_11 (by decide) (fun k9 hk9 => by have := jx_lt _ _ _ hk9; omega) (fun h3 => ?_) (fun h3 => ?_)
  · obtain ⟨q4, hq5⟩ := md_os h3
    rw [hq5]
    show sg_W X M 6 54 19 [some (.ref x), some (.int (nI q4)), none] []
    have hq6 := jx_lt _ _ _ hq5
    obtain ⟨h9c, h9a, h9b⟩ := hok _ hq5
    have h90 := hS.ch 0 (by omega)
    refine sg_new (pc := 19) (ci := 1) (77) [.null, .int (nI 0), .int (nI 0), .int (nI 0)] hC rfl inw_J4 tyJ4 tyJ4_ok tw_548 tw_101 tw_64 (by intro j hj; have h9 : j = 0 ∨ j = 1 ∨ j = 2 ∨ j = 3 := (by omega); rcases h9 with rfl | rfl | rfl | rfl <;> rfl) dX4_writtenText_19 (by first | omega | decide | (simp only [List.length_append, List.length_cons, List.length_nil, List.length_take]; omega)) (by first | omega | decide | (simp only [List.length_append, List.length_cons, List.length_nil, List.length_take]; omega)) (by first | omega | decide | (simp only [List.length_append, List.length_cons, List.length_nil, List.length_take]; omega)) (fun q7 hq8 => ?_)
    refine sg_nm (fun M9 hw10 => ?_)
    have ne11 : x ≠ q7 := sg_fresh hX hq8
    have hX : M9 x = some (74, .inr (7, [.ref ta, .int (nI s.1), .int (nI (tx.getD 0 0)), .ref b, .int (nI s.2.2.1), .int (nI s.2.2.2.1), .int (nI s.2.2.2.2.1), .int (nI s.2.2.2.2.2)])) := hw10.n hX ne11
    have hS : st_r 71 72 M9 ta tx := hS.nw hw10 hq8
    have hB : sb_r 75 76 M9 b s.2.1 := hB.nw hw10 hq8
    have hL : st_r 0 0 M9 (G.2.2.2 1) ([114, 119, 120, 100]) := hL.nw hw10 hq8
    have hDG : dg_r G M9 := hDG.nw hw10 hq8
    have hn12 : M q7 = none := hf.fr hq8
    have hf : sf (pk [77, 78]) M M9 := hf.nw hw10 hn12
    have hF13 : M9 q7 = some (77, .inr (1, [.null, .int (nI 0), .int (nI 0), .int (nI 0)])) := hw10.1
    show sg_W X M9 5 50 22 [some (.ref x), some (.int (nI q4)), none] [.ref q7]
    have hF13s := hF13
    refine sg_dup (pc := 22) hC dX4_writtenText_22 rfl ?_
    refine sg_callI (pc := 23) (b := q7) (As := []) (rest := [.ref q7]) (mc := 1) (ms := 16) hC tw_549 tw_103 tw_64 tw_104 rfl yd_J4_init_da8c8 (by decide) dX4_writtenText_23 rfl (Nat.le_of_ble_eq_true rfl) (by first | omega | decide | (simp only [List.length_append, List.length_cons, List.length_nil, List.length_take]; omega)) (by first | omega | decide | (simp only [List.length_append, List.length_cons, List.length_nil, List.length_take]; omega)) ?_
    refine c_sbInit (t := 77) (u := 78) htr hF13 (by first | omega | decide | (simp only [List.length_append, List.length_cons, List.length_nil, List.length_take]; omega)) (by first | omega | decide | (simp only [List.length_append, List.length_cons, List.length_nil, List.length_take]; omega)) (fun M14 hs15 hf16 => ?_)
    have hX : M14 x = some (74, .inr (7, [.ref ta, .int (nI s.1), .int (nI (tx.getD 0 0)), .ref b, .int (nI s.2.2.1), .int (nI s.2.2.2.1), .int (nI s.2.2.2.2.1), .int (nI s.2.2.2.2.2)])) := hf16.k hX ne11
    have hS : st_r 71 72 M14 ta tx := hS.a hf16 (Or.inr ⟨_, _, hF13s, by decide, by decide⟩)
    have hB : sb_r 75 76 M14 b s.2.1 := hB.a hf16 (Or.inr ⟨_, _, hF13s, by decide, by decide⟩)
    have hL : st_r 0 0 M14 (G.2.2.2 1) ([114, 119, 120, 100]) := hL.a hf16 (Or.inr ⟨_, _, hF13s, by decide, by decide⟩)
    have hDG : dg_r G M14 := hDG.a hf16 hF13s (by decide)
    have hf : sf (pk [77, 78]) M M14 := hf.trN hf16 (fun b t h => Or.inr (by rw [h]; exact hn12))
    show sg_W X M14 4 34 26 [some (.ref x), some (.int (nI q4)), none] [.ref q7]
    refine sg_astore_n (pc := 26) (v := .ref q7) hC dX4_writtenText_26 (by decide) rfl ?_
    show sg_W X M14 4 34 27 [some (.ref x), some (.int (nI q4)), some (.ref q7)] []
    refine sg_aload_n (pc := 27) (v := .ref q7) hC dX4_writtenText_27 rfl rfl ?_
    refine sg_aload_n (pc := 28) (v := .ref x) hC dX4_writtenText_28 rfl rfl ?_
    refine sg_get (pc := 29) (a := x) (v := .ref ta) 0 hC rfl inw_X4 (by decide) tw_550 dX4_writtenText_29 hX rfl ?_
    refine sg_iconst (pc := 32) (nI 0) hC dX4_writtenText_32 (by decide) ?_
    refine sg_iload_n (pc := 33) (x := nI q4) hC dX4_writtenText_33 rfl ?_
    refine sg_iconst (pc := 34) (nI 1) hC dX4_writtenText_34 (by decide) ?_
    refine sg_iaddN (pc := 35) (a := q4) (b := 1) hC dX4_writtenText_35 ?_
    obtain ⟨_, _, _, _, hx18, -⟩ := id hS
    refine sg_callV (pc := 36) (As := [.int (nI 0), .int (nI (q4 + 1))]) (rest := [.ref q7]) (mc := 2) (ms := (4 + (q4 + 1))) hC tw_759 tw_760 tw_761 tw_65 tw_762 yd_J0_substring_37a41 (by decide) (ci := 0) rfl dX4_writtenText_36 hx18 rfl (Nat.le_of_ble_eq_true rfl) (by first | omega | decide | (simp only [List.length_append, List.length_cons, List.length_nil, List.length_take]; omega)) (by first | omega | decide | (simp only [List.length_append, List.length_cons, List.length_nil, List.length_take]; omega)) ?_
    refine c_substr htr hS (by first | omega | decide | (simp only [List.length_append, List.length_cons, List.length_nil, List.length_take]; omega)) (by first | omega | decide | (simp only [List.length_append, List.length_cons, List.length_nil, List.length_take]; omega)) (fun q19 M20 hs21 hf22 => ?_)
    have hX : M20 x = some (74, .inr (7, [.ref ta, .int (nI s.1), .int (nI (tx.getD 0 0)), .ref b, .int (nI s.2.2.1), .int (nI s.2.2.2.1), .int (nI s.2.2.2.2.1), .int (nI s.2.2.2.2.2)])) := hf22.p hX (by first | decide | (simp; done) | (simp; omega))
    have hS : st_r 71 72 M20 ta tx := hS.p hf22 (by first | decide | (simp; done) | (simp; omega)) (by first | decide | (simp; done) | (simp; omega))
    have hB : sb_r 75 76 M20 b s.2.1 := hB.p hf22 (by first | decide | (simp; done) | (simp; omega)) (by first | decide | (simp; done) | (simp; omega))
    have hL : st_r 0 0 M20 (G.2.2.2 1) ([114, 119, 120, 100]) := hL.p hf22 (by first | decide | (simp; done) | (simp; omega)) (by first | decide | (simp; done) | (simp; omega))
    have hDG : dg_r G M20 := hDG.p hf22 (by first | decide | (simp; done) | (simp; omega))
    have hs15 : sb_r 77 78 M20 q7 ([]) := hs15.p hf22 (by first | decide | (simp; done) | (simp; omega)) (by first | decide | (simp; done) | (simp; omega))
    have hf : sf (pk [77, 78]) M M20 := hf.tr hf22 (fun a t h => by first | exact h | (simp [pk] at h; done) | (simp [pk] at h ⊢; omega) | (simp [pk] at h ⊢; done))
    show sg_W X M20 2 (34 - (4 + (q4 + 1))) 39 [some (.ref x), some (.int (nI q4)), some (.ref q7)] [.ref q19, .ref q7]
    obtain ⟨_, _, _, hx23, -⟩ := id hs15
    refine sg_callV (pc := 39) (As := [.ref q19]) (rest := []) (mc := 0) (ms := 0) hC tw_782 tw_468 tw_469 tw_64 tw_470 yd_J4_append_15ec4 (by decide) (ci := 1) rfl dX4_writtenText_39 hx23 rfl (Nat.le_of_ble_eq_true rfl) (by first | omega | decide | (simp only [List.length_append, List.length_cons, List.length_nil, List.length_take]; omega)) (by first | omega | decide | (simp only [List.length_append, List.length_cons, List.length_nil, List.length_take]; omega)) ?_
    refine c_sbAppS htr hs15 (by first | omega | decide | (simp only [List.length_append, List.length_cons, List.length_nil, List.length_take]; omega)) (by first | omega | decide | (simp only [List.length_append, List.length_cons, List.length_nil, List.length_take]; omega)) (by first | omega | decide | (simp only [List.length_append, List.length_cons, List.length_nil, List.length_take]; omega)) (by omega) (by omega) (by omega) (by omega) hs21 (by first | omega | decide | (simp only [List.length_append, List.length_cons, List.length_nil, List.length_take]; omega)) (fun M24 hs25 hf26 => ?_)
    have hX : M24 x = some (74, .inr (7, [.ref ta, .int (nI s.1), .int (nI (tx.getD 0 0)), .ref b, .int (nI s.2.2.1), .int (nI s.2.2.2.1), .int (nI s.2.2.2.2.1), .int (nI s.2.2.2.2.2)])) := hf26.p hX (by first | decide | (simp; done) | (simp; omega))
    have hS : st_r 71 72 M24 ta tx := hS.p hf26 (by first | decide | (simp; done) | (simp; omega)) (by first | decide | (simp; done) | (simp; omega))
    have hB : sb_r 75 76 M24 b s.2.1 := hB.p hf26 (by first | decide | (simp; done) | (simp; omega)) (by first | decide | (simp; done) | (simp; omega))
    have hL : st_r 0 0 M24 (G.2.2.2 1) ([114, 119, 120, 100]) := hL.p hf26 (by first | decide | (simp; done) | (simp; omega)) (by first | decide | (simp; done) | (simp; omega))
    have hDG : dg_r G M24 := hDG.p hf26 (by first | decide | (simp; done) | (simp; omega))
    have hs21 : st_r 71 72 M24 q19 (tx.take (q4 + 1)) := hs21.p hf26 (by first | decide | (simp; done) | (simp; omega)) (by first | decide | (simp; done) | (simp; omega))
    have hf : sf (pk [77, 78]) M M24 := hf.tr hf26 (fun a t h => by first | exact h | (simp [pk] at h; done) | (simp [pk] at h ⊢; omega) | (simp [pk] at h ⊢; done))
    show sg_W X M24 2 ((34 - (4 + (q4 + 1))) - 0) 42 [some (.ref x), some (.int (nI q4)), some (.ref q7)] [.ref q7]
    refine sg_pop (pc := 42) hC dX4_writtenText_42 rfl ?_
    refine sg_aload_n (pc := 43) (v := .ref x) hC dX4_writtenText_43 rfl rfl ?_
    refine sg_get (pc := 44) (a := x) (v := .int (nI (tx.getD 0 0))) 2 hC rfl inw_X4 (by decide) tw_552 dX4_writtenText_44 hX rfl ?_
    refine sg_bipush (pc := 47) (nI 102) hC dX4_writtenText_47 (by decide) ?_
    refine sg_icmpN_ne (pc := 49) (a := tx.getD 0 0) (b := 102) 60 hC dX4_writtenText_49 (by decide) (by first | omega | decide | (simp only [List.length_append, List.length_cons, List.length_nil, List.length_take]; omega)) (by first | omega | decide | (simp only [List.length_append, List.length_cons, List.length_nil, List.length_take]; omega)) (fun h27 => ?_) (fun h27 => ?_)
    · have h9r := h9b h27
      refine sg_aload_n (pc := 60) (v := .ref x) hC dX4_writtenText_60 rfl rfl ?_
      refine sg_aload_n (pc := 61) (v := .ref q7) hC dX4_writtenText_61 rfl rfl ?_
      refine sg_callV (pc := 62) (As := [.ref q7]) (rest := []) (mc := 0) (ms := 0) hC tw_787 tw_789 tw_15 tw_83 tw_790 yd_X4_appendRange (by decide) (ci := 7) rfl dX4_writtenText_62 hX rfl (Nat.le_of_ble_eq_true rfl) (by first | omega | decide | (simp only [List.length_append, List.length_cons, List.length_nil, List.length_take]; omega)) (by first | omega | decide | (simp only [List.length_append, List.length_cons, List.length_nil, List.length_take]; omega)) ?_
      refine c_appR (s := s) htr hX hDG hs25 h9r.1 h9r.2 (by first | omega | decide | (simp only [List.length_append, List.length_cons, List.length_nil, List.length_take]; omega)) (fun M28 hs29 hf30 => ?_)
      have hX : M28 x = some (74, .inr (7, [.ref ta, .int (nI s.1), .int (nI (tx.getD 0 0)), .ref b, .int (nI s.2.2.1), .int (nI s.2.2.2.1), .int (nI s.2.2.2.2.1), .int (nI s.2.2.2.2.2)])) := hf30.p hX (by first | decide | (simp; done) | (simp; omega))
      have hS : st_r 71 72 M28 ta tx := hS.p hf30 (by first | decide | (simp; done) | (simp; omega)) (by first | decide | (simp; done) | (simp; omega))
      have hB : sb_r 75 76 M28 b s.2.1 := hB.p hf30 (by first | decide | (simp; done) | (simp; omega)) (by first | decide | (simp; done) | (simp; omega))
      have hL : st_r 0 0 M28 (G.2.2.2 1) ([114, 119, 120, 100]) := hL.p hf30 (by first | decide | (simp; done) | (simp; omega)) (by first | decide | (simp; done) | (simp; omega))
      have hDG : dg_r G M28 := hDG.p hf30 (by first | decide | (simp; done) | (simp; omega))
      have hs21 : st_r 71 72 M28 q19 (tx.take (q4 + 1)) := hs21.p hf30 (by first | decide | (simp; done) | (simp; omega)) (by first | decide | (simp; done) | (simp; omega))
      have hf : sf (pk [77, 78]) M M28 := hf.tr hf30 (fun a t h => by first | exact h | (simp [pk] at h; done) | (simp [pk] at h ⊢; omega) | (simp [pk] at h ⊢; done))
      show sg_W X M28 2 (((34 - (4 + (q4 + 1))) - 0) - 0) 65 [some (.ref x), some (.int (nI q4)), some (.ref q7)] []
      refine sg_aload_n (pc := 65) (v := .ref q7) hC dX4_writtenText_65 rfl rfl ?_
      have hl9 : ([] ++ (tx.take (q4 + 1)) ++ rngt s.2.2.2.2.1 s.2.2.2.2.2).length ≤ 16 := hs29.le
      obtain ⟨_, _, _, hx31, -⟩ := id hs29
      refine sg_callV (pc := 66) (As := []) (rest := []) (mc := 2) (ms := (4 + ([] ++ (tx.take (q4 + 1)) ++ rngt s.2.2.2.2.1 s.2.2.2.2.2).length)) hC tw_792 tw_393 tw_394 tw_64 tw_395 yd_J4_toString_0e30d (by decide) (ci := 1) rfl dX4_writtenText_66 hx31 rfl (Nat.le_of_ble_eq_true rfl) (by first | omega | decide | (simp only [List.length_append, List.length_cons, List.length_nil, List.length_take]; omega)) (by first | omega | decide | (simp only [List.length_append, List.length_cons, List.length_nil, List.length_take]; omega)) ?_
      refine c_toStr htr hs29 (by omega) (by omega) (by omega) (by omega) (by omega) (by omega) (by omega) (fun q32 M33 hs34 hf35 => ?_)
      have hX : M33 x = some (74, .inr (7, [.ref ta, .int (nI s.1), .int (nI (tx.getD 0 0)), .ref b, .int (nI s.2.2.1), .int (nI s.2.2.2.1), .int (nI s.2.2.2.2.1), .int (nI s.2.2.2.2.2)])) := hf35.p hX (by first | decide | (simp; done) | (simp; omega))
      have hS : st_r 71 72 M33 ta tx := hS.p hf35 (by first | decide | (simp; done) | (simp; omega)) (by first | decide | (simp; done) | (simp; omega))
      have hB : sb_r 75 76 M33 b s.2.1 := hB.p hf35 (by first | decide | (simp; done) | (simp; omega)) (by first | decide | (simp; done) | (simp; omega))
      have hL : st_r 0 0 M33 (G.2.2.2 1) ([114, 119, 120, 100]) := hL.p hf35 (by first | decide | (simp; done) | (simp; omega)) (by first | decide | (simp; done) | (simp; omega))
      have hDG : dg_r G M33 := hDG.p hf35 (by first | decide | (simp; done) | (simp; omega))
      have hs21 : st_r 71 72 M33 q19 (tx.take (q4 + 1)) := hs21.p hf35 (by first | decide | (simp; done) | (simp; omega)) (by first | decide | (simp; done) | (simp; omega))
      have hs29 : sb_r 77 78 M33 q7 ([] ++ (tx.take (q4 + 1)) ++ rngt s.2.2.2.2.1 s.2.2.2.2.2) := hs29.p hf35 (by first | decide | (simp; done) | (simp; omega)) (by first | decide | (simp; done) | (simp; omega))
      have hf : sf (pk [77, 78]) M M33 := hf.tr hf35 (fun a t h => by first | exact h | (simp [pk] at h; done) | (simp [pk] at h ⊢; omega) | (simp [pk] at h ⊢; done))
      show sg_W X M33 0 ((((34 - (4 + (q4 + 1))) - 0) - 0) - (4 + ([] ++ (tx.take (q4 + 1)) ++ rngt s.2.2.2.2.1 s.2.2.2.2.2).length)) 69 [some (.ref x), some (.int (nI q4)), some (.ref q7)] [.ref q32]
      exact sg_areturn (st := []) (v := .ref q32) (pc := 69) hC hR (Or.inl ⟨_, rfl⟩) (Or.inr ⟨_, rfl⟩) dX4_writtenText_69 (hk _ _ (by rw [wtext_s hq5, if_neg h27]; exact hs34) hf)
    · have h9m := h9a h27
      refine sg_aload_n (pc := 52) (v := .ref x) hC dX4_writtenText_52 rfl rfl ?_
      refine sg_aload_n (pc := 53) (v := .ref q7) hC dX4_writtenText_53 rfl rfl ?_
      refine sg_callV (pc := 54) (As := [.ref q7]) (rest := []) (mc := 0) (ms := 0) hC tw_783 tw_785 tw_14 tw_83 tw_786 yd_X4_appendLetters (by decide) (ci := 7) rfl dX4_writtenText_54 hX rfl (Nat.le_of_ble_eq_true rfl) (by first | omega | decide | (simp only [List.length_append, List.length_cons, List.length_nil, List.length_take]; omega)) (by first | omega | decide | (simp only [List.length_append, List.length_cons, List.length_nil, List.length_take]; omega)) ?_
      refine c_appL (s := s) htr hX hL hs25 h9m (by first | omega | decide | (simp only [List.length_append, List.length_cons, List.length_nil, List.length_take]; omega)) (fun M36 hs37 hf38 => ?_)
      have hX : M36 x = some (74, .inr (7, [.ref ta, .int (nI s.1), .int (nI (tx.getD 0 0)), .ref b, .int (nI s.2.2.1), .int (nI s.2.2.2.1), .int (nI s.2.2.2.2.1), .int (nI s.2.2.2.2.2)])) := hf38.p hX (by first | decide | (simp; done) | (simp; omega))
      have hS : st_r 71 72 M36 ta tx := hS.p hf38 (by first | decide | (simp; done) | (simp; omega)) (by first | decide | (simp; done) | (simp; omega))
      have hB : sb_r 75 76 M36 b s.2.1 := hB.p hf38 (by first | decide | (simp; done) | (simp; omega)) (by first | decide | (simp; done) | (simp; omega))
      have hL : st_r 0 0 M36 (G.2.2.2 1) ([114, 119, 120, 100]) := hL.p hf38 (by first | decide | (simp; done) | (simp; omega)) (by first | decide | (simp; done) | (simp; omega))
      have hDG : dg_r G M36 := hDG.p hf38 (by first | decide | (simp; done) | (simp; omega))
      have hs21 : st_r 71 72 M36 q19 (tx.take (q4 + 1)) := hs21.p hf38 (by first | decide | (simp; done) | (simp; omega)) (by first | decide | (simp; done) | (simp; omega))
      have hf : sf (pk [77, 78]) M M36 := hf.tr hf38 (fun a t h => by first | exact h | (simp [pk] at h; done) | (simp [pk] at h ⊢; omega) | (simp [pk] at h ⊢; done))
      show sg_W X M36 2 (((34 - (4 + (q4 + 1))) - 0) - 0) 57 [some (.ref x), some (.int (nI q4)), some (.ref q7)] []
      refine sg_goto (pc := 57) 65 hC dX4_writtenText_57 (by decide) ?_
      refine sg_aload_n (pc := 65) (v := .ref q7) hC dX4_writtenText_65 rfl rfl ?_
      have hl9 : ([] ++ (tx.take (q4 + 1)) ++ lets s.2.2.2.1).length ≤ 16 := hs37.le
      obtain ⟨_, _, _, hx39, -⟩ := id hs37
      refine sg_callV (pc := 66) (As := []) (rest := []) (mc := 2) (ms := (4 + ([] ++ (tx.take (q4 + 1)) ++ lets s.2.2.2.1).length)) hC tw_792 tw_393 tw_394 tw_64 tw_395 yd_J4_toString_0e30d (by decide) (ci := 1) rfl dX4_writtenText_66 hx39 rfl (Nat.le_of_ble_eq_true rfl) (by first | omega | decide | (simp only [List.length_append, List.length_cons, List.length_nil, List.length_take]; omega)) (by first | omega | decide | (simp only [List.length_append, List.length_cons, List.length_nil, List.length_take]; omega)) ?_
      refine c_toStr htr hs37 (by omega) (by omega) (by omega) (by omega) (by omega) (by omega) (by omega) (fun q40 M41 hs42 hf43 => ?_)
      have hX : M41 x = some (74, .inr (7, [.ref ta, .int (nI s.1), .int (nI (tx.getD 0 0)), .ref b, .int (nI s.2.2.1), .int (nI s.2.2.2.1), .int (nI s.2.2.2.2.1), .int (nI s.2.2.2.2.2)])) := hf43.p hX (by first | decide | (simp; done) | (simp; omega))
      have hS : st_r 71 72 M41 ta tx := hS.p hf43 (by first | decide | (simp; done) | (simp; omega)) (by first | decide | (simp; done) | (simp; omega))
      have hB : sb_r 75 76 M41 b s.2.1 := hB.p hf43 (by first | decide | (simp; done) | (simp; omega)) (by first | decide | (simp; done) | (simp; omega))
      have hL : st_r 0 0 M41 (G.2.2.2 1) ([114, 119, 120, 100]) := hL.p hf43 (by first | decide | (simp; done) | (simp; omega)) (by first | decide | (simp; done) | (simp; omega))
      have hDG : dg_r G M41 := hDG.p hf43 (by first | decide | (simp; done) | (simp; omega))
      have hs21 : st_r 71 72 M41 q19 (tx.take (q4 + 1)) := hs21.p hf43 (by first | decide | (simp; done) | (simp; omega)) (by first | decide | (simp; done) | (simp; omega))
      have hs37 : sb_r 77 78 M41 q7 ([] ++ (tx.take (q4 + 1)) ++ lets s.2.2.2.1) := hs37.p hf43 (by first | decide | (simp; done) | (simp; omega)) (by first | decide | (simp; done) | (simp; omega))
      have hf : sf (pk [77, 78]) M M41 := hf.tr hf43 (fun a t h => by first | exact h | (simp [pk] at h; done) | (simp [pk] at h ⊢; omega) | (simp [pk] at h ⊢; done))
      show sg_W X M41 0 ((((34 - (4 + (q4 + 1))) - 0) - 0) - (4 + ([] ++ (tx.take (q4 + 1)) ++ lets s.2.2.2.1).length)) 69 [some (.ref x), some (.int (nI q4)), some (.ref q7)] [.ref q40]
      exact sg_areturn (st := []) (v := .ref q40) (pc := 69) hC hR (Or.inl ⟨_, rfl⟩) (Or.inr ⟨_, rfl⟩) dX4_writtenText_69 (hk _ _ (by rw [wtext_s hq5, if_pos h27]; exact hs42) hf)
  · refine sg_aload_n (pc := 14) (v := .ref x) hC dX4_writtenText_14 rfl rfl ?_
    refine sg_get (pc := 15) (a := x) (v := .ref ta) 0 hC rfl inw_X4 (by decide) tw_550 dX4_writtenText_15 hX rfl ?_
    exact sg_areturn (st := []) (v := .ref ta) (pc := 18) hC hR (Or.inl ⟨_, rfl⟩) (Or.inr ⟨_, rfl⟩) dX4_writtenText_18 (hk _ _ (by rw [wtext_n h3]; exact hS) hf)

theorem fin_0 {tx : List Nat} {r : RQ} {s : RS} (h : fin tx r s) : 0 < tx.length ∧ tx.getD 0 0 = dk r := by
  obtain ⟨hw, -, -, -, -, h6, h7⟩ := h
  have hh : ∃ z, hd r = dk r :: z := ⟨_, rfl⟩
  obtain ⟨z, hz⟩ := hh
  have hk : (r.1 = 1 ∨ r.1 = 4) ∨ (r.1 = 2 ∨ r.1 = 3) := by
    have := hw.1
    have := hw.2.1
    omega
  rcases hk with hk | hk
  · rw [h7 hk, hz]
    exact ⟨by simp, rfl⟩
  · have e := (h6 hk).1
    cases tx with
    | nil => rw [hz] at e; simp at e
    | cons c tx =>
      rw [hz] at e
      simp at e
      exact ⟨by simp, e.1⟩
theorem fin_ok {tx : List Nat} {r : RQ} {s : RS} (h : fin tx r s) : wtok tx s := by
  obtain ⟨f0, f1⟩ := fin_0 h
  obtain ⟨hw, -, -, h4, h5, h6, h7⟩ := id h
  have hm := hd_m hw.2.2.2.1
  have hlen := hd_len hw.2.2.1
  have getm : ∀ (l : List Nat) (j : Nat), j < l.length → l.getD j 0 ∈ l := by
    intro l j hj
    rw [List.getD_eq_getElem?_getD, List.getElem?_eq_getElem hj]
    exact List.getElem_mem hj
  intro c hc
  have hk : (r.1 = 1 ∨ r.1 = 4) ∨ (r.1 = 2 ∨ r.1 = 3) := by
    have := hw.1
    have := hw.2.1
    omega
  rcases hk with hk | hk
  · have e := h7 hk
    rw [jx_n (c := 58) _ 0 (fun j _ hj => by rw [e] at hj ⊢; exact (hm _ (getm _ _ hj)).1)] at hc
    cases hc
  · obtain ⟨e1, e2⟩ := h6 hk
    have hn := nx_lt (tx := tx) (k := (hd r).length) (by omega)
    have e3 : tx.getD (hd r).length 0 = 58 := by rw [← nx_get hn]; exact e2
    have el : ∀ j, j < (hd r).length → tx.getD j 0 = (hd r).getD j 0 := by
      intro j hj
      rw [← e1]
      simp [List.getD_eq_getElem?_getD, List.getElem?_take, hj]
    rw [jx_s (c := 58) _ 0 (Nat.zero_le _) (by omega) hn (fun j _ hj => by rw [el j hj]; exact (hm _ (getm _ _ hj)).1) e3] at hc
    cases hc
    refine ⟨hlen, fun e => ?_, fun e => ?_⟩
    · have h2 := (dk_2 hw).mp (f1.symm.trans e)
      rw [h4, show dp r = r.2.2.2.1 from by simp [dp, h2]]
      exact (hw.2.2.2.2.2.1 h2).2.2
    · have h3 : r.1 = 3 := by
        rcases hk with hk | hk
        · exact absurd (f1.trans ((dk_2 hw).mpr hk)) e
        · exact hk
      have q := hw.2.2.2.2.2.2.1 h3
      rw [(h5 h3).1, (h5 h3).2]
      omega

set_option maxHeartbeats 400000 in
set_option maxRecDepth 100000 in
theorem c_rdResult {l : Launch} {G : sg_G} {d : Nat} {M : sg_M} {kr : Option Value → sg_M → Prop} {kx : String → sg_M → Prop} (htr : l.stackTraces = false) {x ta b : Nat} {tx : List Nat} {s : RS} {r : RQ} (hI : rd_r M x ta b (tx.getD 0 0) tx s) (hL : st_r 0 0 M (G.2.2.2 1) [114, 119, 120, 100]) (hDG : dg_r G M) (hfin : fin tx r s) (hk : ∀ a M', pm_r M' a r → sf (pk [77, 78]) M M' → kr (some (.ref a)) M') : sg_Met l G yX4_result cX4_result 1 (some (.object "StackGuard$Permission")) (d + 7) 9 79 [.ref x] M kr kx := by
  refine sg_enter [some (.ref x)] (by decide) htr (Nat.le_of_ble_eq_true rfl) rfl ?_
  intro X hC hR
  have hC : sg_C X l G cX4_result RX4 1 (d + 7) := hC
  obtain ⟨hX, hS, hB, h9z, h16⟩ := id hI
  have hok := fin_ok hfin
  have h90 := (fin_0 hfin).1
  have h91 := hS.ch 0 h90
  have hBl := hB.le
  have hf : sf (pk [77, 78]) M M := sf.rf
  refine sg_new (pc := 0) (ci := 6) (70) [.int (nI 0), .null, .int (nI 0), .null, .int (nI 0)] hC rfl inw_X3 tyX3 tyX3_ok tw_753 tw_754 tw_87 (by intro j hj; have h9 : j = 0 ∨ j = 1 ∨ j = 2 ∨ j = 3 ∨ j = 4 := (by omega); rcases h9 with rfl | rfl | rfl | rfl | rfl <;> rfl) dX4_result_0 (by first | omega | decide | (simp only [List.length_append, List.length_cons, List.length_nil, List.length_take]; omega)) (by first | omega | decide | (simp only [List.length_append, List.length_cons, List.length_nil, List.length_take]; omega)) (by first | omega | decide | (simp only [List.length_append, List.length_cons, List.length_nil, List.length_take]; omega)) (fun q1 hq2 => ?_)
  refine sg_nm (fun M3 hw4 => ?_)
  have ne5 : x ≠ q1 := sg_fresh hX hq2
  have hX : M3 x = some (74, .inr (7, [.ref ta, .int (nI s.1), .int (nI (tx.getD 0 0)), .ref b, .int (nI s.2.2.1), .int (nI s.2.2.2.1), .int (nI s.2.2.2.2.1), .int (nI s.2.2.2.2.2)])) := hw4.n hX ne5
  have hS : st_r 71 72 M3 ta tx := hS.nw hw4 hq2
  have hB : sb_r 75 76 M3 b s.2.1 := hB.nw hw4 hq2
  have hL : st_r 0 0 M3 (G.2.2.2 1) ([114, 119, 120, 100]) := hL.nw hw4 hq2
  have hDG : dg_r G M3 := hDG.nw hw4 hq2
  have hn6 : M q1 = none := hf.fr hq2
  have hf : sf (pk [77, 78]) M M3 := hf.nw hw4 hn6
  have hF7 : M3 q1 = some (70, .inr (6, [.int (nI 0), .null, .int (nI 0), .null, .int (nI 0)])) := hw4.1
  show sg_W X M3 8 74 3 [some (.ref x)] [.ref q1]
  have hF7s := hF7
  refine sg_dup (pc := 3) hC dX4_result_3 rfl ?_
  refine sg_aload_n (pc := 4) (v := .ref x) hC dX4_result_4 rfl rfl ?_
  refine sg_get (pc := 5) (a := x) (v := .int (nI (tx.getD 0 0))) 2 hC rfl inw_X4 (by decide) tw_552 dX4_result_5 hX rfl ?_
  refine sg_aload_n (pc := 8) (v := .ref x) hC dX4_result_8 rfl rfl ?_
  refine sg_callV (pc := 9) (As := []) (rest := [.int (nI (tx.getD 0 0)), .ref q1, .ref q1]) (mc := 6) (ms := 54) hC tw_755 tw_757 tw_13 tw_83 tw_758 yd_X4_writtenText (by decide) (ci := 7) rfl dX4_result_9 hX rfl (Nat.le_of_ble_eq_true rfl) (by first | omega | decide | (simp only [List.length_append, List.length_cons, List.length_nil, List.length_take]; omega)) (by first | omega | decide | (simp only [List.length_append, List.length_cons, List.length_nil, List.length_take]; omega)) ?_
  refine c_wText (b := b) (s := s) htr ⟨hX, hS, hB, h9z, h16⟩ hL hDG hok (fun q8 M9 hs10 hf11 => ?_)
  have hX : M9 x = some (74, .inr (7, [.ref ta, .int (nI s.1), .int (nI (tx.getD 0 0)), .ref b, .int (nI s.2.2.1), .int (nI s.2.2.2.1), .int (nI s.2.2.2.2.1), .int (nI s.2.2.2.2.2)])) := hf11.p hX (by first | decide | (simp; done) | (simp; omega))
  have hF7 : M9 q1 = some (70, .inr (6, [.int (nI 0), .null, .int (nI 0), .null, .int (nI 0)])) := hf11.p hF7 (by first | decide | (simp; done) | (simp; omega))
  have hS : st_r 71 72 M9 ta tx := hS.p hf11 (by first | decide | (simp; done) | (simp; omega)) (by first | decide | (simp; done) | (simp; omega))
  have hB : sb_r 75 76 M9 b s.2.1 := hB.p hf11 (by first | decide | (simp; done) | (simp; omega)) (by first | decide | (simp; done) | (simp; omega))
  have hL : st_r 0 0 M9 (G.2.2.2 1) ([114, 119, 120, 100]) := hL.p hf11 (by first | decide | (simp; done) | (simp; omega)) (by first | decide | (simp; done) | (simp; omega))
  have hDG : dg_r G M9 := hDG.p hf11 (by first | decide | (simp; done) | (simp; omega))
  have hf : sf (pk [77, 78]) M M9 := hf.tr hf11 (fun a t h => by first | exact h | (simp [pk] at h; done) | (simp [pk] at h ⊢; omega) | (simp [pk] at h ⊢; done))
  show sg_W X M9 2 20 12 [some (.ref x)] [.ref q8, .int (nI (tx.getD 0 0)), .ref q1, .ref q1]
  refine sg_aload_n (pc := 12) (v := .ref x) hC dX4_result_12 rfl rfl ?_
  refine sg_get (pc := 13) (a := x) (v := .int (nI s.2.2.2.1)) 5 hC rfl inw_X4 (by decide) tw_555 dX4_result_13 hX rfl ?_
  refine sg_aload_n (pc := 16) (v := .ref x) hC dX4_result_16 rfl rfl ?_
  refine sg_get (pc := 17) (a := x) (v := .ref b) 3 hC rfl inw_X4 (by decide) tw_553 dX4_result_17 hX rfl ?_
  have hl9 : (s.2.1).length ≤ 16 := hB.le
  obtain ⟨_, _, _, hx12, -⟩ := id hB
  refine sg_callV (pc := 20) (As := []) (rest := [.int (nI s.2.2.2.1), .ref q8, .int (nI (tx.getD 0 0)), .ref q1, .ref q1]) (mc := 2) (ms := (4 + s.2.1.length)) hC tw_792 tw_393 tw_394 tw_64 tw_395 yd_J4_toString_0e30d (by decide) (ci := 1) rfl dX4_result_20 hx12 rfl (Nat.le_of_ble_eq_true rfl) (by first | omega | decide | (simp only [List.length_append, List.length_cons, List.length_nil, List.length_take]; omega)) (by first | omega | decide | (simp only [List.length_append, List.length_cons, List.length_nil, List.length_take]; omega)) ?_
  refine c_toStr htr hB (by omega) (by omega) (by omega) (by omega) (by omega) (by omega) (by omega) (fun q13 M14 hs15 hf16 => ?_)
  have hX : M14 x = some (74, .inr (7, [.ref ta, .int (nI s.1), .int (nI (tx.getD 0 0)), .ref b, .int (nI s.2.2.1), .int (nI s.2.2.2.1), .int (nI s.2.2.2.2.1), .int (nI s.2.2.2.2.2)])) := hf16.p hX (by first | decide | (simp; done) | (simp; omega))
  have hF7 : M14 q1 = some (70, .inr (6, [.int (nI 0), .null, .int (nI 0), .null, .int (nI 0)])) := hf16.p hF7 (by first | decide | (simp; done) | (simp; omega))
  have hS : st_r 71 72 M14 ta tx := hS.p hf16 (by first | decide | (simp; done) | (simp; omega)) (by first | decide | (simp; done) | (simp; omega))
  have hB : sb_r 75 76 M14 b s.2.1 := hB.p hf16 (by first | decide | (simp; done) | (simp; omega)) (by first | decide | (simp; done) | (simp; omega))
  have hL : st_r 0 0 M14 (G.2.2.2 1) ([114, 119, 120, 100]) := hL.p hf16 (by first | decide | (simp; done) | (simp; omega)) (by first | decide | (simp; done) | (simp; omega))
  have hDG : dg_r G M14 := hDG.p hf16 (by first | decide | (simp; done) | (simp; omega))
  have hs10 : st_r 71 72 M14 q8 (wtext tx s) := hs10.p hf16 (by first | decide | (simp; done) | (simp; omega)) (by first | decide | (simp; done) | (simp; omega))
  have hf : sf (pk [77, 78]) M M14 := hf.tr hf16 (fun a t h => by first | exact h | (simp [pk] at h; done) | (simp [pk] at h ⊢; omega) | (simp [pk] at h ⊢; done))
  show sg_W X M14 0 (20 - (4 + s.2.1.length)) 23 [some (.ref x)] [.ref q13, .int (nI s.2.2.2.1), .ref q8, .int (nI (tx.getD 0 0)), .ref q1, .ref q1]
  refine sg_aload_n (pc := 23) (v := .ref x) hC dX4_result_23 rfl rfl ?_
  refine sg_get (pc := 24) (a := x) (v := .int (nI s.2.2.1)) 4 hC rfl inw_X4 (by decide) tw_554 dX4_result_24 hX rfl ?_
  refine sg_callI (pc := 27) (b := q1) (As := [.int (nI (tx.getD 0 0)), .ref q8, .int (nI s.2.2.2.1), .ref q13, .int (nI s.2.2.1)]) (rest := [.ref q1]) (mc := 0) (ms := 0) hC tw_793 tw_794 tw_87 tw_795 rfl yd_X3_init (by decide) dX4_result_27 rfl (Nat.le_of_ble_eq_true rfl) (by first | omega | decide | (simp only [List.length_append, List.length_cons, List.length_nil, List.length_take]; omega)) (by first | omega | decide | (simp only [List.length_append, List.length_cons, List.length_nil, List.length_take]; omega)) ?_
  refine c_pmInit htr hF7 (by first | omega | decide | (simp only [List.length_append, List.length_cons, List.length_nil, List.length_take]; omega)) (fun M17 hw18 => ?_)
  have hX : M17 x = some (74, .inr (7, [.ref ta, .int (nI s.1), .int (nI (tx.getD 0 0)), .ref b, .int (nI s.2.2.1), .int (nI s.2.2.2.1), .int (nI s.2.2.2.2.1), .int (nI s.2.2.2.2.2)])) := hw18.n hX ne5
  have hS : st_r 71 72 M17 ta tx := hS.st hw18 hF7 (by first | omega | decide | (simp only [List.length_append, List.length_cons, List.length_nil, List.length_take]; omega)) (by first | omega | decide | (simp only [List.length_append, List.length_cons, List.length_nil, List.length_take]; omega))
  have hB : sb_r 75 76 M17 b s.2.1 := hB.st hw18 hF7 (by first | omega | decide | (simp only [List.length_append, List.length_cons, List.length_nil, List.length_take]; omega)) (by first | omega | decide | (simp only [List.length_append, List.length_cons, List.length_nil, List.length_take]; omega))
  have hL : st_r 0 0 M17 (G.2.2.2 1) ([114, 119, 120, 100]) := hL.st hw18 hF7 (by first | omega | decide | (simp only [List.length_append, List.length_cons, List.length_nil, List.length_take]; omega)) (by first | omega | decide | (simp only [List.length_append, List.length_cons, List.length_nil, List.length_take]; omega))
  have hDG : dg_r G M17 := hDG.st hw18 hF7 (by first | omega | decide | (simp only [List.length_append, List.length_cons, List.length_nil, List.length_take]; omega))
  have hs10 : st_r 71 72 M17 q8 (wtext tx s) := hs10.st hw18 hF7 (by first | omega | decide | (simp only [List.length_append, List.length_cons, List.length_nil, List.length_take]; omega)) (by first | omega | decide | (simp only [List.length_append, List.length_cons, List.length_nil, List.length_take]; omega))
  have hs15 : st_r 71 72 M17 q13 s.2.1 := hs15.st hw18 hF7 (by first | omega | decide | (simp only [List.length_append, List.length_cons, List.length_nil, List.length_take]; omega)) (by first | omega | decide | (simp only [List.length_append, List.length_cons, List.length_nil, List.length_take]; omega))
  have hf : sf (pk [77, 78]) M M17 := hf.nw hw18 hn6
  have hF7 : M17 q1 = some (70, .inr (6, [.int (nI (tx.getD 0 0)), .ref q8, .int (nI s.2.2.2.1), .ref q13, .int (nI s.2.2.1)])) := hw18.1
  show sg_W X M17 0 ((20 - (4 + s.2.1.length)) - 0) 30 [some (.ref x)] [.ref q1]
  have e1 : wtext tx s = dt r := wtext_dt hfin
  have e2 : tx.getD 0 0 = dk r := (fin_0 hfin).2
  obtain ⟨hw9, e3, e4, e5, -⟩ := hfin
  exact sg_areturn (st := []) (v := .ref q1) (pc := 30) hC hR (Or.inl ⟨_, rfl⟩) (Or.inr ⟨_, rfl⟩) dX4_result_30 (hk _ _ ⟨q8, q13, by rw [hF7, e2, e5, e4]; rfl, by rw [← e1]; exact hs10, by rw [← e3]; exact hs15, hw9⟩ hf)
