theorem sb_r.le {M : sg_M} {t u a : Nat} {w : List Nat} (h : sb_r t u M a w) : w.length ≤ 16 := by
  obtain ⟨_, _, _, -, -, h, -⟩ := h
  exact h
theorem dg_r.a {G : sg_G} {M M' : sg_M} {b v : Nat} {e : sg_E} (h : dg_r G M) (hf : sf (fun c _ => c = b) M M') (hb : M b = some (v, e)) (h1 : 0 ≠ v) : dg_r G M' := by
  obtain ⟨dg, p1, p2⟩ := h
  exact ⟨dg, hf.k p1 (fun e => sg_net p1 hb h1 e), p2⟩

set_option maxHeartbeats 400000 in
set_option maxRecDepth 100000 in
theorem c_rdInit {l : Launch} {G : sg_G} {d : Nat} {M : sg_M} {kr : Option Value → sg_M → Prop} {kx : String → sg_M → Prop} (htr : l.stackTraces = false) {x ta : Nat} {tx : List Nat} (hX : M x = some (74, .inr (7, [.null, .int (nI 0), .int (nI 0), .null, .int (nI 0), .int (nI 0), .int (nI 0), .int (nI 0)]))) (hS : st_r 71 72 M ta tx) (h16 : tx.length ≤ 16) (hk : ∀ b M', rd_r M' x ta b 0 tx rs0 → sf (pk [74]) M M' → kr none M') : sg_Met l G yX4_init cX4_init 2 none (d + 3) 2 20 [.ref x, .ref ta] M kr kx := by
  refine sg_enter [some (.ref x), some (.ref ta)] (by decide) htr (Nat.le_of_ble_eq_true rfl) rfl ?_
  intro X hC hR
  have hC : sg_C X l G cX4_init RX4 2 (d + 3) := hC
  have hf : sf (pk [74]) M M := sf.rf
  refine sg_aload_n (pc := 0) (v := .ref x) hC dX4_init_0 rfl rfl ?_
  refine sg_objInit (pc := 1) hC tw_547 tw_98 tw_99 dX4_init_1 (Nat.le_of_ble_eq_true rfl) ?_
  show sg_W X M 2 20 4 [some (.ref x), some (.ref ta)] []
  refine sg_aload_n (pc := 4) (v := .ref x) hC dX4_init_4 rfl rfl ?_
  refine sg_iconst (pc := 5) (nI 0) hC dX4_init_5 (by decide) ?_
  refine sg_put (pc := 6) (a := x) (v := .int (nI 0)) 2 hC rfl inw_X4 tyX4 tyX4_ok nmX4 (by decide) tw_552 rfl rfl (jp_c (by first | omega | decide)) rfl dX4_init_6 hX (by first | omega | decide) (Nat.le_of_ble_eq_true rfl) ?_
  refine sg_nm (fun M1 hw2 => ?_)
  have hS : st_r 71 72 M1 ta tx := hS.st hw2 hX (by first | omega | decide) (by first | omega | decide)
  have hf : sf (pk [74]) M M1 := hf.st hw2 hX (by simp [pk])
  have hX : M1 x = some (74, .inr (7, [.null, .int (nI 0), .int (nI 0), .null, .int (nI 0), .int (nI 0), .int (nI 0), .int (nI 0)])) := hw2.1
  refine sg_aload_n (pc := 9) (v := .ref x) hC dX4_init_9 rfl rfl ?_
  refine sg_new (pc := 10) (ci := 1) (75) [.null, .int (nI 0), .int (nI 0), .int (nI 0)] hC rfl inw_J4 tyJ4 tyJ4_ok tw_548 tw_101 tw_64 (by intro j hj; have h9 : j = 0 ∨ j = 1 ∨ j = 2 ∨ j = 3 := (by omega); rcases h9 with rfl | rfl | rfl | rfl <;> rfl) dX4_init_10 (by first | omega | decide) (by first | omega | decide) (by first | omega | decide) (fun q3 hq4 => ?_)
  refine sg_nm (fun M5 hw6 => ?_)
  have ne7 : x ≠ q3 := sg_fresh hX hq4
  have hX : M5 x = some (74, .inr (7, [.null, .int (nI 0), .int (nI 0), .null, .int (nI 0), .int (nI 0), .int (nI 0), .int (nI 0)])) := hw6.n hX ne7
  have hS : st_r 71 72 M5 ta tx := hS.nw hw6 hq4
  have hn8 : M q3 = none := hf.fr hq4
  have hf : sf (pk [74]) M M5 := hf.nw hw6 hn8
  have hF9 : M5 q3 = some (75, .inr (1, [.null, .int (nI 0), .int (nI 0), .int (nI 0)])) := hw6.1
  show sg_W X M5 1 16 13 [some (.ref x), some (.ref ta)] [.ref q3, .ref x]
  have hF9s := hF9
  refine sg_dup (pc := 13) hC dX4_init_13 rfl ?_
  refine sg_callI (pc := 14) (b := q3) (As := []) (rest := [.ref q3, .ref x]) (mc := 1) (ms := 16) hC tw_549 tw_103 tw_64 tw_104 rfl yd_J4_init_da8c8 (by decide) dX4_init_14 rfl (Nat.le_of_ble_eq_true rfl) (by first | omega | decide) (by first | omega | decide) ?_
  refine c_sbInit (t := 75) (u := 76) htr hF9 (by first | omega | decide) (by first | omega | decide) (fun M10 hs11 hf12 => ?_)
  have hX : M10 x = some (74, .inr (7, [.null, .int (nI 0), .int (nI 0), .null, .int (nI 0), .int (nI 0), .int (nI 0), .int (nI 0)])) := hf12.k hX ne7
  have hS : st_r 71 72 M10 ta tx := hS.a hf12 (Or.inr ⟨_, _, hF9s, by decide, by decide⟩)
  have hf : sf (pk [74]) M M10 := hf.trN hf12 (fun b t h => Or.inr (by rw [h]; exact hn8))
  show sg_W X M10 0 0 17 [some (.ref x), some (.ref ta)] [.ref q3, .ref x]
  refine sg_putF (pc := 17) (a := x) (v := .ref q3) 3 hC hR rfl rfl inw_X4 tyX4 tyX4_ok nmX4 (by decide) tw_553 rfl rfl rfl rfl rfl dX4_init_17 hX (by first | omega | decide) (Nat.le_of_ble_eq_true rfl) ?_
  refine sg_nm (fun M13 hw14 => ?_)
  have hS : st_r 71 72 M13 ta tx := hS.st hw14 hX (by first | omega | decide) (by first | omega | decide)
  have hs11 : sb_r 75 76 M13 q3 ([]) := hs11.st hw14 hX (by first | omega | decide) (by first | omega | decide)
  have hf : sf (pk [74]) M M13 := hf.st hw14 hX (by simp [pk])
  have hX : M13 x = some (74, .inr (7, [.null, .int (nI 0), .int (nI 0), .ref q3, .int (nI 0), .int (nI 0), .int (nI 0), .int (nI 0)])) := hw14.1
  refine sg_aload_n (pc := 20) (v := .ref x) hC dX4_init_20 rfl rfl ?_
  refine sg_iconst (pc := 21) (nI 0) hC dX4_init_21 (by decide) ?_
  refine sg_put (pc := 22) (a := x) (v := .int (nI 0)) 4 hC rfl inw_X4 tyX4 tyX4_ok nmX4 (by decide) tw_554 rfl rfl rfl rfl dX4_init_22 hX (by first | omega | decide) (Nat.le_of_ble_eq_true rfl) ?_
  refine sg_nm (fun M15 hw16 => ?_)
  have hS : st_r 71 72 M15 ta tx := hS.st hw16 hX (by first | omega | decide) (by first | omega | decide)
  have hs11 : sb_r 75 76 M15 q3 ([]) := hs11.st hw16 hX (by first | omega | decide) (by first | omega | decide)
  have hf : sf (pk [74]) M M15 := hf.st hw16 hX (by simp [pk])
  have hX : M15 x = some (74, .inr (7, [.null, .int (nI 0), .int (nI 0), .ref q3, .int (nI 0), .int (nI 0), .int (nI 0), .int (nI 0)])) := hw16.1
  refine sg_aload_n (pc := 25) (v := .ref x) hC dX4_init_25 rfl rfl ?_
  refine sg_aload_n (pc := 26) (v := .ref ta) hC dX4_init_26 rfl rfl ?_
  refine sg_putF (pc := 27) (a := x) (v := .ref ta) 0 hC hR rfl rfl inw_X4 tyX4 tyX4_ok nmX4 (by decide) tw_550 rfl rfl rfl rfl rfl dX4_init_27 hX (by first | omega | decide) (Nat.le_of_ble_eq_true rfl) ?_
  refine sg_nm (fun M17 hw18 => ?_)
  have hS : st_r 71 72 M17 ta tx := hS.st hw18 hX (by first | omega | decide) (by first | omega | decide)
  have hs11 : sb_r 75 76 M17 q3 ([]) := hs11.st hw18 hX (by first | omega | decide) (by first | omega | decide)
  have hf : sf (pk [74]) M M17 := hf.st hw18 hX (by simp [pk])
  have hX : M17 x = some (74, .inr (7, [.ref ta, .int (nI 0), .int (nI 0), .ref q3, .int (nI 0), .int (nI 0), .int (nI 0), .int (nI 0)])) := hw18.1
  exact sg_vreturn (st := []) (pc := 30) hC hR dX4_init_30 (hk q3 _ ⟨hX, hS, hs11, Nat.zero_le _, h16⟩ hf)

set_option maxHeartbeats 400000 in
set_option maxRecDepth 100000 in
theorem c_appL {l : Launch} {G : sg_G} {d : Nat} {M : sg_M} {kr : Option Value → sg_M → Prop} {kx : String → sg_M → Prop} (htr : l.stackTraces = false) {x ta b kd : Nat} {s : RS} {w : List Nat} (hX : M x = some (74, .inr (7, [.ref ta, .int (nI s.1), .int (nI kd), .ref b, .int (nI s.2.2.1), .int (nI s.2.2.2.1), .int (nI s.2.2.2.2.1), .int (nI s.2.2.2.2.2)]))) (hL : st_r 0 0 M (G.2.2.2 1) [114, 119, 120, 100]) (hE : sb_r 75 76 M b w) (hm : s.2.2.2.1 < 16) (hw : w.length ≤ 12) (hk : ∀ M', sb_r 75 76 M' b (w ++ lets s.2.2.2.1) → sf (pk [75, 76]) M M' → kr none M') : sg_Met l G yX4_appendLetters cX4_appendLetters 2 none (d + 4) 0 0 [.ref x] M kr kx := by
  refine sg_enter [some (.ref x), none] (by decide) htr (Nat.le_of_ble_eq_true rfl) rfl ?_
  intro X hC hR
  have hC : sg_C X l G cX4_appendLetters RX4 2 (d + 4) := hC
  have hf : sf (pk [75, 76]) M M := sf.rf
  refine sg_iconst (pc := 0) (nI 0) hC dX4_appendLetters_0 (by decide) ?_
  refine sg_istore_n (pc := 1) (x := nI 0) hC dX4_appendLetters_1 (by decide) ?_
  show sg_W X M 0 0 2 [some (.ref x), some (.int (nI 0))] []
  refine sg_iload_n (pc := 2) (x := nI 0) hC dX4_appendLetters_2 rfl ?_
  refine sg_ldc_rwxd (pc := 3) hC dX4_appendLetters_3 ?_
  obtain ⟨_, _, _, _, hx2, -⟩ := id hL
  refine sg_callV (pc := 5) (As := []) (rest := [.int (nI 0)]) (mc := 0) (ms := 0) hC tw_610 tw_482 tw_483 tw_65 tw_484 yd_J0_length_8abf5 (by decide) (ci := 0) rfl dX4_appendLetters_5 hx2 rfl (Nat.le_of_ble_eq_true rfl) (by first | omega | decide | exact Nat.lt_of_le_of_lt jshr (by omega) | exact Nat.lt_of_le_of_lt jand1 (by decide) | (simp only [List.length_append, List.length_cons, List.length_nil]; omega)) (by first | omega | decide | exact Nat.lt_of_le_of_lt jshr (by omega) | exact Nat.lt_of_le_of_lt jand1 (by decide) | (simp only [List.length_append, List.length_cons, List.length_nil]; omega)) ?_
  refine c_slen htr hL ?_
  show sg_W X M 0 0 8 [some (.ref x), some (.int (nI 0))] [.int (nI 4), .int (nI 0)]
  refine sg_icmpN_ge (pc := 8) (a := 0) (b := 4) 43 hC dX4_appendLetters_8 (by decide) (by decide) (by decide) (fun h3 => absurd h3 (by decide)) (fun _ => ?_)
  refine sg_aload_n (pc := 11) (v := .ref x) hC dX4_appendLetters_11 rfl rfl ?_
  refine sg_get (pc := 12) (a := x) (v := .int (nI s.2.2.2.1)) 5 hC rfl inw_X4 (by decide) tw_555 dX4_appendLetters_12 hX rfl ?_
  refine sg_iload_n (pc := 15) (x := nI 0) hC dX4_appendLetters_15 rfl ?_
  refine sg_ishrN (pc := 16) (a := s.2.2.2.1) (b := 0) hC dX4_appendLetters_16 (by first | omega | decide | exact Nat.lt_of_le_of_lt jshr (by omega) | exact Nat.lt_of_le_of_lt jand1 (by decide) | (simp only [List.length_append, List.length_cons, List.length_nil]; omega)) (by first | omega | exact Nat.lt_of_le_of_lt jshr (by omega)) ?_
  show sg_W X M 0 0 17 [some (.ref x), some (.int (nI 0))] [.int (nI s.2.2.2.1)]
  refine sg_iconst (pc := 17) (nI 1) hC dX4_appendLetters_17 (by decide) ?_
  refine sg_iandN (pc := 18) (a := s.2.2.2.1) (b := 1) hC dX4_appendLetters_18 ?_
  refine sg_iconst (pc := 19) (nI 1) hC dX4_appendLetters_19 (by decide) ?_
  refine sg_icmpN_ne (pc := 20) (a := s.2.2.2.1 &&& 1) (b := 1) 37 hC dX4_appendLetters_20 (by decide) (by first | omega | decide | exact Nat.lt_of_le_of_lt jshr (by omega) | exact Nat.lt_of_le_of_lt jand1 (by decide) | (simp only [List.length_append, List.length_cons, List.length_nil]; omega)) (by first | omega | decide | exact Nat.lt_of_le_of_lt jshr (by omega) | exact Nat.lt_of_le_of_lt jand1 (by decide) | (simp only [List.length_append, List.length_cons, List.length_nil]; omega)) (fun h4 => ?_) (fun h4 => ?_)
  · refine sg_iincN (pc := 37) (a := 0) (b := 1) hC dX4_appendLetters_37 rfl (nI_1 _) (by decide) ?_
    show sg_W X M 0 0 40 [some (.ref x), some (.int (nI 1))] []
    refine sg_goto (pc := 40) 2 hC dX4_appendLetters_40 (by decide) ?_
    refine sg_iload_n (pc := 2) (x := nI 1) hC dX4_appendLetters_2 rfl ?_
    refine sg_ldc_rwxd (pc := 3) hC dX4_appendLetters_3 ?_
    obtain ⟨_, _, _, _, hx6, -⟩ := id hL
    refine sg_callV (pc := 5) (As := []) (rest := [.int (nI 1)]) (mc := 0) (ms := 0) hC tw_610 tw_482 tw_483 tw_65 tw_484 yd_J0_length_8abf5 (by decide) (ci := 0) rfl dX4_appendLetters_5 hx6 rfl (Nat.le_of_ble_eq_true rfl) (by first | omega | decide | exact Nat.lt_of_le_of_lt jshr (by omega) | exact Nat.lt_of_le_of_lt jand1 (by decide) | (simp only [List.length_append, List.length_cons, List.length_nil]; omega)) (by first | omega | decide | exact Nat.lt_of_le_of_lt jshr (by omega) | exact Nat.lt_of_le_of_lt jand1 (by decide) | (simp only [List.length_append, List.length_cons, List.length_nil]; omega)) ?_
    refine c_slen htr hL ?_
    show sg_W X M 0 0 8 [some (.ref x), some (.int (nI 1))] [.int (nI 4), .int (nI 1)]
    refine sg_icmpN_ge (pc := 8) (a := 1) (b := 4) 43 hC dX4_appendLetters_8 (by decide) (by decide) (by decide) (fun h7 => absurd h7 (by decide)) (fun _ => ?_)
    refine sg_aload_n (pc := 11) (v := .ref x) hC dX4_appendLetters_11 rfl rfl ?_
    refine sg_get (pc := 12) (a := x) (v := .int (nI s.2.2.2.1)) 5 hC rfl inw_X4 (by decide) tw_555 dX4_appendLetters_12 hX rfl ?_
    refine sg_iload_n (pc := 15) (x := nI 1) hC dX4_appendLetters_15 rfl ?_
    refine sg_ishrN (pc := 16) (a := s.2.2.2.1) (b := 1) hC dX4_appendLetters_16 (by first | omega | decide | exact Nat.lt_of_le_of_lt jshr (by omega) | exact Nat.lt_of_le_of_lt jand1 (by decide) | (simp only [List.length_append, List.length_cons, List.length_nil]; omega)) (by first | omega | exact Nat.lt_of_le_of_lt jshr (by omega)) ?_
    refine sg_iconst (pc := 17) (nI 1) hC dX4_appendLetters_17 (by decide) ?_
    refine sg_iandN (pc := 18) (a := s.2.2.2.1 >>> 1) (b := 1) hC dX4_appendLetters_18 ?_
    refine sg_iconst (pc := 19) (nI 1) hC dX4_appendLetters_19 (by decide) ?_
    refine sg_icmpN_ne (pc := 20) (a := (s.2.2.2.1 >>> 1) &&& 1) (b := 1) 37 hC dX4_appendLetters_20 (by decide) (by first | omega | decide | exact Nat.lt_of_le_of_lt jshr (by omega) | exact Nat.lt_of_le_of_lt jand1 (by decide) | (simp only [List.length_append, List.length_cons, List.length_nil]; omega)) (by first | omega | decide | exact Nat.lt_of_le_of_lt jshr (by omega) | exact Nat.lt_of_le_of_lt jand1 (by decide) | (simp only [List.length_append, List.length_cons, List.length_nil]; omega)) (fun h8 => ?_) (fun h8 => ?_)
    · refine sg_iincN (pc := 37) (a := 1) (b := 2) hC dX4_appendLetters_37 rfl (nI_1 _) (by decide) ?_
      show sg_W X M 0 0 40 [some (.ref x), some (.int (nI 2))] []
      refine sg_goto (pc := 40) 2 hC dX4_appendLetters_40 (by decide) ?_
      refine sg_iload_n (pc := 2) (x := nI 2) hC dX4_appendLetters_2 rfl ?_
      refine sg_ldc_rwxd (pc := 3) hC dX4_appendLetters_3 ?_
      obtain ⟨_, _, _, _, hx10, -⟩ := id hL
      refine sg_callV (pc := 5) (As := []) (rest := [.int (nI 2)]) (mc := 0) (ms := 0) hC tw_610 tw_482 tw_483 tw_65 tw_484 yd_J0_length_8abf5 (by decide) (ci := 0) rfl dX4_appendLetters_5 hx10 rfl (Nat.le_of_ble_eq_true rfl) (by first | omega | decide | exact Nat.lt_of_le_of_lt jshr (by omega) | exact Nat.lt_of_le_of_lt jand1 (by decide) | (simp only [List.length_append, List.length_cons, List.length_nil]; omega)) (by first | omega | decide | exact Nat.lt_of_le_of_lt jshr (by omega) | exact Nat.lt_of_le_of_lt jand1 (by decide) | (simp only [List.length_append, List.length_cons, List.length_nil]; omega)) ?_
      refine c_slen htr hL ?_
      show sg_W X M 0 0 8 [some (.ref x), some (.int (nI 2))] [.int (nI 4), .int (nI 2)]
      refine sg_icmpN_ge (pc := 8) (a := 2) (b := 4) 43 hC dX4_appendLetters_8 (by decide) (by decide) (by decide) (fun h11 => absurd h11 (by decide)) (fun _ => ?_)
      refine sg_aload_n (pc := 11) (v := .ref x) hC dX4_appendLetters_11 rfl rfl ?_
      refine sg_get (pc := 12) (a := x) (v := .int (nI s.2.2.2.1)) 5 hC rfl inw_X4 (by decide) tw_555 dX4_appendLetters_12 hX rfl ?_
      refine sg_iload_n (pc := 15) (x := nI 2) hC dX4_appendLetters_15 rfl ?_
      refine sg_ishrN (pc := 16) (a := s.2.2.2.1) (b := 2) hC dX4_appendLetters_16 (by first | omega | decide | exact Nat.lt_of_le_of_lt jshr (by omega) | exact Nat.lt_of_le_of_lt jand1 (by decide) | (simp only [List.length_append, List.length_cons, List.length_nil]; omega)) (by first | omega | exact Nat.lt_of_le_of_lt jshr (by omega)) ?_
      refine sg_iconst (pc := 17) (nI 1) hC dX4_appendLetters_17 (by decide) ?_
      refine sg_iandN (pc := 18) (a := s.2.2.2.1 >>> 2) (b := 1) hC dX4_appendLetters_18 ?_
      refine sg_iconst (pc := 19) (nI 1) hC dX4_appendLetters_19 (by decide) ?_
      refine sg_icmpN_ne (pc := 20) (a := (s.2.2.2.1 >>> 2) &&& 1) (b := 1) 37 hC dX4_appendLetters_20 (by decide) (by first | omega | decide | exact Nat.lt_of_le_of_lt jshr (by omega) | exact Nat.lt_of_le_of_lt jand1 (by decide) | (simp only [List.length_append, List.length_cons, List.length_nil]; omega)) (by first | omega | decide | exact Nat.lt_of_le_of_lt jshr (by omega) | exact Nat.lt_of_le_of_lt jand1 (by decide) | (simp only [List.length_append, List.length_cons, List.length_nil]; omega)) (fun h12 => ?_) (fun h12 => ?_)
      · refine sg_iincN (pc := 37) (a := 2) (b := 3) hC dX4_appendLetters_37 rfl (nI_1 _) (by decide) ?_
        show sg_W X M 0 0 40 [some (.ref x), some (.int (nI 3))] []
        refine sg_goto (pc := 40) 2 hC dX4_appendLetters_40 (by decide) ?_
        refine sg_iload_n (pc := 2) (x := nI 3) hC dX4_appendLetters_2 rfl ?_
        refine sg_ldc_rwxd (pc := 3) hC dX4_appendLetters_3 ?_
        obtain ⟨_, _, _, _, hx14, -⟩ := id hL
        refine sg_callV (pc := 5) (As := []) (rest := [.int (nI 3)]) (mc := 0) (ms := 0) hC tw_610 tw_482 tw_483 tw_65 tw_484 yd_J0_length_8abf5 (by decide) (ci := 0) rfl dX4_appendLetters_5 hx14 rfl (Nat.le_of_ble_eq_true rfl) (by first | omega | decide | exact Nat.lt_of_le_of_lt jshr (by omega) | exact Nat.lt_of_le_of_lt jand1 (by decide) | (simp only [List.length_append, List.length_cons, List.length_nil]; omega)) (by first | omega | decide | exact Nat.lt_of_le_of_lt jshr (by omega) | exact Nat.lt_of_le_of_lt jand1 (by decide) | (simp only [List.length_append, List.length_cons, List.length_nil]; omega)) ?_
        refine c_slen htr hL ?_
        show sg_W X M 0 0 8 [some (.ref x), some (.int (nI 3))] [.int (nI 4), .int (nI 3)]
        refine sg_icmpN_ge (pc := 8) (a := 3) (b := 4) 43 hC dX4_appendLetters_8 (by decide) (by decide) (by decide) (fun h15 => absurd h15 (by decide)) (fun _ => ?_)
        refine sg_aload_n (pc := 11) (v := .ref x) hC dX4_appendLetters_11 rfl rfl ?_
        refine sg_get (pc := 12) (a := x) (v := .int (nI s.2.2.2.1)) 5 hC rfl inw_X4 (by decide) tw_555 dX4_appendLetters_12 hX rfl ?_
        refine sg_iload_n (pc := 15) (x := nI 3) hC dX4_appendLetters_15 rfl ?_
        refine sg_ishrN (pc := 16) (a := s.2.2.2.1) (b := 3) hC dX4_appendLetters_16 (by first | omega | decide | exact Nat.lt_of_le_of_lt jshr (by omega) | exact Nat.lt_of_le_of_lt jand1 (by decide) | (simp only [List.length_append, List.length_cons, List.length_nil]; omega)) (by first | omega | exact Nat.lt_of_le_of_lt jshr (by omega)) ?_
        refine sg_iconst (pc := 17) (nI 1) hC dX4_appendLetters_17 (by decide) ?_
        refine sg_iandN (pc := 18) (a := s.2.2.2.1 >>> 3) (b := 1) hC dX4_appendLetters_18 ?_
        refine sg_iconst (pc := 19) (nI 1) hC dX4_appendLetters_19 (by decide) ?_
        refine sg_icmpN_ne (pc := 20) (a := (s.2.2.2.1 >>> 3) &&& 1) (b := 1) 37 hC dX4_appendLetters_20 (by decide) (by first | omega | decide | exact Nat.lt_of_le_of_lt jshr (by omega) | exact Nat.lt_of_le_of_lt jand1 (by decide) | (simp only [List.length_append, List.length_cons, List.length_nil]; omega)) (by first | omega | decide | exact Nat.lt_of_le_of_lt jshr (by omega) | exact Nat.lt_of_le_of_lt jand1 (by decide) | (simp only [List.length_append, List.length_cons, List.length_nil]; omega)) (fun h16 => ?_) (fun h16 => ?_)
        · refine sg_iincN (pc := 37) (a := 3) (b := 4) hC dX4_appendLetters_37 rfl (nI_1 _) (by decide) ?_
          show sg_W X M 0 0 40 [some (.ref x), some (.int (nI 4))] []
          refine sg_goto (pc := 40) 2 hC dX4_appendLetters_40 (by decide) ?_
          refine sg_iload_n (pc := 2) (x := nI 4) hC dX4_appendLetters_2 rfl ?_
          refine sg_ldc_rwxd (pc := 3) hC dX4_appendLetters_3 ?_
          obtain ⟨_, _, _, _, hx18, -⟩ := id hL
          refine sg_callV (pc := 5) (As := []) (rest := [.int (nI 4)]) (mc := 0) (ms := 0) hC tw_610 tw_482 tw_483 tw_65 tw_484 yd_J0_length_8abf5 (by decide) (ci := 0) rfl dX4_appendLetters_5 hx18 rfl (Nat.le_of_ble_eq_true rfl) (by first | omega | decide | exact Nat.lt_of_le_of_lt jshr (by omega) | exact Nat.lt_of_le_of_lt jand1 (by decide) | (simp only [List.length_append, List.length_cons, List.length_nil]; omega)) (by first | omega | decide | exact Nat.lt_of_le_of_lt jshr (by omega) | exact Nat.lt_of_le_of_lt jand1 (by decide) | (simp only [List.length_append, List.length_cons, List.length_nil]; omega)) ?_
          refine c_slen htr hL ?_
          show sg_W X M 0 0 8 [some (.ref x), some (.int (nI 4))] [.int (nI 4), .int (nI 4)]
          refine sg_icmpN_ge (pc := 8) (a := 4) (b := 4) 43 hC dX4_appendLetters_8 (by decide) (by decide) (by decide) (fun _ => ?_) (fun h19 => absurd h19 (by decide))
          have e9 : w ++ lets s.2.2.2.1 = w := by unfold lets; rw [if_neg h4, if_neg h8, if_neg h12, if_neg h16]; simp
          rw [e9] at hk
          exact sg_vreturn (st := []) (pc := 43) hC hR dX4_appendLetters_43 (hk _ hE hf)
        · refine sg_aload_n (pc := 23) (v := .ref x) hC dX4_appendLetters_23 rfl rfl ?_
          refine sg_get (pc := 24) (a := x) (v := .ref b) 3 hC rfl inw_X4 (by decide) tw_553 dX4_appendLetters_24 hX rfl ?_
          refine sg_ldc_rwxd (pc := 27) hC dX4_appendLetters_27 ?_
          refine sg_iload_n (pc := 29) (x := nI 3) hC dX4_appendLetters_29 rfl ?_
          obtain ⟨_, _, _, _, hx21, -⟩ := id hL
          refine sg_callV (pc := 30) (As := [.int (nI 3)]) (rest := [.ref b]) (mc := 0) (ms := 0) hC tw_611 tw_612 tw_613 tw_65 tw_614 yd_J0_charAt_5068e (by decide) (ci := 0) rfl dX4_appendLetters_30 hx21 rfl (Nat.le_of_ble_eq_true rfl) (by first | omega | decide | exact Nat.lt_of_le_of_lt jshr (by omega) | exact Nat.lt_of_le_of_lt jand1 (by decide) | (simp only [List.length_append, List.length_cons, List.length_nil]; omega)) (by first | omega | decide | exact Nat.lt_of_le_of_lt jshr (by omega) | exact Nat.lt_of_le_of_lt jand1 (by decide) | (simp only [List.length_append, List.length_cons, List.length_nil]; omega)) ?_
          refine c_charAt htr hL (by first | omega | decide | exact Nat.lt_of_le_of_lt jshr (by omega) | exact Nat.lt_of_le_of_lt jand1 (by decide) | (simp only [List.length_append, List.length_cons, List.length_nil]; omega)) ?_
          show sg_W X M 0 0 33 [some (.ref x), some (.int (nI 3))] [.int (nI 100), .ref b]
          obtain ⟨_, _, _, hx22, -⟩ := id hE
          refine sg_callV (pc := 33) (As := [.int (nI 100)]) (rest := []) (mc := 0) (ms := 0) hC tw_642 tw_224 tw_225 tw_64 tw_226 yd_J4_append_cf468 (by decide) (ci := 1) rfl dX4_appendLetters_33 hx22 rfl (Nat.le_of_ble_eq_true rfl) (by first | omega | decide | exact Nat.lt_of_le_of_lt jshr (by omega) | exact Nat.lt_of_le_of_lt jand1 (by decide) | (simp only [List.length_append, List.length_cons, List.length_nil]; omega)) (by first | omega | decide | exact Nat.lt_of_le_of_lt jshr (by omega) | exact Nat.lt_of_le_of_lt jand1 (by decide) | (simp only [List.length_append, List.length_cons, List.length_nil]; omega)) ?_
          refine c_sbAppC htr hE (by first | omega | decide | exact Nat.lt_of_le_of_lt jshr (by omega) | exact Nat.lt_of_le_of_lt jand1 (by decide) | (simp only [List.length_append, List.length_cons, List.length_nil]; omega)) (by first | omega | decide | exact Nat.lt_of_le_of_lt jshr (by omega) | exact Nat.lt_of_le_of_lt jand1 (by decide) | (simp only [List.length_append, List.length_cons, List.length_nil]; omega)) (by first | omega | decide | exact Nat.lt_of_le_of_lt jshr (by omega) | exact Nat.lt_of_le_of_lt jand1 (by decide) | (simp only [List.length_append, List.length_cons, List.length_nil]; omega)) (by first | omega | decide | exact Nat.lt_of_le_of_lt jshr (by omega) | exact Nat.lt_of_le_of_lt jand1 (by decide) | (simp only [List.length_append, List.length_cons, List.length_nil]; omega)) (by first | omega | decide | exact Nat.lt_of_le_of_lt jshr (by omega) | exact Nat.lt_of_le_of_lt jand1 (by decide) | (simp only [List.length_append, List.length_cons, List.length_nil]; omega)) (fun M23 hs24 hf25 => ?_)
          have hX : M23 x = some (74, .inr (7, [.ref ta, .int (nI s.1), .int (nI kd), .ref b, .int (nI s.2.2.1), .int (nI s.2.2.2.1), .int (nI s.2.2.2.2.1), .int (nI s.2.2.2.2.2)])) := hf25.p hX (by first | decide | (simp; done) | (simp; omega))
          have hL : st_r 0 0 M23 (G.2.2.2 1) ([114, 119, 120, 100]) := hL.p hf25 (by first | decide | (simp; done) | (simp; omega)) (by first | decide | (simp; done) | (simp; omega))
          have hf : sf (pk [75, 76]) M M23 := hf.tr hf25 (fun a t h => by first | exact h | (simp [pk] at h; done) | (simp [pk] at h ⊢; omega) | (simp [pk] at h ⊢; done))
          show sg_W X M23 0 0 36 [some (.ref x), some (.int (nI 3))] [.ref b]
          refine sg_pop (pc := 36) hC dX4_appendLetters_36 rfl ?_
          refine sg_iincN (pc := 37) (a := 3) (b := 4) hC dX4_appendLetters_37 rfl (nI_1 _) (by decide) ?_
          show sg_W X M23 0 0 40 [some (.ref x), some (.int (nI 4))] []
          refine sg_goto (pc := 40) 2 hC dX4_appendLetters_40 (by decide) ?_
          refine sg_iload_n (pc := 2) (x := nI 4) hC dX4_appendLetters_2 rfl ?_
          refine sg_ldc_rwxd (pc := 3) hC dX4_appendLetters_3 ?_
          obtain ⟨_, _, _, _, hx27, -⟩ := id hL
          refine sg_callV (pc := 5) (As := []) (rest := [.int (nI 4)]) (mc := 0) (ms := 0) hC tw_610 tw_482 tw_483 tw_65 tw_484 yd_J0_length_8abf5 (by decide) (ci := 0) rfl dX4_appendLetters_5 hx27 rfl (Nat.le_of_ble_eq_true rfl) (by first | omega | decide | exact Nat.lt_of_le_of_lt jshr (by omega) | exact Nat.lt_of_le_of_lt jand1 (by decide) | (simp only [List.length_append, List.length_cons, List.length_nil]; omega)) (by first | omega | decide | exact Nat.lt_of_le_of_lt jshr (by omega) | exact Nat.lt_of_le_of_lt jand1 (by decide) | (simp only [List.length_append, List.length_cons, List.length_nil]; omega)) ?_
          refine c_slen htr hL ?_
          show sg_W X M23 0 0 8 [some (.ref x), some (.int (nI 4))] [.int (nI 4), .int (nI 4)]
          refine sg_icmpN_ge (pc := 8) (a := 4) (b := 4) 43 hC dX4_appendLetters_8 (by decide) (by decide) (by decide) (fun _ => ?_) (fun h28 => absurd h28 (by decide))
          have e9 : w ++ lets s.2.2.2.1 = w ++ [100] := by unfold lets; rw [if_neg h4, if_neg h8, if_neg h12, if_pos h16]; simp
          rw [e9] at hk
          exact sg_vreturn (st := []) (pc := 43) hC hR dX4_appendLetters_43 (hk _ hs24 hf)
      · refine sg_aload_n (pc := 23) (v := .ref x) hC dX4_appendLetters_23 rfl rfl ?_
        refine sg_get (pc := 24) (a := x) (v := .ref b) 3 hC rfl inw_X4 (by decide) tw_553 dX4_appendLetters_24 hX rfl ?_
        refine sg_ldc_rwxd (pc := 27) hC dX4_appendLetters_27 ?_
        refine sg_iload_n (pc := 29) (x := nI 2) hC dX4_appendLetters_29 rfl ?_
        obtain ⟨_, _, _, _, hx30, -⟩ := id hL
        refine sg_callV (pc := 30) (As := [.int (nI 2)]) (rest := [.ref b]) (mc := 0) (ms := 0) hC tw_611 tw_612 tw_613 tw_65 tw_614 yd_J0_charAt_5068e (by decide) (ci := 0) rfl dX4_appendLetters_30 hx30 rfl (Nat.le_of_ble_eq_true rfl) (by first | omega | decide | exact Nat.lt_of_le_of_lt jshr (by omega) | exact Nat.lt_of_le_of_lt jand1 (by decide) | (simp only [List.length_append, List.length_cons, List.length_nil]; omega)) (by first | omega | decide | exact Nat.lt_of_le_of_lt jshr (by omega) | exact Nat.lt_of_le_of_lt jand1 (by decide) | (simp only [List.length_append, List.length_cons, List.length_nil]; omega)) ?_
        refine c_charAt htr hL (by first | omega | decide | exact Nat.lt_of_le_of_lt jshr (by omega) | exact Nat.lt_of_le_of_lt jand1 (by decide) | (simp only [List.length_append, List.length_cons, List.length_nil]; omega)) ?_
        show sg_W X M 0 0 33 [some (.ref x), some (.int (nI 2))] [.int (nI 120), .ref b]
        obtain ⟨_, _, _, hx31, -⟩ := id hE
        refine sg_callV (pc := 33) (As := [.int (nI 120)]) (rest := []) (mc := 0) (ms := 0) hC tw_642 tw_224 tw_225 tw_64 tw_226 yd_J4_append_cf468 (by decide) (ci := 1) rfl dX4_appendLetters_33 hx31 rfl (Nat.le_of_ble_eq_true rfl) (by first | omega | decide | exact Nat.lt_of_le_of_lt jshr (by omega) | exact Nat.lt_of_le_of_lt jand1 (by decide) | (simp only [List.length_append, List.length_cons, List.length_nil]; omega)) (by first | omega | decide | exact Nat.lt_of_le_of_lt jshr (by omega) | exact Nat.lt_of_le_of_lt jand1 (by decide) | (simp only [List.length_append, List.length_cons, List.length_nil]; omega)) ?_
        refine c_sbAppC htr hE (by first | omega | decide | exact Nat.lt_of_le_of_lt jshr (by omega) | exact Nat.lt_of_le_of_lt jand1 (by decide) | (simp only [List.length_append, List.length_cons, List.length_nil]; omega)) (by first | omega | decide | exact Nat.lt_of_le_of_lt jshr (by omega) | exact Nat.lt_of_le_of_lt jand1 (by decide) | (simp only [List.length_append, List.length_cons, List.length_nil]; omega)) (by first | omega | decide | exact Nat.lt_of_le_of_lt jshr (by omega) | exact Nat.lt_of_le_of_lt jand1 (by decide) | (simp only [List.length_append, List.length_cons, List.length_nil]; omega)) (by first | omega | decide | exact Nat.lt_of_le_of_lt jshr (by omega) | exact Nat.lt_of_le_of_lt jand1 (by decide) | (simp only [List.length_append, List.length_cons, List.length_nil]; omega)) (by first | omega | decide | exact Nat.lt_of_le_of_lt jshr (by omega) | exact Nat.lt_of_le_of_lt jand1 (by decide) | (simp only [List.length_append, List.length_cons, List.length_nil]; omega)) (fun M32 hs33 hf34 => ?_)
        have hX : M32 x = some (74, .inr (7, [.ref ta, .int (nI s.1), .int (nI kd), .ref b, .int (nI s.2.2.1), .int (nI s.2.2.2.1), .int (nI s.2.2.2.2.1), .int (nI s.2.2.2.2.2)])) := hf34.p hX (by first | decide | (simp; done) | (simp; omega))
        have hL : st_r 0 0 M32 (G.2.2.2 1) ([114, 119, 120, 100]) := hL.p hf34 (by first | decide | (simp; done) | (simp; omega)) (by first | decide | (simp; done) | (simp; omega))
        have hf : sf (pk [75, 76]) M M32 := hf.tr hf34 (fun a t h => by first | exact h | (simp [pk] at h; done) | (simp [pk] at h ⊢; omega) | (simp [pk] at h ⊢; done))
        show sg_W X M32 0 0 36 [some (.ref x), some (.int (nI 2))] [.ref b]
        refine sg_pop (pc := 36) hC dX4_appendLetters_36 rfl ?_
        refine sg_iincN (pc := 37) (a := 2) (b := 3) hC dX4_appendLetters_37 rfl (nI_1 _) (by decide) ?_
        show sg_W X M32 0 0 40 [some (.ref x), some (.int (nI 3))] []
        refine sg_goto (pc := 40) 2 hC dX4_appendLetters_40 (by decide) ?_
        refine sg_iload_n (pc := 2) (x := nI 3) hC dX4_appendLetters_2 rfl ?_
        refine sg_ldc_rwxd (pc := 3) hC dX4_appendLetters_3 ?_
        obtain ⟨_, _, _, _, hx36, -⟩ := id hL
        refine sg_callV (pc := 5) (As := []) (rest := [.int (nI 3)]) (mc := 0) (ms := 0) hC tw_610 tw_482 tw_483 tw_65 tw_484 yd_J0_length_8abf5 (by decide) (ci := 0) rfl dX4_appendLetters_5 hx36 rfl (Nat.le_of_ble_eq_true rfl) (by first | omega | decide | exact Nat.lt_of_le_of_lt jshr (by omega) | exact Nat.lt_of_le_of_lt jand1 (by decide) | (simp only [List.length_append, List.length_cons, List.length_nil]; omega)) (by first | omega | decide | exact Nat.lt_of_le_of_lt jshr (by omega) | exact Nat.lt_of_le_of_lt jand1 (by decide) | (simp only [List.length_append, List.length_cons, List.length_nil]; omega)) ?_
        refine c_slen htr hL ?_
        show sg_W X M32 0 0 8 [some (.ref x), some (.int (nI 3))] [.int (nI 4), .int (nI 3)]
        refine sg_icmpN_ge (pc := 8) (a := 3) (b := 4) 43 hC dX4_appendLetters_8 (by decide) (by decide) (by decide) (fun h37 => absurd h37 (by decide)) (fun _ => ?_)
        refine sg_aload_n (pc := 11) (v := .ref x) hC dX4_appendLetters_11 rfl rfl ?_
        refine sg_get (pc := 12) (a := x) (v := .int (nI s.2.2.2.1)) 5 hC rfl inw_X4 (by decide) tw_555 dX4_appendLetters_12 hX rfl ?_
        refine sg_iload_n (pc := 15) (x := nI 3) hC dX4_appendLetters_15 rfl ?_
        refine sg_ishrN (pc := 16) (a := s.2.2.2.1) (b := 3) hC dX4_appendLetters_16 (by first | omega | decide | exact Nat.lt_of_le_of_lt jshr (by omega) | exact Nat.lt_of_le_of_lt jand1 (by decide) | (simp only [List.length_append, List.length_cons, List.length_nil]; omega)) (by first | omega | exact Nat.lt_of_le_of_lt jshr (by omega)) ?_
        refine sg_iconst (pc := 17) (nI 1) hC dX4_appendLetters_17 (by decide) ?_
        refine sg_iandN (pc := 18) (a := s.2.2.2.1 >>> 3) (b := 1) hC dX4_appendLetters_18 ?_
        refine sg_iconst (pc := 19) (nI 1) hC dX4_appendLetters_19 (by decide) ?_
        refine sg_icmpN_ne (pc := 20) (a := (s.2.2.2.1 >>> 3) &&& 1) (b := 1) 37 hC dX4_appendLetters_20 (by decide) (by first | omega | decide | exact Nat.lt_of_le_of_lt jshr (by omega) | exact Nat.lt_of_le_of_lt jand1 (by decide) | (simp only [List.length_append, List.length_cons, List.length_nil]; omega)) (by first | omega | decide | exact Nat.lt_of_le_of_lt jshr (by omega) | exact Nat.lt_of_le_of_lt jand1 (by decide) | (simp only [List.length_append, List.length_cons, List.length_nil]; omega)) (fun h38 => ?_) (fun h38 => ?_)
        · refine sg_iincN (pc := 37) (a := 3) (b := 4) hC dX4_appendLetters_37 rfl (nI_1 _) (by decide) ?_
          show sg_W X M32 0 0 40 [some (.ref x), some (.int (nI 4))] []
          refine sg_goto (pc := 40) 2 hC dX4_appendLetters_40 (by decide) ?_
          refine sg_iload_n (pc := 2) (x := nI 4) hC dX4_appendLetters_2 rfl ?_
          refine sg_ldc_rwxd (pc := 3) hC dX4_appendLetters_3 ?_
          obtain ⟨_, _, _, _, hx40, -⟩ := id hL
          refine sg_callV (pc := 5) (As := []) (rest := [.int (nI 4)]) (mc := 0) (ms := 0) hC tw_610 tw_482 tw_483 tw_65 tw_484 yd_J0_length_8abf5 (by decide) (ci := 0) rfl dX4_appendLetters_5 hx40 rfl (Nat.le_of_ble_eq_true rfl) (by first | omega | decide | exact Nat.lt_of_le_of_lt jshr (by omega) | exact Nat.lt_of_le_of_lt jand1 (by decide) | (simp only [List.length_append, List.length_cons, List.length_nil]; omega)) (by first | omega | decide | exact Nat.lt_of_le_of_lt jshr (by omega) | exact Nat.lt_of_le_of_lt jand1 (by decide) | (simp only [List.length_append, List.length_cons, List.length_nil]; omega)) ?_
          refine c_slen htr hL ?_
          show sg_W X M32 0 0 8 [some (.ref x), some (.int (nI 4))] [.int (nI 4), .int (nI 4)]
          refine sg_icmpN_ge (pc := 8) (a := 4) (b := 4) 43 hC dX4_appendLetters_8 (by decide) (by decide) (by decide) (fun _ => ?_) (fun h41 => absurd h41 (by decide))
          have e9 : w ++ lets s.2.2.2.1 = w ++ [120] := by unfold lets; rw [if_neg h4, if_neg h8, if_pos h12, if_neg h38]; simp
          rw [e9] at hk
          exact sg_vreturn (st := []) (pc := 43) hC hR dX4_appendLetters_43 (hk _ hs33 hf)
        · refine sg_aload_n (pc := 23) (v := .ref x) hC dX4_appendLetters_23 rfl rfl ?_
          refine sg_get (pc := 24) (a := x) (v := .ref b) 3 hC rfl inw_X4 (by decide) tw_553 dX4_appendLetters_24 hX rfl ?_
          refine sg_ldc_rwxd (pc := 27) hC dX4_appendLetters_27 ?_
          refine sg_iload_n (pc := 29) (x := nI 3) hC dX4_appendLetters_29 rfl ?_
          obtain ⟨_, _, _, _, hx43, -⟩ := id hL
          refine sg_callV (pc := 30) (As := [.int (nI 3)]) (rest := [.ref b]) (mc := 0) (ms := 0) hC tw_611 tw_612 tw_613 tw_65 tw_614 yd_J0_charAt_5068e (by decide) (ci := 0) rfl dX4_appendLetters_30 hx43 rfl (Nat.le_of_ble_eq_true rfl) (by first | omega | decide | exact Nat.lt_of_le_of_lt jshr (by omega) | exact Nat.lt_of_le_of_lt jand1 (by decide) | (simp only [List.length_append, List.length_cons, List.length_nil]; omega)) (by first | omega | decide | exact Nat.lt_of_le_of_lt jshr (by omega) | exact Nat.lt_of_le_of_lt jand1 (by decide) | (simp only [List.length_append, List.length_cons, List.length_nil]; omega)) ?_
          refine c_charAt htr hL (by first | omega | decide | exact Nat.lt_of_le_of_lt jshr (by omega) | exact Nat.lt_of_le_of_lt jand1 (by decide) | (simp only [List.length_append, List.length_cons, List.length_nil]; omega)) ?_
          show sg_W X M32 0 0 33 [some (.ref x), some (.int (nI 3))] [.int (nI 100), .ref b]
          obtain ⟨_, _, _, hx44, -⟩ := id hs33
          refine sg_callV (pc := 33) (As := [.int (nI 100)]) (rest := []) (mc := 0) (ms := 0) hC tw_642 tw_224 tw_225 tw_64 tw_226 yd_J4_append_cf468 (by decide) (ci := 1) rfl dX4_appendLetters_33 hx44 rfl (Nat.le_of_ble_eq_true rfl) (by first | omega | decide | exact Nat.lt_of_le_of_lt jshr (by omega) | exact Nat.lt_of_le_of_lt jand1 (by decide) | (simp only [List.length_append, List.length_cons, List.length_nil]; omega)) (by first | omega | decide | exact Nat.lt_of_le_of_lt jshr (by omega) | exact Nat.lt_of_le_of_lt jand1 (by decide) | (simp only [List.length_append, List.length_cons, List.length_nil]; omega)) ?_
          refine c_sbAppC htr hs33 (by first | omega | decide | exact Nat.lt_of_le_of_lt jshr (by omega) | exact Nat.lt_of_le_of_lt jand1 (by decide) | (simp only [List.length_append, List.length_cons, List.length_nil]; omega)) (by first | omega | decide | exact Nat.lt_of_le_of_lt jshr (by omega) | exact Nat.lt_of_le_of_lt jand1 (by decide) | (simp only [List.length_append, List.length_cons, List.length_nil]; omega)) (by first | omega | decide | exact Nat.lt_of_le_of_lt jshr (by omega) | exact Nat.lt_of_le_of_lt jand1 (by decide) | (simp only [List.length_append, List.length_cons, List.length_nil]; omega)) (by first | omega | decide | exact Nat.lt_of_le_of_lt jshr (by omega) | exact Nat.lt_of_le_of_lt jand1 (by decide) | (simp only [List.length_append, List.length_cons, List.length_nil]; omega)) (by first | omega | decide | exact Nat.lt_of_le_of_lt jshr (by omega) | exact Nat.lt_of_le_of_lt jand1 (by decide) | (simp only [List.length_append, List.length_cons, List.length_nil]; omega)) (fun M45 hs46 hf47 => ?_)
          have hX : M45 x = some (74, .inr (7, [.ref ta, .int (nI s.1), .int (nI kd), .ref b, .int (nI s.2.2.1), .int (nI s.2.2.2.1), .int (nI s.2.2.2.2.1), .int (nI s.2.2.2.2.2)])) := hf47.p hX (by first | decide | (simp; done) | (simp; omega))
          have hL : st_r 0 0 M45 (G.2.2.2 1) ([114, 119, 120, 100]) := hL.p hf47 (by first | decide | (simp; done) | (simp; omega)) (by first | decide | (simp; done) | (simp; omega))
          have hf : sf (pk [75, 76]) M M45 := hf.tr hf47 (fun a t h => by first | exact h | (simp [pk] at h; done) | (simp [pk] at h ⊢; omega) | (simp [pk] at h ⊢; done))
          show sg_W X M45 0 0 36 [some (.ref x), some (.int (nI 3))] [.ref b]
          refine sg_pop (pc := 36) hC dX4_appendLetters_36 rfl ?_
          refine sg_iincN (pc := 37) (a := 3) (b := 4) hC dX4_appendLetters_37 rfl (nI_1 _) (by decide) ?_
          show sg_W X M45 0 0 40 [some (.ref x), some (.int (nI 4))] []
          refine sg_goto (pc := 40) 2 hC dX4_appendLetters_40 (by decide) ?_
          refine sg_iload_n (pc := 2) (x := nI 4) hC dX4_appendLetters_2 rfl ?_
          refine sg_ldc_rwxd (pc := 3) hC dX4_appendLetters_3 ?_
          obtain ⟨_, _, _, _, hx49, -⟩ := id hL
          refine sg_callV (pc := 5) (As := []) (rest := [.int (nI 4)]) (mc := 0) (ms := 0) hC tw_610 tw_482 tw_483 tw_65 tw_484 yd_J0_length_8abf5 (by decide) (ci := 0) rfl dX4_appendLetters_5 hx49 rfl (Nat.le_of_ble_eq_true rfl) (by first | omega | decide | exact Nat.lt_of_le_of_lt jshr (by omega) | exact Nat.lt_of_le_of_lt jand1 (by decide) | (simp only [List.length_append, List.length_cons, List.length_nil]; omega)) (by first | omega | decide | exact Nat.lt_of_le_of_lt jshr (by omega) | exact Nat.lt_of_le_of_lt jand1 (by decide) | (simp only [List.length_append, List.length_cons, List.length_nil]; omega)) ?_
          refine c_slen htr hL ?_
          show sg_W X M45 0 0 8 [some (.ref x), some (.int (nI 4))] [.int (nI 4), .int (nI 4)]
          refine sg_icmpN_ge (pc := 8) (a := 4) (b := 4) 43 hC dX4_appendLetters_8 (by decide) (by decide) (by decide) (fun _ => ?_) (fun h50 => absurd h50 (by decide))
          have e9 : w ++ lets s.2.2.2.1 = w ++ [120] ++ [100] := by unfold lets; rw [if_neg h4, if_neg h8, if_pos h12, if_pos h38]; simp
          rw [e9] at hk
          exact sg_vreturn (st := []) (pc := 43) hC hR dX4_appendLetters_43 (hk _ hs46 hf)
    · refine sg_aload_n (pc := 23) (v := .ref x) hC dX4_appendLetters_23 rfl rfl ?_
      refine sg_get (pc := 24) (a := x) (v := .ref b) 3 hC rfl inw_X4 (by decide) tw_553 dX4_appendLetters_24 hX rfl ?_
      refine sg_ldc_rwxd (pc := 27) hC dX4_appendLetters_27 ?_
      refine sg_iload_n (pc := 29) (x := nI 1) hC dX4_appendLetters_29 rfl ?_
      obtain ⟨_, _, _, _, hx52, -⟩ := id hL
      refine sg_callV (pc := 30) (As := [.int (nI 1)]) (rest := [.ref b]) (mc := 0) (ms := 0) hC tw_611 tw_612 tw_613 tw_65 tw_614 yd_J0_charAt_5068e (by decide) (ci := 0) rfl dX4_appendLetters_30 hx52 rfl (Nat.le_of_ble_eq_true rfl) (by first | omega | decide | exact Nat.lt_of_le_of_lt jshr (by omega) | exact Nat.lt_of_le_of_lt jand1 (by decide) | (simp only [List.length_append, List.length_cons, List.length_nil]; omega)) (by first | omega | decide | exact Nat.lt_of_le_of_lt jshr (by omega) | exact Nat.lt_of_le_of_lt jand1 (by decide) | (simp only [List.length_append, List.length_cons, List.length_nil]; omega)) ?_
      refine c_charAt htr hL (by first | omega | decide | exact Nat.lt_of_le_of_lt jshr (by omega) | exact Nat.lt_of_le_of_lt jand1 (by decide) | (simp only [List.length_append, List.length_cons, List.length_nil]; omega)) ?_
      show sg_W X M 0 0 33 [some (.ref x), some (.int (nI 1))] [.int (nI 119), .ref b]
      obtain ⟨_, _, _, hx53, -⟩ := id hE
      refine sg_callV (pc := 33) (As := [.int (nI 119)]) (rest := []) (mc := 0) (ms := 0) hC tw_642 tw_224 tw_225 tw_64 tw_226 yd_J4_append_cf468 (by decide) (ci := 1) rfl dX4_appendLetters_33 hx53 rfl (Nat.le_of_ble_eq_true rfl) (by first | omega | decide | exact Nat.lt_of_le_of_lt jshr (by omega) | exact Nat.lt_of_le_of_lt jand1 (by decide) | (simp only [List.length_append, List.length_cons, List.length_nil]; omega)) (by first | omega | decide | exact Nat.lt_of_le_of_lt jshr (by omega) | exact Nat.lt_of_le_of_lt jand1 (by decide) | (simp only [List.length_append, List.length_cons, List.length_nil]; omega)) ?_
      refine c_sbAppC htr hE (by first | omega | decide | exact Nat.lt_of_le_of_lt jshr (by omega) | exact Nat.lt_of_le_of_lt jand1 (by decide) | (simp only [List.length_append, List.length_cons, List.length_nil]; omega)) (by first | omega | decide | exact Nat.lt_of_le_of_lt jshr (by omega) | exact Nat.lt_of_le_of_lt jand1 (by decide) | (simp only [List.length_append, List.length_cons, List.length_nil]; omega)) (by first | omega | decide | exact Nat.lt_of_le_of_lt jshr (by omega) | exact Nat.lt_of_le_of_lt jand1 (by decide) | (simp only [List.length_append, List.length_cons, List.length_nil]; omega)) (by first | omega | decide | exact Nat.lt_of_le_of_lt jshr (by omega) | exact Nat.lt_of_le_of_lt jand1 (by decide) | (simp only [List.length_append, List.length_cons, List.length_nil]; omega)) (by first | omega | decide | exact Nat.lt_of_le_of_lt jshr (by omega) | exact Nat.lt_of_le_of_lt jand1 (by decide) | (simp only [List.length_append, List.length_cons, List.length_nil]; omega)) (fun M54 hs55 hf56 => ?_)
      have hX : M54 x = some (74, .inr (7, [.ref ta, .int (nI s.1), .int (nI kd), .ref b, .int (nI s.2.2.1), .int (nI s.2.2.2.1), .int (nI s.2.2.2.2.1), .int (nI s.2.2.2.2.2)])) := hf56.p hX (by first | decide | (simp; done) | (simp; omega))
      have hL : st_r 0 0 M54 (G.2.2.2 1) ([114, 119, 120, 100]) := hL.p hf56 (by first | decide | (simp; done) | (simp; omega)) (by first | decide | (simp; done) | (simp; omega))
      have hf : sf (pk [75, 76]) M M54 := hf.tr hf56 (fun a t h => by first | exact h | (simp [pk] at h; done) | (simp [pk] at h ⊢; omega) | (simp [pk] at h ⊢; done))
      show sg_W X M54 0 0 36 [some (.ref x), some (.int (nI 1))] [.ref b]
      refine sg_pop (pc := 36) hC dX4_appendLetters_36 rfl ?_
      refine sg_iincN (pc := 37) (a := 1) (b := 2) hC dX4_appendLetters_37 rfl (nI_1 _) (by decide) ?_
      show sg_W X M54 0 0 40 [some (.ref x), some (.int (nI 2))] []
      refine sg_goto (pc := 40) 2 hC dX4_appendLetters_40 (by decide) ?_
      refine sg_iload_n (pc := 2) (x := nI 2) hC dX4_appendLetters_2 rfl ?_
      refine sg_ldc_rwxd (pc := 3) hC dX4_appendLetters_3 ?_
      obtain ⟨_, _, _, _, hx58, -⟩ := id hL
      refine sg_callV (pc := 5) (As := []) (rest := [.int (nI 2)]) (mc := 0) (ms := 0) hC tw_610 tw_482 tw_483 tw_65 tw_484 yd_J0_length_8abf5 (by decide) (ci := 0) rfl dX4_appendLetters_5 hx58 rfl (Nat.le_of_ble_eq_true rfl) (by first | omega | decide | exact Nat.lt_of_le_of_lt jshr (by omega) | exact Nat.lt_of_le_of_lt jand1 (by decide) | (simp only [List.length_append, List.length_cons, List.length_nil]; omega)) (by first | omega | decide | exact Nat.lt_of_le_of_lt jshr (by omega) | exact Nat.lt_of_le_of_lt jand1 (by decide) | (simp only [List.length_append, List.length_cons, List.length_nil]; omega)) ?_
      refine c_slen htr hL ?_
      show sg_W X M54 0 0 8 [some (.ref x), some (.int (nI 2))] [.int (nI 4), .int (nI 2)]
      refine sg_icmpN_ge (pc := 8) (a := 2) (b := 4) 43 hC dX4_appendLetters_8 (by decide) (by decide) (by decide) (fun h59 => absurd h59 (by decide)) (fun _ => ?_)
      refine sg_aload_n (pc := 11) (v := .ref x) hC dX4_appendLetters_11 rfl rfl ?_
      refine sg_get (pc := 12) (a := x) (v := .int (nI s.2.2.2.1)) 5 hC rfl inw_X4 (by decide) tw_555 dX4_appendLetters_12 hX rfl ?_
      refine sg_iload_n (pc := 15) (x := nI 2) hC dX4_appendLetters_15 rfl ?_
      refine sg_ishrN (pc := 16) (a := s.2.2.2.1) (b := 2) hC dX4_appendLetters_16 (by first | omega | decide | exact Nat.lt_of_le_of_lt jshr (by omega) | exact Nat.lt_of_le_of_lt jand1 (by decide) | (simp only [List.length_append, List.length_cons, List.length_nil]; omega)) (by first | omega | exact Nat.lt_of_le_of_lt jshr (by omega)) ?_
      refine sg_iconst (pc := 17) (nI 1) hC dX4_appendLetters_17 (by decide) ?_
      refine sg_iandN (pc := 18) (a := s.2.2.2.1 >>> 2) (b := 1) hC dX4_appendLetters_18 ?_
      refine sg_iconst (pc := 19) (nI 1) hC dX4_appendLetters_19 (by decide) ?_
      refine sg_icmpN_ne (pc := 20) (a := (s.2.2.2.1 >>> 2) &&& 1) (b := 1) 37 hC dX4_appendLetters_20 (by decide) (by first | omega | decide | exact Nat.lt_of_le_of_lt jshr (by omega) | exact Nat.lt_of_le_of_lt jand1 (by decide) | (simp only [List.length_append, List.length_cons, List.length_nil]; omega)) (by first | omega | decide | exact Nat.lt_of_le_of_lt jshr (by omega) | exact Nat.lt_of_le_of_lt jand1 (by decide) | (simp only [List.length_append, List.length_cons, List.length_nil]; omega)) (fun h60 => ?_) (fun h60 => ?_)
      · refine sg_iincN (pc := 37) (a := 2) (b := 3) hC dX4_appendLetters_37 rfl (nI_1 _) (by decide) ?_
        show sg_W X M54 0 0 40 [some (.ref x), some (.int (nI 3))] []
        refine sg_goto (pc := 40) 2 hC dX4_appendLetters_40 (by decide) ?_
        refine sg_iload_n (pc := 2) (x := nI 3) hC dX4_appendLetters_2 rfl ?_
        refine sg_ldc_rwxd (pc := 3) hC dX4_appendLetters_3 ?_
        obtain ⟨_, _, _, _, hx62, -⟩ := id hL
        refine sg_callV (pc := 5) (As := []) (rest := [.int (nI 3)]) (mc := 0) (ms := 0) hC tw_610 tw_482 tw_483 tw_65 tw_484 yd_J0_length_8abf5 (by decide) (ci := 0) rfl dX4_appendLetters_5 hx62 rfl (Nat.le_of_ble_eq_true rfl) (by first | omega | decide | exact Nat.lt_of_le_of_lt jshr (by omega) | exact Nat.lt_of_le_of_lt jand1 (by decide) | (simp only [List.length_append, List.length_cons, List.length_nil]; omega)) (by first | omega | decide | exact Nat.lt_of_le_of_lt jshr (by omega) | exact Nat.lt_of_le_of_lt jand1 (by decide) | (simp only [List.length_append, List.length_cons, List.length_nil]; omega)) ?_
        refine c_slen htr hL ?_
        show sg_W X M54 0 0 8 [some (.ref x), some (.int (nI 3))] [.int (nI 4), .int (nI 3)]
        refine sg_icmpN_ge (pc := 8) (a := 3) (b := 4) 43 hC dX4_appendLetters_8 (by decide) (by decide) (by decide) (fun h63 => absurd h63 (by decide)) (fun _ => ?_)
        refine sg_aload_n (pc := 11) (v := .ref x) hC dX4_appendLetters_11 rfl rfl ?_
        refine sg_get (pc := 12) (a := x) (v := .int (nI s.2.2.2.1)) 5 hC rfl inw_X4 (by decide) tw_555 dX4_appendLetters_12 hX rfl ?_
        refine sg_iload_n (pc := 15) (x := nI 3) hC dX4_appendLetters_15 rfl ?_
        refine sg_ishrN (pc := 16) (a := s.2.2.2.1) (b := 3) hC dX4_appendLetters_16 (by first | omega | decide | exact Nat.lt_of_le_of_lt jshr (by omega) | exact Nat.lt_of_le_of_lt jand1 (by decide) | (simp only [List.length_append, List.length_cons, List.length_nil]; omega)) (by first | omega | exact Nat.lt_of_le_of_lt jshr (by omega)) ?_
        refine sg_iconst (pc := 17) (nI 1) hC dX4_appendLetters_17 (by decide) ?_
        refine sg_iandN (pc := 18) (a := s.2.2.2.1 >>> 3) (b := 1) hC dX4_appendLetters_18 ?_
        refine sg_iconst (pc := 19) (nI 1) hC dX4_appendLetters_19 (by decide) ?_
        refine sg_icmpN_ne (pc := 20) (a := (s.2.2.2.1 >>> 3) &&& 1) (b := 1) 37 hC dX4_appendLetters_20 (by decide) (by first | omega | decide | exact Nat.lt_of_le_of_lt jshr (by omega) | exact Nat.lt_of_le_of_lt jand1 (by decide) | (simp only [List.length_append, List.length_cons, List.length_nil]; omega)) (by first | omega | decide | exact Nat.lt_of_le_of_lt jshr (by omega) | exact Nat.lt_of_le_of_lt jand1 (by decide) | (simp only [List.length_append, List.length_cons, List.length_nil]; omega)) (fun h64 => ?_) (fun h64 => ?_)
        · refine sg_iincN (pc := 37) (a := 3) (b := 4) hC dX4_appendLetters_37 rfl (nI_1 _) (by decide) ?_
          show sg_W X M54 0 0 40 [some (.ref x), some (.int (nI 4))] []
          refine sg_goto (pc := 40) 2 hC dX4_appendLetters_40 (by decide) ?_
          refine sg_iload_n (pc := 2) (x := nI 4) hC dX4_appendLetters_2 rfl ?_
          refine sg_ldc_rwxd (pc := 3) hC dX4_appendLetters_3 ?_
          obtain ⟨_, _, _, _, hx66, -⟩ := id hL
          refine sg_callV (pc := 5) (As := []) (rest := [.int (nI 4)]) (mc := 0) (ms := 0) hC tw_610 tw_482 tw_483 tw_65 tw_484 yd_J0_length_8abf5 (by decide) (ci := 0) rfl dX4_appendLetters_5 hx66 rfl (Nat.le_of_ble_eq_true rfl) (by first | omega | decide | exact Nat.lt_of_le_of_lt jshr (by omega) | exact Nat.lt_of_le_of_lt jand1 (by decide) | (simp only [List.length_append, List.length_cons, List.length_nil]; omega)) (by first | omega | decide | exact Nat.lt_of_le_of_lt jshr (by omega) | exact Nat.lt_of_le_of_lt jand1 (by decide) | (simp only [List.length_append, List.length_cons, List.length_nil]; omega)) ?_
          refine c_slen htr hL ?_
          show sg_W X M54 0 0 8 [some (.ref x), some (.int (nI 4))] [.int (nI 4), .int (nI 4)]
          refine sg_icmpN_ge (pc := 8) (a := 4) (b := 4) 43 hC dX4_appendLetters_8 (by decide) (by decide) (by decide) (fun _ => ?_) (fun h67 => absurd h67 (by decide))
          have e9 : w ++ lets s.2.2.2.1 = w ++ [119] := by unfold lets; rw [if_neg h4, if_pos h8, if_neg h60, if_neg h64]; simp
          rw [e9] at hk
          exact sg_vreturn (st := []) (pc := 43) hC hR dX4_appendLetters_43 (hk _ hs55 hf)
        · refine sg_aload_n (pc := 23) (v := .ref x) hC dX4_appendLetters_23 rfl rfl ?_
          refine sg_get (pc := 24) (a := x) (v := .ref b) 3 hC rfl inw_X4 (by decide) tw_553 dX4_appendLetters_24 hX rfl ?_
          refine sg_ldc_rwxd (pc := 27) hC dX4_appendLetters_27 ?_
          refine sg_iload_n (pc := 29) (x := nI 3) hC dX4_appendLetters_29 rfl ?_
          obtain ⟨_, _, _, _, hx69, -⟩ := id hL
          refine sg_callV (pc := 30) (As := [.int (nI 3)]) (rest := [.ref b]) (mc := 0) (ms := 0) hC tw_611 tw_612 tw_613 tw_65 tw_614 yd_J0_charAt_5068e (by decide) (ci := 0) rfl dX4_appendLetters_30 hx69 rfl (Nat.le_of_ble_eq_true rfl) (by first | omega | decide | exact Nat.lt_of_le_of_lt jshr (by omega) | exact Nat.lt_of_le_of_lt jand1 (by decide) | (simp only [List.length_append, List.length_cons, List.length_nil]; omega)) (by first | omega | decide | exact Nat.lt_of_le_of_lt jshr (by omega) | exact Nat.lt_of_le_of_lt jand1 (by decide) | (simp only [List.length_append, List.length_cons, List.length_nil]; omega)) ?_
          refine c_charAt htr hL (by first | omega | decide | exact Nat.lt_of_le_of_lt jshr (by omega) | exact Nat.lt_of_le_of_lt jand1 (by decide) | (simp only [List.length_append, List.length_cons, List.length_nil]; omega)) ?_
          show sg_W X M54 0 0 33 [some (.ref x), some (.int (nI 3))] [.int (nI 100), .ref b]
          obtain ⟨_, _, _, hx70, -⟩ := id hs55
          refine sg_callV (pc := 33) (As := [.int (nI 100)]) (rest := []) (mc := 0) (ms := 0) hC tw_642 tw_224 tw_225 tw_64 tw_226 yd_J4_append_cf468 (by decide) (ci := 1) rfl dX4_appendLetters_33 hx70 rfl (Nat.le_of_ble_eq_true rfl) (by first | omega | decide | exact Nat.lt_of_le_of_lt jshr (by omega) | exact Nat.lt_of_le_of_lt jand1 (by decide) | (simp only [List.length_append, List.length_cons, List.length_nil]; omega)) (by first | omega | decide | exact Nat.lt_of_le_of_lt jshr (by omega) | exact Nat.lt_of_le_of_lt jand1 (by decide) | (simp only [List.length_append, List.length_cons, List.length_nil]; omega)) ?_
          refine c_sbAppC htr hs55 (by first | omega | decide | exact Nat.lt_of_le_of_lt jshr (by omega) | exact Nat.lt_of_le_of_lt jand1 (by decide) | (simp only [List.length_append, List.length_cons, List.length_nil]; omega)) (by first | omega | decide | exact Nat.lt_of_le_of_lt jshr (by omega) | exact Nat.lt_of_le_of_lt jand1 (by decide) | (simp only [List.length_append, List.length_cons, List.length_nil]; omega)) (by first | omega | decide | exact Nat.lt_of_le_of_lt jshr (by omega) | exact Nat.lt_of_le_of_lt jand1 (by decide) | (simp only [List.length_append, List.length_cons, List.length_nil]; omega)) (by first | omega | decide | exact Nat.lt_of_le_of_lt jshr (by omega) | exact Nat.lt_of_le_of_lt jand1 (by decide) | (simp only [List.length_append, List.length_cons, List.length_nil]; omega)) (by first | omega | decide | exact Nat.lt_of_le_of_lt jshr (by omega) | exact Nat.lt_of_le_of_lt jand1 (by decide) | (simp only [List.length_append, List.length_cons, List.length_nil]; omega)) (fun M71 hs72 hf73 => ?_)
          have hX : M71 x = some (74, .inr (7, [.ref ta, .int (nI s.1), .int (nI kd), .ref b, .int (nI s.2.2.1), .int (nI s.2.2.2.1), .int (nI s.2.2.2.2.1), .int (nI s.2.2.2.2.2)])) := hf73.p hX (by first | decide | (simp; done) | (simp; omega))
          have hL : st_r 0 0 M71 (G.2.2.2 1) ([114, 119, 120, 100]) := hL.p hf73 (by first | decide | (simp; done) | (simp; omega)) (by first | decide | (simp; done) | (simp; omega))
          have hf : sf (pk [75, 76]) M M71 := hf.tr hf73 (fun a t h => by first | exact h | (simp [pk] at h; done) | (simp [pk] at h ⊢; omega) | (simp [pk] at h ⊢; done))
          show sg_W X M71 0 0 36 [some (.ref x), some (.int (nI 3))] [.ref b]
          refine sg_pop (pc := 36) hC dX4_appendLetters_36 rfl ?_
          refine sg_iincN (pc := 37) (a := 3) (b := 4) hC dX4_appendLetters_37 rfl (nI_1 _) (by decide) ?_
          show sg_W X M71 0 0 40 [some (.ref x), some (.int (nI 4))] []
          refine sg_goto (pc := 40) 2 hC dX4_appendLetters_40 (by decide) ?_
          refine sg_iload_n (pc := 2) (x := nI 4) hC dX4_appendLetters_2 rfl ?_
          refine sg_ldc_rwxd (pc := 3) hC dX4_appendLetters_3 ?_
          obtain ⟨_, _, _, _, hx75, -⟩ := id hL
          refine sg_callV (pc := 5) (As := []) (rest := [.int (nI 4)]) (mc := 0) (ms := 0) hC tw_610 tw_482 tw_483 tw_65 tw_484 yd_J0_length_8abf5 (by decide) (ci := 0) rfl dX4_appendLetters_5 hx75 rfl (Nat.le_of_ble_eq_true rfl) (by first | omega | decide | exact Nat.lt_of_le_of_lt jshr (by omega) | exact Nat.lt_of_le_of_lt jand1 (by decide) | (simp only [List.length_append, List.length_cons, List.length_nil]; omega)) (by first | omega | decide | exact Nat.lt_of_le_of_lt jshr (by omega) | exact Nat.lt_of_le_of_lt jand1 (by decide) | (simp only [List.length_append, List.length_cons, List.length_nil]; omega)) ?_
          refine c_slen htr hL ?_
          show sg_W X M71 0 0 8 [some (.ref x), some (.int (nI 4))] [.int (nI 4), .int (nI 4)]
          refine sg_icmpN_ge (pc := 8) (a := 4) (b := 4) 43 hC dX4_appendLetters_8 (by decide) (by decide) (by decide) (fun _ => ?_) (fun h76 => absurd h76 (by decide))
          have e9 : w ++ lets s.2.2.2.1 = w ++ [119] ++ [100] := by unfold lets; rw [if_neg h4, if_pos h8, if_neg h60, if_pos h64]; simp
          rw [e9] at hk
          exact sg_vreturn (st := []) (pc := 43) hC hR dX4_appendLetters_43 (hk _ hs72 hf)
      · refine sg_aload_n (pc := 23) (v := .ref x) hC dX4_appendLetters_23 rfl rfl ?_
        refine sg_get (pc := 24) (a := x) (v := .ref b) 3 hC rfl inw_X4 (by decide) tw_553 dX4_appendLetters_24 hX rfl ?_
        refine sg_ldc_rwxd (pc := 27) hC dX4_appendLetters_27 ?_
        refine sg_iload_n (pc := 29) (x := nI 2) hC dX4_appendLetters_29 rfl ?_
        obtain ⟨_, _, _, _, hx78, -⟩ := id hL
        refine sg_callV (pc := 30) (As := [.int (nI 2)]) (rest := [.ref b]) (mc := 0) (ms := 0) hC tw_611 tw_612 tw_613 tw_65 tw_614 yd_J0_charAt_5068e (by decide) (ci := 0) rfl dX4_appendLetters_30 hx78 rfl (Nat.le_of_ble_eq_true rfl) (by first | omega | decide | exact Nat.lt_of_le_of_lt jshr (by omega) | exact Nat.lt_of_le_of_lt jand1 (by decide) | (simp only [List.length_append, List.length_cons, List.length_nil]; omega)) (by first | omega | decide | exact Nat.lt_of_le_of_lt jshr (by omega) | exact Nat.lt_of_le_of_lt jand1 (by decide) | (simp only [List.length_append, List.length_cons, List.length_nil]; omega)) ?_
        refine c_charAt htr hL (by first | omega | decide | exact Nat.lt_of_le_of_lt jshr (by omega) | exact Nat.lt_of_le_of_lt jand1 (by decide) | (simp only [List.length_append, List.length_cons, List.length_nil]; omega)) ?_
        show sg_W X M54 0 0 33 [some (.ref x), some (.int (nI 2))] [.int (nI 120), .ref b]
        obtain ⟨_, _, _, hx79, -⟩ := id hs55
        refine sg_callV (pc := 33) (As := [.int (nI 120)]) (rest := []) (mc := 0) (ms := 0) hC tw_642 tw_224 tw_225 tw_64 tw_226 yd_J4_append_cf468 (by decide) (ci := 1) rfl dX4_appendLetters_33 hx79 rfl (Nat.le_of_ble_eq_true rfl) (by first | omega | decide | exact Nat.lt_of_le_of_lt jshr (by omega) | exact Nat.lt_of_le_of_lt jand1 (by decide) | (simp only [List.length_append, List.length_cons, List.length_nil]; omega)) (by first | omega | decide | exact Nat.lt_of_le_of_lt jshr (by omega) | exact Nat.lt_of_le_of_lt jand1 (by decide) | (simp only [List.length_append, List.length_cons, List.length_nil]; omega)) ?_
        refine c_sbAppC htr hs55 (by first | omega | decide | exact Nat.lt_of_le_of_lt jshr (by omega) | exact Nat.lt_of_le_of_lt jand1 (by decide) | (simp only [List.length_append, List.length_cons, List.length_nil]; omega)) (by first | omega | decide | exact Nat.lt_of_le_of_lt jshr (by omega) | exact Nat.lt_of_le_of_lt jand1 (by decide) | (simp only [List.length_append, List.length_cons, List.length_nil]; omega)) (by first | omega | decide | exact Nat.lt_of_le_of_lt jshr (by omega) | exact Nat.lt_of_le_of_lt jand1 (by decide) | (simp only [List.length_append, List.length_cons, List.length_nil]; omega)) (by first | omega | decide | exact Nat.lt_of_le_of_lt jshr (by omega) | exact Nat.lt_of_le_of_lt jand1 (by decide) | (simp only [List.length_append, List.length_cons, List.length_nil]; omega)) (by first | omega | decide | exact Nat.lt_of_le_of_lt jshr (by omega) | exact Nat.lt_of_le_of_lt jand1 (by decide) | (simp only [List.length_append, List.length_cons, List.length_nil]; omega)) (fun M80 hs81 hf82 => ?_)
        have hX : M80 x = some (74, .inr (7, [.ref ta, .int (nI s.1), .int (nI kd), .ref b, .int (nI s.2.2.1), .int (nI s.2.2.2.1), .int (nI s.2.2.2.2.1), .int (nI s.2.2.2.2.2)])) := hf82.p hX (by first | decide | (simp; done) | (simp; omega))
        have hL : st_r 0 0 M80 (G.2.2.2 1) ([114, 119, 120, 100]) := hL.p hf82 (by first | decide | (simp; done) | (simp; omega)) (by first | decide | (simp; done) | (simp; omega))
        have hf : sf (pk [75, 76]) M M80 := hf.tr hf82 (fun a t h => by first | exact h | (simp [pk] at h; done) | (simp [pk] at h ⊢; omega) | (simp [pk] at h ⊢; done))
        show sg_W X M80 0 0 36 [some (.ref x), some (.int (nI 2))] [.ref b]
        refine sg_pop (pc := 36) hC dX4_appendLetters_36 rfl ?_
        refine sg_iincN (pc := 37) (a := 2) (b := 3) hC dX4_appendLetters_37 rfl (nI_1 _) (by decide) ?_
        show sg_W X M80 0 0 40 [some (.ref x), some (.int (nI 3))] []
        refine sg_goto (pc := 40) 2 hC dX4_appendLetters_40 (by decide) ?_
        refine sg_iload_n (pc := 2) (x := nI 3) hC dX4_appendLetters_2 rfl ?_
        refine sg_ldc_rwxd (pc := 3) hC dX4_appendLetters_3 ?_
        obtain ⟨_, _, _, _, hx84, -⟩ := id hL
        refine sg_callV (pc := 5) (As := []) (rest := [.int (nI 3)]) (mc := 0) (ms := 0) hC tw_610 tw_482 tw_483 tw_65 tw_484 yd_J0_length_8abf5 (by decide) (ci := 0) rfl dX4_appendLetters_5 hx84 rfl (Nat.le_of_ble_eq_true rfl) (by first | omega | decide | exact Nat.lt_of_le_of_lt jshr (by omega) | exact Nat.lt_of_le_of_lt jand1 (by decide) | (simp only [List.length_append, List.length_cons, List.length_nil]; omega)) (by first | omega | decide | exact Nat.lt_of_le_of_lt jshr (by omega) | exact Nat.lt_of_le_of_lt jand1 (by decide) | (simp only [List.length_append, List.length_cons, List.length_nil]; omega)) ?_
        refine c_slen htr hL ?_
        show sg_W X M80 0 0 8 [some (.ref x), some (.int (nI 3))] [.int (nI 4), .int (nI 3)]
        refine sg_icmpN_ge (pc := 8) (a := 3) (b := 4) 43 hC dX4_appendLetters_8 (by decide) (by decide) (by decide) (fun h85 => absurd h85 (by decide)) (fun _ => ?_)
        refine sg_aload_n (pc := 11) (v := .ref x) hC dX4_appendLetters_11 rfl rfl ?_
        refine sg_get (pc := 12) (a := x) (v := .int (nI s.2.2.2.1)) 5 hC rfl inw_X4 (by decide) tw_555 dX4_appendLetters_12 hX rfl ?_
        refine sg_iload_n (pc := 15) (x := nI 3) hC dX4_appendLetters_15 rfl ?_
        refine sg_ishrN (pc := 16) (a := s.2.2.2.1) (b := 3) hC dX4_appendLetters_16 (by first | omega | decide | exact Nat.lt_of_le_of_lt jshr (by omega) | exact Nat.lt_of_le_of_lt jand1 (by decide) | (simp only [List.length_append, List.length_cons, List.length_nil]; omega)) (by first | omega | exact Nat.lt_of_le_of_lt jshr (by omega)) ?_
        refine sg_iconst (pc := 17) (nI 1) hC dX4_appendLetters_17 (by decide) ?_
        refine sg_iandN (pc := 18) (a := s.2.2.2.1 >>> 3) (b := 1) hC dX4_appendLetters_18 ?_
        refine sg_iconst (pc := 19) (nI 1) hC dX4_appendLetters_19 (by decide) ?_
        refine sg_icmpN_ne (pc := 20) (a := (s.2.2.2.1 >>> 3) &&& 1) (b := 1) 37 hC dX4_appendLetters_20 (by decide) (by first | omega | decide | exact Nat.lt_of_le_of_lt jshr (by omega) | exact Nat.lt_of_le_of_lt jand1 (by decide) | (simp only [List.length_append, List.length_cons, List.length_nil]; omega)) (by first | omega | decide | exact Nat.lt_of_le_of_lt jshr (by omega) | exact Nat.lt_of_le_of_lt jand1 (by decide) | (simp only [List.length_append, List.length_cons, List.length_nil]; omega)) (fun h86 => ?_) (fun h86 => ?_)
        · refine sg_iincN (pc := 37) (a := 3) (b := 4) hC dX4_appendLetters_37 rfl (nI_1 _) (by decide) ?_
          show sg_W X M80 0 0 40 [some (.ref x), some (.int (nI 4))] []
          refine sg_goto (pc := 40) 2 hC dX4_appendLetters_40 (by decide) ?_
          refine sg_iload_n (pc := 2) (x := nI 4) hC dX4_appendLetters_2 rfl ?_
          refine sg_ldc_rwxd (pc := 3) hC dX4_appendLetters_3 ?_
          obtain ⟨_, _, _, _, hx88, -⟩ := id hL
          refine sg_callV (pc := 5) (As := []) (rest := [.int (nI 4)]) (mc := 0) (ms := 0) hC tw_610 tw_482 tw_483 tw_65 tw_484 yd_J0_length_8abf5 (by decide) (ci := 0) rfl dX4_appendLetters_5 hx88 rfl (Nat.le_of_ble_eq_true rfl) (by first | omega | decide | exact Nat.lt_of_le_of_lt jshr (by omega) | exact Nat.lt_of_le_of_lt jand1 (by decide) | (simp only [List.length_append, List.length_cons, List.length_nil]; omega)) (by first | omega | decide | exact Nat.lt_of_le_of_lt jshr (by omega) | exact Nat.lt_of_le_of_lt jand1 (by decide) | (simp only [List.length_append, List.length_cons, List.length_nil]; omega)) ?_
          refine c_slen htr hL ?_
          show sg_W X M80 0 0 8 [some (.ref x), some (.int (nI 4))] [.int (nI 4), .int (nI 4)]
          refine sg_icmpN_ge (pc := 8) (a := 4) (b := 4) 43 hC dX4_appendLetters_8 (by decide) (by decide) (by decide) (fun _ => ?_) (fun h89 => absurd h89 (by decide))
          have e9 : w ++ lets s.2.2.2.1 = w ++ [119] ++ [120] := by unfold lets; rw [if_neg h4, if_pos h8, if_pos h60, if_neg h86]; simp
          rw [e9] at hk
          exact sg_vreturn (st := []) (pc := 43) hC hR dX4_appendLetters_43 (hk _ hs81 hf)
        · refine sg_aload_n (pc := 23) (v := .ref x) hC dX4_appendLetters_23 rfl rfl ?_
          refine sg_get (pc := 24) (a := x) (v := .ref b) 3 hC rfl inw_X4 (by decide) tw_553 dX4_appendLetters_24 hX rfl ?_
          refine sg_ldc_rwxd (pc := 27) hC dX4_appendLetters_27 ?_
          refine sg_iload_n (pc := 29) (x := nI 3) hC dX4_appendLetters_29 rfl ?_
          obtain ⟨_, _, _, _, hx91, -⟩ := id hL
          refine sg_callV (pc := 30) (As := [.int (nI 3)]) (rest := [.ref b]) (mc := 0) (ms := 0) hC tw_611 tw_612 tw_613 tw_65 tw_614 yd_J0_charAt_5068e (by decide) (ci := 0) rfl dX4_appendLetters_30 hx91 rfl (Nat.le_of_ble_eq_true rfl) (by first | omega | decide | exact Nat.lt_of_le_of_lt jshr (by omega) | exact Nat.lt_of_le_of_lt jand1 (by decide) | (simp only [List.length_append, List.length_cons, List.length_nil]; omega)) (by first | omega | decide | exact Nat.lt_of_le_of_lt jshr (by omega) | exact Nat.lt_of_le_of_lt jand1 (by decide) | (simp only [List.length_append, List.length_cons, List.length_nil]; omega)) ?_
          refine c_charAt htr hL (by first | omega | decide | exact Nat.lt_of_le_of_lt jshr (by omega) | exact Nat.lt_of_le_of_lt jand1 (by decide) | (simp only [List.length_append, List.length_cons, List.length_nil]; omega)) ?_
          show sg_W X M80 0 0 33 [some (.ref x), some (.int (nI 3))] [.int (nI 100), .ref b]
          obtain ⟨_, _, _, hx92, -⟩ := id hs81
          refine sg_callV (pc := 33) (As := [.int (nI 100)]) (rest := []) (mc := 0) (ms := 0) hC tw_642 tw_224 tw_225 tw_64 tw_226 yd_J4_append_cf468 (by decide) (ci := 1) rfl dX4_appendLetters_33 hx92 rfl (Nat.le_of_ble_eq_true rfl) (by first | omega | decide | exact Nat.lt_of_le_of_lt jshr (by omega) | exact Nat.lt_of_le_of_lt jand1 (by decide) | (simp only [List.length_append, List.length_cons, List.length_nil]; omega)) (by first | omega | decide | exact Nat.lt_of_le_of_lt jshr (by omega) | exact Nat.lt_of_le_of_lt jand1 (by decide) | (simp only [List.length_append, List.length_cons, List.length_nil]; omega)) ?_
          refine c_sbAppC htr hs81 (by first | omega | decide | exact Nat.lt_of_le_of_lt jshr (by omega) | exact Nat.lt_of_le_of_lt jand1 (by decide) | (simp only [List.length_append, List.length_cons, List.length_nil]; omega)) (by first | omega | decide | exact Nat.lt_of_le_of_lt jshr (by omega) | exact Nat.lt_of_le_of_lt jand1 (by decide) | (simp only [List.length_append, List.length_cons, List.length_nil]; omega)) (by first | omega | decide | exact Nat.lt_of_le_of_lt jshr (by omega) | exact Nat.lt_of_le_of_lt jand1 (by decide) | (simp only [List.length_append, List.length_cons, List.length_nil]; omega)) (by first | omega | decide | exact Nat.lt_of_le_of_lt jshr (by omega) | exact Nat.lt_of_le_of_lt jand1 (by decide) | (simp only [List.length_append, List.length_cons, List.length_nil]; omega)) (by first | omega | decide | exact Nat.lt_of_le_of_lt jshr (by omega) | exact Nat.lt_of_le_of_lt jand1 (by decide) | (simp only [List.length_append, List.length_cons, List.length_nil]; omega)) (fun M93 hs94 hf95 => ?_)
          have hX : M93 x = some (74, .inr (7, [.ref ta, .int (nI s.1), .int (nI kd), .ref b, .int (nI s.2.2.1), .int (nI s.2.2.2.1), .int (nI s.2.2.2.2.1), .int (nI s.2.2.2.2.2)])) := hf95.p hX (by first | decide | (simp; done) | (simp; omega))
          have hL : st_r 0 0 M93 (G.2.2.2 1) ([114, 119, 120, 100]) := hL.p hf95 (by first | decide | (simp; done) | (simp; omega)) (by first | decide | (simp; done) | (simp; omega))
          have hf : sf (pk [75, 76]) M M93 := hf.tr hf95 (fun a t h => by first | exact h | (simp [pk] at h; done) | (simp [pk] at h ⊢; omega) | (simp [pk] at h ⊢; done))
          show sg_W X M93 0 0 36 [some (.ref x), some (.int (nI 3))] [.ref b]
          refine sg_pop (pc := 36) hC dX4_appendLetters_36 rfl ?_
          refine sg_iincN (pc := 37) (a := 3) (b := 4) hC dX4_appendLetters_37 rfl (nI_1 _) (by decide) ?_
          show sg_W X M93 0 0 40 [some (.ref x), some (.int (nI 4))] []
          refine sg_goto (pc := 40) 2 hC dX4_appendLetters_40 (by decide) ?_
          refine sg_iload_n (pc := 2) (x := nI 4) hC dX4_appendLetters_2 rfl ?_
          refine sg_ldc_rwxd (pc := 3) hC dX4_appendLetters_3 ?_
          obtain ⟨_, _, _, _, hx97, -⟩ := id hL
          refine sg_callV (pc := 5) (As := []) (rest := [.int (nI 4)]) (mc := 0) (ms := 0) hC tw_610 tw_482 tw_483 tw_65 tw_484 yd_J0_length_8abf5 (by decide) (ci := 0) rfl dX4_appendLetters_5 hx97 rfl (Nat.le_of_ble_eq_true rfl) (by first | omega | decide | exact Nat.lt_of_le_of_lt jshr (by omega) | exact Nat.lt_of_le_of_lt jand1 (by decide) | (simp only [List.length_append, List.length_cons, List.length_nil]; omega)) (by first | omega | decide | exact Nat.lt_of_le_of_lt jshr (by omega) | exact Nat.lt_of_le_of_lt jand1 (by decide) | (simp only [List.length_append, List.length_cons, List.length_nil]; omega)) ?_
          refine c_slen htr hL ?_
          show sg_W X M93 0 0 8 [some (.ref x), some (.int (nI 4))] [.int (nI 4), .int (nI 4)]
          refine sg_icmpN_ge (pc := 8) (a := 4) (b := 4) 43 hC dX4_appendLetters_8 (by decide) (by decide) (by decide) (fun _ => ?_) (fun h98 => absurd h98 (by decide))
          have e9 : w ++ lets s.2.2.2.1 = w ++ [119] ++ [120] ++ [100] := by unfold lets; rw [if_neg h4, if_pos h8, if_pos h60, if_pos h86]; simp
          rw [e9] at hk
          exact sg_vreturn (st := []) (pc := 43) hC hR dX4_appendLetters_43 (hk _ hs94 hf)
  · refine sg_aload_n (pc := 23) (v := .ref x) hC dX4_appendLetters_23 rfl rfl ?_
    refine sg_get (pc := 24) (a := x) (v := .ref b) 3 hC rfl inw_X4 (by decide) tw_553 dX4_appendLetters_24 hX rfl ?_
    refine sg_ldc_rwxd (pc := 27) hC dX4_appendLetters_27 ?_
    refine sg_iload_n (pc := 29) (x := nI 0) hC dX4_appendLetters_29 rfl ?_
    obtain ⟨_, _, _, _, hx100, -⟩ := id hL
    refine sg_callV (pc := 30) (As := [.int (nI 0)]) (rest := [.ref b]) (mc := 0) (ms := 0) hC tw_611 tw_612 tw_613 tw_65 tw_614 yd_J0_charAt_5068e (by decide) (ci := 0) rfl dX4_appendLetters_30 hx100 rfl (Nat.le_of_ble_eq_true rfl) (by first | omega | decide | exact Nat.lt_of_le_of_lt jshr (by omega) | exact Nat.lt_of_le_of_lt jand1 (by decide) | (simp only [List.length_append, List.length_cons, List.length_nil]; omega)) (by first | omega | decide | exact Nat.lt_of_le_of_lt jshr (by omega) | exact Nat.lt_of_le_of_lt jand1 (by decide) | (simp only [List.length_append, List.length_cons, List.length_nil]; omega)) ?_
    refine c_charAt htr hL (by first | omega | decide | exact Nat.lt_of_le_of_lt jshr (by omega) | exact Nat.lt_of_le_of_lt jand1 (by decide) | (simp only [List.length_append, List.length_cons, List.length_nil]; omega)) ?_
    show sg_W X M 0 0 33 [some (.ref x), some (.int (nI 0))] [.int (nI 114), .ref b]
    obtain ⟨_, _, _, hx101, -⟩ := id hE
    refine sg_callV (pc := 33) (As := [.int (nI 114)]) (rest := []) (mc := 0) (ms := 0) hC tw_642 tw_224 tw_225 tw_64 tw_226 yd_J4_append_cf468 (by decide) (ci := 1) rfl dX4_appendLetters_33 hx101 rfl (Nat.le_of_ble_eq_true rfl) (by first | omega | decide | exact Nat.lt_of_le_of_lt jshr (by omega) | exact Nat.lt_of_le_of_lt jand1 (by decide) | (simp only [List.length_append, List.length_cons, List.length_nil]; omega)) (by first | omega | decide | exact Nat.lt_of_le_of_lt jshr (by omega) | exact Nat.lt_of_le_of_lt jand1 (by decide) | (simp only [List.length_append, List.length_cons, List.length_nil]; omega)) ?_
    refine c_sbAppC htr hE (by first | omega | decide | exact Nat.lt_of_le_of_lt jshr (by omega) | exact Nat.lt_of_le_of_lt jand1 (by decide) | (simp only [List.length_append, List.length_cons, List.length_nil]; omega)) (by first | omega | decide | exact Nat.lt_of_le_of_lt jshr (by omega) | exact Nat.lt_of_le_of_lt jand1 (by decide) | (simp only [List.length_append, List.length_cons, List.length_nil]; omega)) (by first | omega | decide | exact Nat.lt_of_le_of_lt jshr (by omega) | exact Nat.lt_of_le_of_lt jand1 (by decide) | (simp only [List.length_append, List.length_cons, List.length_nil]; omega)) (by first | omega | decide | exact Nat.lt_of_le_of_lt jshr (by omega) | exact Nat.lt_of_le_of_lt jand1 (by decide) | (simp only [List.length_append, List.length_cons, List.length_nil]; omega)) (by first | omega | decide | exact Nat.lt_of_le_of_lt jshr (by omega) | exact Nat.lt_of_le_of_lt jand1 (by decide) | (simp only [List.length_append, List.length_cons, List.length_nil]; omega)) (fun M102 hs103 hf104 => ?_)
    have hX : M102 x = some (74, .inr (7, [.ref ta, .int (nI s.1), .int (nI kd), .ref b, .int (nI s.2.2.1), .int (nI s.2.2.2.1), .int (nI s.2.2.2.2.1), .int (nI s.2.2.2.2.2)])) := hf104.p hX (by first | decide | (simp; done) | (simp; omega))
    have hL : st_r 0 0 M102 (G.2.2.2 1) ([114, 119, 120, 100]) := hL.p hf104 (by first | decide | (simp; done) | (simp; omega)) (by first | decide | (simp; done) | (simp; omega))
    have hf : sf (pk [75, 76]) M M102 := hf.tr hf104 (fun a t h => by first | exact h | (simp [pk] at h; done) | (simp [pk] at h ⊢; omega) | (simp [pk] at h ⊢; done))
    show sg_W X M102 0 0 36 [some (.ref x), some (.int (nI 0))] [.ref b]
    refine sg_pop (pc := 36) hC dX4_appendLetters_36 rfl ?_
    refine sg_iincN (pc := 37) (a := 0) (b := 1) hC dX4_appendLetters_37 rfl (nI_1 _) (by decide) ?_
    show sg_W X M102 0 0 40 [some (.ref x), some (.int (nI 1))] []
    refine sg_goto (pc := 40) 2 hC dX4_appendLetters_40 (by decide) ?_
    refine sg_iload_n (pc := 2) (x := nI 1) hC dX4_appendLetters_2 rfl ?_
    refine sg_ldc_rwxd (pc := 3) hC dX4_appendLetters_3 ?_
    obtain ⟨_, _, _, _, hx106, -⟩ := id hL
    refine sg_callV (pc := 5) (As := []) (rest := [.int (nI 1)]) (mc := 0) (ms := 0) hC tw_610 tw_482 tw_483 tw_65 tw_484 yd_J0_length_8abf5 (by decide) (ci := 0) rfl dX4_appendLetters_5 hx106 rfl (Nat.le_of_ble_eq_true rfl) (by first | omega | decide | exact Nat.lt_of_le_of_lt jshr (by omega) | exact Nat.lt_of_le_of_lt jand1 (by decide) | (simp only [List.length_append, List.length_cons, List.length_nil]; omega)) (by first | omega | decide | exact Nat.lt_of_le_of_lt jshr (by omega) | exact Nat.lt_of_le_of_lt jand1 (by decide) | (simp only [List.length_append, List.length_cons, List.length_nil]; omega)) ?_
    refine c_slen htr hL ?_
    show sg_W X M102 0 0 8 [some (.ref x), some (.int (nI 1))] [.int (nI 4), .int (nI 1)]
    refine sg_icmpN_ge (pc := 8) (a := 1) (b := 4) 43 hC dX4_appendLetters_8 (by decide) (by decide) (by decide) (fun h107 => absurd h107 (by decide)) (fun _ => ?_)
    refine sg_aload_n (pc := 11) (v := .ref x) hC dX4_appendLetters_11 rfl rfl ?_
    refine sg_get (pc := 12) (a := x) (v := .int (nI s.2.2.2.1)) 5 hC rfl inw_X4 (by decide) tw_555 dX4_appendLetters_12 hX rfl ?_
    refine sg_iload_n (pc := 15) (x := nI 1) hC dX4_appendLetters_15 rfl ?_
    refine sg_ishrN (pc := 16) (a := s.2.2.2.1) (b := 1) hC dX4_appendLetters_16 (by first | omega | decide | exact Nat.lt_of_le_of_lt jshr (by omega) | exact Nat.lt_of_le_of_lt jand1 (by decide) | (simp only [List.length_append, List.length_cons, List.length_nil]; omega)) (by first | omega | exact Nat.lt_of_le_of_lt jshr (by omega)) ?_
    refine sg_iconst (pc := 17) (nI 1) hC dX4_appendLetters_17 (by decide) ?_
    refine sg_iandN (pc := 18) (a := s.2.2.2.1 >>> 1) (b := 1) hC dX4_appendLetters_18 ?_
    refine sg_iconst (pc := 19) (nI 1) hC dX4_appendLetters_19 (by decide) ?_
    refine sg_icmpN_ne (pc := 20) (a := (s.2.2.2.1 >>> 1) &&& 1) (b := 1) 37 hC dX4_appendLetters_20 (by decide) (by first | omega | decide | exact Nat.lt_of_le_of_lt jshr (by omega) | exact Nat.lt_of_le_of_lt jand1 (by decide) | (simp only [List.length_append, List.length_cons, List.length_nil]; omega)) (by first | omega | decide | exact Nat.lt_of_le_of_lt jshr (by omega) | exact Nat.lt_of_le_of_lt jand1 (by decide) | (simp only [List.length_append, List.length_cons, List.length_nil]; omega)) (fun h108 => ?_) (fun h108 => ?_)
    · refine sg_iincN (pc := 37) (a := 1) (b := 2) hC dX4_appendLetters_37 rfl (nI_1 _) (by decide) ?_
      show sg_W X M102 0 0 40 [some (.ref x), some (.int (nI 2))] []
      refine sg_goto (pc := 40) 2 hC dX4_appendLetters_40 (by decide) ?_
      refine sg_iload_n (pc := 2) (x := nI 2) hC dX4_appendLetters_2 rfl ?_
      refine sg_ldc_rwxd (pc := 3) hC dX4_appendLetters_3 ?_
      obtain ⟨_, _, _, _, hx110, -⟩ := id hL
      refine sg_callV (pc := 5) (As := []) (rest := [.int (nI 2)]) (mc := 0) (ms := 0) hC tw_610 tw_482 tw_483 tw_65 tw_484 yd_J0_length_8abf5 (by decide) (ci := 0) rfl dX4_appendLetters_5 hx110 rfl (Nat.le_of_ble_eq_true rfl) (by first | omega | decide | exact Nat.lt_of_le_of_lt jshr (by omega) | exact Nat.lt_of_le_of_lt jand1 (by decide) | (simp only [List.length_append, List.length_cons, List.length_nil]; omega)) (by first | omega | decide | exact Nat.lt_of_le_of_lt jshr (by omega) | exact Nat.lt_of_le_of_lt jand1 (by decide) | (simp only [List.length_append, List.length_cons, List.length_nil]; omega)) ?_
      refine c_slen htr hL ?_
      show sg_W X M102 0 0 8 [some (.ref x), some (.int (nI 2))] [.int (nI 4), .int (nI 2)]
      refine sg_icmpN_ge (pc := 8) (a := 2) (b := 4) 43 hC dX4_appendLetters_8 (by decide) (by decide) (by decide) (fun h111 => absurd h111 (by decide)) (fun _ => ?_)
      refine sg_aload_n (pc := 11) (v := .ref x) hC dX4_appendLetters_11 rfl rfl ?_
      refine sg_get (pc := 12) (a := x) (v := .int (nI s.2.2.2.1)) 5 hC rfl inw_X4 (by decide) tw_555 dX4_appendLetters_12 hX rfl ?_
      refine sg_iload_n (pc := 15) (x := nI 2) hC dX4_appendLetters_15 rfl ?_
      refine sg_ishrN (pc := 16) (a := s.2.2.2.1) (b := 2) hC dX4_appendLetters_16 (by first | omega | decide | exact Nat.lt_of_le_of_lt jshr (by omega) | exact Nat.lt_of_le_of_lt jand1 (by decide) | (simp only [List.length_append, List.length_cons, List.length_nil]; omega)) (by first | omega | exact Nat.lt_of_le_of_lt jshr (by omega)) ?_
      refine sg_iconst (pc := 17) (nI 1) hC dX4_appendLetters_17 (by decide) ?_
      refine sg_iandN (pc := 18) (a := s.2.2.2.1 >>> 2) (b := 1) hC dX4_appendLetters_18 ?_
      refine sg_iconst (pc := 19) (nI 1) hC dX4_appendLetters_19 (by decide) ?_
      refine sg_icmpN_ne (pc := 20) (a := (s.2.2.2.1 >>> 2) &&& 1) (b := 1) 37 hC dX4_appendLetters_20 (by decide) (by first | omega | decide | exact Nat.lt_of_le_of_lt jshr (by omega) | exact Nat.lt_of_le_of_lt jand1 (by decide) | (simp only [List.length_append, List.length_cons, List.length_nil]; omega)) (by first | omega | decide | exact Nat.lt_of_le_of_lt jshr (by omega) | exact Nat.lt_of_le_of_lt jand1 (by decide) | (simp only [List.length_append, List.length_cons, List.length_nil]; omega)) (fun h112 => ?_) (fun h112 => ?_)
      · refine sg_iincN (pc := 37) (a := 2) (b := 3) hC dX4_appendLetters_37 rfl (nI_1 _) (by decide) ?_
        show sg_W X M102 0 0 40 [some (.ref x), some (.int (nI 3))] []
        refine sg_goto (pc := 40) 2 hC dX4_appendLetters_40 (by decide) ?_
        refine sg_iload_n (pc := 2) (x := nI 3) hC dX4_appendLetters_2 rfl ?_
        refine sg_ldc_rwxd (pc := 3) hC dX4_appendLetters_3 ?_
        obtain ⟨_, _, _, _, hx114, -⟩ := id hL
        refine sg_callV (pc := 5) (As := []) (rest := [.int (nI 3)]) (mc := 0) (ms := 0) hC tw_610 tw_482 tw_483 tw_65 tw_484 yd_J0_length_8abf5 (by decide) (ci := 0) rfl dX4_appendLetters_5 hx114 rfl (Nat.le_of_ble_eq_true rfl) (by first | omega | decide | exact Nat.lt_of_le_of_lt jshr (by omega) | exact Nat.lt_of_le_of_lt jand1 (by decide) | (simp only [List.length_append, List.length_cons, List.length_nil]; omega)) (by first | omega | decide | exact Nat.lt_of_le_of_lt jshr (by omega) | exact Nat.lt_of_le_of_lt jand1 (by decide) | (simp only [List.length_append, List.length_cons, List.length_nil]; omega)) ?_
        refine c_slen htr hL ?_
        show sg_W X M102 0 0 8 [some (.ref x), some (.int (nI 3))] [.int (nI 4), .int (nI 3)]
        refine sg_icmpN_ge (pc := 8) (a := 3) (b := 4) 43 hC dX4_appendLetters_8 (by decide) (by decide) (by decide) (fun h115 => absurd h115 (by decide)) (fun _ => ?_)
        refine sg_aload_n (pc := 11) (v := .ref x) hC dX4_appendLetters_11 rfl rfl ?_
        refine sg_get (pc := 12) (a := x) (v := .int (nI s.2.2.2.1)) 5 hC rfl inw_X4 (by decide) tw_555 dX4_appendLetters_12 hX rfl ?_
        refine sg_iload_n (pc := 15) (x := nI 3) hC dX4_appendLetters_15 rfl ?_
        refine sg_ishrN (pc := 16) (a := s.2.2.2.1) (b := 3) hC dX4_appendLetters_16 (by first | omega | decide | exact Nat.lt_of_le_of_lt jshr (by omega) | exact Nat.lt_of_le_of_lt jand1 (by decide) | (simp only [List.length_append, List.length_cons, List.length_nil]; omega)) (by first | omega | exact Nat.lt_of_le_of_lt jshr (by omega)) ?_
        refine sg_iconst (pc := 17) (nI 1) hC dX4_appendLetters_17 (by decide) ?_
        refine sg_iandN (pc := 18) (a := s.2.2.2.1 >>> 3) (b := 1) hC dX4_appendLetters_18 ?_
        refine sg_iconst (pc := 19) (nI 1) hC dX4_appendLetters_19 (by decide) ?_
        refine sg_icmpN_ne (pc := 20) (a := (s.2.2.2.1 >>> 3) &&& 1) (b := 1) 37 hC dX4_appendLetters_20 (by decide) (by first | omega | decide | exact Nat.lt_of_le_of_lt jshr (by omega) | exact Nat.lt_of_le_of_lt jand1 (by decide) | (simp only [List.length_append, List.length_cons, List.length_nil]; omega)) (by first | omega | decide | exact Nat.lt_of_le_of_lt jshr (by omega) | exact Nat.lt_of_le_of_lt jand1 (by decide) | (simp only [List.length_append, List.length_cons, List.length_nil]; omega)) (fun h116 => ?_) (fun h116 => ?_)
        · refine sg_iincN (pc := 37) (a := 3) (b := 4) hC dX4_appendLetters_37 rfl (nI_1 _) (by decide) ?_
          show sg_W X M102 0 0 40 [some (.ref x), some (.int (nI 4))] []
          refine sg_goto (pc := 40) 2 hC dX4_appendLetters_40 (by decide) ?_
          refine sg_iload_n (pc := 2) (x := nI 4) hC dX4_appendLetters_2 rfl ?_
          refine sg_ldc_rwxd (pc := 3) hC dX4_appendLetters_3 ?_
          obtain ⟨_, _, _, _, hx118, -⟩ := id hL
          refine sg_callV (pc := 5) (As := []) (rest := [.int (nI 4)]) (mc := 0) (ms := 0) hC tw_610 tw_482 tw_483 tw_65 tw_484 yd_J0_length_8abf5 (by decide) (ci := 0) rfl dX4_appendLetters_5 hx118 rfl (Nat.le_of_ble_eq_true rfl) (by first | omega | decide | exact Nat.lt_of_le_of_lt jshr (by omega) | exact Nat.lt_of_le_of_lt jand1 (by decide) | (simp only [List.length_append, List.length_cons, List.length_nil]; omega)) (by first | omega | decide | exact Nat.lt_of_le_of_lt jshr (by omega) | exact Nat.lt_of_le_of_lt jand1 (by decide) | (simp only [List.length_append, List.length_cons, List.length_nil]; omega)) ?_
          refine c_slen htr hL ?_
          show sg_W X M102 0 0 8 [some (.ref x), some (.int (nI 4))] [.int (nI 4), .int (nI 4)]
          refine sg_icmpN_ge (pc := 8) (a := 4) (b := 4) 43 hC dX4_appendLetters_8 (by decide) (by decide) (by decide) (fun _ => ?_) (fun h119 => absurd h119 (by decide))
          have e9 : w ++ lets s.2.2.2.1 = w ++ [114] := by unfold lets; rw [if_pos h4, if_neg h108, if_neg h112, if_neg h116]; simp
          rw [e9] at hk
          exact sg_vreturn (st := []) (pc := 43) hC hR dX4_appendLetters_43 (hk _ hs103 hf)
        · refine sg_aload_n (pc := 23) (v := .ref x) hC dX4_appendLetters_23 rfl rfl ?_
          refine sg_get (pc := 24) (a := x) (v := .ref b) 3 hC rfl inw_X4 (by decide) tw_553 dX4_appendLetters_24 hX rfl ?_
          refine sg_ldc_rwxd (pc := 27) hC dX4_appendLetters_27 ?_
          refine sg_iload_n (pc := 29) (x := nI 3) hC dX4_appendLetters_29 rfl ?_
          obtain ⟨_, _, _, _, hx121, -⟩ := id hL
          refine sg_callV (pc := 30) (As := [.int (nI 3)]) (rest := [.ref b]) (mc := 0) (ms := 0) hC tw_611 tw_612 tw_613 tw_65 tw_614 yd_J0_charAt_5068e (by decide) (ci := 0) rfl dX4_appendLetters_30 hx121 rfl (Nat.le_of_ble_eq_true rfl) (by first | omega | decide | exact Nat.lt_of_le_of_lt jshr (by omega) | exact Nat.lt_of_le_of_lt jand1 (by decide) | (simp only [List.length_append, List.length_cons, List.length_nil]; omega)) (by first | omega | decide | exact Nat.lt_of_le_of_lt jshr (by omega) | exact Nat.lt_of_le_of_lt jand1 (by decide) | (simp only [List.length_append, List.length_cons, List.length_nil]; omega)) ?_
          refine c_charAt htr hL (by first | omega | decide | exact Nat.lt_of_le_of_lt jshr (by omega) | exact Nat.lt_of_le_of_lt jand1 (by decide) | (simp only [List.length_append, List.length_cons, List.length_nil]; omega)) ?_
          show sg_W X M102 0 0 33 [some (.ref x), some (.int (nI 3))] [.int (nI 100), .ref b]
          obtain ⟨_, _, _, hx122, -⟩ := id hs103
          refine sg_callV (pc := 33) (As := [.int (nI 100)]) (rest := []) (mc := 0) (ms := 0) hC tw_642 tw_224 tw_225 tw_64 tw_226 yd_J4_append_cf468 (by decide) (ci := 1) rfl dX4_appendLetters_33 hx122 rfl (Nat.le_of_ble_eq_true rfl) (by first | omega | decide | exact Nat.lt_of_le_of_lt jshr (by omega) | exact Nat.lt_of_le_of_lt jand1 (by decide) | (simp only [List.length_append, List.length_cons, List.length_nil]; omega)) (by first | omega | decide | exact Nat.lt_of_le_of_lt jshr (by omega) | exact Nat.lt_of_le_of_lt jand1 (by decide) | (simp only [List.length_append, List.length_cons, List.length_nil]; omega)) ?_
          refine c_sbAppC htr hs103 (by first | omega | decide | exact Nat.lt_of_le_of_lt jshr (by omega) | exact Nat.lt_of_le_of_lt jand1 (by decide) | (simp only [List.length_append, List.length_cons, List.length_nil]; omega)) (by first | omega | decide | exact Nat.lt_of_le_of_lt jshr (by omega) | exact Nat.lt_of_le_of_lt jand1 (by decide) | (simp only [List.length_append, List.length_cons, List.length_nil]; omega)) (by first | omega | decide | exact Nat.lt_of_le_of_lt jshr (by omega) | exact Nat.lt_of_le_of_lt jand1 (by decide) | (simp only [List.length_append, List.length_cons, List.length_nil]; omega)) (by first | omega | decide | exact Nat.lt_of_le_of_lt jshr (by omega) | exact Nat.lt_of_le_of_lt jand1 (by decide) | (simp only [List.length_append, List.length_cons, List.length_nil]; omega)) (by first | omega | decide | exact Nat.lt_of_le_of_lt jshr (by omega) | exact Nat.lt_of_le_of_lt jand1 (by decide) | (simp only [List.length_append, List.length_cons, List.length_nil]; omega)) (fun M123 hs124 hf125 => ?_)
          have hX : M123 x = some (74, .inr (7, [.ref ta, .int (nI s.1), .int (nI kd), .ref b, .int (nI s.2.2.1), .int (nI s.2.2.2.1), .int (nI s.2.2.2.2.1), .int (nI s.2.2.2.2.2)])) := hf125.p hX (by first | decide | (simp; done) | (simp; omega))
          have hL : st_r 0 0 M123 (G.2.2.2 1) ([114, 119, 120, 100]) := hL.p hf125 (by first | decide | (simp; done) | (simp; omega)) (by first | decide | (simp; done) | (simp; omega))
          have hf : sf (pk [75, 76]) M M123 := hf.tr hf125 (fun a t h => by first | exact h | (simp [pk] at h; done) | (simp [pk] at h ⊢; omega) | (simp [pk] at h ⊢; done))
          show sg_W X M123 0 0 36 [some (.ref x), some (.int (nI 3))] [.ref b]
          refine sg_pop (pc := 36) hC dX4_appendLetters_36 rfl ?_
          refine sg_iincN (pc := 37) (a := 3) (b := 4) hC dX4_appendLetters_37 rfl (nI_1 _) (by decide) ?_
          show sg_W X M123 0 0 40 [some (.ref x), some (.int (nI 4))] []
          refine sg_goto (pc := 40) 2 hC dX4_appendLetters_40 (by decide) ?_
          refine sg_iload_n (pc := 2) (x := nI 4) hC dX4_appendLetters_2 rfl ?_
          refine sg_ldc_rwxd (pc := 3) hC dX4_appendLetters_3 ?_
          obtain ⟨_, _, _, _, hx127, -⟩ := id hL
          refine sg_callV (pc := 5) (As := []) (rest := [.int (nI 4)]) (mc := 0) (ms := 0) hC tw_610 tw_482 tw_483 tw_65 tw_484 yd_J0_length_8abf5 (by decide) (ci := 0) rfl dX4_appendLetters_5 hx127 rfl (Nat.le_of_ble_eq_true rfl) (by first | omega | decide | exact Nat.lt_of_le_of_lt jshr (by omega) | exact Nat.lt_of_le_of_lt jand1 (by decide) | (simp only [List.length_append, List.length_cons, List.length_nil]; omega)) (by first | omega | decide | exact Nat.lt_of_le_of_lt jshr (by omega) | exact Nat.lt_of_le_of_lt jand1 (by decide) | (simp only [List.length_append, List.length_cons, List.length_nil]; omega)) ?_
          refine c_slen htr hL ?_
          show sg_W X M123 0 0 8 [some (.ref x), some (.int (nI 4))] [.int (nI 4), .int (nI 4)]
          refine sg_icmpN_ge (pc := 8) (a := 4) (b := 4) 43 hC dX4_appendLetters_8 (by decide) (by decide) (by decide) (fun _ => ?_) (fun h128 => absurd h128 (by decide))
          have e9 : w ++ lets s.2.2.2.1 = w ++ [114] ++ [100] := by unfold lets; rw [if_pos h4, if_neg h108, if_neg h112, if_pos h116]; simp
          rw [e9] at hk
          exact sg_vreturn (st := []) (pc := 43) hC hR dX4_appendLetters_43 (hk _ hs124 hf)
      · refine sg_aload_n (pc := 23) (v := .ref x) hC dX4_appendLetters_23 rfl rfl ?_
        refine sg_get (pc := 24) (a := x) (v := .ref b) 3 hC rfl inw_X4 (by decide) tw_553 dX4_appendLetters_24 hX rfl ?_
        refine sg_ldc_rwxd (pc := 27) hC dX4_appendLetters_27 ?_
        refine sg_iload_n (pc := 29) (x := nI 2) hC dX4_appendLetters_29 rfl ?_
        obtain ⟨_, _, _, _, hx130, -⟩ := id hL
        refine sg_callV (pc := 30) (As := [.int (nI 2)]) (rest := [.ref b]) (mc := 0) (ms := 0) hC tw_611 tw_612 tw_613 tw_65 tw_614 yd_J0_charAt_5068e (by decide) (ci := 0) rfl dX4_appendLetters_30 hx130 rfl (Nat.le_of_ble_eq_true rfl) (by first | omega | decide | exact Nat.lt_of_le_of_lt jshr (by omega) | exact Nat.lt_of_le_of_lt jand1 (by decide) | (simp only [List.length_append, List.length_cons, List.length_nil]; omega)) (by first | omega | decide | exact Nat.lt_of_le_of_lt jshr (by omega) | exact Nat.lt_of_le_of_lt jand1 (by decide) | (simp only [List.length_append, List.length_cons, List.length_nil]; omega)) ?_
        refine c_charAt htr hL (by first | omega | decide | exact Nat.lt_of_le_of_lt jshr (by omega) | exact Nat.lt_of_le_of_lt jand1 (by decide) | (simp only [List.length_append, List.length_cons, List.length_nil]; omega)) ?_
        show sg_W X M102 0 0 33 [some (.ref x), some (.int (nI 2))] [.int (nI 120), .ref b]
        obtain ⟨_, _, _, hx131, -⟩ := id hs103
        refine sg_callV (pc := 33) (As := [.int (nI 120)]) (rest := []) (mc := 0) (ms := 0) hC tw_642 tw_224 tw_225 tw_64 tw_226 yd_J4_append_cf468 (by decide) (ci := 1) rfl dX4_appendLetters_33 hx131 rfl (Nat.le_of_ble_eq_true rfl) (by first | omega | decide | exact Nat.lt_of_le_of_lt jshr (by omega) | exact Nat.lt_of_le_of_lt jand1 (by decide) | (simp only [List.length_append, List.length_cons, List.length_nil]; omega)) (by first | omega | decide | exact Nat.lt_of_le_of_lt jshr (by omega) | exact Nat.lt_of_le_of_lt jand1 (by decide) | (simp only [List.length_append, List.length_cons, List.length_nil]; omega)) ?_
        refine c_sbAppC htr hs103 (by first | omega | decide | exact Nat.lt_of_le_of_lt jshr (by omega) | exact Nat.lt_of_le_of_lt jand1 (by decide) | (simp only [List.length_append, List.length_cons, List.length_nil]; omega)) (by first | omega | decide | exact Nat.lt_of_le_of_lt jshr (by omega) | exact Nat.lt_of_le_of_lt jand1 (by decide) | (simp only [List.length_append, List.length_cons, List.length_nil]; omega)) (by first | omega | decide | exact Nat.lt_of_le_of_lt jshr (by omega) | exact Nat.lt_of_le_of_lt jand1 (by decide) | (simp only [List.length_append, List.length_cons, List.length_nil]; omega)) (by first | omega | decide | exact Nat.lt_of_le_of_lt jshr (by omega) | exact Nat.lt_of_le_of_lt jand1 (by decide) | (simp only [List.length_append, List.length_cons, List.length_nil]; omega)) (by first | omega | decide | exact Nat.lt_of_le_of_lt jshr (by omega) | exact Nat.lt_of_le_of_lt jand1 (by decide) | (simp only [List.length_append, List.length_cons, List.length_nil]; omega)) (fun M132 hs133 hf134 => ?_)
        have hX : M132 x = some (74, .inr (7, [.ref ta, .int (nI s.1), .int (nI kd), .ref b, .int (nI s.2.2.1), .int (nI s.2.2.2.1), .int (nI s.2.2.2.2.1), .int (nI s.2.2.2.2.2)])) := hf134.p hX (by first | decide | (simp; done) | (simp; omega))
        have hL : st_r 0 0 M132 (G.2.2.2 1) ([114, 119, 120, 100]) := hL.p hf134 (by first | decide | (simp; done) | (simp; omega)) (by first | decide | (simp; done) | (simp; omega))
        have hf : sf (pk [75, 76]) M M132 := hf.tr hf134 (fun a t h => by first | exact h | (simp [pk] at h; done) | (simp [pk] at h ⊢; omega) | (simp [pk] at h ⊢; done))
        show sg_W X M132 0 0 36 [some (.ref x), some (.int (nI 2))] [.ref b]
        refine sg_pop (pc := 36) hC dX4_appendLetters_36 rfl ?_
        refine sg_iincN (pc := 37) (a := 2) (b := 3) hC dX4_appendLetters_37 rfl (nI_1 _) (by decide) ?_
        show sg_W X M132 0 0 40 [some (.ref x), some (.int (nI 3))] []
        refine sg_goto (pc := 40) 2 hC dX4_appendLetters_40 (by decide) ?_
        refine sg_iload_n (pc := 2) (x := nI 3) hC dX4_appendLetters_2 rfl ?_
        refine sg_ldc_rwxd (pc := 3) hC dX4_appendLetters_3 ?_
        obtain ⟨_, _, _, _, hx136, -⟩ := id hL
        refine sg_callV (pc := 5) (As := []) (rest := [.int (nI 3)]) (mc := 0) (ms := 0) hC tw_610 tw_482 tw_483 tw_65 tw_484 yd_J0_length_8abf5 (by decide) (ci := 0) rfl dX4_appendLetters_5 hx136 rfl (Nat.le_of_ble_eq_true rfl) (by first | omega | decide | exact Nat.lt_of_le_of_lt jshr (by omega) | exact Nat.lt_of_le_of_lt jand1 (by decide) | (simp only [List.length_append, List.length_cons, List.length_nil]; omega)) (by first | omega | decide | exact Nat.lt_of_le_of_lt jshr (by omega) | exact Nat.lt_of_le_of_lt jand1 (by decide) | (simp only [List.length_append, List.length_cons, List.length_nil]; omega)) ?_
        refine c_slen htr hL ?_
        show sg_W X M132 0 0 8 [some (.ref x), some (.int (nI 3))] [.int (nI 4), .int (nI 3)]
        refine sg_icmpN_ge (pc := 8) (a := 3) (b := 4) 43 hC dX4_appendLetters_8 (by decide) (by decide) (by decide) (fun h137 => absurd h137 (by decide)) (fun _ => ?_)
        refine sg_aload_n (pc := 11) (v := .ref x) hC dX4_appendLetters_11 rfl rfl ?_
        refine sg_get (pc := 12) (a := x) (v := .int (nI s.2.2.2.1)) 5 hC rfl inw_X4 (by decide) tw_555 dX4_appendLetters_12 hX rfl ?_
        refine sg_iload_n (pc := 15) (x := nI 3) hC dX4_appendLetters_15 rfl ?_
        refine sg_ishrN (pc := 16) (a := s.2.2.2.1) (b := 3) hC dX4_appendLetters_16 (by first | omega | decide | exact Nat.lt_of_le_of_lt jshr (by omega) | exact Nat.lt_of_le_of_lt jand1 (by decide) | (simp only [List.length_append, List.length_cons, List.length_nil]; omega)) (by first | omega | exact Nat.lt_of_le_of_lt jshr (by omega)) ?_
        refine sg_iconst (pc := 17) (nI 1) hC dX4_appendLetters_17 (by decide) ?_
        refine sg_iandN (pc := 18) (a := s.2.2.2.1 >>> 3) (b := 1) hC dX4_appendLetters_18 ?_
        refine sg_iconst (pc := 19) (nI 1) hC dX4_appendLetters_19 (by decide) ?_
        refine sg_icmpN_ne (pc := 20) (a := (s.2.2.2.1 >>> 3) &&& 1) (b := 1) 37 hC dX4_appendLetters_20 (by decide) (by first | omega | decide | exact Nat.lt_of_le_of_lt jshr (by omega) | exact Nat.lt_of_le_of_lt jand1 (by decide) | (simp only [List.length_append, List.length_cons, List.length_nil]; omega)) (by first | omega | decide | exact Nat.lt_of_le_of_lt jshr (by omega) | exact Nat.lt_of_le_of_lt jand1 (by decide) | (simp only [List.length_append, List.length_cons, List.length_nil]; omega)) (fun h138 => ?_) (fun h138 => ?_)
        · refine sg_iincN (pc := 37) (a := 3) (b := 4) hC dX4_appendLetters_37 rfl (nI_1 _) (by decide) ?_
          show sg_W X M132 0 0 40 [some (.ref x), some (.int (nI 4))] []
          refine sg_goto (pc := 40) 2 hC dX4_appendLetters_40 (by decide) ?_
          refine sg_iload_n (pc := 2) (x := nI 4) hC dX4_appendLetters_2 rfl ?_
          refine sg_ldc_rwxd (pc := 3) hC dX4_appendLetters_3 ?_
          obtain ⟨_, _, _, _, hx140, -⟩ := id hL
          refine sg_callV (pc := 5) (As := []) (rest := [.int (nI 4)]) (mc := 0) (ms := 0) hC tw_610 tw_482 tw_483 tw_65 tw_484 yd_J0_length_8abf5 (by decide) (ci := 0) rfl dX4_appendLetters_5 hx140 rfl (Nat.le_of_ble_eq_true rfl) (by first | omega | decide | exact Nat.lt_of_le_of_lt jshr (by omega) | exact Nat.lt_of_le_of_lt jand1 (by decide) | (simp only [List.length_append, List.length_cons, List.length_nil]; omega)) (by first | omega | decide | exact Nat.lt_of_le_of_lt jshr (by omega) | exact Nat.lt_of_le_of_lt jand1 (by decide) | (simp only [List.length_append, List.length_cons, List.length_nil]; omega)) ?_
          refine c_slen htr hL ?_
          show sg_W X M132 0 0 8 [some (.ref x), some (.int (nI 4))] [.int (nI 4), .int (nI 4)]
          refine sg_icmpN_ge (pc := 8) (a := 4) (b := 4) 43 hC dX4_appendLetters_8 (by decide) (by decide) (by decide) (fun _ => ?_) (fun h141 => absurd h141 (by decide))
          have e9 : w ++ lets s.2.2.2.1 = w ++ [114] ++ [120] := by unfold lets; rw [if_pos h4, if_neg h108, if_pos h112, if_neg h138]; simp
          rw [e9] at hk
          exact sg_vreturn (st := []) (pc := 43) hC hR dX4_appendLetters_43 (hk _ hs133 hf)
        · refine sg_aload_n (pc := 23) (v := .ref x) hC dX4_appendLetters_23 rfl rfl ?_
          refine sg_get (pc := 24) (a := x) (v := .ref b) 3 hC rfl inw_X4 (by decide) tw_553 dX4_appendLetters_24 hX rfl ?_
          refine sg_ldc_rwxd (pc := 27) hC dX4_appendLetters_27 ?_
          refine sg_iload_n (pc := 29) (x := nI 3) hC dX4_appendLetters_29 rfl ?_
          obtain ⟨_, _, _, _, hx143, -⟩ := id hL
          refine sg_callV (pc := 30) (As := [.int (nI 3)]) (rest := [.ref b]) (mc := 0) (ms := 0) hC tw_611 tw_612 tw_613 tw_65 tw_614 yd_J0_charAt_5068e (by decide) (ci := 0) rfl dX4_appendLetters_30 hx143 rfl (Nat.le_of_ble_eq_true rfl) (by first | omega | decide | exact Nat.lt_of_le_of_lt jshr (by omega) | exact Nat.lt_of_le_of_lt jand1 (by decide) | (simp only [List.length_append, List.length_cons, List.length_nil]; omega)) (by first | omega | decide | exact Nat.lt_of_le_of_lt jshr (by omega) | exact Nat.lt_of_le_of_lt jand1 (by decide) | (simp only [List.length_append, List.length_cons, List.length_nil]; omega)) ?_
          refine c_charAt htr hL (by first | omega | decide | exact Nat.lt_of_le_of_lt jshr (by omega) | exact Nat.lt_of_le_of_lt jand1 (by decide) | (simp only [List.length_append, List.length_cons, List.length_nil]; omega)) ?_
          show sg_W X M132 0 0 33 [some (.ref x), some (.int (nI 3))] [.int (nI 100), .ref b]
          obtain ⟨_, _, _, hx144, -⟩ := id hs133
          refine sg_callV (pc := 33) (As := [.int (nI 100)]) (rest := []) (mc := 0) (ms := 0) hC tw_642 tw_224 tw_225 tw_64 tw_226 yd_J4_append_cf468 (by decide) (ci := 1) rfl dX4_appendLetters_33 hx144 rfl (Nat.le_of_ble_eq_true rfl) (by first | omega | decide | exact Nat.lt_of_le_of_lt jshr (by omega) | exact Nat.lt_of_le_of_lt jand1 (by decide) | (simp only [List.length_append, List.length_cons, List.length_nil]; omega)) (by first | omega | decide | exact Nat.lt_of_le_of_lt jshr (by omega) | exact Nat.lt_of_le_of_lt jand1 (by decide) | (simp only [List.length_append, List.length_cons, List.length_nil]; omega)) ?_
          refine c_sbAppC htr hs133 (by first | omega | decide | exact Nat.lt_of_le_of_lt jshr (by omega) | exact Nat.lt_of_le_of_lt jand1 (by decide) | (simp only [List.length_append, List.length_cons, List.length_nil]; omega)) (by first | omega | decide | exact Nat.lt_of_le_of_lt jshr (by omega) | exact Nat.lt_of_le_of_lt jand1 (by decide) | (simp only [List.length_append, List.length_cons, List.length_nil]; omega)) (by first | omega | decide | exact Nat.lt_of_le_of_lt jshr (by omega) | exact Nat.lt_of_le_of_lt jand1 (by decide) | (simp only [List.length_append, List.length_cons, List.length_nil]; omega)) (by first | omega | decide | exact Nat.lt_of_le_of_lt jshr (by omega) | exact Nat.lt_of_le_of_lt jand1 (by decide) | (simp only [List.length_append, List.length_cons, List.length_nil]; omega)) (by first | omega | decide | exact Nat.lt_of_le_of_lt jshr (by omega) | exact Nat.lt_of_le_of_lt jand1 (by decide) | (simp only [List.length_append, List.length_cons, List.length_nil]; omega)) (fun M145 hs146 hf147 => ?_)
          have hX : M145 x = some (74, .inr (7, [.ref ta, .int (nI s.1), .int (nI kd), .ref b, .int (nI s.2.2.1), .int (nI s.2.2.2.1), .int (nI s.2.2.2.2.1), .int (nI s.2.2.2.2.2)])) := hf147.p hX (by first | decide | (simp; done) | (simp; omega))
          have hL : st_r 0 0 M145 (G.2.2.2 1) ([114, 119, 120, 100]) := hL.p hf147 (by first | decide | (simp; done) | (simp; omega)) (by first | decide | (simp; done) | (simp; omega))
          have hf : sf (pk [75, 76]) M M145 := hf.tr hf147 (fun a t h => by first | exact h | (simp [pk] at h; done) | (simp [pk] at h ⊢; omega) | (simp [pk] at h ⊢; done))
          show sg_W X M145 0 0 36 [some (.ref x), some (.int (nI 3))] [.ref b]
          refine sg_pop (pc := 36) hC dX4_appendLetters_36 rfl ?_
          refine sg_iincN (pc := 37) (a := 3) (b := 4) hC dX4_appendLetters_37 rfl (nI_1 _) (by decide) ?_
          show sg_W X M145 0 0 40 [some (.ref x), some (.int (nI 4))] []
          refine sg_goto (pc := 40) 2 hC dX4_appendLetters_40 (by decide) ?_
          refine sg_iload_n (pc := 2) (x := nI 4) hC dX4_appendLetters_2 rfl ?_
          refine sg_ldc_rwxd (pc := 3) hC dX4_appendLetters_3 ?_
          obtain ⟨_, _, _, _, hx149, -⟩ := id hL
          refine sg_callV (pc := 5) (As := []) (rest := [.int (nI 4)]) (mc := 0) (ms := 0) hC tw_610 tw_482 tw_483 tw_65 tw_484 yd_J0_length_8abf5 (by decide) (ci := 0) rfl dX4_appendLetters_5 hx149 rfl (Nat.le_of_ble_eq_true rfl) (by first | omega | decide | exact Nat.lt_of_le_of_lt jshr (by omega) | exact Nat.lt_of_le_of_lt jand1 (by decide) | (simp only [List.length_append, List.length_cons, List.length_nil]; omega)) (by first | omega | decide | exact Nat.lt_of_le_of_lt jshr (by omega) | exact Nat.lt_of_le_of_lt jand1 (by decide) | (simp only [List.length_append, List.length_cons, List.length_nil]; omega)) ?_
          refine c_slen htr hL ?_
          show sg_W X M145 0 0 8 [some (.ref x), some (.int (nI 4))] [.int (nI 4), .int (nI 4)]
          refine sg_icmpN_ge (pc := 8) (a := 4) (b := 4) 43 hC dX4_appendLetters_8 (by decide) (by decide) (by decide) (fun _ => ?_) (fun h150 => absurd h150 (by decide))
          have e9 : w ++ lets s.2.2.2.1 = w ++ [114] ++ [120] ++ [100] := by unfold lets; rw [if_pos h4, if_neg h108, if_pos h112, if_pos h138]; simp
          rw [e9] at hk
          exact sg_vreturn (st := []) (pc := 43) hC hR dX4_appendLetters_43 (hk _ hs146 hf)
    · refine sg_aload_n (pc := 23) (v := .ref x) hC dX4_appendLetters_23 rfl rfl ?_
      refine sg_get (pc := 24) (a := x) (v := .ref b) 3 hC rfl inw_X4 (by decide) tw_553 dX4_appendLetters_24 hX rfl ?_
      refine sg_ldc_rwxd (pc := 27) hC dX4_appendLetters_27 ?_
      refine sg_iload_n (pc := 29) (x := nI 1) hC dX4_appendLetters_29 rfl ?_
      obtain ⟨_, _, _, _, hx152, -⟩ := id hL
      refine sg_callV (pc := 30) (As := [.int (nI 1)]) (rest := [.ref b]) (mc := 0) (ms := 0) hC tw_611 tw_612 tw_613 tw_65 tw_614 yd_J0_charAt_5068e (by decide) (ci := 0) rfl dX4_appendLetters_30 hx152 rfl (Nat.le_of_ble_eq_true rfl) (by first | omega | decide | exact Nat.lt_of_le_of_lt jshr (by omega) | exact Nat.lt_of_le_of_lt jand1 (by decide) | (simp only [List.length_append, List.length_cons, List.length_nil]; omega)) (by first | omega | decide | exact Nat.lt_of_le_of_lt jshr (by omega) | exact Nat.lt_of_le_of_lt jand1 (by decide) | (simp only [List.length_append, List.length_cons, List.length_nil]; omega)) ?_
      refine c_charAt htr hL (by first | omega | decide | exact Nat.lt_of_le_of_lt jshr (by omega) | exact Nat.lt_of_le_of_lt jand1 (by decide) | (simp only [List.length_append, List.length_cons, List.length_nil]; omega)) ?_
      show sg_W X M102 0 0 33 [some (.ref x), some (.int (nI 1))] [.int (nI 119), .ref b]
      obtain ⟨_, _, _, hx153, -⟩ := id hs103
      refine sg_callV (pc := 33) (As := [.int (nI 119)]) (rest := []) (mc := 0) (ms := 0) hC tw_642 tw_224 tw_225 tw_64 tw_226 yd_J4_append_cf468 (by decide) (ci := 1) rfl dX4_appendLetters_33 hx153 rfl (Nat.le_of_ble_eq_true rfl) (by first | omega | decide | exact Nat.lt_of_le_of_lt jshr (by omega) | exact Nat.lt_of_le_of_lt jand1 (by decide) | (simp only [List.length_append, List.length_cons, List.length_nil]; omega)) (by first | omega | decide | exact Nat.lt_of_le_of_lt jshr (by omega) | exact Nat.lt_of_le_of_lt jand1 (by decide) | (simp only [List.length_append, List.length_cons, List.length_nil]; omega)) ?_
      refine c_sbAppC htr hs103 (by first | omega | decide | exact Nat.lt_of_le_of_lt jshr (by omega) | exact Nat.lt_of_le_of_lt jand1 (by decide) | (simp only [List.length_append, List.length_cons, List.length_nil]; omega)) (by first | omega | decide | exact Nat.lt_of_le_of_lt jshr (by omega) | exact Nat.lt_of_le_of_lt jand1 (by decide) | (simp only [List.length_append, List.length_cons, List.length_nil]; omega)) (by first | omega | decide | exact Nat.lt_of_le_of_lt jshr (by omega) | exact Nat.lt_of_le_of_lt jand1 (by decide) | (simp only [List.length_append, List.length_cons, List.length_nil]; omega)) (by first | omega | decide | exact Nat.lt_of_le_of_lt jshr (by omega) | exact Nat.lt_of_le_of_lt jand1 (by decide) | (simp only [List.length_append, List.length_cons, List.length_nil]; omega)) (by first | omega | decide | exact Nat.lt_of_le_of_lt jshr (by omega) | exact Nat.lt_of_le_of_lt jand1 (by decide) | (simp only [List.length_append, List.length_cons, List.length_nil]; omega)) (fun M154 hs155 hf156 => ?_)
      have hX : M154 x = some (74, .inr (7, [.ref ta, .int (nI s.1), .int (nI kd), .ref b, .int (nI s.2.2.1), .int (nI s.2.2.2.1), .int (nI s.2.2.2.2.1), .int (nI s.2.2.2.2.2)])) := hf156.p hX (by first | decide | (simp; done) | (simp; omega))
      have hL : st_r 0 0 M154 (G.2.2.2 1) ([114, 119, 120, 100]) := hL.p hf156 (by first | decide | (simp; done) | (simp; omega)) (by first | decide | (simp; done) | (simp; omega))
      have hf : sf (pk [75, 76]) M M154 := hf.tr hf156 (fun a t h => by first | exact h | (simp [pk] at h; done) | (simp [pk] at h ⊢; omega) | (simp [pk] at h ⊢; done))
      show sg_W X M154 0 0 36 [some (.ref x), some (.int (nI 1))] [.ref b]
      refine sg_pop (pc := 36) hC dX4_appendLetters_36 rfl ?_
      refine sg_iincN (pc := 37) (a := 1) (b := 2) hC dX4_appendLetters_37 rfl (nI_1 _) (by decide) ?_
      show sg_W X M154 0 0 40 [some (.ref x), some (.int (nI 2))] []
      refine sg_goto (pc := 40) 2 hC dX4_appendLetters_40 (by decide) ?_
      refine sg_iload_n (pc := 2) (x := nI 2) hC dX4_appendLetters_2 rfl ?_
      refine sg_ldc_rwxd (pc := 3) hC dX4_appendLetters_3 ?_
      obtain ⟨_, _, _, _, hx158, -⟩ := id hL
      refine sg_callV (pc := 5) (As := []) (rest := [.int (nI 2)]) (mc := 0) (ms := 0) hC tw_610 tw_482 tw_483 tw_65 tw_484 yd_J0_length_8abf5 (by decide) (ci := 0) rfl dX4_appendLetters_5 hx158 rfl (Nat.le_of_ble_eq_true rfl) (by first | omega | decide | exact Nat.lt_of_le_of_lt jshr (by omega) | exact Nat.lt_of_le_of_lt jand1 (by decide) | (simp only [List.length_append, List.length_cons, List.length_nil]; omega)) (by first | omega | decide | exact Nat.lt_of_le_of_lt jshr (by omega) | exact Nat.lt_of_le_of_lt jand1 (by decide) | (simp only [List.length_append, List.length_cons, List.length_nil]; omega)) ?_
      refine c_slen htr hL ?_
      show sg_W X M154 0 0 8 [some (.ref x), some (.int (nI 2))] [.int (nI 4), .int (nI 2)]
      refine sg_icmpN_ge (pc := 8) (a := 2) (b := 4) 43 hC dX4_appendLetters_8 (by decide) (by decide) (by decide) (fun h159 => absurd h159 (by decide)) (fun _ => ?_)
      refine sg_aload_n (pc := 11) (v := .ref x) hC dX4_appendLetters_11 rfl rfl ?_
      refine sg_get (pc := 12) (a := x) (v := .int (nI s.2.2.2.1)) 5 hC rfl inw_X4 (by decide) tw_555 dX4_appendLetters_12 hX rfl ?_
      refine sg_iload_n (pc := 15) (x := nI 2) hC dX4_appendLetters_15 rfl ?_
      refine sg_ishrN (pc := 16) (a := s.2.2.2.1) (b := 2) hC dX4_appendLetters_16 (by first | omega | decide | exact Nat.lt_of_le_of_lt jshr (by omega) | exact Nat.lt_of_le_of_lt jand1 (by decide) | (simp only [List.length_append, List.length_cons, List.length_nil]; omega)) (by first | omega | exact Nat.lt_of_le_of_lt jshr (by omega)) ?_
      refine sg_iconst (pc := 17) (nI 1) hC dX4_appendLetters_17 (by decide) ?_
      refine sg_iandN (pc := 18) (a := s.2.2.2.1 >>> 2) (b := 1) hC dX4_appendLetters_18 ?_
      refine sg_iconst (pc := 19) (nI 1) hC dX4_appendLetters_19 (by decide) ?_
      refine sg_icmpN_ne (pc := 20) (a := (s.2.2.2.1 >>> 2) &&& 1) (b := 1) 37 hC dX4_appendLetters_20 (by decide) (by first | omega | decide | exact Nat.lt_of_le_of_lt jshr (by omega) | exact Nat.lt_of_le_of_lt jand1 (by decide) | (simp only [List.length_append, List.length_cons, List.length_nil]; omega)) (by first | omega | decide | exact Nat.lt_of_le_of_lt jshr (by omega) | exact Nat.lt_of_le_of_lt jand1 (by decide) | (simp only [List.length_append, List.length_cons, List.length_nil]; omega)) (fun h160 => ?_) (fun h160 => ?_)
      · refine sg_iincN (pc := 37) (a := 2) (b := 3) hC dX4_appendLetters_37 rfl (nI_1 _) (by decide) ?_
        show sg_W X M154 0 0 40 [some (.ref x), some (.int (nI 3))] []
        refine sg_goto (pc := 40) 2 hC dX4_appendLetters_40 (by decide) ?_
        refine sg_iload_n (pc := 2) (x := nI 3) hC dX4_appendLetters_2 rfl ?_
        refine sg_ldc_rwxd (pc := 3) hC dX4_appendLetters_3 ?_
        obtain ⟨_, _, _, _, hx162, -⟩ := id hL
        refine sg_callV (pc := 5) (As := []) (rest := [.int (nI 3)]) (mc := 0) (ms := 0) hC tw_610 tw_482 tw_483 tw_65 tw_484 yd_J0_length_8abf5 (by decide) (ci := 0) rfl dX4_appendLetters_5 hx162 rfl (Nat.le_of_ble_eq_true rfl) (by first | omega | decide | exact Nat.lt_of_le_of_lt jshr (by omega) | exact Nat.lt_of_le_of_lt jand1 (by decide) | (simp only [List.length_append, List.length_cons, List.length_nil]; omega)) (by first | omega | decide | exact Nat.lt_of_le_of_lt jshr (by omega) | exact Nat.lt_of_le_of_lt jand1 (by decide) | (simp only [List.length_append, List.length_cons, List.length_nil]; omega)) ?_
        refine c_slen htr hL ?_
        show sg_W X M154 0 0 8 [some (.ref x), some (.int (nI 3))] [.int (nI 4), .int (nI 3)]
        refine sg_icmpN_ge (pc := 8) (a := 3) (b := 4) 43 hC dX4_appendLetters_8 (by decide) (by decide) (by decide) (fun h163 => absurd h163 (by decide)) (fun _ => ?_)
        refine sg_aload_n (pc := 11) (v := .ref x) hC dX4_appendLetters_11 rfl rfl ?_
        refine sg_get (pc := 12) (a := x) (v := .int (nI s.2.2.2.1)) 5 hC rfl inw_X4 (by decide) tw_555 dX4_appendLetters_12 hX rfl ?_
        refine sg_iload_n (pc := 15) (x := nI 3) hC dX4_appendLetters_15 rfl ?_
        refine sg_ishrN (pc := 16) (a := s.2.2.2.1) (b := 3) hC dX4_appendLetters_16 (by first | omega | decide | exact Nat.lt_of_le_of_lt jshr (by omega) | exact Nat.lt_of_le_of_lt jand1 (by decide) | (simp only [List.length_append, List.length_cons, List.length_nil]; omega)) (by first | omega | exact Nat.lt_of_le_of_lt jshr (by omega)) ?_
        refine sg_iconst (pc := 17) (nI 1) hC dX4_appendLetters_17 (by decide) ?_
        refine sg_iandN (pc := 18) (a := s.2.2.2.1 >>> 3) (b := 1) hC dX4_appendLetters_18 ?_
        refine sg_iconst (pc := 19) (nI 1) hC dX4_appendLetters_19 (by decide) ?_
        refine sg_icmpN_ne (pc := 20) (a := (s.2.2.2.1 >>> 3) &&& 1) (b := 1) 37 hC dX4_appendLetters_20 (by decide) (by first | omega | decide | exact Nat.lt_of_le_of_lt jshr (by omega) | exact Nat.lt_of_le_of_lt jand1 (by decide) | (simp only [List.length_append, List.length_cons, List.length_nil]; omega)) (by first | omega | decide | exact Nat.lt_of_le_of_lt jshr (by omega) | exact Nat.lt_of_le_of_lt jand1 (by decide) | (simp only [List.length_append, List.length_cons, List.length_nil]; omega)) (fun h164 => ?_) (fun h164 => ?_)
        · refine sg_iincN (pc := 37) (a := 3) (b := 4) hC dX4_appendLetters_37 rfl (nI_1 _) (by decide) ?_
          show sg_W X M154 0 0 40 [some (.ref x), some (.int (nI 4))] []
          refine sg_goto (pc := 40) 2 hC dX4_appendLetters_40 (by decide) ?_
          refine sg_iload_n (pc := 2) (x := nI 4) hC dX4_appendLetters_2 rfl ?_
          refine sg_ldc_rwxd (pc := 3) hC dX4_appendLetters_3 ?_
          obtain ⟨_, _, _, _, hx166, -⟩ := id hL
          refine sg_callV (pc := 5) (As := []) (rest := [.int (nI 4)]) (mc := 0) (ms := 0) hC tw_610 tw_482 tw_483 tw_65 tw_484 yd_J0_length_8abf5 (by decide) (ci := 0) rfl dX4_appendLetters_5 hx166 rfl (Nat.le_of_ble_eq_true rfl) (by first | omega | decide | exact Nat.lt_of_le_of_lt jshr (by omega) | exact Nat.lt_of_le_of_lt jand1 (by decide) | (simp only [List.length_append, List.length_cons, List.length_nil]; omega)) (by first | omega | decide | exact Nat.lt_of_le_of_lt jshr (by omega) | exact Nat.lt_of_le_of_lt jand1 (by decide) | (simp only [List.length_append, List.length_cons, List.length_nil]; omega)) ?_
          refine c_slen htr hL ?_
          show sg_W X M154 0 0 8 [some (.ref x), some (.int (nI 4))] [.int (nI 4), .int (nI 4)]
          refine sg_icmpN_ge (pc := 8) (a := 4) (b := 4) 43 hC dX4_appendLetters_8 (by decide) (by decide) (by decide) (fun _ => ?_) (fun h167 => absurd h167 (by decide))
          have e9 : w ++ lets s.2.2.2.1 = w ++ [114] ++ [119] := by unfold lets; rw [if_pos h4, if_pos h108, if_neg h160, if_neg h164]; simp
          rw [e9] at hk
          exact sg_vreturn (st := []) (pc := 43) hC hR dX4_appendLetters_43 (hk _ hs155 hf)
        · refine sg_aload_n (pc := 23) (v := .ref x) hC dX4_appendLetters_23 rfl rfl ?_
          refine sg_get (pc := 24) (a := x) (v := .ref b) 3 hC rfl inw_X4 (by decide) tw_553 dX4_appendLetters_24 hX rfl ?_
          refine sg_ldc_rwxd (pc := 27) hC dX4_appendLetters_27 ?_
          refine sg_iload_n (pc := 29) (x := nI 3) hC dX4_appendLetters_29 rfl ?_
          obtain ⟨_, _, _, _, hx169, -⟩ := id hL
          refine sg_callV (pc := 30) (As := [.int (nI 3)]) (rest := [.ref b]) (mc := 0) (ms := 0) hC tw_611 tw_612 tw_613 tw_65 tw_614 yd_J0_charAt_5068e (by decide) (ci := 0) rfl dX4_appendLetters_30 hx169 rfl (Nat.le_of_ble_eq_true rfl) (by first | omega | decide | exact Nat.lt_of_le_of_lt jshr (by omega) | exact Nat.lt_of_le_of_lt jand1 (by decide) | (simp only [List.length_append, List.length_cons, List.length_nil]; omega)) (by first | omega | decide | exact Nat.lt_of_le_of_lt jshr (by omega) | exact Nat.lt_of_le_of_lt jand1 (by decide) | (simp only [List.length_append, List.length_cons, List.length_nil]; omega)) ?_
          refine c_charAt htr hL (by first | omega | decide | exact Nat.lt_of_le_of_lt jshr (by omega) | exact Nat.lt_of_le_of_lt jand1 (by decide) | (simp only [List.length_append, List.length_cons, List.length_nil]; omega)) ?_
          show sg_W X M154 0 0 33 [some (.ref x), some (.int (nI 3))] [.int (nI 100), .ref b]
          obtain ⟨_, _, _, hx170, -⟩ := id hs155
          refine sg_callV (pc := 33) (As := [.int (nI 100)]) (rest := []) (mc := 0) (ms := 0) hC tw_642 tw_224 tw_225 tw_64 tw_226 yd_J4_append_cf468 (by decide) (ci := 1) rfl dX4_appendLetters_33 hx170 rfl (Nat.le_of_ble_eq_true rfl) (by first | omega | decide | exact Nat.lt_of_le_of_lt jshr (by omega) | exact Nat.lt_of_le_of_lt jand1 (by decide) | (simp only [List.length_append, List.length_cons, List.length_nil]; omega)) (by first | omega | decide | exact Nat.lt_of_le_of_lt jshr (by omega) | exact Nat.lt_of_le_of_lt jand1 (by decide) | (simp only [List.length_append, List.length_cons, List.length_nil]; omega)) ?_
          refine c_sbAppC htr hs155 (by first | omega | decide | exact Nat.lt_of_le_of_lt jshr (by omega) | exact Nat.lt_of_le_of_lt jand1 (by decide) | (simp only [List.length_append, List.length_cons, List.length_nil]; omega)) (by first | omega | decide | exact Nat.lt_of_le_of_lt jshr (by omega) | exact Nat.lt_of_le_of_lt jand1 (by decide) | (simp only [List.length_append, List.length_cons, List.length_nil]; omega)) (by first | omega | decide | exact Nat.lt_of_le_of_lt jshr (by omega) | exact Nat.lt_of_le_of_lt jand1 (by decide) | (simp only [List.length_append, List.length_cons, List.length_nil]; omega)) (by first | omega | decide | exact Nat.lt_of_le_of_lt jshr (by omega) | exact Nat.lt_of_le_of_lt jand1 (by decide) | (simp only [List.length_append, List.length_cons, List.length_nil]; omega)) (by first | omega | decide | exact Nat.lt_of_le_of_lt jshr (by omega) | exact Nat.lt_of_le_of_lt jand1 (by decide) | (simp only [List.length_append, List.length_cons, List.length_nil]; omega)) (fun M171 hs172 hf173 => ?_)
          have hX : M171 x = some (74, .inr (7, [.ref ta, .int (nI s.1), .int (nI kd), .ref b, .int (nI s.2.2.1), .int (nI s.2.2.2.1), .int (nI s.2.2.2.2.1), .int (nI s.2.2.2.2.2)])) := hf173.p hX (by first | decide | (simp; done) | (simp; omega))
          have hL : st_r 0 0 M171 (G.2.2.2 1) ([114, 119, 120, 100]) := hL.p hf173 (by first | decide | (simp; done) | (simp; omega)) (by first | decide | (simp; done) | (simp; omega))
          have hf : sf (pk [75, 76]) M M171 := hf.tr hf173 (fun a t h => by first | exact h | (simp [pk] at h; done) | (simp [pk] at h ⊢; omega) | (simp [pk] at h ⊢; done))
          show sg_W X M171 0 0 36 [some (.ref x), some (.int (nI 3))] [.ref b]
          refine sg_pop (pc := 36) hC dX4_appendLetters_36 rfl ?_
          refine sg_iincN (pc := 37) (a := 3) (b := 4) hC dX4_appendLetters_37 rfl (nI_1 _) (by decide) ?_
          show sg_W X M171 0 0 40 [some (.ref x), some (.int (nI 4))] []
          refine sg_goto (pc := 40) 2 hC dX4_appendLetters_40 (by decide) ?_
          refine sg_iload_n (pc := 2) (x := nI 4) hC dX4_appendLetters_2 rfl ?_
          refine sg_ldc_rwxd (pc := 3) hC dX4_appendLetters_3 ?_
          obtain ⟨_, _, _, _, hx175, -⟩ := id hL
          refine sg_callV (pc := 5) (As := []) (rest := [.int (nI 4)]) (mc := 0) (ms := 0) hC tw_610 tw_482 tw_483 tw_65 tw_484 yd_J0_length_8abf5 (by decide) (ci := 0) rfl dX4_appendLetters_5 hx175 rfl (Nat.le_of_ble_eq_true rfl) (by first | omega | decide | exact Nat.lt_of_le_of_lt jshr (by omega) | exact Nat.lt_of_le_of_lt jand1 (by decide) | (simp only [List.length_append, List.length_cons, List.length_nil]; omega)) (by first | omega | decide | exact Nat.lt_of_le_of_lt jshr (by omega) | exact Nat.lt_of_le_of_lt jand1 (by decide) | (simp only [List.length_append, List.length_cons, List.length_nil]; omega)) ?_
          refine c_slen htr hL ?_
          show sg_W X M171 0 0 8 [some (.ref x), some (.int (nI 4))] [.int (nI 4), .int (nI 4)]
          refine sg_icmpN_ge (pc := 8) (a := 4) (b := 4) 43 hC dX4_appendLetters_8 (by decide) (by decide) (by decide) (fun _ => ?_) (fun h176 => absurd h176 (by decide))
          have e9 : w ++ lets s.2.2.2.1 = w ++ [114] ++ [119] ++ [100] := by unfold lets; rw [if_pos h4, if_pos h108, if_neg h160, if_pos h164]; simp
          rw [e9] at hk
          exact sg_vreturn (st := []) (pc := 43) hC hR dX4_appendLetters_43 (hk _ hs172 hf)
      · refine sg_aload_n (pc := 23) (v := .ref x) hC dX4_appendLetters_23 rfl rfl ?_
        refine sg_get (pc := 24) (a := x) (v := .ref b) 3 hC rfl inw_X4 (by decide) tw_553 dX4_appendLetters_24 hX rfl ?_
        refine sg_ldc_rwxd (pc := 27) hC dX4_appendLetters_27 ?_
        refine sg_iload_n (pc := 29) (x := nI 2) hC dX4_appendLetters_29 rfl ?_
        obtain ⟨_, _, _, _, hx178, -⟩ := id hL
        refine sg_callV (pc := 30) (As := [.int (nI 2)]) (rest := [.ref b]) (mc := 0) (ms := 0) hC tw_611 tw_612 tw_613 tw_65 tw_614 yd_J0_charAt_5068e (by decide) (ci := 0) rfl dX4_appendLetters_30 hx178 rfl (Nat.le_of_ble_eq_true rfl) (by first | omega | decide | exact Nat.lt_of_le_of_lt jshr (by omega) | exact Nat.lt_of_le_of_lt jand1 (by decide) | (simp only [List.length_append, List.length_cons, List.length_nil]; omega)) (by first | omega | decide | exact Nat.lt_of_le_of_lt jshr (by omega) | exact Nat.lt_of_le_of_lt jand1 (by decide) | (simp only [List.length_append, List.length_cons, List.length_nil]; omega)) ?_
        refine c_charAt htr hL (by first | omega | decide | exact Nat.lt_of_le_of_lt jshr (by omega) | exact Nat.lt_of_le_of_lt jand1 (by decide) | (simp only [List.length_append, List.length_cons, List.length_nil]; omega)) ?_
        show sg_W X M154 0 0 33 [some (.ref x), some (.int (nI 2))] [.int (nI 120), .ref b]
        obtain ⟨_, _, _, hx179, -⟩ := id hs155
        refine sg_callV (pc := 33) (As := [.int (nI 120)]) (rest := []) (mc := 0) (ms := 0) hC tw_642 tw_224 tw_225 tw_64 tw_226 yd_J4_append_cf468 (by decide) (ci := 1) rfl dX4_appendLetters_33 hx179 rfl (Nat.le_of_ble_eq_true rfl) (by first | omega | decide | exact Nat.lt_of_le_of_lt jshr (by omega) | exact Nat.lt_of_le_of_lt jand1 (by decide) | (simp only [List.length_append, List.length_cons, List.length_nil]; omega)) (by first | omega | decide | exact Nat.lt_of_le_of_lt jshr (by omega) | exact Nat.lt_of_le_of_lt jand1 (by decide) | (simp only [List.length_append, List.length_cons, List.length_nil]; omega)) ?_
        refine c_sbAppC htr hs155 (by first | omega | decide | exact Nat.lt_of_le_of_lt jshr (by omega) | exact Nat.lt_of_le_of_lt jand1 (by decide) | (simp only [List.length_append, List.length_cons, List.length_nil]; omega)) (by first | omega | decide | exact Nat.lt_of_le_of_lt jshr (by omega) | exact Nat.lt_of_le_of_lt jand1 (by decide) | (simp only [List.length_append, List.length_cons, List.length_nil]; omega)) (by first | omega | decide | exact Nat.lt_of_le_of_lt jshr (by omega) | exact Nat.lt_of_le_of_lt jand1 (by decide) | (simp only [List.length_append, List.length_cons, List.length_nil]; omega)) (by first | omega | decide | exact Nat.lt_of_le_of_lt jshr (by omega) | exact Nat.lt_of_le_of_lt jand1 (by decide) | (simp only [List.length_append, List.length_cons, List.length_nil]; omega)) (by first | omega | decide | exact Nat.lt_of_le_of_lt jshr (by omega) | exact Nat.lt_of_le_of_lt jand1 (by decide) | (simp only [List.length_append, List.length_cons, List.length_nil]; omega)) (fun M180 hs181 hf182 => ?_)
        have hX : M180 x = some (74, .inr (7, [.ref ta, .int (nI s.1), .int (nI kd), .ref b, .int (nI s.2.2.1), .int (nI s.2.2.2.1), .int (nI s.2.2.2.2.1), .int (nI s.2.2.2.2.2)])) := hf182.p hX (by first | decide | (simp; done) | (simp; omega))
        have hL : st_r 0 0 M180 (G.2.2.2 1) ([114, 119, 120, 100]) := hL.p hf182 (by first | decide | (simp; done) | (simp; omega)) (by first | decide | (simp; done) | (simp; omega))
        have hf : sf (pk [75, 76]) M M180 := hf.tr hf182 (fun a t h => by first | exact h | (simp [pk] at h; done) | (simp [pk] at h ⊢; omega) | (simp [pk] at h ⊢; done))
        show sg_W X M180 0 0 36 [some (.ref x), some (.int (nI 2))] [.ref b]
        refine sg_pop (pc := 36) hC dX4_appendLetters_36 rfl ?_
        refine sg_iincN (pc := 37) (a := 2) (b := 3) hC dX4_appendLetters_37 rfl (nI_1 _) (by decide) ?_
        show sg_W X M180 0 0 40 [some (.ref x), some (.int (nI 3))] []
        refine sg_goto (pc := 40) 2 hC dX4_appendLetters_40 (by decide) ?_
        refine sg_iload_n (pc := 2) (x := nI 3) hC dX4_appendLetters_2 rfl ?_
        refine sg_ldc_rwxd (pc := 3) hC dX4_appendLetters_3 ?_
        obtain ⟨_, _, _, _, hx184, -⟩ := id hL
        refine sg_callV (pc := 5) (As := []) (rest := [.int (nI 3)]) (mc := 0) (ms := 0) hC tw_610 tw_482 tw_483 tw_65 tw_484 yd_J0_length_8abf5 (by decide) (ci := 0) rfl dX4_appendLetters_5 hx184 rfl (Nat.le_of_ble_eq_true rfl) (by first | omega | decide | exact Nat.lt_of_le_of_lt jshr (by omega) | exact Nat.lt_of_le_of_lt jand1 (by decide) | (simp only [List.length_append, List.length_cons, List.length_nil]; omega)) (by first | omega | decide | exact Nat.lt_of_le_of_lt jshr (by omega) | exact Nat.lt_of_le_of_lt jand1 (by decide) | (simp only [List.length_append, List.length_cons, List.length_nil]; omega)) ?_
        refine c_slen htr hL ?_
        show sg_W X M180 0 0 8 [some (.ref x), some (.int (nI 3))] [.int (nI 4), .int (nI 3)]
        refine sg_icmpN_ge (pc := 8) (a := 3) (b := 4) 43 hC dX4_appendLetters_8 (by decide) (by decide) (by decide) (fun h185 => absurd h185 (by decide)) (fun _ => ?_)
        refine sg_aload_n (pc := 11) (v := .ref x) hC dX4_appendLetters_11 rfl rfl ?_
        refine sg_get (pc := 12) (a := x) (v := .int (nI s.2.2.2.1)) 5 hC rfl inw_X4 (by decide) tw_555 dX4_appendLetters_12 hX rfl ?_
        refine sg_iload_n (pc := 15) (x := nI 3) hC dX4_appendLetters_15 rfl ?_
        refine sg_ishrN (pc := 16) (a := s.2.2.2.1) (b := 3) hC dX4_appendLetters_16 (by first | omega | decide | exact Nat.lt_of_le_of_lt jshr (by omega) | exact Nat.lt_of_le_of_lt jand1 (by decide) | (simp only [List.length_append, List.length_cons, List.length_nil]; omega)) (by first | omega | exact Nat.lt_of_le_of_lt jshr (by omega)) ?_
        refine sg_iconst (pc := 17) (nI 1) hC dX4_appendLetters_17 (by decide) ?_
        refine sg_iandN (pc := 18) (a := s.2.2.2.1 >>> 3) (b := 1) hC dX4_appendLetters_18 ?_
        refine sg_iconst (pc := 19) (nI 1) hC dX4_appendLetters_19 (by decide) ?_
        refine sg_icmpN_ne (pc := 20) (a := (s.2.2.2.1 >>> 3) &&& 1) (b := 1) 37 hC dX4_appendLetters_20 (by decide) (by first | omega | decide | exact Nat.lt_of_le_of_lt jshr (by omega) | exact Nat.lt_of_le_of_lt jand1 (by decide) | (simp only [List.length_append, List.length_cons, List.length_nil]; omega)) (by first | omega | decide | exact Nat.lt_of_le_of_lt jshr (by omega) | exact Nat.lt_of_le_of_lt jand1 (by decide) | (simp only [List.length_append, List.length_cons, List.length_nil]; omega)) (fun h186 => ?_) (fun h186 => ?_)
        · refine sg_iincN (pc := 37) (a := 3) (b := 4) hC dX4_appendLetters_37 rfl (nI_1 _) (by decide) ?_
          show sg_W X M180 0 0 40 [some (.ref x), some (.int (nI 4))] []
          refine sg_goto (pc := 40) 2 hC dX4_appendLetters_40 (by decide) ?_
          refine sg_iload_n (pc := 2) (x := nI 4) hC dX4_appendLetters_2 rfl ?_
          refine sg_ldc_rwxd (pc := 3) hC dX4_appendLetters_3 ?_
          obtain ⟨_, _, _, _, hx188, -⟩ := id hL
          refine sg_callV (pc := 5) (As := []) (rest := [.int (nI 4)]) (mc := 0) (ms := 0) hC tw_610 tw_482 tw_483 tw_65 tw_484 yd_J0_length_8abf5 (by decide) (ci := 0) rfl dX4_appendLetters_5 hx188 rfl (Nat.le_of_ble_eq_true rfl) (by first | omega | decide | exact Nat.lt_of_le_of_lt jshr (by omega) | exact Nat.lt_of_le_of_lt jand1 (by decide) | (simp only [List.length_append, List.length_cons, List.length_nil]; omega)) (by first | omega | decide | exact Nat.lt_of_le_of_lt jshr (by omega) | exact Nat.lt_of_le_of_lt jand1 (by decide) | (simp only [List.length_append, List.length_cons, List.length_nil]; omega)) ?_
          refine c_slen htr hL ?_
          show sg_W X M180 0 0 8 [some (.ref x), some (.int (nI 4))] [.int (nI 4), .int (nI 4)]
          refine sg_icmpN_ge (pc := 8) (a := 4) (b := 4) 43 hC dX4_appendLetters_8 (by decide) (by decide) (by decide) (fun _ => ?_) (fun h189 => absurd h189 (by decide))
          have e9 : w ++ lets s.2.2.2.1 = w ++ [114] ++ [119] ++ [120] := by unfold lets; rw [if_pos h4, if_pos h108, if_pos h160, if_neg h186]; simp
          rw [e9] at hk
          exact sg_vreturn (st := []) (pc := 43) hC hR dX4_appendLetters_43 (hk _ hs181 hf)
        · refine sg_aload_n (pc := 23) (v := .ref x) hC dX4_appendLetters_23 rfl rfl ?_
          refine sg_get (pc := 24) (a := x) (v := .ref b) 3 hC rfl inw_X4 (by decide) tw_553 dX4_appendLetters_24 hX rfl ?_
          refine sg_ldc_rwxd (pc := 27) hC dX4_appendLetters_27 ?_
          refine sg_iload_n (pc := 29) (x := nI 3) hC dX4_appendLetters_29 rfl ?_
          obtain ⟨_, _, _, _, hx191, -⟩ := id hL
          refine sg_callV (pc := 30) (As := [.int (nI 3)]) (rest := [.ref b]) (mc := 0) (ms := 0) hC tw_611 tw_612 tw_613 tw_65 tw_614 yd_J0_charAt_5068e (by decide) (ci := 0) rfl dX4_appendLetters_30 hx191 rfl (Nat.le_of_ble_eq_true rfl) (by first | omega | decide | exact Nat.lt_of_le_of_lt jshr (by omega) | exact Nat.lt_of_le_of_lt jand1 (by decide) | (simp only [List.length_append, List.length_cons, List.length_nil]; omega)) (by first | omega | decide | exact Nat.lt_of_le_of_lt jshr (by omega) | exact Nat.lt_of_le_of_lt jand1 (by decide) | (simp only [List.length_append, List.length_cons, List.length_nil]; omega)) ?_
          refine c_charAt htr hL (by first | omega | decide | exact Nat.lt_of_le_of_lt jshr (by omega) | exact Nat.lt_of_le_of_lt jand1 (by decide) | (simp only [List.length_append, List.length_cons, List.length_nil]; omega)) ?_
          show sg_W X M180 0 0 33 [some (.ref x), some (.int (nI 3))] [.int (nI 100), .ref b]
          obtain ⟨_, _, _, hx192, -⟩ := id hs181
          refine sg_callV (pc := 33) (As := [.int (nI 100)]) (rest := []) (mc := 0) (ms := 0) hC tw_642 tw_224 tw_225 tw_64 tw_226 yd_J4_append_cf468 (by decide) (ci := 1) rfl dX4_appendLetters_33 hx192 rfl (Nat.le_of_ble_eq_true rfl) (by first | omega | decide | exact Nat.lt_of_le_of_lt jshr (by omega) | exact Nat.lt_of_le_of_lt jand1 (by decide) | (simp only [List.length_append, List.length_cons, List.length_nil]; omega)) (by first | omega | decide | exact Nat.lt_of_le_of_lt jshr (by omega) | exact Nat.lt_of_le_of_lt jand1 (by decide) | (simp only [List.length_append, List.length_cons, List.length_nil]; omega)) ?_
          refine c_sbAppC htr hs181 (by first | omega | decide | exact Nat.lt_of_le_of_lt jshr (by omega) | exact Nat.lt_of_le_of_lt jand1 (by decide) | (simp only [List.length_append, List.length_cons, List.length_nil]; omega)) (by first | omega | decide | exact Nat.lt_of_le_of_lt jshr (by omega) | exact Nat.lt_of_le_of_lt jand1 (by decide) | (simp only [List.length_append, List.length_cons, List.length_nil]; omega)) (by first | omega | decide | exact Nat.lt_of_le_of_lt jshr (by omega) | exact Nat.lt_of_le_of_lt jand1 (by decide) | (simp only [List.length_append, List.length_cons, List.length_nil]; omega)) (by first | omega | decide | exact Nat.lt_of_le_of_lt jshr (by omega) | exact Nat.lt_of_le_of_lt jand1 (by decide) | (simp only [List.length_append, List.length_cons, List.length_nil]; omega)) (by first | omega | decide | exact Nat.lt_of_le_of_lt jshr (by omega) | exact Nat.lt_of_le_of_lt jand1 (by decide) | (simp only [List.length_append, List.length_cons, List.length_nil]; omega)) (fun M193 hs194 hf195 => ?_)
          have hX : M193 x = some (74, .inr (7, [.ref ta, .int (nI s.1), .int (nI kd), .ref b, .int (nI s.2.2.1), .int (nI s.2.2.2.1), .int (nI s.2.2.2.2.1), .int (nI s.2.2.2.2.2)])) := hf195.p hX (by first | decide | (simp; done) | (simp; omega))
          have hL : st_r 0 0 M193 (G.2.2.2 1) ([114, 119, 120, 100]) := hL.p hf195 (by first | decide | (simp; done) | (simp; omega)) (by first | decide | (simp; done) | (simp; omega))
          have hf : sf (pk [75, 76]) M M193 := hf.tr hf195 (fun a t h => by first | exact h | (simp [pk] at h; done) | (simp [pk] at h ⊢; omega) | (simp [pk] at h ⊢; done))
          show sg_W X M193 0 0 36 [some (.ref x), some (.int (nI 3))] [.ref b]
          refine sg_pop (pc := 36) hC dX4_appendLetters_36 rfl ?_
          refine sg_iincN (pc := 37) (a := 3) (b := 4) hC dX4_appendLetters_37 rfl (nI_1 _) (by decide) ?_
          show sg_W X M193 0 0 40 [some (.ref x), some (.int (nI 4))] []
          refine sg_goto (pc := 40) 2 hC dX4_appendLetters_40 (by decide) ?_
          refine sg_iload_n (pc := 2) (x := nI 4) hC dX4_appendLetters_2 rfl ?_
          refine sg_ldc_rwxd (pc := 3) hC dX4_appendLetters_3 ?_
          obtain ⟨_, _, _, _, hx197, -⟩ := id hL
          refine sg_callV (pc := 5) (As := []) (rest := [.int (nI 4)]) (mc := 0) (ms := 0) hC tw_610 tw_482 tw_483 tw_65 tw_484 yd_J0_length_8abf5 (by decide) (ci := 0) rfl dX4_appendLetters_5 hx197 rfl (Nat.le_of_ble_eq_true rfl) (by first | omega | decide | exact Nat.lt_of_le_of_lt jshr (by omega) | exact Nat.lt_of_le_of_lt jand1 (by decide) | (simp only [List.length_append, List.length_cons, List.length_nil]; omega)) (by first | omega | decide | exact Nat.lt_of_le_of_lt jshr (by omega) | exact Nat.lt_of_le_of_lt jand1 (by decide) | (simp only [List.length_append, List.length_cons, List.length_nil]; omega)) ?_
          refine c_slen htr hL ?_
          show sg_W X M193 0 0 8 [some (.ref x), some (.int (nI 4))] [.int (nI 4), .int (nI 4)]
          refine sg_icmpN_ge (pc := 8) (a := 4) (b := 4) 43 hC dX4_appendLetters_8 (by decide) (by decide) (by decide) (fun _ => ?_) (fun h198 => absurd h198 (by decide))
          have e9 : w ++ lets s.2.2.2.1 = w ++ [114] ++ [119] ++ [120] ++ [100] := by unfold lets; rw [if_pos h4, if_pos h108, if_pos h160, if_pos h186]; simp
          rw [e9] at hk
          exact sg_vreturn (st := []) (pc := 43) hC hR dX4_appendLetters_43 (hk _ hs194 hf)

set_option maxHeartbeats 400000 in
set_option maxRecDepth 100000 in
theorem c_appR {l : Launch} {G : sg_G} {d : Nat} {M : sg_M} {kr : Option Value → sg_M → Prop} {kx : String → sg_M → Prop} (htr : l.stackTraces = false) {x ta b kd : Nat} {s : RS} {w : List Nat} (hX : M x = some (74, .inr (7, [.ref ta, .int (nI s.1), .int (nI kd), .ref b, .int (nI s.2.2.1), .int (nI s.2.2.2.1), .int (nI s.2.2.2.2.1), .int (nI s.2.2.2.2.2)]))) (hDG : dg_r G M) (hE : sb_r 75 76 M b w) (hlo : s.2.2.2.2.1 < 10) (hhi : s.2.2.2.2.2 < 10) (hw : w.length ≤ 12) (hk : ∀ M', sb_r 75 76 M' b (w ++ rngt s.2.2.2.2.1 s.2.2.2.2.2) → sf (pk [75, 76]) M M' → kr none M') : sg_Met l G yX4_appendRange cX4_appendRange 1 none (d + 3) 0 0 [.ref x] M kr kx := by
  refine sg_enter [some (.ref x)] (by decide) htr (Nat.le_of_ble_eq_true rfl) rfl ?_
  intro X hC hR
  have hC : sg_C X l G cX4_appendRange RX4 1 (d + 3) := hC
  have hf : sf (pk [75, 76]) M M := sf.rf
  refine sg_aload_n (pc := 0) (v := .ref x) hC dX4_appendRange_0 rfl rfl ?_
  refine sg_get (pc := 1) (a := x) (v := .ref b) 3 hC rfl inw_X4 (by decide) tw_553 dX4_appendRange_1 hX rfl ?_
  refine sg_aload_n (pc := 4) (v := .ref x) hC dX4_appendRange_4 rfl rfl ?_
  refine sg_get (pc := 5) (a := x) (v := .int (nI s.2.2.2.2.1)) 6 hC rfl inw_X4 (by decide) tw_556 dX4_appendRange_5 hX rfl ?_
  obtain ⟨_, _, _, hx1, -⟩ := id hE
  refine sg_callV (pc := 8) (As := [.int (nI s.2.2.2.2.1)]) (rest := []) (mc := 0) (ms := 0) hC tw_793 tw_433 tw_434 tw_64 tw_435 yd_J4_append_bf812 (by decide) (ci := 1) rfl dX4_appendRange_8 hx1 rfl (Nat.le_of_ble_eq_true rfl) (by first | omega | decide | exact Nat.lt_of_le_of_lt jshr (by omega) | exact Nat.lt_of_le_of_lt jand1 (by decide) | (simp only [List.length_append, List.length_cons, List.length_nil]; omega)) (by first | omega | decide | exact Nat.lt_of_le_of_lt jshr (by omega) | exact Nat.lt_of_le_of_lt jand1 (by decide) | (simp only [List.length_append, List.length_cons, List.length_nil]; omega)) ?_
  refine c_sbAppI htr hE (by first | omega | decide | exact Nat.lt_of_le_of_lt jshr (by omega) | exact Nat.lt_of_le_of_lt jand1 (by decide) | (simp only [List.length_append, List.length_cons, List.length_nil]; omega)) (by first | omega | decide | exact Nat.lt_of_le_of_lt jshr (by omega) | exact Nat.lt_of_le_of_lt jand1 (by decide) | (simp only [List.length_append, List.length_cons, List.length_nil]; omega)) (by first | omega | decide | exact Nat.lt_of_le_of_lt jshr (by omega) | exact Nat.lt_of_le_of_lt jand1 (by decide) | (simp only [List.length_append, List.length_cons, List.length_nil]; omega)) hDG (by first | omega | decide | exact Nat.lt_of_le_of_lt jshr (by omega) | exact Nat.lt_of_le_of_lt jand1 (by decide) | (simp only [List.length_append, List.length_cons, List.length_nil]; omega)) (by first | omega | decide | exact Nat.lt_of_le_of_lt jshr (by omega) | exact Nat.lt_of_le_of_lt jand1 (by decide) | (simp only [List.length_append, List.length_cons, List.length_nil]; omega)) (fun M2 hs3 hf4 => ?_)
  have hX : M2 x = some (74, .inr (7, [.ref ta, .int (nI s.1), .int (nI kd), .ref b, .int (nI s.2.2.1), .int (nI s.2.2.2.1), .int (nI s.2.2.2.2.1), .int (nI s.2.2.2.2.2)])) := hf4.p hX (by first | decide | (simp; done) | (simp; omega))
  have hDG : dg_r G M2 := hDG.p hf4 (by first | decide | (simp; done) | (simp; omega))
  have hf : sf (pk [75, 76]) M M2 := hf.tr hf4 (fun a t h => by first | exact h | (simp [pk] at h; done) | (simp [pk] at h ⊢; omega) | (simp [pk] at h ⊢; done))
  show sg_W X M2 0 0 11 [some (.ref x)] [.ref b]
  refine sg_pop (pc := 11) hC dX4_appendRange_11 rfl ?_
  refine sg_aload_n (pc := 12) (v := .ref x) hC dX4_appendRange_12 rfl rfl ?_
  refine sg_get (pc := 13) (a := x) (v := .int (nI s.2.2.2.2.2)) 7 hC rfl inw_X4 (by decide) tw_557 dX4_appendRange_13 hX rfl ?_
  refine sg_aload_n (pc := 16) (v := .ref x) hC dX4_appendRange_16 rfl rfl ?_
  refine sg_get (pc := 17) (a := x) (v := .int (nI s.2.2.2.2.1)) 6 hC rfl inw_X4 (by decide) tw_556 dX4_appendRange_17 hX rfl ?_
  refine sg_icmpN_le (pc := 20) (a := s.2.2.2.2.2) (b := s.2.2.2.2.1) 40 hC dX4_appendRange_20 (by decide) (by first | omega | decide | exact Nat.lt_of_le_of_lt jshr (by omega) | exact Nat.lt_of_le_of_lt jand1 (by decide) | (simp only [List.length_append, List.length_cons, List.length_nil]; omega)) (by first | omega | decide | exact Nat.lt_of_le_of_lt jshr (by omega) | exact Nat.lt_of_le_of_lt jand1 (by decide) | (simp only [List.length_append, List.length_cons, List.length_nil]; omega)) (fun h5 => ?_) (fun h5 => ?_)
  · have e9 : w ++ rngt s.2.2.2.2.1 s.2.2.2.2.2 = w ++ [48 + s.2.2.2.2.1] := by unfold rngt; rw [if_pos h5] <;> simp
    rw [e9] at hk
    exact sg_vreturn (st := []) (pc := 40) hC hR dX4_appendRange_40 (hk _ hs3 hf)
  · refine sg_aload_n (pc := 23) (v := .ref x) hC dX4_appendRange_23 rfl rfl ?_
    refine sg_get (pc := 24) (a := x) (v := .ref b) 3 hC rfl inw_X4 (by decide) tw_553 dX4_appendRange_24 hX rfl ?_
    refine sg_bipush (pc := 27) (nI 45) hC dX4_appendRange_27 (by decide) ?_
    obtain ⟨_, _, _, hx6, -⟩ := id hs3
    refine sg_callV (pc := 29) (As := [.int (nI 45)]) (rest := []) (mc := 0) (ms := 0) hC tw_642 tw_224 tw_225 tw_64 tw_226 yd_J4_append_cf468 (by decide) (ci := 1) rfl dX4_appendRange_29 hx6 rfl (Nat.le_of_ble_eq_true rfl) (by first | omega | decide | exact Nat.lt_of_le_of_lt jshr (by omega) | exact Nat.lt_of_le_of_lt jand1 (by decide) | (simp only [List.length_append, List.length_cons, List.length_nil]; omega)) (by first | omega | decide | exact Nat.lt_of_le_of_lt jshr (by omega) | exact Nat.lt_of_le_of_lt jand1 (by decide) | (simp only [List.length_append, List.length_cons, List.length_nil]; omega)) ?_
    refine c_sbAppC htr hs3 (by first | omega | decide | exact Nat.lt_of_le_of_lt jshr (by omega) | exact Nat.lt_of_le_of_lt jand1 (by decide) | (simp only [List.length_append, List.length_cons, List.length_nil]; omega)) (by first | omega | decide | exact Nat.lt_of_le_of_lt jshr (by omega) | exact Nat.lt_of_le_of_lt jand1 (by decide) | (simp only [List.length_append, List.length_cons, List.length_nil]; omega)) (by first | omega | decide | exact Nat.lt_of_le_of_lt jshr (by omega) | exact Nat.lt_of_le_of_lt jand1 (by decide) | (simp only [List.length_append, List.length_cons, List.length_nil]; omega)) (by first | omega | decide | exact Nat.lt_of_le_of_lt jshr (by omega) | exact Nat.lt_of_le_of_lt jand1 (by decide) | (simp only [List.length_append, List.length_cons, List.length_nil]; omega)) (by first | omega | decide | exact Nat.lt_of_le_of_lt jshr (by omega) | exact Nat.lt_of_le_of_lt jand1 (by decide) | (simp only [List.length_append, List.length_cons, List.length_nil]; omega)) (fun M7 hs8 hf9 => ?_)
    have hX : M7 x = some (74, .inr (7, [.ref ta, .int (nI s.1), .int (nI kd), .ref b, .int (nI s.2.2.1), .int (nI s.2.2.2.1), .int (nI s.2.2.2.2.1), .int (nI s.2.2.2.2.2)])) := hf9.p hX (by first | decide | (simp; done) | (simp; omega))
    have hDG : dg_r G M7 := hDG.p hf9 (by first | decide | (simp; done) | (simp; omega))
    have hf : sf (pk [75, 76]) M M7 := hf.tr hf9 (fun a t h => by first | exact h | (simp [pk] at h; done) | (simp [pk] at h ⊢; omega) | (simp [pk] at h ⊢; done))
    show sg_W X M7 0 0 32 [some (.ref x)] [.ref b]
    refine sg_aload_n (pc := 32) (v := .ref x) hC dX4_appendRange_32 rfl rfl ?_
    refine sg_get (pc := 33) (a := x) (v := .int (nI s.2.2.2.2.2)) 7 hC rfl inw_X4 (by decide) tw_557 dX4_appendRange_33 hX rfl ?_
    obtain ⟨_, _, _, hx10, -⟩ := id hs8
    refine sg_callV (pc := 36) (As := [.int (nI s.2.2.2.2.2)]) (rest := []) (mc := 0) (ms := 0) hC tw_793 tw_433 tw_434 tw_64 tw_435 yd_J4_append_bf812 (by decide) (ci := 1) rfl dX4_appendRange_36 hx10 rfl (Nat.le_of_ble_eq_true rfl) (by first | omega | decide | exact Nat.lt_of_le_of_lt jshr (by omega) | exact Nat.lt_of_le_of_lt jand1 (by decide) | (simp only [List.length_append, List.length_cons, List.length_nil]; omega)) (by first | omega | decide | exact Nat.lt_of_le_of_lt jshr (by omega) | exact Nat.lt_of_le_of_lt jand1 (by decide) | (simp only [List.length_append, List.length_cons, List.length_nil]; omega)) ?_
    refine c_sbAppI htr hs8 (by first | omega | decide | exact Nat.lt_of_le_of_lt jshr (by omega) | exact Nat.lt_of_le_of_lt jand1 (by decide) | (simp only [List.length_append, List.length_cons, List.length_nil]; omega)) (by first | omega | decide | exact Nat.lt_of_le_of_lt jshr (by omega) | exact Nat.lt_of_le_of_lt jand1 (by decide) | (simp only [List.length_append, List.length_cons, List.length_nil]; omega)) (by first | omega | decide | exact Nat.lt_of_le_of_lt jshr (by omega) | exact Nat.lt_of_le_of_lt jand1 (by decide) | (simp only [List.length_append, List.length_cons, List.length_nil]; omega)) hDG (by first | omega | decide | exact Nat.lt_of_le_of_lt jshr (by omega) | exact Nat.lt_of_le_of_lt jand1 (by decide) | (simp only [List.length_append, List.length_cons, List.length_nil]; omega)) (by first | omega | decide | exact Nat.lt_of_le_of_lt jshr (by omega) | exact Nat.lt_of_le_of_lt jand1 (by decide) | (simp only [List.length_append, List.length_cons, List.length_nil]; omega)) (fun M11 hs12 hf13 => ?_)
    have hX : M11 x = some (74, .inr (7, [.ref ta, .int (nI s.1), .int (nI kd), .ref b, .int (nI s.2.2.1), .int (nI s.2.2.2.1), .int (nI s.2.2.2.2.1), .int (nI s.2.2.2.2.2)])) := hf13.p hX (by first | decide | (simp; done) | (simp; omega))
    have hDG : dg_r G M11 := hDG.p hf13 (by first | decide | (simp; done) | (simp; omega))
    have hf : sf (pk [75, 76]) M M11 := hf.tr hf13 (fun a t h => by first | exact h | (simp [pk] at h; done) | (simp [pk] at h ⊢; omega) | (simp [pk] at h ⊢; done))
    show sg_W X M11 0 0 39 [some (.ref x)] [.ref b]
    refine sg_pop (pc := 39) hC dX4_appendRange_39 rfl ?_
    have e9 : w ++ rngt s.2.2.2.2.1 s.2.2.2.2.2 = w ++ [48 + s.2.2.2.2.1] ++ [45] ++ [48 + s.2.2.2.2.2] := by unfold rngt; rw [if_neg (by omega)] <;> simp
    rw [e9] at hk
    exact sg_vreturn (st := []) (pc := 40) hC hR dX4_appendRange_40 (hk _ hs12 hf)

theorem jx_lt {tx : List Nat} {c : Nat} : ∀ (f i k : Nat), jx tx c f i = some k → k < tx.length := by
  intro f
  induction f with
  | zero => intro i k h; cases h
  | succ f ih =>
    intro i k h
    rw [jx] at h
    repeat' split at h
    · cases h
    · cases h; omega
    · exact ih _ _ h
/-- what writing the text wants -/
def wtok (tx : List Nat) (s : RS) : Prop := ∀ c, jx tx 58 (tx.length + 1) 0 = some c → c ≤ 9 ∧ (tx.getD 0 0 = 102 → s.2.2.2.1 < 16) ∧ (tx.getD 0 0 ≠ 102 → s.2.2.2.2.1 < 10 ∧ s.2.2.2.2.2 < 10)
theorem wtext_n {tx : List Nat} {s : RS} (h : jx tx 58 (tx.length + 1) 0 = none) : wtext tx s = tx := by
  unfold wtext
  rw [h]
theorem wtext_s {tx : List Nat} {s : RS} {c : Nat} (h : jx tx 58 (tx.length + 1) 0 = some c) : wtext tx s = tx.take (c + 1) ++ (if tx.getD 0 0 = 102 then lets s.2.2.2.1 else rngt s.2.2.2.2.1 s.2.2.2.2.2) := by
  unfold wtext
  rw [h]

set_option maxHeartbeats 400000 in
set_option maxRecDepth 100000 in
theorem c_wText {l : Launch} {G : sg_G} {d : Nat} {M : sg_M} {kr : Option Value → sg_M → Prop} {kx : String → sg_M → Prop} (htr : l.stackTraces = false) {x ta b : Nat} {tx : List Nat} {s : RS} (hX : M x = some (74, .inr (7, [.ref ta, .int (nI s.1), .int (nI (tx.getD 0 0)), .ref b, .int (nI s.2.2.1), .int (nI s.2.2.2.1), .int (nI s.2.2.2.2.1), .int (nI s.2.2.2.2.2)]))) (hS : st_r 71 72 M ta tx) (hB : sb_r 75 76 M b []) (h16 : tx.length ≤ 16) (hL : st_r 0 0 M (G.2.2.2 1) [114, 119, 120, 100]) (hDG : dg_r G M) (hok : wtok tx s) (hk : ∀ a' M', st_r 71 72 M' a' (wtext tx s) → sf (pk [75, 76]) M M' → kr (some (.ref a')) M') : sg_Met l G yX4_writtenText cX4_writtenText 2 (some (.object "java/lang/String")) (d + 6) 4 34 [.ref x] M kr kx := by
  refine sg_enter [some (.ref x), none] (by decide) htr (Nat.le_of_ble_eq_true rfl) rfl ?_
  intro X hC hR
  have hC : sg_C X l G cX4_writtenText RX4 2 (d + 6) := hC
  have hf : sf (pk [75, 76]) M M := sf.rf
  refine sg_aload_n (pc := 0) (v := .ref x) hC dX4_writtenText_0 rfl rfl ?_
  refine sg_get (pc := 1) (a := x) (v := .ref ta) 0 hC rfl inw_X4 (by decide) tw_550 dX4_writtenText_1 hX rfl ?_
  refine sg_bipush (pc := 4) (nI 58) hC dX4_writtenText_4 (by decide) ?_
  obtain ⟨_, _, _, _, hx2, -⟩ := id hS
  refine sg_callV (pc := 6) (As := [.int (nI 58)]) (rest := []) (mc := 0) (ms := 0) hC tw_648 tw_649 tw_650 tw_65 tw_651 yd_J0_indexOf_0f7a4 (by decide) (ci := 0) rfl dX4_writtenText_6 hx2 rfl (Nat.le_of_ble_eq_true rfl) (by first | omega | decide | (simp only [List.length_append, List.length_cons, List.length_nil, List.length_take]; omega)) (by first | omega | decide | (simp only [List.length_append, List.length_cons, List.length_nil, List.length_take]; omega)) ?_
  refine c_indexOf htr hS (by first | omega | decide | (simp only [List.length_append, List.length_cons, List.length_nil, List.length_take]; omega)) ?_
  show sg_W X M 4 34 9 [some (.ref x), none] [.int (md_o (jx tx 58 (tx.length + 1) 0))]
  refine sg_istore_n (pc := 9) (x := md_o (jx tx 58 (tx.length + 1) 0)) hC dX4_writtenText_9 (by decide) ?_
  show sg_W X M 4 34 10 [some (.ref x), some (.int (md_o (jx tx 58 (tx.length + 1) 0)))] []
  refine sg_iload_n (pc := 10) (x := md_o (jx tx 58 (tx.length + 1) 0)) hC dX4_writtenText_10 rfl ?_
  refine sg_ifO_ge (pc := 11) (r := jx tx 58 (tx.length + 1) 0) 19 hC dX4_writtenText_11 (by decide) (fun k9 hk9 => by have := jx_lt _ _ _ hk9; omega) (fun h3 => ?_) (fun h3 => ?_)
  · obtain ⟨q4, hq5⟩ := md_os h3
    rw [hq5]
    show sg_W X M 4 34 19 [some (.ref x), some (.int (nI q4))] []
    have hq6 := jx_lt _ _ _ hq5
    obtain ⟨h9c, h9a, h9b⟩ := hok _ hq5
    have h90 := hS.ch 0 (by omega)
    refine sg_aload_n (pc := 19) (v := .ref x) hC dX4_writtenText_19 rfl rfl ?_
    refine sg_get (pc := 20) (a := x) (v := .ref b) 3 hC rfl inw_X4 (by decide) tw_553 dX4_writtenText_20 hX rfl ?_
    refine sg_aload_n (pc := 23) (v := .ref x) hC dX4_writtenText_23 rfl rfl ?_
    refine sg_get (pc := 24) (a := x) (v := .ref ta) 0 hC rfl inw_X4 (by decide) tw_550 dX4_writtenText_24 hX rfl ?_
    refine sg_iconst (pc := 27) (nI 0) hC dX4_writtenText_27 (by decide) ?_
    refine sg_iload_n (pc := 28) (x := nI q4) hC dX4_writtenText_28 rfl ?_
    refine sg_iconst (pc := 29) (nI 1) hC dX4_writtenText_29 (by decide) ?_
    refine sg_iaddN (pc := 30) (a := q4) (b := 1) hC dX4_writtenText_30 ?_
    obtain ⟨_, _, _, _, hx8, -⟩ := id hS
    refine sg_callV (pc := 31) (As := [.int (nI 0), .int (nI (q4 + 1))]) (rest := [.ref b]) (mc := 2) (ms := (4 + (q4 + 1))) hC tw_761 tw_762 tw_763 tw_65 tw_764 yd_J0_substring_37a41 (by decide) (ci := 0) rfl dX4_writtenText_31 hx8 rfl (Nat.le_of_ble_eq_true rfl) (by first | omega | decide | (simp only [List.length_append, List.length_cons, List.length_nil, List.length_take]; omega)) (by first | omega | decide | (simp only [List.length_append, List.length_cons, List.length_nil, List.length_take]; omega)) ?_
    refine c_substr htr hS (by first | omega | decide | (simp only [List.length_append, List.length_cons, List.length_nil, List.length_take]; omega)) (by first | omega | decide | (simp only [List.length_append, List.length_cons, List.length_nil, List.length_take]; omega)) (fun q9 M10 hs11 hf12 => ?_)
    have hX : M10 x = some (74, .inr (7, [.ref ta, .int (nI s.1), .int (nI (tx.getD 0 0)), .ref b, .int (nI s.2.2.1), .int (nI s.2.2.2.1), .int (nI s.2.2.2.2.1), .int (nI s.2.2.2.2.2)])) := hf12.p hX (by first | decide | (simp; done) | (simp; omega))
    have hS : st_r 71 72 M10 ta tx := hS.p hf12 (by first | decide | (simp; done) | (simp; omega)) (by first | decide | (simp; done) | (simp; omega))
    have hB : sb_r 75 76 M10 b ([]) := hB.p hf12 (by first | decide | (simp; done) | (simp; omega)) (by first | decide | (simp; done) | (simp; omega))
    have hL : st_r 0 0 M10 (G.2.2.2 1) ([114, 119, 120, 100]) := hL.p hf12 (by first | decide | (simp; done) | (simp; omega)) (by first | decide | (simp; done) | (simp; omega))
    have hDG : dg_r G M10 := hDG.p hf12 (by first | decide | (simp; done) | (simp; omega))
    have hf : sf (pk [75, 76]) M M10 := hf.tr hf12 (fun a t h => by first | exact h | (simp [pk] at h; done) | (simp [pk] at h ⊢; omega) | (simp [pk] at h ⊢; done))
    show sg_W X M10 2 (34 - (4 + (q4 + 1))) 34 [some (.ref x), some (.int (nI q4))] [.ref q9, .ref b]
    obtain ⟨_, _, _, hx13, -⟩ := id hB
    refine sg_callV (pc := 34) (As := [.ref q9]) (rest := []) (mc := 0) (ms := 0) hC tw_784 tw_468 tw_469 tw_64 tw_470 yd_J4_append_15ec4 (by decide) (ci := 1) rfl dX4_writtenText_34 hx13 rfl (Nat.le_of_ble_eq_true rfl) (by first | omega | decide | (simp only [List.length_append, List.length_cons, List.length_nil, List.length_take]; omega)) (by first | omega | decide | (simp only [List.length_append, List.length_cons, List.length_nil, List.length_take]; omega)) ?_
    refine c_sbAppS htr hB (by first | omega | decide | (simp only [List.length_append, List.length_cons, List.length_nil, List.length_take]; omega)) (by first | omega | decide | (simp only [List.length_append, List.length_cons, List.length_nil, List.length_take]; omega)) (by first | omega | decide | (simp only [List.length_append, List.length_cons, List.length_nil, List.length_take]; omega)) (by omega) (by omega) (by omega) (by omega) hs11 (by first | omega | decide | (simp only [List.length_append, List.length_cons, List.length_nil, List.length_take]; omega)) (fun M14 hs15 hf16 => ?_)
    have hX : M14 x = some (74, .inr (7, [.ref ta, .int (nI s.1), .int (nI (tx.getD 0 0)), .ref b, .int (nI s.2.2.1), .int (nI s.2.2.2.1), .int (nI s.2.2.2.2.1), .int (nI s.2.2.2.2.2)])) := hf16.p hX (by first | decide | (simp; done) | (simp; omega))
    have hS : st_r 71 72 M14 ta tx := hS.p hf16 (by first | decide | (simp; done) | (simp; omega)) (by first | decide | (simp; done) | (simp; omega))
    have hL : st_r 0 0 M14 (G.2.2.2 1) ([114, 119, 120, 100]) := hL.p hf16 (by first | decide | (simp; done) | (simp; omega)) (by first | decide | (simp; done) | (simp; omega))
    have hDG : dg_r G M14 := hDG.p hf16 (by first | decide | (simp; done) | (simp; omega))
    have hs11 : st_r 71 72 M14 q9 (tx.take (q4 + 1)) := hs11.p hf16 (by first | decide | (simp; done) | (simp; omega)) (by first | decide | (simp; done) | (simp; omega))
    have hf : sf (pk [75, 76]) M M14 := hf.tr hf16 (fun a t h => by first | exact h | (simp [pk] at h; done) | (simp [pk] at h ⊢; omega) | (simp [pk] at h ⊢; done))
    show sg_W X M14 2 ((34 - (4 + (q4 + 1))) - 0) 37 [some (.ref x), some (.int (nI q4))] [.ref b]
    refine sg_pop (pc := 37) hC dX4_writtenText_37 rfl ?_
    refine sg_aload_n (pc := 38) (v := .ref x) hC dX4_writtenText_38 rfl rfl ?_
    refine sg_get (pc := 39) (a := x) (v := .int (nI (tx.getD 0 0))) 2 hC rfl inw_X4 (by decide) tw_552 dX4_writtenText_39 hX rfl ?_
    refine sg_bipush (pc := 42) (nI 102) hC dX4_writtenText_42 (by decide) ?_
    refine sg_icmpN_ne (pc := 44) (a := tx.getD 0 0) (b := 102) 54 hC dX4_writtenText_44 (by decide) (by first | omega | decide | (simp only [List.length_append, List.length_cons, List.length_nil, List.length_take]; omega)) (by first | omega | decide | (simp only [List.length_append, List.length_cons, List.length_nil, List.length_take]; omega)) (fun h17 => ?_) (fun h17 => ?_)
    · have h9r := h9b h17
      refine sg_aload_n (pc := 54) (v := .ref x) hC dX4_writtenText_54 rfl rfl ?_
      refine sg_callV (pc := 55) (As := []) (rest := []) (mc := 0) (ms := 0) hC tw_789 tw_791 tw_15 tw_83 tw_792 yd_X4_appendRange (by decide) (ci := 7) rfl dX4_writtenText_55 hX rfl (Nat.le_of_ble_eq_true rfl) (by first | omega | decide | (simp only [List.length_append, List.length_cons, List.length_nil, List.length_take]; omega)) (by first | omega | decide | (simp only [List.length_append, List.length_cons, List.length_nil, List.length_take]; omega)) ?_
      refine c_appR (s := s) htr hX hDG hs15 h9r.1 h9r.2 (by first | omega | decide | (simp only [List.length_append, List.length_cons, List.length_nil, List.length_take]; omega)) (fun M18 hs19 hf20 => ?_)
      have hX : M18 x = some (74, .inr (7, [.ref ta, .int (nI s.1), .int (nI (tx.getD 0 0)), .ref b, .int (nI s.2.2.1), .int (nI s.2.2.2.1), .int (nI s.2.2.2.2.1), .int (nI s.2.2.2.2.2)])) := hf20.p hX (by first | decide | (simp; done) | (simp; omega))
      have hS : st_r 71 72 M18 ta tx := hS.p hf20 (by first | decide | (simp; done) | (simp; omega)) (by first | decide | (simp; done) | (simp; omega))
      have hL : st_r 0 0 M18 (G.2.2.2 1) ([114, 119, 120, 100]) := hL.p hf20 (by first | decide | (simp; done) | (simp; omega)) (by first | decide | (simp; done) | (simp; omega))
      have hDG : dg_r G M18 := hDG.p hf20 (by first | decide | (simp; done) | (simp; omega))
      have hs11 : st_r 71 72 M18 q9 (tx.take (q4 + 1)) := hs11.p hf20 (by first | decide | (simp; done) | (simp; omega)) (by first | decide | (simp; done) | (simp; omega))
      have hf : sf (pk [75, 76]) M M18 := hf.tr hf20 (fun a t h => by first | exact h | (simp [pk] at h; done) | (simp [pk] at h ⊢; omega) | (simp [pk] at h ⊢; done))
      show sg_W X M18 2 (((34 - (4 + (q4 + 1))) - 0) - 0) 58 [some (.ref x), some (.int (nI q4))] []
      refine sg_aload_n (pc := 58) (v := .ref x) hC dX4_writtenText_58 rfl rfl ?_
      refine sg_get (pc := 59) (a := x) (v := .ref b) 3 hC rfl inw_X4 (by decide) tw_553 dX4_writtenText_59 hX rfl ?_
      have hl9 : ([] ++ (tx.take (q4 + 1)) ++ rngt s.2.2.2.2.1 s.2.2.2.2.2).length ≤ 16 := hs19.le
      obtain ⟨_, _, _, hx21, -⟩ := id hs19
      refine sg_callV (pc := 62) (As := []) (rest := []) (mc := 2) (ms := (4 + ([] ++ (tx.take (q4 + 1)) ++ rngt s.2.2.2.2.1 s.2.2.2.2.2).length)) hC tw_753 tw_393 tw_394 tw_64 tw_395 yd_J4_toString_0e30d (by decide) (ci := 1) rfl dX4_writtenText_62 hx21 rfl (Nat.le_of_ble_eq_true rfl) (by first | omega | decide | (simp only [List.length_append, List.length_cons, List.length_nil, List.length_take]; omega)) (by first | omega | decide | (simp only [List.length_append, List.length_cons, List.length_nil, List.length_take]; omega)) ?_
      refine c_toStr htr hs19 (by omega) (by omega) (by omega) (by omega) (by omega) (by omega) (by omega) (fun q22 M23 hs24 hf25 => ?_)
      have hX : M23 x = some (74, .inr (7, [.ref ta, .int (nI s.1), .int (nI (tx.getD 0 0)), .ref b, .int (nI s.2.2.1), .int (nI s.2.2.2.1), .int (nI s.2.2.2.2.1), .int (nI s.2.2.2.2.2)])) := hf25.p hX (by first | decide | (simp; done) | (simp; omega))
      have hS : st_r 71 72 M23 ta tx := hS.p hf25 (by first | decide | (simp; done) | (simp; omega)) (by first | decide | (simp; done) | (simp; omega))
      have hL : st_r 0 0 M23 (G.2.2.2 1) ([114, 119, 120, 100]) := hL.p hf25 (by first | decide | (simp; done) | (simp; omega)) (by first | decide | (simp; done) | (simp; omega))
      have hDG : dg_r G M23 := hDG.p hf25 (by first | decide | (simp; done) | (simp; omega))
      have hs11 : st_r 71 72 M23 q9 (tx.take (q4 + 1)) := hs11.p hf25 (by first | decide | (simp; done) | (simp; omega)) (by first | decide | (simp; done) | (simp; omega))
      have hs19 : sb_r 75 76 M23 b ([] ++ (tx.take (q4 + 1)) ++ rngt s.2.2.2.2.1 s.2.2.2.2.2) := hs19.p hf25 (by first | decide | (simp; done) | (simp; omega)) (by first | decide | (simp; done) | (simp; omega))
      have hf : sf (pk [75, 76]) M M23 := hf.tr hf25 (fun a t h => by first | exact h | (simp [pk] at h; done) | (simp [pk] at h ⊢; omega) | (simp [pk] at h ⊢; done))
      show sg_W X M23 0 ((((34 - (4 + (q4 + 1))) - 0) - 0) - (4 + ([] ++ (tx.take (q4 + 1)) ++ rngt s.2.2.2.2.1 s.2.2.2.2.2).length)) 65 [some (.ref x), some (.int (nI q4))] [.ref q22]
      exact sg_areturn (st := []) (v := .ref q22) (pc := 65) hC hR (Or.inl ⟨_, rfl⟩) (Or.inr ⟨_, rfl⟩) dX4_writtenText_65 (hk _ _ (by rw [wtext_s hq5, if_neg h17]; exact hs24) hf)
    · have h9m := h9a h17
      refine sg_aload_n (pc := 47) (v := .ref x) hC dX4_writtenText_47 rfl rfl ?_
      refine sg_callV (pc := 48) (As := []) (rest := []) (mc := 0) (ms := 0) hC tw_785 tw_787 tw_14 tw_83 tw_788 yd_X4_appendLetters (by decide) (ci := 7) rfl dX4_writtenText_48 hX rfl (Nat.le_of_ble_eq_true rfl) (by first | omega | decide | (simp only [List.length_append, List.length_cons, List.length_nil, List.length_take]; omega)) (by first | omega | decide | (simp only [List.length_append, List.length_cons, List.length_nil, List.length_take]; omega)) ?_
      refine c_appL (s := s) htr hX hL hs15 h9m (by first | omega | decide | (simp only [List.length_append, List.length_cons, List.length_nil, List.length_take]; omega)) (fun M26 hs27 hf28 => ?_)
      have hX : M26 x = some (74, .inr (7, [.ref ta, .int (nI s.1), .int (nI (tx.getD 0 0)), .ref b, .int (nI s.2.2.1), .int (nI s.2.2.2.1), .int (nI s.2.2.2.2.1), .int (nI s.2.2.2.2.2)])) := hf28.p hX (by first | decide | (simp; done) | (simp; omega))
      have hS : st_r 71 72 M26 ta tx := hS.p hf28 (by first | decide | (simp; done) | (simp; omega)) (by first | decide | (simp; done) | (simp; omega))
      have hL : st_r 0 0 M26 (G.2.2.2 1) ([114, 119, 120, 100]) := hL.p hf28 (by first | decide | (simp; done) | (simp; omega)) (by first | decide | (simp; done) | (simp; omega))
      have hDG : dg_r G M26 := hDG.p hf28 (by first | decide | (simp; done) | (simp; omega))
      have hs11 : st_r 71 72 M26 q9 (tx.take (q4 + 1)) := hs11.p hf28 (by first | decide | (simp; done) | (simp; omega)) (by first | decide | (simp; done) | (simp; omega))
      have hf : sf (pk [75, 76]) M M26 := hf.tr hf28 (fun a t h => by first | exact h | (simp [pk] at h; done) | (simp [pk] at h ⊢; omega) | (simp [pk] at h ⊢; done))
      show sg_W X M26 2 (((34 - (4 + (q4 + 1))) - 0) - 0) 51 [some (.ref x), some (.int (nI q4))] []
      refine sg_goto (pc := 51) 58 hC dX4_writtenText_51 (by decide) ?_
      refine sg_aload_n (pc := 58) (v := .ref x) hC dX4_writtenText_58 rfl rfl ?_
      refine sg_get (pc := 59) (a := x) (v := .ref b) 3 hC rfl inw_X4 (by decide) tw_553 dX4_writtenText_59 hX rfl ?_
      have hl9 : ([] ++ (tx.take (q4 + 1)) ++ lets s.2.2.2.1).length ≤ 16 := hs27.le
      obtain ⟨_, _, _, hx29, -⟩ := id hs27
      refine sg_callV (pc := 62) (As := []) (rest := []) (mc := 2) (ms := (4 + ([] ++ (tx.take (q4 + 1)) ++ lets s.2.2.2.1).length)) hC tw_753 tw_393 tw_394 tw_64 tw_395 yd_J4_toString_0e30d (by decide) (ci := 1) rfl dX4_writtenText_62 hx29 rfl (Nat.le_of_ble_eq_true rfl) (by first | omega | decide | (simp only [List.length_append, List.length_cons, List.length_nil, List.length_take]; omega)) (by first | omega | decide | (simp only [List.length_append, List.length_cons, List.length_nil, List.length_take]; omega)) ?_
      refine c_toStr htr hs27 (by omega) (by omega) (by omega) (by omega) (by omega) (by omega) (by omega) (fun q30 M31 hs32 hf33 => ?_)
      have hX : M31 x = some (74, .inr (7, [.ref ta, .int (nI s.1), .int (nI (tx.getD 0 0)), .ref b, .int (nI s.2.2.1), .int (nI s.2.2.2.1), .int (nI s.2.2.2.2.1), .int (nI s.2.2.2.2.2)])) := hf33.p hX (by first | decide | (simp; done) | (simp; omega))
      have hS : st_r 71 72 M31 ta tx := hS.p hf33 (by first | decide | (simp; done) | (simp; omega)) (by first | decide | (simp; done) | (simp; omega))
      have hL : st_r 0 0 M31 (G.2.2.2 1) ([114, 119, 120, 100]) := hL.p hf33 (by first | decide | (simp; done) | (simp; omega)) (by first | decide | (simp; done) | (simp; omega))
      have hDG : dg_r G M31 := hDG.p hf33 (by first | decide | (simp; done) | (simp; omega))
      have hs11 : st_r 71 72 M31 q9 (tx.take (q4 + 1)) := hs11.p hf33 (by first | decide | (simp; done) | (simp; omega)) (by first | decide | (simp; done) | (simp; omega))
      have hs27 : sb_r 75 76 M31 b ([] ++ (tx.take (q4 + 1)) ++ lets s.2.2.2.1) := hs27.p hf33 (by first | decide | (simp; done) | (simp; omega)) (by first | decide | (simp; done) | (simp; omega))
      have hf : sf (pk [75, 76]) M M31 := hf.tr hf33 (fun a t h => by first | exact h | (simp [pk] at h; done) | (simp [pk] at h ⊢; omega) | (simp [pk] at h ⊢; done))
      show sg_W X M31 0 ((((34 - (4 + (q4 + 1))) - 0) - 0) - (4 + ([] ++ (tx.take (q4 + 1)) ++ lets s.2.2.2.1).length)) 65 [some (.ref x), some (.int (nI q4))] [.ref q30]
      exact sg_areturn (st := []) (v := .ref q30) (pc := 65) hC hR (Or.inl ⟨_, rfl⟩) (Or.inr ⟨_, rfl⟩) dX4_writtenText_65 (hk _ _ (by rw [wtext_s hq5, if_pos h17]; exact hs32) hf)
  · refine sg_aload_n (pc := 14) (v := .ref x) hC dX4_writtenText_14 rfl rfl ?_
    refine sg_get (pc := 15) (a := x) (v := .ref ta) 0 hC rfl inw_X4 (by decide) tw_550 dX4_writtenText_15 hX rfl ?_
    exact sg_areturn (st := []) (v := .ref ta) (pc := 18) hC hR (Or.inl ⟨_, rfl⟩) (Or.inr ⟨_, rfl⟩) dX4_writtenText_18 (hk _ _ (by rw [wtext_n h3]; exact hS) hf)

theorem fin_0 {tx : List Nat} {r : RQ} {s : RS} (h : fin tx r s) : 0 < tx.length ∧ tx.getD 0 0 = dk r := by
  obtain ⟨hw, -, -, -, -, h6, h7⟩ := h
  have hh : ∃ z, hd r = dk r :: z := ⟨_, rfl⟩
  obtain ⟨z, hz⟩ := hh
  have hk : (r.1 = 1 ∨ r.1 = 4) ∨ (r.1 = 2 ∨ r.1 = 3) := by
    have := hw.1
    have := hw.2.1
    omega
  rcases hk with hk | hk
  · rw [h7 hk, hz]
    exact ⟨by simp, rfl⟩
  · have e := (h6 hk).1
    cases tx with
    | nil => rw [hz] at e; simp at e
    | cons c tx =>
      rw [hz] at e
      simp at e
      exact ⟨by simp, e.1⟩
theorem fin_ok {tx : List Nat} {r : RQ} {s : RS} (h : fin tx r s) : wtok tx s := by
  obtain ⟨f0, f1⟩ := fin_0 h
  obtain ⟨hw, -, -, h4, h5, h6, h7⟩ := id h
  have hm := hd_m hw.2.2.2.1
  have hlen := hd_len hw.2.2.1
  have getm : ∀ (l : List Nat) (j : Nat), j < l.length → l.getD j 0 ∈ l := by
    intro l j hj
    rw [List.getD_eq_getElem?_getD, List.getElem?_eq_getElem hj]
    exact List.getElem_mem hj
  intro c hc
  have hk : (r.1 = 1 ∨ r.1 = 4) ∨ (r.1 = 2 ∨ r.1 = 3) := by
    have := hw.1
    have := hw.2.1
    omega
  rcases hk with hk | hk
  · have e := h7 hk
    rw [jx_n (c := 58) _ 0 (fun j _ hj => by rw [e] at hj ⊢; exact (hm _ (getm _ _ hj)).1)] at hc
    cases hc
  · obtain ⟨e1, e2⟩ := h6 hk
    have hn := nx_lt (tx := tx) (k := (hd r).length) (by omega)
    have e3 : tx.getD (hd r).length 0 = 58 := by rw [← nx_get hn]; exact e2
    have el : ∀ j, j < (hd r).length → tx.getD j 0 = (hd r).getD j 0 := by
      intro j hj
      rw [← e1]
      simp [List.getD_eq_getElem?_getD, List.getElem?_take, hj]
    rw [jx_s (c := 58) _ 0 (Nat.zero_le _) (by omega) hn (fun j _ hj => by rw [el j hj]; exact (hm _ (getm _ _ hj)).1) e3] at hc
    cases hc
    refine ⟨hlen, fun e => ?_, fun e => ?_⟩
    · have h2 := (dk_2 hw).mp (f1.symm.trans e)
      rw [h4, show dp r = r.2.2.2.1 from by simp [dp, h2]]
      exact (hw.2.2.2.2.2.1 h2).2.2
    · have h3 : r.1 = 3 := by
        rcases hk with hk | hk
        · exact absurd (f1.trans ((dk_2 hw).mpr hk)) e
        · exact hk
      have q := hw.2.2.2.2.2.2.1 h3
      rw [(h5 h3).1, (h5 h3).2]
      omega

set_option maxHeartbeats 400000 in
set_option maxRecDepth 100000 in
theorem c_rdResult {l : Launch} {G : sg_G} {d : Nat} {M : sg_M} {kr : Option Value → sg_M → Prop} {kx : String → sg_M → Prop} (htr : l.stackTraces = false) {x ta b : Nat} {tx : List Nat} {s : RS} {r : RQ} (hI : rd_r M x ta b (tx.getD 0 0) tx s) (hL : st_r 0 0 M (G.2.2.2 1) [114, 119, 120, 100]) (hDG : dg_r G M) (hfin : fin tx r s) (hk : ∀ a M', pm_r M' a r → sf (pk [75, 76]) M M' → kr (some (.ref a)) M') : sg_Met l G yX4_result cX4_result 2 (some (.object "StackGuard$Permission")) (d + 7) 7 59 [.ref x] M kr kx := by
  refine sg_enter [some (.ref x), none] (by decide) htr (Nat.le_of_ble_eq_true rfl) rfl ?_
  intro X hC hR
  have hC : sg_C X l G cX4_result RX4 2 (d + 7) := hC
  obtain ⟨hX, hS, hB, h9z, h16⟩ := id hI
  have hok := fin_ok hfin
  have h90 := (fin_0 hfin).1
  have h91 := hS.ch 0 h90
  have hBl := hB.le
  have hf : sf (pk [75, 76]) M M := sf.rf
  refine sg_aload_n (pc := 0) (v := .ref x) hC dX4_result_0 rfl rfl ?_
  refine sg_get (pc := 1) (a := x) (v := .ref b) 3 hC rfl inw_X4 (by decide) tw_553 dX4_result_1 hX rfl ?_
  have hl9 : (s.2.1).length ≤ 16 := hB.le
  obtain ⟨_, _, _, hx1, -⟩ := id hB
  refine sg_callV (pc := 4) (As := []) (rest := []) (mc := 2) (ms := (4 + s.2.1.length)) hC tw_753 tw_393 tw_394 tw_64 tw_395 yd_J4_toString_0e30d (by decide) (ci := 1) rfl dX4_result_4 hx1 rfl (Nat.le_of_ble_eq_true rfl) (by first | omega | decide | (simp only [List.length_append, List.length_cons, List.length_nil, List.length_take]; omega)) (by first | omega | decide | (simp only [List.length_append, List.length_cons, List.length_nil, List.length_take]; omega)) ?_
  refine c_toStr htr hB (by omega) (by omega) (by omega) (by omega) (by omega) (by omega) (by omega) (fun q2 M3 hs4 hf5 => ?_)
  have hX : M3 x = some (74, .inr (7, [.ref ta, .int (nI s.1), .int (nI (tx.getD 0 0)), .ref b, .int (nI s.2.2.1), .int (nI s.2.2.2.1), .int (nI s.2.2.2.2.1), .int (nI s.2.2.2.2.2)])) := hf5.p hX (by first | decide | (simp; done) | (simp; omega))
  have hS : st_r 71 72 M3 ta tx := hS.p hf5 (by first | decide | (simp; done) | (simp; omega)) (by first | decide | (simp; done) | (simp; omega))
  have hB : sb_r 75 76 M3 b s.2.1 := hB.p hf5 (by first | decide | (simp; done) | (simp; omega)) (by first | decide | (simp; done) | (simp; omega))
  have hL : st_r 0 0 M3 (G.2.2.2 1) ([114, 119, 120, 100]) := hL.p hf5 (by first | decide | (simp; done) | (simp; omega)) (by first | decide | (simp; done) | (simp; omega))
  have hDG : dg_r G M3 := hDG.p hf5 (by first | decide | (simp; done) | (simp; omega))
  have hf : sf (pk [75, 76]) M M3 := hf.tr hf5 (fun a t h => by first | exact h | (simp [pk] at h; done) | (simp [pk] at h ⊢; omega) | (simp [pk] at h ⊢; done))
  show sg_W X M3 5 (59 - (4 + s.2.1.length)) 7 [some (.ref x), none] [.ref q2]
  refine sg_astore_n (pc := 7) (v := .ref q2) hC dX4_result_7 (by decide) rfl ?_
  show sg_W X M3 5 (59 - (4 + s.2.1.length)) 8 [some (.ref x), some (.ref q2)] []
  refine sg_aload_n (pc := 8) (v := .ref x) hC dX4_result_8 rfl rfl ?_
  refine sg_get (pc := 9) (a := x) (v := .ref b) 3 hC rfl inw_X4 (by decide) tw_553 dX4_result_9 hX rfl ?_
  refine sg_iconst (pc := 12) (nI 0) hC dX4_result_12 (by decide) ?_
  obtain ⟨_, _, _, hx6, -⟩ := id hB
  refine sg_callV (pc := 13) (As := [.int (nI 0)]) (rest := []) (mc := 0) (ms := 0) hC tw_754 tw_576 tw_577 tw_64 tw_578 yd_J4_setLength_d00df (by decide) (ci := 1) rfl dX4_result_13 hx6 rfl (Nat.le_of_ble_eq_true rfl) (by first | omega | decide | (simp only [List.length_append, List.length_cons, List.length_nil, List.length_take]; omega)) (by first | omega | decide | (simp only [List.length_append, List.length_cons, List.length_nil, List.length_take]; omega)) ?_
  refine c_sbSet0 htr hB (by first | omega | decide | (simp only [List.length_append, List.length_cons, List.length_nil, List.length_take]; omega)) (by first | omega | decide | (simp only [List.length_append, List.length_cons, List.length_nil, List.length_take]; omega)) (by first | omega | decide | (simp only [List.length_append, List.length_cons, List.length_nil, List.length_take]; omega)) (fun M7 hs8 hf9 => ?_)
  have hX : M7 x = some (74, .inr (7, [.ref ta, .int (nI s.1), .int (nI (tx.getD 0 0)), .ref b, .int (nI s.2.2.1), .int (nI s.2.2.2.1), .int (nI s.2.2.2.2.1), .int (nI s.2.2.2.2.2)])) := hf9.p hX (by first | decide | (simp; done) | (simp; omega))
  have hS : st_r 71 72 M7 ta tx := hS.p hf9 (by first | decide | (simp; done) | (simp; omega)) (by first | decide | (simp; done) | (simp; omega))
  have hL : st_r 0 0 M7 (G.2.2.2 1) ([114, 119, 120, 100]) := hL.p hf9 (by first | decide | (simp; done) | (simp; omega)) (by first | decide | (simp; done) | (simp; omega))
  have hDG : dg_r G M7 := hDG.p hf9 (by first | decide | (simp; done) | (simp; omega))
  have hs4 : st_r 71 72 M7 q2 s.2.1 := hs4.p hf9 (by first | decide | (simp; done) | (simp; omega)) (by first | decide | (simp; done) | (simp; omega))
  have hf : sf (pk [75, 76]) M M7 := hf.tr hf9 (fun a t h => by first | exact h | (simp [pk] at h; done) | (simp [pk] at h ⊢; omega) | (simp [pk] at h ⊢; done))
  show sg_W X M7 5 ((59 - (4 + s.2.1.length)) - 0) 16 [some (.ref x), some (.ref q2)] []
  refine sg_new (pc := 16) (ci := 6) (70) [.int (nI 0), .null, .int (nI 0), .null, .int (nI 0)] hC rfl inw_X3 tyX3 tyX3_ok tw_755 tw_756 tw_87 (by intro j hj; have h9 : j = 0 ∨ j = 1 ∨ j = 2 ∨ j = 3 ∨ j = 4 := (by omega); rcases h9 with rfl | rfl | rfl | rfl | rfl <;> rfl) dX4_result_16 (by first | omega | decide | (simp only [List.length_append, List.length_cons, List.length_nil, List.length_take]; omega)) (by first | omega | decide | (simp only [List.length_append, List.length_cons, List.length_nil, List.length_take]; omega)) (by first | omega | decide | (simp only [List.length_append, List.length_cons, List.length_nil, List.length_take]; omega)) (fun q10 hq11 => ?_)
  refine sg_nm (fun M12 hw13 => ?_)
  have ne14 : x ≠ q10 := sg_fresh hX hq11
  have hX : M12 x = some (74, .inr (7, [.ref ta, .int (nI s.1), .int (nI (tx.getD 0 0)), .ref b, .int (nI s.2.2.1), .int (nI s.2.2.2.1), .int (nI s.2.2.2.2.1), .int (nI s.2.2.2.2.2)])) := hw13.n hX ne14
  have hS : st_r 71 72 M12 ta tx := hS.nw hw13 hq11
  have hL : st_r 0 0 M12 (G.2.2.2 1) ([114, 119, 120, 100]) := hL.nw hw13 hq11
  have hDG : dg_r G M12 := hDG.nw hw13 hq11
  have hs4 : st_r 71 72 M12 q2 s.2.1 := hs4.nw hw13 hq11
  have hs8 : sb_r 75 76 M12 b ([]) := hs8.nw hw13 hq11
  have hn15 : M q10 = none := hf.fr hq11
  have hf : sf (pk [75, 76]) M M12 := hf.nw hw13 hn15
  have hF16 : M12 q10 = some (70, .inr (6, [.int (nI 0), .null, .int (nI 0), .null, .int (nI 0)])) := hw13.1
  show sg_W X M12 4 (((59 - (4 + s.2.1.length)) - 0) - 5) 19 [some (.ref x), some (.ref q2)] [.ref q10]
  have hF16s := hF16
  refine sg_dup (pc := 19) hC dX4_result_19 rfl ?_
  refine sg_aload_n (pc := 20) (v := .ref x) hC dX4_result_20 rfl rfl ?_
  refine sg_get (pc := 21) (a := x) (v := .int (nI (tx.getD 0 0))) 2 hC rfl inw_X4 (by decide) tw_552 dX4_result_21 hX rfl ?_
  refine sg_aload_n (pc := 24) (v := .ref x) hC dX4_result_24 rfl rfl ?_
  refine sg_callV (pc := 25) (As := []) (rest := [.int (nI (tx.getD 0 0)), .ref q10, .ref q10]) (mc := 4) (ms := 34) hC tw_757 tw_759 tw_13 tw_83 tw_760 yd_X4_writtenText (by decide) (ci := 7) rfl dX4_result_25 hX rfl (Nat.le_of_ble_eq_true rfl) (by first | omega | decide | (simp only [List.length_append, List.length_cons, List.length_nil, List.length_take]; omega)) (by first | omega | decide | (simp only [List.length_append, List.length_cons, List.length_nil, List.length_take]; omega)) ?_
  refine c_wText (b := b) (s := s) htr hX hS hs8 h16 hL hDG hok (fun q17 M18 hs19 hf20 => ?_)
  have hX : M18 x = some (74, .inr (7, [.ref ta, .int (nI s.1), .int (nI (tx.getD 0 0)), .ref b, .int (nI s.2.2.1), .int (nI s.2.2.2.1), .int (nI s.2.2.2.2.1), .int (nI s.2.2.2.2.2)])) := hf20.p hX (by first | decide | (simp; done) | (simp; omega))
  have hF16 : M18 q10 = some (70, .inr (6, [.int (nI 0), .null, .int (nI 0), .null, .int (nI 0)])) := hf20.p hF16 (by first | decide | (simp; done) | (simp; omega))
  have hS : st_r 71 72 M18 ta tx := hS.p hf20 (by first | decide | (simp; done) | (simp; omega)) (by first | decide | (simp; done) | (simp; omega))
  have hL : st_r 0 0 M18 (G.2.2.2 1) ([114, 119, 120, 100]) := hL.p hf20 (by first | decide | (simp; done) | (simp; omega)) (by first | decide | (simp; done) | (simp; omega))
  have hDG : dg_r G M18 := hDG.p hf20 (by first | decide | (simp; done) | (simp; omega))
  have hs4 : st_r 71 72 M18 q2 s.2.1 := hs4.p hf20 (by first | decide | (simp; done) | (simp; omega)) (by first | decide | (simp; done) | (simp; omega))
  have hf : sf (pk [75, 76]) M M18 := hf.tr hf20 (fun a t h => by first | exact h | (simp [pk] at h; done) | (simp [pk] at h ⊢; omega) | (simp [pk] at h ⊢; done))
  show sg_W X M18 0 ((((59 - (4 + s.2.1.length)) - 0) - 5) - 34) 28 [some (.ref x), some (.ref q2)] [.ref q17, .int (nI (tx.getD 0 0)), .ref q10, .ref q10]
  refine sg_aload_n (pc := 28) (v := .ref x) hC dX4_result_28 rfl rfl ?_
  refine sg_get (pc := 29) (a := x) (v := .int (nI s.2.2.2.1)) 5 hC rfl inw_X4 (by decide) tw_555 dX4_result_29 hX rfl ?_
  refine sg_aload_n (pc := 32) (v := .ref q2) hC dX4_result_32 rfl rfl ?_
  refine sg_aload_n (pc := 33) (v := .ref x) hC dX4_result_33 rfl rfl ?_
  refine sg_get (pc := 34) (a := x) (v := .int (nI s.2.2.1)) 4 hC rfl inw_X4 (by decide) tw_554 dX4_result_34 hX rfl ?_
  refine sg_callI (pc := 37) (b := q10) (As := [.int (nI (tx.getD 0 0)), .ref q17, .int (nI s.2.2.2.1), .ref q2, .int (nI s.2.2.1)]) (rest := [.ref q10]) (mc := 0) (ms := 0) hC tw_794 tw_795 tw_87 tw_796 rfl yd_X3_init (by decide) dX4_result_37 rfl (Nat.le_of_ble_eq_true rfl) (by first | omega | decide | (simp only [List.length_append, List.length_cons, List.length_nil, List.length_take]; omega)) (by first | omega | decide | (simp only [List.length_append, List.length_cons, List.length_nil, List.length_take]; omega)) ?_
  refine c_pmInit htr hF16 (by first | omega | decide | (simp only [List.length_append, List.length_cons, List.length_nil, List.length_take]; omega)) (fun M21 hw22 => ?_)
  have hX : M21 x = some (74, .inr (7, [.ref ta, .int (nI s.1), .int (nI (tx.getD 0 0)), .ref b, .int (nI s.2.2.1), .int (nI s.2.2.2.1), .int (nI s.2.2.2.2.1), .int (nI s.2.2.2.2.2)])) := hw22.n hX ne14
  have hS : st_r 71 72 M21 ta tx := hS.st hw22 hF16 (by first | omega | decide | (simp only [List.length_append, List.length_cons, List.length_nil, List.length_take]; omega)) (by first | omega | decide | (simp only [List.length_append, List.length_cons, List.length_nil, List.length_take]; omega))
  have hL : st_r 0 0 M21 (G.2.2.2 1) ([114, 119, 120, 100]) := hL.st hw22 hF16 (by first | omega | decide | (simp only [List.length_append, List.length_cons, List.length_nil, List.length_take]; omega)) (by first | omega | decide | (simp only [List.length_append, List.length_cons, List.length_nil, List.length_take]; omega))
  have hDG : dg_r G M21 := hDG.st hw22 hF16 (by first | omega | decide | (simp only [List.length_append, List.length_cons, List.length_nil, List.length_take]; omega))
  have hs4 : st_r 71 72 M21 q2 s.2.1 := hs4.st hw22 hF16 (by first | omega | decide | (simp only [List.length_append, List.length_cons, List.length_nil, List.length_take]; omega)) (by first | omega | decide | (simp only [List.length_append, List.length_cons, List.length_nil, List.length_take]; omega))
  have hs19 : st_r 71 72 M21 q17 (wtext tx s) := hs19.st hw22 hF16 (by first | omega | decide | (simp only [List.length_append, List.length_cons, List.length_nil, List.length_take]; omega)) (by first | omega | decide | (simp only [List.length_append, List.length_cons, List.length_nil, List.length_take]; omega))
  have hf : sf (pk [75, 76]) M M21 := hf.nw hw22 hn15
  have hF16 : M21 q10 = some (70, .inr (6, [.int (nI (tx.getD 0 0)), .ref q17, .int (nI s.2.2.2.1), .ref q2, .int (nI s.2.2.1)])) := hw22.1
  show sg_W X M21 0 (((((59 - (4 + s.2.1.length)) - 0) - 5) - 34) - 0) 40 [some (.ref x), some (.ref q2)] [.ref q10]
  have e1 : wtext tx s = dt r := wtext_dt hfin
  have e2 : tx.getD 0 0 = dk r := (fin_0 hfin).2
  obtain ⟨hw9, e3, e4, e5, -⟩ := hfin
  exact sg_areturn (st := []) (v := .ref q10) (pc := 40) hC hR (Or.inl ⟨_, rfl⟩) (Or.inr ⟨_, rfl⟩) dX4_result_40 (hk _ _ ⟨q17, q2, by rw [hF16, e2, e5, e4]; rfl, by rw [← e1]; exact hs19, by rw [← e3]; exact hs4, hw9⟩ hf)
