/-- the table of digits -/
def dg_r (G : sg_G) (M : sg_M) : Prop := ∃ dg : Nat → Int32, M (G.2.2.2 2) = some (0, .inl (.byte, 100, .inl dg)) ∧ ∀ v, v < 10 → dg v = nI (48 + v)
theorem dg_r.p {G : sg_G} {L : List Nat} {M M' : sg_M} (h : dg_r G M) (hf : sf (pk L) M M') (h0 : 0 ∉ L) : dg_r G M' := by
  obtain ⟨dg, h1, h2⟩ := h
  exact ⟨dg, hf.p h1 h0, h2⟩
theorem dg_r.st {G : sg_G} {M M' : sg_M} {b v : Nat} {e e' : sg_E} (h : dg_r G M) (hw : sw M b (v, e') M') (hb : M b = some (v, e)) (h1 : 0 ≠ v) : dg_r G M' := by
  obtain ⟨dg, p1, p2⟩ := h
  exact ⟨dg, hw.n p1 (sg_net p1 hb h1), p2⟩
theorem dg_r.nw {G : sg_G} {M M' : sg_M} {q : Nat} {y : Nat × sg_E} (h : dg_r G M) (hw : sw M q y M') (hq : M q = none) : dg_r G M' := by
  obtain ⟨dg, p1, p2⟩ := h
  exact ⟨dg, hw.n p1 (sg_fresh p1 hq), p2⟩
theorem js1 {v : Nat} (h : v < 10) : ¬ -(nI v) ≤ (-10 : Int32) := by
  have : ∀ k : Fin 10, ¬ -(nI k.val) ≤ (-10 : Int32) := by decide
  exact this ⟨v, h⟩
theorem js2 {v : Nat} (h : v < 10) : -(nI v) > (-100 : Int32) := by
  have : ∀ k : Fin 10, -(nI k.val) > (-100 : Int32) := by decide
  exact this ⟨v, h⟩
theorem js5 {v : Nat} (h : v < 10) : -(nI v) ≥ (-9 : Int32) := by
  have : ∀ k : Fin 10, -(nI k.val) ≥ (-9 : Int32) := by decide
  exact this ⟨v, h⟩
theorem js4 {v : Nat} (h : v < 10) : -(-(nI v)) = nI v := by
  have : ∀ k : Fin 10, -(-(nI k.val)) = nI k.val := by decide
  exact this ⟨v, h⟩

set_option maxHeartbeats 400000 in
set_option maxRecDepth 100000 in
theorem c_getBytes {l : Launch} {G : sg_G} {d : Nat} {M : sg_M} {kr : Option Value → sg_M → Prop} {kx : String → sg_M → Prop} (htr : l.stackTraces = false) {a b u i : Nat} {w : List Nat} {g : Nat → Int32} (hS : st_r 71 72 M a w) (hD : M b = some (u, .inl (.byte, 16, .inl g))) (hu : u ≠ 0) (h71 : u ≠ 71) (h72 : u ≠ 72) (hi : i + w.length ≤ 16) (hk : ∀ M' g2, sw M b (u, .inl (.byte, 16, .inl g2)) M' → (∀ j, g2 j = if i ≤ j ∧ j < i + w.length then nI (w.getD (j - i) 0) else g j) → kr none M') : sg_Met l G yJ0_getBytes_840e7 cJ0_getBytes_840e7 4 none (d + 1) 0 0 [.ref a, .ref b, .int (nI i), .int (nI 0)] M kr kx := by
  refine sg_enter [some (.ref a), some (.ref b), some (.int (nI i)), some (.int (nI 0))] (by decide) htr (Nat.le_of_ble_eq_true rfl) rfl ?_
  intro X hC hR
  have hC : sg_C X l G cJ0_getBytes_840e7 RJ0 4 (d + 1) := hC
  obtain ⟨b0, h, z, g0, hA, hB, hN, hG⟩ := id hS
  refine sg_aload_n (pc := 0) (v := .ref a) hC dJ0_getBytes_840e7_0 rfl rfl ?_
  refine sg_callV (pc := 1) (As := []) (rest := []) (mc := 0) (ms := 0) hC tw_485 tw_486 tw_487 tw_65 tw_488 yd_J0_coder_7d493 (by decide) (ci := 0) rfl dJ0_getBytes_840e7_1 hA rfl (Nat.le_of_ble_eq_true rfl) (by first | omega | decide) (by first | omega | decide) ?_
  refine c_coder htr hS ?_
  show sg_W X M 0 0 4 [some (.ref a), some (.ref b), some (.int (nI i)), some (.int (nI 0))] [.int (nI 0)]
  refine sg_iload_n (pc := 4) (x := nI 0) hC dJ0_getBytes_840e7_4 rfl ?_
  refine sg_icmpN_ne (pc := 5) (a := 0) (b := 0) 28 hC dJ0_getBytes_840e7_5 (by decide) (by decide) (by decide) (fun h1 => absurd h1 (by decide)) (fun _ => ?_)
  refine sg_aload_n (pc := 8) (v := .ref a) hC dJ0_getBytes_840e7_8 rfl rfl ?_
  refine sg_get (pc := 9) (a := a) (v := .ref b0) 0 hC rfl inw_J0 (by decide) tw_533 dJ0_getBytes_840e7_9 hA rfl ?_
  refine sg_iconst (pc := 12) (nI 0) hC dJ0_getBytes_840e7_12 (by decide) ?_
  refine sg_aload_n (pc := 13) (v := .ref b) hC dJ0_getBytes_840e7_13 rfl rfl ?_
  refine sg_iload_n (pc := 14) (x := nI i) hC dJ0_getBytes_840e7_14 rfl ?_
  refine sg_iload_n (pc := 15) (x := nI 0) hC dJ0_getBytes_840e7_15 rfl ?_
  refine sg_ishlN (pc := 16) (a := i) (b := 0) hC dJ0_getBytes_840e7_16 (by first | omega | decide) (by first | omega | decide) ?_
  show sg_W X M 0 0 17 [some (.ref a), some (.ref b), some (.int (nI i)), some (.int (nI 0))] [.int (nI i), .ref b, .int (nI 0), .ref b0]
  refine sg_aload_n (pc := 17) (v := .ref a) hC dJ0_getBytes_840e7_17 rfl rfl ?_
  refine sg_get (pc := 18) (a := a) (v := .ref b0) 0 hC rfl inw_J0 (by decide) tw_533 dJ0_getBytes_840e7_18 hA rfl ?_
  refine sg_alen (pc := 21) 1 hC dJ0_getBytes_840e7_21 hB rfl ?_
  show sg_W X M 0 0 22 [some (.ref a), some (.ref b), some (.int (nI i)), some (.int (nI 0))] [.int (nI w.length), .int (nI i), .ref b, .int (nI 0), .ref b0]
  refine sg_copyb (pc := 22) (sp := 0) (dp := i) (n := w.length) hC tw_503 tw_264 tw_263 tw_76 dJ0_getBytes_840e7_22 hB (by first | omega | decide) hD (by first | omega | decide) (by first | omega | decide) (by first | omega | decide) (by first | omega | decide) (by first | omega | decide) (fun j hj => by rw [Nat.zero_add, (hG j hj).1]; exact jb_fit (hG j hj).2) (Nat.le_of_ble_eq_true rfl) ?_
  refine sg_nm (fun M2 hw3 => ?_)
  have hA : M2 a = some (71, .inr (0, [.ref b0, .int (nI 0), .int h, .int z])) := hw3.n hA (sg_net hA hD (by first | omega | decide))
  have hB : M2 b0 = some (72, .inl (.byte, w.length, .inl g0)) := hw3.n hB (sg_net hB hD (by first | omega | decide))
  have hS : st_r 71 72 M2 a w := hS.st hw3 hD (by first | omega | decide) (by first | omega | decide)
  have hD : M2 b = some (u, .inl (.byte, 16, .inl (va_cpy g0 g 0 i w.length))) := hw3.1
  show sg_W X M2 0 0 25 [some (.ref a), some (.ref b), some (.int (nI i)), some (.int (nI 0))] []
  refine sg_goto (pc := 25) 43 hC dJ0_getBytes_840e7_25 (by decide) ?_
  exact sg_vreturn (st := []) (pc := 43) hC hR dJ0_getBytes_840e7_43 (hk _ _ hw3 (fun j => by
    show (if i ≤ j ∧ j < i + w.length then g0 (0 + (j - i)) else g j) = _
    by_cases h9 : i ≤ j ∧ j < i + w.length
    · rw [if_pos h9, if_pos h9, Nat.zero_add, (hG _ (by omega)).1]
    · rw [if_neg h9, if_neg h9]))

set_option maxHeartbeats 400000 in
set_option maxRecDepth 100000 in
theorem c_inflIf {l : Launch} {G : sg_G} {d : Nat} {M : sg_M} {kr : Option Value → sg_M → Prop} {kx : String → sg_M → Prop} (htr : l.stackTraces = false) {t u a : Nat} {w : List Nat} {e : Nat} {v : List Nat} (hS : sb_r t u M a w) (hT : st_r 71 72 M e v) (hk : kr none M) : sg_Met l G yJ5_inflateIfNeededFor_a7421 cJ5_inflateIfNeededFor_a7421 2 none (d + 1) 0 0 [.ref a, .ref e] M kr kx := by
  refine sg_enter [some (.ref a), some (.ref e)] (by decide) htr (Nat.le_of_ble_eq_true rfl) rfl ?_
  intro X hC hR
  have hC : sg_C X l G cJ5_inflateIfNeededFor_a7421 RJ5 2 (d + 1) := hC
  obtain ⟨b, ml, g, hA, hB, hN, hG⟩ := id hS
  refine sg_gets_cs (pc := 0) hC tw_109 dJ5_inflateIfNeededFor_a7421_0 ?_
  refine sg_ifN_eq (pc := 3) (a := 1) 21 hC dJ5_inflateIfNeededFor_a7421_3 (by decide) (by decide) (fun h1 => absurd h1 (by decide)) (fun _ => ?_)
  refine sg_aload_n (pc := 6) (v := .ref a) hC dJ5_inflateIfNeededFor_a7421_6 rfl rfl ?_
  refine sg_get (pc := 7) (a := a) (v := .int (nI 0)) 1 hC rfl inw_J4 (by decide) tw_119 dJ5_inflateIfNeededFor_a7421_7 hA rfl ?_
  refine sg_aload_n (pc := 10) (v := .ref e) hC dJ5_inflateIfNeededFor_a7421_10 rfl rfl ?_
  obtain ⟨_, _, _, _, hx3, -⟩ := id hT
  refine sg_callV (pc := 11) (As := []) (rest := [.int (nI 0)]) (mc := 0) (ms := 0) hC tw_498 tw_486 tw_487 tw_65 tw_488 yd_J0_coder_7d493 (by decide) (ci := 0) rfl dJ5_inflateIfNeededFor_a7421_11 hx3 rfl (Nat.le_of_ble_eq_true rfl) (by first | omega | decide) (by first | omega | decide) ?_
  refine c_coder htr hT ?_
  show sg_W X M 0 0 14 [some (.ref a), some (.ref e)] [.int (nI 0), .int (nI 0)]
  refine sg_icmpN_eq (pc := 14) (a := 0) (b := 0) 21 hC dJ5_inflateIfNeededFor_a7421_14 (by decide) (by decide) (by decide) (fun _ => ?_) (fun h4 => absurd h4 (by decide))
  exact sg_vreturn (st := []) (pc := 21) hC hR dJ5_inflateIfNeededFor_a7421_21 hk

set_option maxHeartbeats 400000 in
set_option maxRecDepth 100000 in
theorem c_putStr {l : Launch} {G : sg_G} {d : Nat} {M : sg_M} {kr : Option Value → sg_M → Prop} {kx : String → sg_M → Prop} (htr : l.stackTraces = false) {t u a b e : Nat} {w v : List Nat} {ml : Int32} {g : Nat → Int32} (hA : M a = some (t, .inr (1, [.ref b, .int (nI 0), .int ml, .int (nI w.length)]))) (hB : M b = some (u, .inl (.byte, 16, .inl g))) (hN : w.length ≤ 16) (hG : ∀ j, j < w.length → g j = nI (w.getD j 0) ∧ w.getD j 0 < 128) (ht : t ≠ 0) (hu : u ≠ 0) (htu : t ≠ u) (h1 : t ≠ 71) (h2 : t ≠ 72) (h3 : u ≠ 71) (h4 : u ≠ 72) (hT : st_r 71 72 M e v) (hi : w.length + v.length ≤ 16) (hk : ∀ M' g2, sw M b (u, .inl (.byte, 16, .inl g2)) M' → (∀ j, g2 j = if w.length ≤ j ∧ j < w.length + v.length then nI (v.getD (j - w.length) 0) else g j) → kr none M') : sg_Met l G yJ5_putStringAt_47b60 cJ5_putStringAt_47b60 3 none (d + 2) 0 0 [.ref a, .int (nI w.length), .ref e] M kr kx := by
  refine sg_enter [some (.ref a), some (.int (nI w.length)), some (.ref e)] (by decide) htr (Nat.le_of_ble_eq_true rfl) rfl ?_
  intro X hC hR
  have hC : sg_C X l G cJ5_putStringAt_47b60 RJ5 3 (d + 2) := hC
  have hS : sb_r t u M a w := ⟨b, ml, g, hA, hB, hN, hG⟩
  refine sg_aload_n (pc := 0) (v := .ref a) hC dJ5_putStringAt_47b60_0 rfl rfl ?_
  refine sg_aload_n (pc := 1) (v := .ref e) hC dJ5_putStringAt_47b60_1 rfl rfl ?_
  refine sg_callU (pc := 2) (y := yJ5_inflateIfNeededFor_a7421) (As := [.ref e]) (rest := []) (mc := 0) (ms := 0) hC tw_494 tw_1481 tw_496 tw_497 (Or.inr (by simp [sg_wk])) tw_496 tw_63 tw_497 yd_J5_inflateIfNeededFor_a7421 (by decide) (ci := 1) rfl dJ5_putStringAt_47b60_2 hA rfl (Nat.le_of_ble_eq_true rfl) (by first | omega | decide) (by first | omega | decide) ?_
  refine c_inflIf htr hS hT ?_
  show sg_W X M 0 0 5 [some (.ref a), some (.int (nI w.length)), some (.ref e)] []
  refine sg_aload_n (pc := 5) (v := .ref e) hC dJ5_putStringAt_47b60_5 rfl rfl ?_
  refine sg_aload_n (pc := 6) (v := .ref a) hC dJ5_putStringAt_47b60_6 rfl rfl ?_
  refine sg_get (pc := 7) (a := a) (v := .ref b) 0 hC rfl inw_J4 (by decide) tw_118 dJ5_putStringAt_47b60_7 hA rfl ?_
  refine sg_iload_n (pc := 10) (x := nI w.length) hC dJ5_putStringAt_47b60_10 rfl ?_
  refine sg_aload_n (pc := 11) (v := .ref a) hC dJ5_putStringAt_47b60_11 rfl rfl ?_
  refine sg_get (pc := 12) (a := a) (v := .int (nI 0)) 1 hC rfl inw_J4 (by decide) tw_119 dJ5_putStringAt_47b60_12 hA rfl ?_
  obtain ⟨_, _, _, _, hx2, -⟩ := id hT
  refine sg_callV (pc := 15) (As := [.ref b, .int (nI w.length), .int (nI 0)]) (rest := []) (mc := 0) (ms := 0) hC tw_499 tw_500 tw_501 tw_65 tw_502 yd_J0_getBytes_840e7 (by decide) (ci := 0) rfl dJ5_putStringAt_47b60_15 hx2 rfl (Nat.le_of_ble_eq_true rfl) (by first | omega | decide) (by first | omega | decide) ?_
  refine c_getBytes htr hT hB (by first | omega | decide) (by first | omega | decide) (by first | omega | decide) (by first | omega | decide) (fun M3 g4 hw5 hg6 => ?_)
  have hA : M3 a = some (t, .inr (1, [.ref b, .int (nI 0), .int ml, .int (nI w.length)])) := hw5.n hA (sg_net hA hB (by first | omega | decide))
  have hT : st_r 71 72 M3 e v := hT.st hw5 hB (by first | omega | decide) (by first | omega | decide)
  have hB : M3 b = some (u, .inl (.byte, 16, .inl g4)) := hw5.1
  show sg_W X M3 0 0 18 [some (.ref a), some (.int (nI w.length)), some (.ref e)] []
  exact sg_vreturn (st := []) (pc := 18) hC hR dJ5_putStringAt_47b60_18 (hk _ _ hw5 hg6)

set_option maxHeartbeats 400000 in
set_option maxRecDepth 100000 in
theorem c_asbAppS {l : Launch} {G : sg_G} {d : Nat} {M : sg_M} {kr : Option Value → sg_M → Prop} {kx : String → sg_M → Prop} (htr : l.stackTraces = false) {t u a : Nat} {w : List Nat} {e : Nat} {v : List Nat} (hS : sb_r t u M a w) (ht : t ≠ 0) (hu : u ≠ 0) (htu : t ≠ u) (h1 : t ≠ 71) (h2 : t ≠ 72) (h3 : u ≠ 71) (h4 : u ≠ 72) (hT : st_r 71 72 M e v) (hi : w.length + v.length ≤ 16) (hk : ∀ M', sb_r t u M' a (w ++ v) → sf (pk [t, u]) M M' → kr (some (.ref a)) M') : sg_Met l G yJ5_append_cf1ce cJ5_append_cf1ce 3 (some (.object "java/lang/AbstractStringBuilder")) (d + 3) 0 0 [.ref a, .ref e] M kr kx := by
  refine sg_enter [some (.ref a), some (.ref e), none] (by decide) htr (Nat.le_of_ble_eq_true rfl) rfl ?_
  intro X hC hR
  have hC : sg_C X l G cJ5_append_cf1ce RJ5 3 (d + 3) := hC
  obtain ⟨b, ml, g, hA, hB, hN, hG⟩ := id hS
  have hV : ∀ j, j < v.length → v.getD j 0 < 128 := by
    obtain ⟨_, _, _, _, -, -, -, h9⟩ := hT
    exact fun j hj => (h9 j hj).2
  have hf : sf (pk [t, u]) M M := sf.rf
  refine sg_aload_n (pc := 0) (v := .ref e) hC dJ5_append_cf1ce_0 rfl rfl ?_
  refine sg_ifnonnull (pc := 1) (r := (some e)) 9 hC dJ5_append_cf1ce_1 (by decide) (fun _ _ => ?_) (fun h => by cases h)
  refine sg_aload_n (pc := 9) (v := .ref e) hC dJ5_append_cf1ce_9 rfl rfl ?_
  obtain ⟨_, _, _, _, hx2, -⟩ := id hT
  refine sg_callV (pc := 10) (As := []) (rest := []) (mc := 0) (ms := 0) hC tw_481 tw_482 tw_483 tw_65 tw_484 yd_J0_length_8abf5 (by decide) (ci := 0) rfl dJ5_append_cf1ce_10 hx2 rfl (Nat.le_of_ble_eq_true rfl) (by first | omega | decide) (by first | omega | decide) ?_
  refine c_slen htr hT ?_
  show sg_W X M 0 0 13 [some (.ref a), some (.ref e), none] [.int (nI v.length)]
  refine sg_istore_n (pc := 13) (x := nI v.length) hC dJ5_append_cf1ce_13 (by decide) ?_
  show sg_W X M 0 0 14 [some (.ref a), some (.ref e), some (.int (nI v.length))] []
  refine sg_aload_n (pc := 14) (v := .ref a) hC dJ5_append_cf1ce_14 rfl rfl ?_
  refine sg_aload_n (pc := 15) (v := .ref a) hC dJ5_append_cf1ce_15 rfl rfl ?_
  refine sg_get (pc := 16) (a := a) (v := .int (nI w.length)) 3 hC rfl inw_J4 (by decide) tw_122 dJ5_append_cf1ce_16 hA rfl ?_
  refine sg_iload_n (pc := 19) (x := nI v.length) hC dJ5_append_cf1ce_19 rfl ?_
  refine sg_iaddN (pc := 20) (a := w.length) (b := v.length) hC dJ5_append_cf1ce_20 ?_
  refine sg_callU (pc := 21) (y := yJ5_ensureCapacityInternal_d00df) (As := [.int (nI (w.length + v.length))]) (rest := []) (mc := 0) (ms := 0) hC tw_230 tw_1472 tw_232 tw_233 (Or.inr (by simp [sg_wk])) tw_232 tw_63 tw_233 yd_J5_ensureCapacityInternal_d00df (by decide) (ci := 1) rfl dJ5_append_cf1ce_21 hA rfl (Nat.le_of_ble_eq_true rfl) (by first | omega | decide) (by first | omega | decide) ?_
  refine c_ensure htr hS (by first | omega | decide) ?_
  show sg_W X M 0 0 24 [some (.ref a), some (.ref e), some (.int (nI v.length))] []
  refine sg_aload_n (pc := 24) (v := .ref a) hC dJ5_append_cf1ce_24 rfl rfl ?_
  refine sg_aload_n (pc := 25) (v := .ref a) hC dJ5_append_cf1ce_25 rfl rfl ?_
  refine sg_get (pc := 26) (a := a) (v := .int (nI w.length)) 3 hC rfl inw_J4 (by decide) tw_122 dJ5_append_cf1ce_26 hA rfl ?_
  refine sg_aload_n (pc := 29) (v := .ref e) hC dJ5_append_cf1ce_29 rfl rfl ?_
  refine sg_callU (pc := 30) (y := yJ5_putStringAt_47b60) (As := [.int (nI w.length), .ref e]) (rest := []) (mc := 0) (ms := 0) hC tw_490 tw_1480 tw_492 tw_493 (Or.inr (by simp [sg_wk])) tw_492 tw_63 tw_493 yd_J5_putStringAt_47b60 (by decide) (ci := 1) rfl dJ5_append_cf1ce_30 hA rfl (Nat.le_of_ble_eq_true rfl) (by first | omega | decide) (by first | omega | decide) ?_
  refine c_putStr (v := v) htr hA hB hN hG (by omega) (by omega) (by omega) (by omega) (by omega) (by omega) (by omega) hT (by omega) (fun M3 g4 hw5 hg6 => ?_)
  have hA : M3 a = some (t, .inr (1, [.ref b, .int (nI 0), .int ml, .int (nI w.length)])) := hw5.n hA (sg_net hA hB (by first | omega | decide))
  have hT : st_r 71 72 M3 e v := hT.st hw5 hB (by first | omega | decide) (by first | omega | decide)
  have hf : sf (pk [t, u]) M M3 := hf.st hw5 hB (by simp [pk])
  have hB : M3 b = some (u, .inl (.byte, 16, .inl g4)) := hw5.1
  show sg_W X M3 0 0 33 [some (.ref a), some (.ref e), some (.int (nI v.length))] []
  refine sg_aload_n (pc := 33) (v := .ref a) hC dJ5_append_cf1ce_33 rfl rfl ?_
  refine sg_dup (pc := 34) hC dJ5_append_cf1ce_34 rfl ?_
  refine sg_get (pc := 35) (a := a) (v := .int (nI w.length)) 3 hC rfl inw_J4 (by decide) tw_122 dJ5_append_cf1ce_35 hA rfl ?_
  refine sg_iload_n (pc := 38) (x := nI v.length) hC dJ5_append_cf1ce_38 rfl ?_
  refine sg_iaddN (pc := 39) (a := w.length) (b := v.length) hC dJ5_append_cf1ce_39 ?_
  refine sg_put (pc := 40) (a := a) (v := .int (nI (w.length + v.length))) 3 hC rfl inw_J4 tyJ4 tyJ4_ok nmJ4 (by decide) tw_122 rfl rfl rfl rfl dJ5_append_cf1ce_40 hA (by first | omega | decide) (Nat.le_of_ble_eq_true rfl) ?_
  refine sg_nm (fun M7 hw8 => ?_)
  have hB : M7 b = some (u, .inl (.byte, 16, .inl g4)) := hw8.n hB (sg_net hB hA (by first | omega | decide))
  have hT : st_r 71 72 M7 e v := hT.st hw8 hA (by first | omega | decide) (by first | omega | decide)
  have hf : sf (pk [t, u]) M M7 := hf.st hw8 hA (by simp [pk])
  have hA : M7 a = some (t, .inr (1, [.ref b, .int (nI 0), .int ml, .int (nI (w.length + v.length))])) := hw8.1
  refine sg_aload_n (pc := 43) (v := .ref a) hC dJ5_append_cf1ce_43 rfl rfl ?_
  exact sg_areturn (st := []) (v := .ref a) (pc := 44) hC hR (Or.inl ⟨_, rfl⟩) (Or.inr ⟨_, rfl⟩) dJ5_append_cf1ce_44 (hk _ (sbx_cat hA hB hi hG hV hg6) hf)

set_option maxHeartbeats 400000 in
set_option maxRecDepth 100000 in
theorem c_sbAppS {l : Launch} {G : sg_G} {d : Nat} {M : sg_M} {kr : Option Value → sg_M → Prop} {kx : String → sg_M → Prop} (htr : l.stackTraces = false) {t u a : Nat} {w : List Nat} {e : Nat} {v : List Nat} (hS : sb_r t u M a w) (ht : t ≠ 0) (hu : u ≠ 0) (htu : t ≠ u) (h1 : t ≠ 71) (h2 : t ≠ 72) (h3 : u ≠ 71) (h4 : u ≠ 72) (hT : st_r 71 72 M e v) (hi : w.length + v.length ≤ 16) (hk : ∀ M', sb_r t u M' a (w ++ v) → sf (pk [t, u]) M M' → kr (some (.ref a)) M') : sg_Met l G yJ4_append_15ec4 cJ4_append_15ec4 2 (some (.object "java/lang/StringBuilder")) (d + 4) 0 0 [.ref a, .ref e] M kr kx := by
  refine sg_enter [some (.ref a), some (.ref e)] (by decide) htr (Nat.le_of_ble_eq_true rfl) rfl ?_
  intro X hC hR
  have hC : sg_C X l G cJ4_append_15ec4 RJ4 2 (d + 4) := hC
  have hf : sf (pk [t, u]) M M := sf.rf
  refine sg_aload_n (pc := 0) (v := .ref a) hC dJ4_append_15ec4_0 rfl rfl ?_
  refine sg_aload_n (pc := 1) (v := .ref e) hC dJ4_append_15ec4_1 rfl rfl ?_
  obtain ⟨_, _, _, hx1, -⟩ := id hS
  refine sg_callSU (pc := 2) (As := [.ref e]) (rest := []) (mc := 0) (ms := 0) hC tw_471 tw_1478 tw_131 tw_472 tw_63 tw_473 ⟨by decide, yd_J5_append_cf1ce.2.2⟩ (by decide) (ci := 1) rfl dJ4_append_15ec4_2 hx1 rfl (Nat.le_of_ble_eq_true rfl) (by first | omega | decide) (by first | omega | decide) ?_
  refine c_asbAppS htr hS (by first | omega | decide) (by first | omega | decide) (by first | omega | decide) (by omega) (by omega) (by omega) (by omega) hT (by first | omega | decide) (fun M2 hs3 hf4 => ?_)
  have hT : st_r 71 72 M2 e v := hT.p hf4 (by first | decide | (simp; done) | (simp; omega)) (by first | decide | (simp; done) | (simp; omega))
  have hf : sf (pk [t, u]) M M2 := hf.tr hf4 (fun a t h => by first | exact h | (simp [pk] at h; done) | (simp [pk] at h ⊢; omega) | (simp [pk] at h ⊢; done))
  show sg_W X M2 0 0 5 [some (.ref a), some (.ref e)] [.ref a]
  refine sg_pop (pc := 5) hC dJ4_append_15ec4_5 rfl ?_
  refine sg_aload_n (pc := 6) (v := .ref a) hC dJ4_append_15ec4_6 rfl rfl ?_
  exact sg_areturn (st := []) (v := .ref a) (pc := 7) hC hR (Or.inl ⟨_, rfl⟩) (Or.inr ⟨_, rfl⟩) dJ4_append_15ec4_7 (hk _ hs3 hf)

set_option maxHeartbeats 400000 in
set_option maxRecDepth 100000 in
theorem c_strSize {l : Launch} {G : sg_G} {d : Nat} {M : sg_M} {kr : Option Value → sg_M → Prop} {kx : String → sg_M → Prop} (htr : l.stackTraces = false) {v : Nat} (hv : v < 10) (hk : kr (some (.int (nI 1))) M) : sg_Met l G yJ6_stringSize_0f7a4 cJ6_stringSize_0f7a4 4 (some .int) (d + 0) 0 0 [.int (nI v)] M kr kx := by
  refine sg_enter [some (.int (nI v)), none, none, none] (by decide) htr (Nat.le_of_ble_eq_true rfl) rfl ?_
  intro X hC hR
  have hC : sg_C X l G cJ6_stringSize_0f7a4 RJ6 4 (d + 0) := hC
  refine sg_iconst (pc := 0) (nI 1) hC dJ6_stringSize_0f7a4_0 (by decide) ?_
  refine sg_istore_n (pc := 1) (x := nI 1) hC dJ6_stringSize_0f7a4_1 (by decide) ?_
  show sg_W X M 0 0 2 [some (.int (nI v)), some (.int (nI 1)), none, none] []
  refine sg_iload_n (pc := 2) (x := nI v) hC dJ6_stringSize_0f7a4_2 rfl ?_
  refine sg_ifN_lt (pc := 3) (a := v) 11 hC dJ6_stringSize_0f7a4_3 (by decide) (by first | omega | decide) (fun h1 => by exfalso; omega) (fun h1 => ?_)
  refine sg_iconst (pc := 6) (nI 0) hC dJ6_stringSize_0f7a4_6 (by decide) ?_
  refine sg_istore_n (pc := 7) (x := nI 0) hC dJ6_stringSize_0f7a4_7 (by decide) ?_
  show sg_W X M 0 0 8 [some (.int (nI v)), some (.int (nI 0)), none, none] []
  refine sg_iload_n (pc := 8) (x := nI v) hC dJ6_stringSize_0f7a4_8 rfl ?_
  refine sg_ineg (pc := 9) (x := nI v) hC dJ6_stringSize_0f7a4_9 ?_
  refine sg_istore_n (pc := 10) (x := (-(nI v))) hC dJ6_stringSize_0f7a4_10 (by decide) ?_
  show sg_W X M 0 0 11 [some (.int (-(nI v))), some (.int (nI 0)), none, none] []
  refine sg_bipush (pc := 11) (((-10))) hC dJ6_stringSize_0f7a4_11 (by decide) ?_
  refine sg_istore_n (pc := 13) (x := ((-10))) hC dJ6_stringSize_0f7a4_13 (by decide) ?_
  show sg_W X M 0 0 14 [some (.int (-(nI v))), some (.int (nI 0)), some (.int ((-10))), none] []
  refine sg_iconst (pc := 14) (nI 1) hC dJ6_stringSize_0f7a4_14 (by decide) ?_
  refine sg_istore_n (pc := 15) (x := nI 1) hC dJ6_stringSize_0f7a4_15 (by decide) ?_
  show sg_W X M 0 0 16 [some (.int (-(nI v))), some (.int (nI 0)), some (.int ((-10))), some (.int (nI 1))] []
  refine sg_iload_n (pc := 16) (x := nI 1) hC dJ6_stringSize_0f7a4_16 rfl ?_
  refine sg_bipush (pc := 17) (nI 10) hC dJ6_stringSize_0f7a4_17 (by decide) ?_
  refine sg_icmpN_ge (pc := 19) (a := 1) (b := 10) 42 hC dJ6_stringSize_0f7a4_19 (by decide) (by decide) (by decide) (fun h2 => absurd h2 (by decide)) (fun _ => ?_)
  refine sg_iload_n (pc := 22) (x := (-(nI v))) hC dJ6_stringSize_0f7a4_22 rfl ?_
  refine sg_iload_n (pc := 23) (x := ((-10))) hC dJ6_stringSize_0f7a4_23 rfl ?_
  refine sg_icmp_le (pc := 24) (x := -(nI v)) (y := (-10)) 31 hC dJ6_stringSize_0f7a4_24 (by decide) (fun h => absurd h (js1 hv)) (fun _ => ?_)
  refine sg_iload_n (pc := 27) (x := nI 1) hC dJ6_stringSize_0f7a4_27 rfl ?_
  refine sg_iload_n (pc := 28) (x := nI 0) hC dJ6_stringSize_0f7a4_28 rfl ?_
  refine sg_iaddN (pc := 29) (a := 1) (b := 0) hC dJ6_stringSize_0f7a4_29 ?_
  exact sg_ireturn (st := []) (v := nI 1) (pc := 30) hC hR dJ6_stringSize_0f7a4_30 hk

set_option maxHeartbeats 400000 in
set_option maxRecDepth 100000 in
theorem c_getChars {l : Launch} {G : sg_G} {d : Nat} {M : sg_M} {kr : Option Value → sg_M → Prop} {kx : String → sg_M → Prop} (htr : l.stackTraces = false) {b u n v : Nat} {g : Nat → Int32} (hB : M b = some (u, .inl (.byte, 16, .inl g))) (hu : u ≠ 0) (hDG : dg_r G M) (hv : v < 10) (hn : n < 16) (hk : ∀ M', sw M b (u, .inl (.byte, 16, .inl (upd g n (nI (48 + v))))) M' → kr (some (.int (nI n))) M') : sg_Met l G yJ6_getChars_ba4f3 cJ6_getChars_ba4f3 7 (some .int) (d + 0) 0 0 [.int (nI v), .int (nI (n + 1)), .ref b] M kr kx := by
  refine sg_enter [some (.int (nI v)), some (.int (nI (n + 1))), some (.ref b), none, none, none, none] (by decide) htr (Nat.le_of_ble_eq_true rfl) rfl ?_
  intro X hC hR
  have hC : sg_C X l G cJ6_getChars_ba4f3 RJ6 7 (d + 0) := hC
  obtain ⟨dg, hD, hdv⟩ := id hDG
  refine sg_iload_n (pc := 0) (x := nI (n + 1)) hC dJ6_getChars_ba4f3_0 rfl ?_
  refine sg_istore (pc := 1) (x := nI (n + 1)) hC dJ6_getChars_ba4f3_1 (by decide) ?_
  show sg_W X M 0 0 3 [some (.int (nI v)), some (.int (nI (n + 1))), some (.ref b), none, none, some (.int (nI (n + 1))), none] []
  refine sg_iload_n (pc := 3) (x := nI v) hC dJ6_getChars_ba4f3_3 rfl ?_
  refine sg_ifN_ge (pc := 4) (a := v) 11 hC dJ6_getChars_ba4f3_4 (by decide) (by first | omega | decide) (fun h1 => ?_) (fun h1 => by exfalso; omega)
  refine sg_iconst (pc := 11) (nI 0) hC dJ6_getChars_ba4f3_11 (by decide) ?_
  refine sg_istore (pc := 12) (x := nI 0) hC dJ6_getChars_ba4f3_12 (by decide) ?_
  show sg_W X M 0 0 14 [some (.int (nI v)), some (.int (nI (n + 1))), some (.ref b), none, none, some (.int (nI (n + 1))), some (.int (nI 0))] []
  refine sg_iload (pc := 14) (x := nI 0) hC dJ6_getChars_ba4f3_14 rfl ?_
  refine sg_ifN_ne (pc := 16) (a := 0) 22 hC dJ6_getChars_ba4f3_16 (by decide) (by decide) (fun h2 => absurd h2 (by decide)) (fun _ => ?_)
  refine sg_iload_n (pc := 19) (x := nI v) hC dJ6_getChars_ba4f3_19 rfl ?_
  refine sg_ineg (pc := 20) (x := nI v) hC dJ6_getChars_ba4f3_20 ?_
  refine sg_istore_n (pc := 21) (x := (-(nI v))) hC dJ6_getChars_ba4f3_21 (by decide) ?_
  show sg_W X M 0 0 22 [some (.int (-(nI v))), some (.int (nI (n + 1))), some (.ref b), none, none, some (.int (nI (n + 1))), some (.int (nI 0))] []
  refine sg_iload_n (pc := 22) (x := (-(nI v))) hC dJ6_getChars_ba4f3_22 rfl ?_
  refine sg_bipush (pc := 23) (((-100))) hC dJ6_getChars_ba4f3_23 (by decide) ?_
  refine sg_icmp_gt (pc := 25) (x := -(nI v)) (y := (-100)) 72 hC dJ6_getChars_ba4f3_25 (by decide) (fun _ => ?_) (fun h => absurd (js2 hv) h)
  refine sg_aload_n (pc := 72) (v := .ref b) hC dJ6_getChars_ba4f3_72 rfl rfl ?_
  refine sg_iinc (pc := 73) (x := nI (n + 1)) (nI n) hC dJ6_getChars_ba4f3_73 rfl (pk_m1 n) (by decide) ?_
  show sg_W X M 0 0 76 [some (.int (-(nI v))), some (.int (nI (n + 1))), some (.ref b), none, none, some (.int (nI n)), some (.int (nI 0))] [.ref b]
  refine sg_iload (pc := 76) (x := nI n) hC dJ6_getChars_ba4f3_76 rfl ?_
  refine sg_gets_do (pc := 78) hC tw_445 dJ6_getChars_ba4f3_78 ?_
  refine sg_iload_n (pc := 81) (x := (-(nI v))) hC dJ6_getChars_ba4f3_81 rfl ?_
  refine sg_ineg (pc := 82) (x := (-(nI v))) hC dJ6_getChars_ba4f3_82 ?_
  rw [js4 hv]
  show sg_W X M 0 0 83 [some (.int (-(nI v))), some (.int (nI (n + 1))), some (.ref b), none, none, some (.int (nI n)), some (.int (nI 0))] [.int (nI v), .ref (G.2.2.2 2), .int (nI n), .ref b]
  refine sg_bald (pc := 83) (i := nI v) hC dJ6_getChars_ba4f3_83 hD (vp_in_nI (by first | omega | decide) (by first | omega | decide)) ?_
  rw [nI_clamp (by first | omega | decide)]
  show sg_W X M 0 0 84 [some (.int (-(nI v))), some (.int (nI (n + 1))), some (.ref b), none, none, some (.int (nI n)), some (.int (nI 0))] [.int (dg v), .int (nI n), .ref b]
  rw [hdv v hv]
  show sg_W X M 0 0 84 [some (.int (-(nI v))), some (.int (nI (n + 1))), some (.ref b), none, none, some (.int (nI n)), some (.int (nI 0))] [.int (nI (48 + v)), .int (nI n), .ref b]
  refine sg_bast (pc := 84) (i := nI n) (x := nI (48 + v)) hC dJ6_getChars_ba4f3_84 hB (by first | omega | decide) (vp_in_nI (by first | omega | decide) (by first | omega | decide)) ?_
  rw [nI_clamp (by first | omega | decide), jb_nar (by first | omega | decide)]
  refine sg_nm (fun M3 hw4 => ?_)
  have hD : M3 (G.2.2.2 2) = some (0, .inl (.byte, 100, .inl dg)) := hw4.n hD (sg_net hD hB (by first | omega | decide))
  have hB : M3 b = some (u, .inl (.byte, 16, .inl (upd g n (nI (48 + v))))) := hw4.1
  refine sg_iload_n (pc := 85) (x := (-(nI v))) hC dJ6_getChars_ba4f3_85 rfl ?_
  refine sg_bipush (pc := 86) (((-9))) hC dJ6_getChars_ba4f3_86 (by decide) ?_
  refine sg_icmp_ge (pc := 88) (x := -(nI v)) (y := (-9)) 104 hC dJ6_getChars_ba4f3_88 (by decide) (fun _ => ?_) (fun h => absurd (js5 hv) h)
  refine sg_iload (pc := 104) (x := nI 0) hC dJ6_getChars_ba4f3_104 rfl ?_
  refine sg_ifN_eq (pc := 106) (a := 0) 118 hC dJ6_getChars_ba4f3_106 (by decide) (by decide) (fun _ => ?_) (fun h5 => absurd h5 (by decide))
  refine sg_iload (pc := 118) (x := nI n) hC dJ6_getChars_ba4f3_118 rfl ?_
  exact sg_ireturn (st := []) (v := nI n) (pc := 120) hC hR dJ6_getChars_ba4f3_120 (hk _ hw4)

set_option maxHeartbeats 400000 in
set_option maxRecDepth 100000 in
theorem c_asbAppI {l : Launch} {G : sg_G} {d : Nat} {M : sg_M} {kr : Option Value → sg_M → Prop} {kx : String → sg_M → Prop} (htr : l.stackTraces = false) {t u a : Nat} {w : List Nat} {v : Nat} (hS : sb_r t u M a w) (ht : t ≠ 0) (hu : u ≠ 0) (htu : t ≠ u) (hDG : dg_r G M) (hv : v < 10) (hl : w.length < 16) (hk : ∀ M', sb_r t u M' a (w ++ [48 + v]) → sf (pk [t, u]) M M' → kr (some (.ref a)) M') : sg_Met l G yJ5_append_c97b9 cJ5_append_c97b9 4 (some (.object "java/lang/AbstractStringBuilder")) (d + 1) 0 0 [.ref a, .int (nI v)] M kr kx := by
  refine sg_enter [some (.ref a), some (.int (nI v)), none, none] (by decide) htr (Nat.le_of_ble_eq_true rfl) rfl ?_
  intro X hC hR
  have hC : sg_C X l G cJ5_append_c97b9 RJ5 4 (d + 1) := hC
  obtain ⟨b, ml, g, hA, hB, hN, hG⟩ := id hS
  have hf : sf (pk [t, u]) M M := sf.rf
  refine sg_aload_n (pc := 0) (v := .ref a) hC dJ5_append_c97b9_0 rfl rfl ?_
  refine sg_get (pc := 1) (a := a) (v := .int (nI w.length)) 3 hC rfl inw_J4 (by decide) tw_122 dJ5_append_c97b9_1 hA rfl ?_
  refine sg_istore_n (pc := 4) (x := nI w.length) hC dJ5_append_c97b9_4 (by decide) ?_
  show sg_W X M 0 0 5 [some (.ref a), some (.int (nI v)), some (.int (nI w.length)), none] []
  refine sg_iload_n (pc := 5) (x := nI w.length) hC dJ5_append_c97b9_5 rfl ?_
  refine sg_iload_n (pc := 6) (x := nI v) hC dJ5_append_c97b9_6 rfl ?_
  refine sg_callS (pc := 7) (As := [.int (nI v)]) (rest := [.int (nI w.length)]) (mc := 0) (ms := 0) hC tw_439 tw_440 tw_85 tw_441 yd_J6_stringSize_0f7a4 (by decide) dJ5_append_c97b9_7 rfl (Nat.le_of_ble_eq_true rfl) (by first | omega | decide) (by first | omega | decide) ?_
  refine c_strSize htr (by first | omega | decide) ?_
  show sg_W X M 0 0 10 [some (.ref a), some (.int (nI v)), some (.int (nI w.length)), none] [.int (nI 1), .int (nI w.length)]
  refine sg_iaddN (pc := 10) (a := w.length) (b := 1) hC dJ5_append_c97b9_10 ?_
  refine sg_istore_n (pc := 11) (x := nI (w.length + 1)) hC dJ5_append_c97b9_11 (by decide) ?_
  show sg_W X M 0 0 12 [some (.ref a), some (.int (nI v)), some (.int (nI w.length)), some (.int (nI (w.length + 1)))] []
  refine sg_aload_n (pc := 12) (v := .ref a) hC dJ5_append_c97b9_12 rfl rfl ?_
  refine sg_iload_n (pc := 13) (x := nI (w.length + 1)) hC dJ5_append_c97b9_13 rfl ?_
  refine sg_callU (pc := 14) (y := yJ5_ensureCapacityInternal_d00df) (As := [.int (nI (w.length + 1))]) (rest := []) (mc := 0) (ms := 0) hC tw_230 tw_1472 tw_232 tw_233 (Or.inr (by simp [sg_wk])) tw_232 tw_63 tw_233 yd_J5_ensureCapacityInternal_d00df (by decide) (ci := 1) rfl dJ5_append_c97b9_14 hA rfl (Nat.le_of_ble_eq_true rfl) (by first | omega | decide) (by first | omega | decide) ?_
  refine c_ensure htr hS (by first | omega | decide) ?_
  show sg_W X M 0 0 17 [some (.ref a), some (.int (nI v)), some (.int (nI w.length)), some (.int (nI (w.length + 1)))] []
  refine sg_aload_n (pc := 17) (v := .ref a) hC dJ5_append_c97b9_17 rfl rfl ?_
  refine sg_callU (pc := 18) (y := yJ5_isLatin1_aae02) (As := []) (rest := []) (mc := 0) (ms := 0) hC tw_265 tw_267 tw_266 tw_269 (Or.inl tw_268) tw_266 tw_63 tw_269 yd_J5_isLatin1_aae02 (by decide) (ci := 1) rfl dJ5_append_c97b9_18 hA rfl (Nat.le_of_ble_eq_true rfl) (by first | omega | decide) (by first | omega | decide) ?_
  refine c_bLatin htr hS ?_
  show sg_W X M 0 0 21 [some (.ref a), some (.int (nI v)), some (.int (nI w.length)), some (.int (nI (w.length + 1)))] [.int (nI 1)]
  refine sg_ifN_eq (pc := 21) (a := 1) 37 hC dJ5_append_c97b9_21 (by decide) (by decide) (fun h1 => absurd h1 (by decide)) (fun _ => ?_)
  refine sg_iload_n (pc := 24) (x := nI v) hC dJ5_append_c97b9_24 rfl ?_
  refine sg_iload_n (pc := 25) (x := nI (w.length + 1)) hC dJ5_append_c97b9_25 rfl ?_
  refine sg_aload_n (pc := 26) (v := .ref a) hC dJ5_append_c97b9_26 rfl rfl ?_
  refine sg_get (pc := 27) (a := a) (v := .ref b) 0 hC rfl inw_J4 (by decide) tw_118 dJ5_append_c97b9_27 hA rfl ?_
  refine sg_callS (pc := 30) (As := [.int (nI v), .int (nI (w.length + 1)), .ref b]) (rest := []) (mc := 0) (ms := 0) hC tw_442 tw_443 tw_85 tw_444 yd_J6_getChars_ba4f3 (by decide) dJ5_append_c97b9_30 rfl (Nat.le_of_ble_eq_true rfl) (by first | omega | decide) (by first | omega | decide) ?_
  refine c_getChars (n := w.length) htr hB (by omega) hDG (by omega) (by omega) (fun M2 hw3 => ?_)
  have hA : M2 a = some (t, .inr (1, [.ref b, .int (nI 0), .int ml, .int (nI w.length)])) := hw3.n hA (sg_net hA hB (by first | omega | decide))
  have hDG : dg_r G M2 := hDG.st hw3 hB (by first | omega | decide)
  have hf : sf (pk [t, u]) M M2 := hf.st hw3 hB (by simp [pk])
  have hB : M2 b = some (u, .inl (.byte, 16, .inl (upd g w.length (nI (48 + v))))) := hw3.1
  show sg_W X M2 0 0 33 [some (.ref a), some (.int (nI v)), some (.int (nI w.length)), some (.int (nI (w.length + 1)))] [.int (nI w.length)]
  refine sg_pop (pc := 33) hC dJ5_append_c97b9_33 rfl ?_
  refine sg_goto (pc := 34) 48 hC dJ5_append_c97b9_34 (by decide) ?_
  refine sg_aload_n (pc := 48) (v := .ref a) hC dJ5_append_c97b9_48 rfl rfl ?_
  refine sg_iload_n (pc := 49) (x := nI (w.length + 1)) hC dJ5_append_c97b9_49 rfl ?_
  refine sg_put (pc := 50) (a := a) (v := .int (nI (w.length + 1))) 3 hC rfl inw_J4 tyJ4 tyJ4_ok nmJ4 (by decide) tw_122 rfl rfl rfl rfl dJ5_append_c97b9_50 hA (by first | omega | decide) (Nat.le_of_ble_eq_true rfl) ?_
  refine sg_nm (fun M4 hw5 => ?_)
  have hB : M4 b = some (u, .inl (.byte, 16, .inl (upd g w.length (nI (48 + v))))) := hw5.n hB (sg_net hB hA (by first | omega | decide))
  have hDG : dg_r G M4 := hDG.st hw5 hA (by first | omega | decide)
  have hf : sf (pk [t, u]) M M4 := hf.st hw5 hA (by simp [pk])
  have hA : M4 a = some (t, .inr (1, [.ref b, .int (nI 0), .int ml, .int (nI (w.length + 1))])) := hw5.1
  refine sg_aload_n (pc := 53) (v := .ref a) hC dJ5_append_c97b9_53 rfl rfl ?_
  exact sg_areturn (st := []) (v := .ref a) (pc := 54) hC hR (Or.inl ⟨_, rfl⟩) (Or.inr ⟨_, rfl⟩) dJ5_append_c97b9_54 (hk _ (sbx_app hA hB hl hG (by omega)) hf)

set_option maxHeartbeats 400000 in
set_option maxRecDepth 100000 in
theorem c_sbAppI {l : Launch} {G : sg_G} {d : Nat} {M : sg_M} {kr : Option Value → sg_M → Prop} {kx : String → sg_M → Prop} (htr : l.stackTraces = false) {t u a : Nat} {w : List Nat} {v : Nat} (hS : sb_r t u M a w) (ht : t ≠ 0) (hu : u ≠ 0) (htu : t ≠ u) (hDG : dg_r G M) (hv : v < 10) (hl : w.length < 16) (hk : ∀ M', sb_r t u M' a (w ++ [48 + v]) → sf (pk [t, u]) M M' → kr (some (.ref a)) M') : sg_Met l G yJ4_append_bf812 cJ4_append_bf812 2 (some (.object "java/lang/StringBuilder")) (d + 2) 0 0 [.ref a, .int (nI v)] M kr kx := by
  refine sg_enter [some (.ref a), some (.int (nI v))] (by decide) htr (Nat.le_of_ble_eq_true rfl) rfl ?_
  intro X hC hR
  have hC : sg_C X l G cJ4_append_bf812 RJ4 2 (d + 2) := hC
  have hf : sf (pk [t, u]) M M := sf.rf
  refine sg_aload_n (pc := 0) (v := .ref a) hC dJ4_append_bf812_0 rfl rfl ?_
  refine sg_iload_n (pc := 1) (x := nI v) hC dJ4_append_bf812_1 rfl ?_
  obtain ⟨_, _, _, hx1, -⟩ := id hS
  refine sg_callSU (pc := 2) (As := [.int (nI v)]) (rest := []) (mc := 0) (ms := 0) hC tw_436 tw_1477 tw_131 tw_437 tw_63 tw_438 ⟨by decide, yd_J5_append_c97b9.2.2⟩ (by decide) (ci := 1) rfl dJ4_append_bf812_2 hx1 rfl (Nat.le_of_ble_eq_true rfl) (by first | omega | decide) (by first | omega | decide) ?_
  refine c_asbAppI htr hS (by first | omega | decide) (by first | omega | decide) (by first | omega | decide) hDG (by first | omega | decide) (by first | omega | decide) (fun M2 hs3 hf4 => ?_)
  have hDG : dg_r G M2 := hDG.p hf4 (by first | decide | (simp; done) | (simp; omega))
  have hf : sf (pk [t, u]) M M2 := hf.tr hf4 (fun a t h => by first | exact h | (simp [pk] at h; done) | (simp [pk] at h ⊢; omega) | (simp [pk] at h ⊢; done))
  show sg_W X M2 0 0 5 [some (.ref a), some (.int (nI v))] [.ref a]
  refine sg_pop (pc := 5) hC dJ4_append_bf812_5 rfl ?_
  refine sg_aload_n (pc := 6) (v := .ref a) hC dJ4_append_bf812_6 rfl rfl ?_
  exact sg_areturn (st := []) (v := .ref a) (pc := 7) hC hR (Or.inl ⟨_, rfl⟩) (Or.inr ⟨_, rfl⟩) dJ4_append_bf812_7 (hk _ hs3 hf)

set_option maxHeartbeats 400000 in
set_option maxRecDepth 100000 in
theorem c_asbSet0 {l : Launch} {G : sg_G} {d : Nat} {M : sg_M} {kr : Option Value → sg_M → Prop} {kx : String → sg_M → Prop} (htr : l.stackTraces = false) {t u a : Nat} {w : List Nat}  (hS : sb_r t u M a w) (ht : t ≠ 0) (hu : u ≠ 0) (htu : t ≠ u) (hk : ∀ M', sb_r t u M' a [] → sf (pk [t, u]) M M' → kr none M') : sg_Met l G yJ5_setLength_d00df cJ5_setLength_d00df 2 none (d + 1) 0 0 [.ref a, .int (nI 0)] M kr kx := by
  refine sg_enter [some (.ref a), some (.int (nI 0))] (by decide) htr (Nat.le_of_ble_eq_true rfl) rfl ?_
  intro X hC hR
  have hC : sg_C X l G cJ5_setLength_d00df RJ5 2 (d + 1) := hC
  obtain ⟨b, ml, g, hA, hB, hN, hG⟩ := id hS
  have hf : sf (pk [t, u]) M M := sf.rf
  refine sg_iload_n (pc := 0) (x := nI 0) hC dJ5_setLength_d00df_0 rfl ?_
  refine sg_ifN_ge (pc := 1) (a := 0) 13 hC dJ5_setLength_d00df_1 (by decide) (by decide) (fun _ => ?_) (fun h1 => absurd h1 (by decide))
  refine sg_aload_n (pc := 13) (v := .ref a) hC dJ5_setLength_d00df_13 rfl rfl ?_
  refine sg_iload_n (pc := 14) (x := nI 0) hC dJ5_setLength_d00df_14 rfl ?_
  refine sg_callU (pc := 15) (y := yJ5_ensureCapacityInternal_d00df) (As := [.int (nI 0)]) (rest := []) (mc := 0) (ms := 0) hC tw_230 tw_1472 tw_232 tw_233 (Or.inr (by simp [sg_wk])) tw_232 tw_63 tw_233 yd_J5_ensureCapacityInternal_d00df (by decide) (ci := 1) rfl dJ5_setLength_d00df_15 hA rfl (Nat.le_of_ble_eq_true rfl) (by first | omega | decide) (by first | omega | decide) ?_
  refine c_ensure htr hS (by first | omega | decide) ?_
  show sg_W X M 0 0 18 [some (.ref a), some (.int (nI 0))] []
  refine sg_aload_n (pc := 18) (v := .ref a) hC dJ5_setLength_d00df_18 rfl rfl ?_
  refine sg_get (pc := 19) (a := a) (v := .int (nI w.length)) 3 hC rfl inw_J4 (by decide) tw_122 dJ5_setLength_d00df_19 hA rfl ?_
  refine sg_iload_n (pc := 22) (x := nI 0) hC dJ5_setLength_d00df_22 rfl ?_
  refine sg_icmpN_ge (pc := 23) (a := w.length) (b := 0) 63 hC dJ5_setLength_d00df_23 (by decide) (by first | omega | decide) (by first | omega | decide) (fun h2 => ?_) (fun h2 => by exfalso; omega)
  refine sg_aload_n (pc := 63) (v := .ref a) hC dJ5_setLength_d00df_63 rfl rfl ?_
  refine sg_get (pc := 64) (a := a) (v := .int (nI w.length)) 3 hC rfl inw_J4 (by decide) tw_122 dJ5_setLength_d00df_64 hA rfl ?_
  refine sg_iload_n (pc := 67) (x := nI 0) hC dJ5_setLength_d00df_67 rfl ?_
  refine sg_icmpN_le (pc := 68) (a := w.length) (b := 0) 76 hC dJ5_setLength_d00df_68 (by decide) (by first | omega | decide) (by first | omega | decide) (fun h3 => ?_) (fun h3 => ?_)
  · refine sg_aload_n (pc := 76) (v := .ref a) hC dJ5_setLength_d00df_76 rfl rfl ?_
    refine sg_iload_n (pc := 77) (x := nI 0) hC dJ5_setLength_d00df_77 rfl ?_
    refine sg_put (pc := 78) (a := a) (v := .int (nI 0)) 3 hC rfl inw_J4 tyJ4 tyJ4_ok nmJ4 (by decide) tw_122 rfl rfl rfl rfl dJ5_setLength_d00df_78 hA (by first | omega | decide) (Nat.le_of_ble_eq_true rfl) ?_
    refine sg_nm (fun M4 hw5 => ?_)
    have hB : M4 b = some (u, .inl (.byte, 16, .inl g)) := hw5.n hB (sg_net hB hA (by first | omega | decide))
    have hf : sf (pk [t, u]) M M4 := hf.st hw5 hA (by simp [pk])
    have hA : M4 a = some (t, .inr (1, [.ref b, .int (nI 0), .int ml, .int (nI 0)])) := hw5.1
    exact sg_vreturn (st := []) (pc := 81) hC hR dJ5_setLength_d00df_81 (hk _ ⟨b, _, g, hA, hB, Nat.zero_le _, fun j hj => absurd hj (Nat.not_lt_zero _)⟩ hf)
  · refine sg_aload_n (pc := 71) (v := .ref a) hC dJ5_setLength_d00df_71 rfl rfl ?_
    refine sg_iconst (pc := 72) (nI 1) hC dJ5_setLength_d00df_72 (by decide) ?_
    refine sg_put (pc := 73) (a := a) (v := .int (nI 1)) 2 hC rfl inw_J4 tyJ4 tyJ4_ok nmJ4 (by decide) tw_120 rfl rfl (jp_z (by first | omega | decide)) rfl dJ5_setLength_d00df_73 hA (by first | omega | decide) (Nat.le_of_ble_eq_true rfl) ?_
    refine sg_nm (fun M6 hw7 => ?_)
    have hB : M6 b = some (u, .inl (.byte, 16, .inl g)) := hw7.n hB (sg_net hB hA (by first | omega | decide))
    have hf : sf (pk [t, u]) M M6 := hf.st hw7 hA (by simp [pk])
    have hA : M6 a = some (t, .inr (1, [.ref b, .int (nI 0), .int (nI 1), .int (nI w.length)])) := hw7.1
    refine sg_aload_n (pc := 76) (v := .ref a) hC dJ5_setLength_d00df_76 rfl rfl ?_
    refine sg_iload_n (pc := 77) (x := nI 0) hC dJ5_setLength_d00df_77 rfl ?_
    refine sg_put (pc := 78) (a := a) (v := .int (nI 0)) 3 hC rfl inw_J4 tyJ4 tyJ4_ok nmJ4 (by decide) tw_122 rfl rfl rfl rfl dJ5_setLength_d00df_78 hA (by first | omega | decide) (Nat.le_of_ble_eq_true rfl) ?_
    refine sg_nm (fun M8 hw9 => ?_)
    have hB : M8 b = some (u, .inl (.byte, 16, .inl g)) := hw9.n hB (sg_net hB hA (by first | omega | decide))
    have hf : sf (pk [t, u]) M M8 := hf.st hw9 hA (by simp [pk])
    have hA : M8 a = some (t, .inr (1, [.ref b, .int (nI 0), .int (nI 1), .int (nI 0)])) := hw9.1
    exact sg_vreturn (st := []) (pc := 81) hC hR dJ5_setLength_d00df_81 (hk _ ⟨b, _, g, hA, hB, Nat.zero_le _, fun j hj => absurd hj (Nat.not_lt_zero _)⟩ hf)

set_option maxHeartbeats 400000 in
set_option maxRecDepth 100000 in
theorem c_sbSet0 {l : Launch} {G : sg_G} {d : Nat} {M : sg_M} {kr : Option Value → sg_M → Prop} {kx : String → sg_M → Prop} (htr : l.stackTraces = false) {t u a : Nat} {w : List Nat}  (hS : sb_r t u M a w) (ht : t ≠ 0) (hu : u ≠ 0) (htu : t ≠ u) (hk : ∀ M', sb_r t u M' a [] → sf (pk [t, u]) M M' → kr none M') : sg_Met l G yJ4_setLength_d00df cJ4_setLength_d00df 2 none (d + 2) 0 0 [.ref a, .int (nI 0)] M kr kx := by
  refine sg_enter [some (.ref a), some (.int (nI 0))] (by decide) htr (Nat.le_of_ble_eq_true rfl) rfl ?_
  intro X hC hR
  have hC : sg_C X l G cJ4_setLength_d00df RJ4 2 (d + 2) := hC
  have hf : sf (pk [t, u]) M M := sf.rf
  refine sg_aload_n (pc := 0) (v := .ref a) hC dJ4_setLength_d00df_0 rfl rfl ?_
  refine sg_iload_n (pc := 1) (x := nI 0) hC dJ4_setLength_d00df_1 rfl ?_
  obtain ⟨_, _, _, hx1, -⟩ := id hS
  refine sg_callSU (pc := 2) (As := [.int (nI 0)]) (rest := []) (mc := 0) (ms := 0) hC tw_579 tw_1482 tw_131 tw_580 tw_63 tw_581 ⟨by decide, yd_J5_setLength_d00df.2.2⟩ (by decide) (ci := 1) rfl dJ4_setLength_d00df_2 hx1 rfl (Nat.le_of_ble_eq_true rfl) (by first | omega | decide) (by first | omega | decide) ?_
  refine c_asbSet0 htr hS (by first | omega | decide) (by first | omega | decide) (by first | omega | decide) (fun M2 hs3 hf4 => ?_)
  have hf : sf (pk [t, u]) M M2 := hf.tr hf4 (fun a t h => by first | exact h | (simp [pk] at h; done) | (simp [pk] at h ⊢; omega) | (simp [pk] at h ⊢; done))
  show sg_W X M2 0 0 5 [some (.ref a), some (.int (nI 0))] []
  exact sg_vreturn (st := []) (pc := 5) hC hR dJ4_setLength_d00df_5 (hk _ hs3 hf)

set_option maxHeartbeats 400000 in
set_option maxRecDepth 100000 in
theorem c_asbRev1 {l : Launch} {G : sg_G} {d : Nat} {M : sg_M} {kr : Option Value → sg_M → Prop} {kx : String → sg_M → Prop} (htr : l.stackTraces = false) {t u a : Nat} {x : Nat} (hS : sb_r t u M a [x]) (ht : t ≠ 0) (hu : u ≠ 0) (htu : t ≠ u) (hk : ∀ M', sb_r t u M' a ([x]) → sf (pk [t, u]) M M' → kr (some (.ref a)) M') : sg_Met l G yJ5_reverse_278bc cJ5_reverse_278bc 7 (some (.object "java/lang/AbstractStringBuilder")) (d + 1) 0 0 [.ref a] M kr kx := by
  refine sg_enter [some (.ref a), none, none, none, none, none, none] (by decide) htr (Nat.le_of_ble_eq_true rfl) rfl ?_
  intro X hC hR
  have hC : sg_C X l G cJ5_reverse_278bc RJ5 7 (d + 1) := hC
  obtain ⟨b, ml, g, hA, hB, hN, hG⟩ := id hS
  have hg0 : g 0 = nI x := (hG 0 (Nat.le_of_ble_eq_true rfl)).1
  have hv0 : x < 128 := (hG 0 (Nat.le_of_ble_eq_true rfl)).2
  have hf : sf (pk [t, u]) M M := sf.rf
  refine sg_aload_n (pc := 0) (v := .ref a) hC dJ5_reverse_278bc_0 rfl rfl ?_
  refine sg_get (pc := 1) (a := a) (v := .ref b) 0 hC rfl inw_J4 (by decide) tw_118 dJ5_reverse_278bc_1 hA rfl ?_
  refine sg_astore_n (pc := 4) (v := .ref b) hC dJ5_reverse_278bc_4 (by decide) rfl ?_
  show sg_W X M 0 0 5 [some (.ref a), some (.ref b), none, none, none, none, none] []
  refine sg_aload_n (pc := 5) (v := .ref a) hC dJ5_reverse_278bc_5 rfl rfl ?_
  refine sg_get (pc := 6) (a := a) (v := .int (nI 1)) 3 hC rfl inw_J4 (by decide) tw_122 dJ5_reverse_278bc_6 hA rfl ?_
  refine sg_istore_n (pc := 9) (x := nI 1) hC dJ5_reverse_278bc_9 (by decide) ?_
  show sg_W X M 0 0 10 [some (.ref a), some (.ref b), some (.int (nI 1)), none, none, none, none] []
  refine sg_iload_n (pc := 10) (x := nI 1) hC dJ5_reverse_278bc_10 rfl ?_
  refine sg_iconst (pc := 11) (nI 1) hC dJ5_reverse_278bc_11 (by decide) ?_
  refine sg_isubN (pc := 12) (a := 1) (b := 1) hC dJ5_reverse_278bc_12 (by first | omega | decide) ?_
  refine sg_istore_n (pc := 13) (x := nI 0) hC dJ5_reverse_278bc_13 (by decide) ?_
  show sg_W X M 0 0 14 [some (.ref a), some (.ref b), some (.int (nI 1)), some (.int (nI 0)), none, none, none] []
  refine sg_aload_n (pc := 14) (v := .ref a) hC dJ5_reverse_278bc_14 rfl rfl ?_
  refine sg_callU (pc := 15) (y := yJ5_isLatin1_aae02) (As := []) (rest := []) (mc := 0) (ms := 0) hC tw_265 tw_267 tw_266 tw_269 (Or.inl tw_268) tw_266 tw_63 tw_269 yd_J5_isLatin1_aae02 (by decide) (ci := 1) rfl dJ5_reverse_278bc_15 hA rfl (Nat.le_of_ble_eq_true rfl) (by first | omega | decide) (by first | omega | decide) ?_
  refine c_bLatin htr hS ?_
  show sg_W X M 0 0 18 [some (.ref a), some (.ref b), some (.int (nI 1)), some (.int (nI 0)), none, none, none] [.int (nI 1)]
  refine sg_ifN_eq (pc := 18) (a := 1) 68 hC dJ5_reverse_278bc_18 (by decide) (by decide) (fun h1 => absurd h1 (by decide)) (fun _ => ?_)
  refine sg_iload_n (pc := 21) (x := nI 0) hC dJ5_reverse_278bc_21 rfl ?_
  refine sg_iconst (pc := 22) (nI 1) hC dJ5_reverse_278bc_22 (by decide) ?_
  refine sg_isub (pc := 23) (x := nI 0) (y := nI 1) hC dJ5_reverse_278bc_23 ?_
  show sg_W X M 0 0 24 [some (.ref a), some (.ref b), some (.int (nI 1)), some (.int (nI 0)), none, none, none] [.int ((-1))]
  refine sg_iconst (pc := 24) (nI 1) hC dJ5_reverse_278bc_24 (by decide) ?_
  refine sg_ishr (pc := 25) (x := -1) (y := nI 1) hC dJ5_reverse_278bc_25 ?_
  show sg_W X M 0 0 26 [some (.ref a), some (.ref b), some (.int (nI 1)), some (.int (nI 0)), none, none, none] [.int ((-1))]
  refine sg_istore (pc := 26) (x := ((-1))) hC dJ5_reverse_278bc_26 (by decide) ?_
  show sg_W X M 0 0 28 [some (.ref a), some (.ref b), some (.int (nI 1)), some (.int (nI 0)), some (.int ((-1))), none, none] []
  refine sg_iload (pc := 28) (x := ((-1))) hC dJ5_reverse_278bc_28 rfl ?_
  refine sg_if_lt (pc := 30) (x := (-1)) 65 hC dJ5_reverse_278bc_30 (by decide) (fun _ => ?_) (fun h => by exfalso; revert h; decide)
  refine sg_goto (pc := 65) 73 hC dJ5_reverse_278bc_65 (by decide) ?_
  refine sg_aload_n (pc := 73) (v := .ref a) hC dJ5_reverse_278bc_73 rfl rfl ?_
  exact sg_areturn (st := []) (v := .ref a) (pc := 74) hC hR (Or.inl ⟨_, rfl⟩) (Or.inr ⟨_, rfl⟩) dJ5_reverse_278bc_74 (hk _ ⟨b, ml, _, hA, hB, Nat.le_of_ble_eq_true rfl, fun j hj => by
    have h9 : j = 0 := by simp at hj; omega
    rcases h9 with rfl <;> simp [upd, hg0, hv0]⟩ hf)

set_option maxHeartbeats 400000 in
set_option maxRecDepth 100000 in
theorem c_asbRev2 {l : Launch} {G : sg_G} {d : Nat} {M : sg_M} {kr : Option Value → sg_M → Prop} {kx : String → sg_M → Prop} (htr : l.stackTraces = false) {t u a : Nat} {x y : Nat} (hS : sb_r t u M a [x, y]) (ht : t ≠ 0) (hu : u ≠ 0) (htu : t ≠ u) (hk : ∀ M', sb_r t u M' a ([y, x]) → sf (pk [t, u]) M M' → kr (some (.ref a)) M') : sg_Met l G yJ5_reverse_278bc cJ5_reverse_278bc 7 (some (.object "java/lang/AbstractStringBuilder")) (d + 1) 0 0 [.ref a] M kr kx := by
  refine sg_enter [some (.ref a), none, none, none, none, none, none] (by decide) htr (Nat.le_of_ble_eq_true rfl) rfl ?_
  intro X hC hR
  have hC : sg_C X l G cJ5_reverse_278bc RJ5 7 (d + 1) := hC
  obtain ⟨b, ml, g, hA, hB, hN, hG⟩ := id hS
  have hg0 : g 0 = nI x := (hG 0 (Nat.le_of_ble_eq_true rfl)).1
  have hv0 : x < 128 := (hG 0 (Nat.le_of_ble_eq_true rfl)).2
  have hg1 : g 1 = nI y := (hG 1 (Nat.le_of_ble_eq_true rfl)).1
  have hv1 : y < 128 := (hG 1 (Nat.le_of_ble_eq_true rfl)).2
  have hf : sf (pk [t, u]) M M := sf.rf
  refine sg_aload_n (pc := 0) (v := .ref a) hC dJ5_reverse_278bc_0 rfl rfl ?_
  refine sg_get (pc := 1) (a := a) (v := .ref b) 0 hC rfl inw_J4 (by decide) tw_118 dJ5_reverse_278bc_1 hA rfl ?_
  refine sg_astore_n (pc := 4) (v := .ref b) hC dJ5_reverse_278bc_4 (by decide) rfl ?_
  show sg_W X M 0 0 5 [some (.ref a), some (.ref b), none, none, none, none, none] []
  refine sg_aload_n (pc := 5) (v := .ref a) hC dJ5_reverse_278bc_5 rfl rfl ?_
  refine sg_get (pc := 6) (a := a) (v := .int (nI 2)) 3 hC rfl inw_J4 (by decide) tw_122 dJ5_reverse_278bc_6 hA rfl ?_
  refine sg_istore_n (pc := 9) (x := nI 2) hC dJ5_reverse_278bc_9 (by decide) ?_
  show sg_W X M 0 0 10 [some (.ref a), some (.ref b), some (.int (nI 2)), none, none, none, none] []
  refine sg_iload_n (pc := 10) (x := nI 2) hC dJ5_reverse_278bc_10 rfl ?_
  refine sg_iconst (pc := 11) (nI 1) hC dJ5_reverse_278bc_11 (by decide) ?_
  refine sg_isubN (pc := 12) (a := 2) (b := 1) hC dJ5_reverse_278bc_12 (by first | omega | decide) ?_
  refine sg_istore_n (pc := 13) (x := nI 1) hC dJ5_reverse_278bc_13 (by decide) ?_
  show sg_W X M 0 0 14 [some (.ref a), some (.ref b), some (.int (nI 2)), some (.int (nI 1)), none, none, none] []
  refine sg_aload_n (pc := 14) (v := .ref a) hC dJ5_reverse_278bc_14 rfl rfl ?_
  refine sg_callU (pc := 15) (y := yJ5_isLatin1_aae02) (As := []) (rest := []) (mc := 0) (ms := 0) hC tw_265 tw_267 tw_266 tw_269 (Or.inl tw_268) tw_266 tw_63 tw_269 yd_J5_isLatin1_aae02 (by decide) (ci := 1) rfl dJ5_reverse_278bc_15 hA rfl (Nat.le_of_ble_eq_true rfl) (by first | omega | decide) (by first | omega | decide) ?_
  refine c_bLatin htr hS ?_
  show sg_W X M 0 0 18 [some (.ref a), some (.ref b), some (.int (nI 2)), some (.int (nI 1)), none, none, none] [.int (nI 1)]
  refine sg_ifN_eq (pc := 18) (a := 1) 68 hC dJ5_reverse_278bc_18 (by decide) (by decide) (fun h1 => absurd h1 (by decide)) (fun _ => ?_)
  refine sg_iload_n (pc := 21) (x := nI 1) hC dJ5_reverse_278bc_21 rfl ?_
  refine sg_iconst (pc := 22) (nI 1) hC dJ5_reverse_278bc_22 (by decide) ?_
  refine sg_isubN (pc := 23) (a := 1) (b := 1) hC dJ5_reverse_278bc_23 (by first | omega | decide) ?_
  refine sg_iconst (pc := 24) (nI 1) hC dJ5_reverse_278bc_24 (by decide) ?_
  refine sg_ishrN (pc := 25) (a := 0) (b := 1) hC dJ5_reverse_278bc_25 (by first | omega | decide) (by first | omega | decide) ?_
  show sg_W X M 0 0 26 [some (.ref a), some (.ref b), some (.int (nI 2)), some (.int (nI 1)), none, none, none] [.int (nI 0)]
  refine sg_istore (pc := 26) (x := nI 0) hC dJ5_reverse_278bc_26 (by decide) ?_
  show sg_W X M 0 0 28 [some (.ref a), some (.ref b), some (.int (nI 2)), some (.int (nI 1)), some (.int (nI 0)), none, none] []
  refine sg_iload (pc := 28) (x := nI 0) hC dJ5_reverse_278bc_28 rfl ?_
  refine sg_ifN_lt (pc := 30) (a := 0) 65 hC dJ5_reverse_278bc_30 (by decide) (by decide) (fun h2 => absurd h2 (by decide)) (fun _ => ?_)
  refine sg_iload_n (pc := 33) (x := nI 1) hC dJ5_reverse_278bc_33 rfl ?_
  refine sg_iload (pc := 34) (x := nI 0) hC dJ5_reverse_278bc_34 rfl ?_
  refine sg_isubN (pc := 36) (a := 1) (b := 0) hC dJ5_reverse_278bc_36 (by first | omega | decide) ?_
  refine sg_istore (pc := 37) (x := nI 1) hC dJ5_reverse_278bc_37 (by decide) ?_
  show sg_W X M 0 0 39 [some (.ref a), some (.ref b), some (.int (nI 2)), some (.int (nI 1)), some (.int (nI 0)), some (.int (nI 1)), none] []
  refine sg_aload_n (pc := 39) (v := .ref b) hC dJ5_reverse_278bc_39 rfl rfl ?_
  refine sg_iload (pc := 40) (x := nI 0) hC dJ5_reverse_278bc_40 rfl ?_
  refine sg_bald (pc := 42) (i := nI 0) hC dJ5_reverse_278bc_42 hB (vp_in_nI (by first | omega | decide) (by first | omega | decide)) ?_
  rw [nI_clamp (by first | omega | decide)]
  rw [show (g) 0 = nI x from by first | exact hg0 | simp [upd, hg0]]
  show sg_W X M 0 0 43 [some (.ref a), some (.ref b), some (.int (nI 2)), some (.int (nI 1)), some (.int (nI 0)), some (.int (nI 1)), none] [.int (nI x)]
  refine sg_istore (pc := 43) (x := nI x) hC dJ5_reverse_278bc_43 (by decide) ?_
  show sg_W X M 0 0 45 [some (.ref a), some (.ref b), some (.int (nI 2)), some (.int (nI 1)), some (.int (nI 0)), some (.int (nI 1)), some (.int (nI x))] []
  refine sg_aload_n (pc := 45) (v := .ref b) hC dJ5_reverse_278bc_45 rfl rfl ?_
  refine sg_iload (pc := 46) (x := nI 0) hC dJ5_reverse_278bc_46 rfl ?_
  refine sg_aload_n (pc := 48) (v := .ref b) hC dJ5_reverse_278bc_48 rfl rfl ?_
  refine sg_iload (pc := 49) (x := nI 1) hC dJ5_reverse_278bc_49 rfl ?_
  refine sg_bald (pc := 51) (i := nI 1) hC dJ5_reverse_278bc_51 hB (vp_in_nI (by first | omega | decide) (by first | omega | decide)) ?_
  rw [nI_clamp (by first | omega | decide)]
  rw [show (g) 1 = nI y from by first | exact hg1 | simp [upd, hg1]]
  show sg_W X M 0 0 52 [some (.ref a), some (.ref b), some (.int (nI 2)), some (.int (nI 1)), some (.int (nI 0)), some (.int (nI 1)), some (.int (nI x))] [.int (nI y), .int (nI 0), .ref b]
  refine sg_bast (pc := 52) (i := nI 0) (x := nI y) hC dJ5_reverse_278bc_52 hB (by first | omega | decide) (vp_in_nI (by first | omega | decide) (by first | omega | decide)) ?_
  rw [nI_clamp (by first | omega | decide), jb_nar (by omega)]
  refine sg_nm (fun M3 hw4 => ?_)
  have hA : M3 a = some (t, .inr (1, [.ref b, .int (nI 0), .int ml, .int (nI 2)])) := hw4.n hA (sg_net hA hB (by first | omega | decide))
  have hf : sf (pk [t, u]) M M3 := hf.st hw4 hB (by simp [pk])
  have hB : M3 b = some (u, .inl (.byte, 16, .inl (upd g 0 (nI y)))) := hw4.1
  refine sg_aload_n (pc := 53) (v := .ref b) hC dJ5_reverse_278bc_53 rfl rfl ?_
  refine sg_iload (pc := 54) (x := nI 1) hC dJ5_reverse_278bc_54 rfl ?_
  refine sg_iload (pc := 56) (x := nI x) hC dJ5_reverse_278bc_56 rfl ?_
  refine sg_bast (pc := 58) (i := nI 1) (x := nI x) hC dJ5_reverse_278bc_58 hB (by first | omega | decide) (vp_in_nI (by first | omega | decide) (by first | omega | decide)) ?_
  rw [nI_clamp (by first | omega | decide), jb_nar (by omega)]
  refine sg_nm (fun M5 hw6 => ?_)
  have hA : M5 a = some (t, .inr (1, [.ref b, .int (nI 0), .int ml, .int (nI 2)])) := hw6.n hA (sg_net hA hB (by first | omega | decide))
  have hf : sf (pk [t, u]) M M5 := hf.st hw6 hB (by simp [pk])
  have hB : M5 b = some (u, .inl (.byte, 16, .inl (upd (upd g 0 (nI y)) 1 (nI x)))) := hw6.1
  refine sg_iinc (pc := 59) (((-1))) hC dJ5_reverse_278bc_59 rfl (by decide) (by decide) ?_
  show sg_W X M5 0 0 62 [some (.ref a), some (.ref b), some (.int (nI 2)), some (.int (nI 1)), some (.int ((-1))), some (.int (nI 1)), some (.int (nI x))] []
  refine sg_goto (pc := 62) 28 hC dJ5_reverse_278bc_62 (by decide) ?_
  refine sg_iload (pc := 28) (x := ((-1))) hC dJ5_reverse_278bc_28 rfl ?_
  refine sg_if_lt (pc := 30) (x := (-1)) 65 hC dJ5_reverse_278bc_30 (by decide) (fun _ => ?_) (fun h => by exfalso; revert h; decide)
  refine sg_goto (pc := 65) 73 hC dJ5_reverse_278bc_65 (by decide) ?_
  refine sg_aload_n (pc := 73) (v := .ref a) hC dJ5_reverse_278bc_73 rfl rfl ?_
  exact sg_areturn (st := []) (v := .ref a) (pc := 74) hC hR (Or.inl ⟨_, rfl⟩) (Or.inr ⟨_, rfl⟩) dJ5_reverse_278bc_74 (hk _ ⟨b, ml, _, hA, hB, Nat.le_of_ble_eq_true rfl, fun j hj => by
    have h9 : j = 0 ∨ j = 1 := by simp at hj; omega
    rcases h9 with rfl | rfl <;> simp [upd, hg0, hg1, hv0, hv1]⟩ hf)

set_option maxHeartbeats 400000 in
set_option maxRecDepth 100000 in
theorem c_asbRev3 {l : Launch} {G : sg_G} {d : Nat} {M : sg_M} {kr : Option Value → sg_M → Prop} {kx : String → sg_M → Prop} (htr : l.stackTraces = false) {t u a : Nat} {x y z : Nat} (hS : sb_r t u M a [x, y, z]) (ht : t ≠ 0) (hu : u ≠ 0) (htu : t ≠ u) (hk : ∀ M', sb_r t u M' a ([z, y, x]) → sf (pk [t, u]) M M' → kr (some (.ref a)) M') : sg_Met l G yJ5_reverse_278bc cJ5_reverse_278bc 7 (some (.object "java/lang/AbstractStringBuilder")) (d + 1) 0 0 [.ref a] M kr kx := by
  refine sg_enter [some (.ref a), none, none, none, none, none, none] (by decide) htr (Nat.le_of_ble_eq_true rfl) rfl ?_
  intro X hC hR
  have hC : sg_C X l G cJ5_reverse_278bc RJ5 7 (d + 1) := hC
  obtain ⟨b, ml, g, hA, hB, hN, hG⟩ := id hS
  have hg0 : g 0 = nI x := (hG 0 (Nat.le_of_ble_eq_true rfl)).1
  have hv0 : x < 128 := (hG 0 (Nat.le_of_ble_eq_true rfl)).2
  have hg1 : g 1 = nI y := (hG 1 (Nat.le_of_ble_eq_true rfl)).1
  have hv1 : y < 128 := (hG 1 (Nat.le_of_ble_eq_true rfl)).2
  have hg2 : g 2 = nI z := (hG 2 (Nat.le_of_ble_eq_true rfl)).1
  have hv2 : z < 128 := (hG 2 (Nat.le_of_ble_eq_true rfl)).2
  have hf : sf (pk [t, u]) M M := sf.rf
  refine sg_aload_n (pc := 0) (v := .ref a) hC dJ5_reverse_278bc_0 rfl rfl ?_
  refine sg_get (pc := 1) (a := a) (v := .ref b) 0 hC rfl inw_J4 (by decide) tw_118 dJ5_reverse_278bc_1 hA rfl ?_
  refine sg_astore_n (pc := 4) (v := .ref b) hC dJ5_reverse_278bc_4 (by decide) rfl ?_
  show sg_W X M 0 0 5 [some (.ref a), some (.ref b), none, none, none, none, none] []
  refine sg_aload_n (pc := 5) (v := .ref a) hC dJ5_reverse_278bc_5 rfl rfl ?_
  refine sg_get (pc := 6) (a := a) (v := .int (nI 3)) 3 hC rfl inw_J4 (by decide) tw_122 dJ5_reverse_278bc_6 hA rfl ?_
  refine sg_istore_n (pc := 9) (x := nI 3) hC dJ5_reverse_278bc_9 (by decide) ?_
  show sg_W X M 0 0 10 [some (.ref a), some (.ref b), some (.int (nI 3)), none, none, none, none] []
  refine sg_iload_n (pc := 10) (x := nI 3) hC dJ5_reverse_278bc_10 rfl ?_
  refine sg_iconst (pc := 11) (nI 1) hC dJ5_reverse_278bc_11 (by decide) ?_
  refine sg_isubN (pc := 12) (a := 3) (b := 1) hC dJ5_reverse_278bc_12 (by first | omega | decide) ?_
  refine sg_istore_n (pc := 13) (x := nI 2) hC dJ5_reverse_278bc_13 (by decide) ?_
  show sg_W X M 0 0 14 [some (.ref a), some (.ref b), some (.int (nI 3)), some (.int (nI 2)), none, none, none] []
  refine sg_aload_n (pc := 14) (v := .ref a) hC dJ5_reverse_278bc_14 rfl rfl ?_
  refine sg_callU (pc := 15) (y := yJ5_isLatin1_aae02) (As := []) (rest := []) (mc := 0) (ms := 0) hC tw_265 tw_267 tw_266 tw_269 (Or.inl tw_268) tw_266 tw_63 tw_269 yd_J5_isLatin1_aae02 (by decide) (ci := 1) rfl dJ5_reverse_278bc_15 hA rfl (Nat.le_of_ble_eq_true rfl) (by first | omega | decide) (by first | omega | decide) ?_
  refine c_bLatin htr hS ?_
  show sg_W X M 0 0 18 [some (.ref a), some (.ref b), some (.int (nI 3)), some (.int (nI 2)), none, none, none] [.int (nI 1)]
  refine sg_ifN_eq (pc := 18) (a := 1) 68 hC dJ5_reverse_278bc_18 (by decide) (by decide) (fun h1 => absurd h1 (by decide)) (fun _ => ?_)
  refine sg_iload_n (pc := 21) (x := nI 2) hC dJ5_reverse_278bc_21 rfl ?_
  refine sg_iconst (pc := 22) (nI 1) hC dJ5_reverse_278bc_22 (by decide) ?_
  refine sg_isubN (pc := 23) (a := 2) (b := 1) hC dJ5_reverse_278bc_23 (by first | omega | decide) ?_
  refine sg_iconst (pc := 24) (nI 1) hC dJ5_reverse_278bc_24 (by decide) ?_
  refine sg_ishrN (pc := 25) (a := 1) (b := 1) hC dJ5_reverse_278bc_25 (by first | omega | decide) (by first | omega | decide) ?_
  show sg_W X M 0 0 26 [some (.ref a), some (.ref b), some (.int (nI 3)), some (.int (nI 2)), none, none, none] [.int (nI 0)]
  refine sg_istore (pc := 26) (x := nI 0) hC dJ5_reverse_278bc_26 (by decide) ?_
  show sg_W X M 0 0 28 [some (.ref a), some (.ref b), some (.int (nI 3)), some (.int (nI 2)), some (.int (nI 0)), none, none] []
  refine sg_iload (pc := 28) (x := nI 0) hC dJ5_reverse_278bc_28 rfl ?_
  refine sg_ifN_lt (pc := 30) (a := 0) 65 hC dJ5_reverse_278bc_30 (by decide) (by decide) (fun h2 => absurd h2 (by decide)) (fun _ => ?_)
  refine sg_iload_n (pc := 33) (x := nI 2) hC dJ5_reverse_278bc_33 rfl ?_
  refine sg_iload (pc := 34) (x := nI 0) hC dJ5_reverse_278bc_34 rfl ?_
  refine sg_isubN (pc := 36) (a := 2) (b := 0) hC dJ5_reverse_278bc_36 (by first | omega | decide) ?_
  refine sg_istore (pc := 37) (x := nI 2) hC dJ5_reverse_278bc_37 (by decide) ?_
  show sg_W X M 0 0 39 [some (.ref a), some (.ref b), some (.int (nI 3)), some (.int (nI 2)), some (.int (nI 0)), some (.int (nI 2)), none] []
  refine sg_aload_n (pc := 39) (v := .ref b) hC dJ5_reverse_278bc_39 rfl rfl ?_
  refine sg_iload (pc := 40) (x := nI 0) hC dJ5_reverse_278bc_40 rfl ?_
  refine sg_bald (pc := 42) (i := nI 0) hC dJ5_reverse_278bc_42 hB (vp_in_nI (by first | omega | decide) (by first | omega | decide)) ?_
  rw [nI_clamp (by first | omega | decide)]
  rw [show (g) 0 = nI x from by first | exact hg0 | simp [upd, hg0]]
  show sg_W X M 0 0 43 [some (.ref a), some (.ref b), some (.int (nI 3)), some (.int (nI 2)), some (.int (nI 0)), some (.int (nI 2)), none] [.int (nI x)]
  refine sg_istore (pc := 43) (x := nI x) hC dJ5_reverse_278bc_43 (by decide) ?_
  show sg_W X M 0 0 45 [some (.ref a), some (.ref b), some (.int (nI 3)), some (.int (nI 2)), some (.int (nI 0)), some (.int (nI 2)), some (.int (nI x))] []
  refine sg_aload_n (pc := 45) (v := .ref b) hC dJ5_reverse_278bc_45 rfl rfl ?_
  refine sg_iload (pc := 46) (x := nI 0) hC dJ5_reverse_278bc_46 rfl ?_
  refine sg_aload_n (pc := 48) (v := .ref b) hC dJ5_reverse_278bc_48 rfl rfl ?_
  refine sg_iload (pc := 49) (x := nI 2) hC dJ5_reverse_278bc_49 rfl ?_
  refine sg_bald (pc := 51) (i := nI 2) hC dJ5_reverse_278bc_51 hB (vp_in_nI (by first | omega | decide) (by first | omega | decide)) ?_
  rw [nI_clamp (by first | omega | decide)]
  rw [show (g) 2 = nI z from by first | exact hg2 | simp [upd, hg2]]
  show sg_W X M 0 0 52 [some (.ref a), some (.ref b), some (.int (nI 3)), some (.int (nI 2)), some (.int (nI 0)), some (.int (nI 2)), some (.int (nI x))] [.int (nI z), .int (nI 0), .ref b]
  refine sg_bast (pc := 52) (i := nI 0) (x := nI z) hC dJ5_reverse_278bc_52 hB (by first | omega | decide) (vp_in_nI (by first | omega | decide) (by first | omega | decide)) ?_
  rw [nI_clamp (by first | omega | decide), jb_nar (by omega)]
  refine sg_nm (fun M3 hw4 => ?_)
  have hA : M3 a = some (t, .inr (1, [.ref b, .int (nI 0), .int ml, .int (nI 3)])) := hw4.n hA (sg_net hA hB (by first | omega | decide))
  have hf : sf (pk [t, u]) M M3 := hf.st hw4 hB (by simp [pk])
  have hB : M3 b = some (u, .inl (.byte, 16, .inl (upd g 0 (nI z)))) := hw4.1
  refine sg_aload_n (pc := 53) (v := .ref b) hC dJ5_reverse_278bc_53 rfl rfl ?_
  refine sg_iload (pc := 54) (x := nI 2) hC dJ5_reverse_278bc_54 rfl ?_
  refine sg_iload (pc := 56) (x := nI x) hC dJ5_reverse_278bc_56 rfl ?_
  refine sg_bast (pc := 58) (i := nI 2) (x := nI x) hC dJ5_reverse_278bc_58 hB (by first | omega | decide) (vp_in_nI (by first | omega | decide) (by first | omega | decide)) ?_
  rw [nI_clamp (by first | omega | decide), jb_nar (by omega)]
  refine sg_nm (fun M5 hw6 => ?_)
  have hA : M5 a = some (t, .inr (1, [.ref b, .int (nI 0), .int ml, .int (nI 3)])) := hw6.n hA (sg_net hA hB (by first | omega | decide))
  have hf : sf (pk [t, u]) M M5 := hf.st hw6 hB (by simp [pk])
  have hB : M5 b = some (u, .inl (.byte, 16, .inl (upd (upd g 0 (nI z)) 2 (nI x)))) := hw6.1
  refine sg_iinc (pc := 59) (((-1))) hC dJ5_reverse_278bc_59 rfl (by decide) (by decide) ?_
  show sg_W X M5 0 0 62 [some (.ref a), some (.ref b), some (.int (nI 3)), some (.int (nI 2)), some (.int ((-1))), some (.int (nI 2)), some (.int (nI x))] []
  refine sg_goto (pc := 62) 28 hC dJ5_reverse_278bc_62 (by decide) ?_
  refine sg_iload (pc := 28) (x := ((-1))) hC dJ5_reverse_278bc_28 rfl ?_
  refine sg_if_lt (pc := 30) (x := (-1)) 65 hC dJ5_reverse_278bc_30 (by decide) (fun _ => ?_) (fun h => by exfalso; revert h; decide)
  refine sg_goto (pc := 65) 73 hC dJ5_reverse_278bc_65 (by decide) ?_
  refine sg_aload_n (pc := 73) (v := .ref a) hC dJ5_reverse_278bc_73 rfl rfl ?_
  exact sg_areturn (st := []) (v := .ref a) (pc := 74) hC hR (Or.inl ⟨_, rfl⟩) (Or.inr ⟨_, rfl⟩) dJ5_reverse_278bc_74 (hk _ ⟨b, ml, _, hA, hB, Nat.le_of_ble_eq_true rfl, fun j hj => by
    have h9 : j = 0 ∨ j = 1 ∨ j = 2 := by simp at hj; omega
    rcases h9 with rfl | rfl | rfl <;> simp [upd, hg0, hg1, hg2, hv0, hv1, hv2]⟩ hf)

theorem c_asbRev {l : Launch} {G : sg_G} {d : Nat} {M : sg_M} {kr : Option Value → sg_M → Prop} {kx : String → sg_M → Prop} (htr : l.stackTraces = false) {t u a : Nat} {w : List Nat} (hS : sb_r t u M a w) (ht : t ≠ 0) (hu : u ≠ 0) (htu : t ≠ u) (h1 : 0 < w.length) (h2 : w.length ≤ 3) (hk : ∀ M', sb_r t u M' a (w.reverse) → sf (pk [t, u]) M M' → kr (some (.ref a)) M') : sg_Met l G yJ5_reverse_278bc cJ5_reverse_278bc 7 (some (.object "java/lang/AbstractStringBuilder")) (d + 1) 0 0 [.ref a] M kr kx := by
  match w, hS, h1, h2, hk with
  | [x], hS, _, _, hk => exact c_asbRev1 htr hS ht hu htu hk
  | [x, y], hS, _, _, hk => exact c_asbRev2 htr hS ht hu htu hk
  | [x, y, z], hS, _, _, hk => exact c_asbRev3 htr hS ht hu htu hk
  | _ :: _ :: _ :: _ :: _, _, _, h2, _ => simp at h2

set_option maxHeartbeats 400000 in
set_option maxRecDepth 100000 in
theorem c_sbRev {l : Launch} {G : sg_G} {d : Nat} {M : sg_M} {kr : Option Value → sg_M → Prop} {kx : String → sg_M → Prop} (htr : l.stackTraces = false) {t u a : Nat} {w : List Nat}  (hS : sb_r t u M a w) (ht : t ≠ 0) (hu : u ≠ 0) (htu : t ≠ u) (h1 : 0 < w.length) (h2 : w.length ≤ 3) (hk : ∀ M', sb_r t u M' a (w.reverse) → sf (pk [t, u]) M M' → kr (some (.ref a)) M') : sg_Met l G yJ4_reverse_43fcb cJ4_reverse_43fcb 1 (some (.object "java/lang/StringBuilder")) (d + 2) 0 0 [.ref a] M kr kx := by
  refine sg_enter [some (.ref a)] (by decide) htr (Nat.le_of_ble_eq_true rfl) rfl ?_
  intro X hC hR
  have hC : sg_C X l G cJ4_reverse_43fcb RJ4 1 (d + 2) := hC
  have hf : sf (pk [t, u]) M M := sf.rf
  refine sg_aload_n (pc := 0) (v := .ref a) hC dJ4_reverse_43fcb_0 rfl rfl ?_
  obtain ⟨_, _, _, hx1, -⟩ := id hS
  refine sg_callSU (pc := 1) (As := []) (rest := []) (mc := 0) (ms := 0) hC tw_706 tw_1483 tw_131 tw_707 tw_63 tw_708 ⟨by decide, yd_J5_reverse_278bc.2.2⟩ (by decide) (ci := 1) rfl dJ4_reverse_43fcb_1 hx1 rfl (Nat.le_of_ble_eq_true rfl) (by first | omega | decide) (by first | omega | decide) ?_
  refine c_asbRev htr hS (by first | omega | decide) (by first | omega | decide) (by first | omega | decide) (by first | omega | decide) (by first | omega | decide) (fun M2 hs3 hf4 => ?_)
  have hf : sf (pk [t, u]) M M2 := hf.tr hf4 (fun a t h => by first | exact h | (simp [pk] at h; done) | (simp [pk] at h ⊢; omega) | (simp [pk] at h ⊢; done))
  show sg_W X M2 0 0 4 [some (.ref a)] [.ref a]
  refine sg_pop (pc := 4) hC dJ4_reverse_43fcb_4 rfl ?_
  refine sg_aload_n (pc := 5) (v := .ref a) hC dJ4_reverse_43fcb_5 rfl rfl ?_
  exact sg_areturn (st := []) (v := .ref a) (pc := 6) hC hR (Or.inl ⟨_, rfl⟩) (Or.inr ⟨_, rfl⟩) dJ4_reverse_43fcb_6 (hk _ hs3 hf)

set_option maxHeartbeats 400000 in
set_option maxRecDepth 100000 in
theorem c_initASB {l : Launch} {G : sg_G} {d : Nat} {M : sg_M} {kr : Option Value → sg_M → Prop} {kx : String → sg_M → Prop} (htr : l.stackTraces = false) {s t u a : Nat} {w : List Nat} (hQ : M s = some (71, .inr (0, [.null, .int (nI 0), .int (nI 0), .int (nI 0)]))) (hS : sb_r t u M a w) (ht : t ≠ 0) (hu : u ≠ 0) (htu : t ≠ u) (h1 : t ≠ 71) (h2 : t ≠ 72) (h3 : u ≠ 71) (h4 : u ≠ 72) (hk : ∀ M', st_r 71 72 M' s w → sf (fun b _ => b = s) M M' → kr none M') : sg_Met l G yJ0_init_db425 cJ0_init_db425 5 none (d + 3) 1 w.length [.ref s, .ref a, .null] M kr kx := by
  refine sg_enter [some (.ref s), some (.ref a), some (.null), none, none] (by decide) htr (Nat.le_of_ble_eq_true rfl) rfl ?_
  intro X hC hR
  have hC : sg_C X l G cJ0_init_db425 RJ0 5 (d + 3) := hC
  obtain ⟨b, ml, g, hA, hB, hN, hG⟩ := id hS
  have hf : sf (fun b _ => b = s) M M := sf.rf
  refine sg_aload_n (pc := 0) (v := .ref s) hC dJ0_init_db425_0 rfl rfl ?_
  refine sg_objInit (pc := 1) hC tw_404 tw_98 tw_99 dJ0_init_db425_1 (Nat.le_of_ble_eq_true rfl) ?_
  show sg_W X M 1 w.length 4 [some (.ref s), some (.ref a), some (.null), none, none] []
  refine sg_aload_n (pc := 4) (v := .ref a) hC dJ0_init_db425_4 rfl rfl ?_
  refine sg_callU (pc := 5) (y := yJ5_getValue_6d5f1) (As := []) (rest := []) (mc := 0) (ms := 0) hC tw_405 tw_407 tw_406 tw_409 (Or.inl tw_408) tw_406 tw_63 tw_409 yd_J5_getValue_6d5f1 (by decide) (ci := 1) rfl dJ0_init_db425_5 hA rfl (Nat.le_of_ble_eq_true rfl) (by first | omega | decide) (by first | omega | decide) ?_
  refine c_getVal htr hA ?_
  show sg_W X M 1 (w.length - 0) 8 [some (.ref s), some (.ref a), some (.null), none, none] [.ref b]
  refine sg_astore_n (pc := 8) (v := .ref b) hC dJ0_init_db425_8 (by decide) rfl ?_
  show sg_W X M 1 (w.length - 0) 9 [some (.ref s), some (.ref a), some (.null), some (.ref b), none] []
  refine sg_aload_n (pc := 9) (v := .ref a) hC dJ0_init_db425_9 rfl rfl ?_
  refine sg_callU (pc := 10) (y := yJ4_length_8abf5) (As := []) (rest := []) (mc := 0) (ms := 0) hC tw_410 tw_1470 tw_221 tw_222 (Or.inl tw_1476) tw_217 tw_64 tw_219 yd_J5_length_8abf5 (by decide) (ci := 1) rfl dJ0_init_db425_10 hA rfl (Nat.le_of_ble_eq_true rfl) (by first | omega | decide) (by first | omega | decide) ?_
  refine c_sbLen htr hS ?_
  show sg_W X M 1 ((w.length - 0) - 0) 13 [some (.ref s), some (.ref a), some (.null), some (.ref b), none] [.int (nI w.length)]
  refine sg_istore (pc := 13) (x := nI w.length) hC dJ0_init_db425_13 (by decide) ?_
  show sg_W X M 1 ((w.length - 0) - 0) 15 [some (.ref s), some (.ref a), some (.null), some (.ref b), some (.int (nI w.length))] []
  refine sg_aload_n (pc := 15) (v := .ref a) hC dJ0_init_db425_15 rfl rfl ?_
  refine sg_callU (pc := 16) (y := yJ5_isLatin1_aae02) (As := []) (rest := []) (mc := 0) (ms := 0) hC tw_411 tw_267 tw_266 tw_269 (Or.inl tw_268) tw_266 tw_63 tw_269 yd_J5_isLatin1_aae02 (by decide) (ci := 1) rfl dJ0_init_db425_16 hA rfl (Nat.le_of_ble_eq_true rfl) (by first | omega | decide) (by first | omega | decide) ?_
  refine c_bLatin htr hS ?_
  show sg_W X M 1 (((w.length - 0) - 0) - 0) 19 [some (.ref s), some (.ref a), some (.null), some (.ref b), some (.int (nI w.length))] [.int (nI 1)]
  refine sg_ifN_eq (pc := 19) (a := 1) 41 hC dJ0_init_db425_19 (by decide) (by decide) (fun h1 => absurd h1 (by decide)) (fun _ => ?_)
  refine sg_aload_n (pc := 22) (v := .ref s) hC dJ0_init_db425_22 rfl rfl ?_
  refine sg_iconst (pc := 23) (nI 0) hC dJ0_init_db425_23 (by decide) ?_
  refine sg_putF (pc := 24) (a := s) (v := .int (nI 0)) 1 hC hR rfl rfl inw_J0 tyJ0 tyJ0_ok nmJ0 (by decide) tw_534 rfl rfl rfl (jp_b (by first | omega | decide)) rfl dJ0_init_db425_24 hQ (by first | omega | decide) (Nat.le_of_ble_eq_true rfl) ?_
  refine sg_nm (fun M2 hw3 => ?_)
  have hA : M2 a = some (t, .inr (1, [.ref b, .int (nI 0), .int ml, .int (nI w.length)])) := hw3.n hA (sg_net hA hQ (by first | omega | decide))
  have hB : M2 b = some (u, .inl (.byte, 16, .inl g)) := hw3.n hB (sg_net hB hQ (by first | omega | decide))
  have hS : sb_r t u M2 a w := hS.st hw3 hQ (by first | omega | decide) (by first | omega | decide)
  have hf : sf (fun b _ => b = s) M M2 := hf.st hw3 hQ (by rfl)
  have hQ : M2 s = some (71, .inr (0, [.null, .int (nI 0), .int (nI 0), .int (nI 0)])) := hw3.1
  refine sg_aload_n (pc := 27) (v := .ref s) hC dJ0_init_db425_27 rfl rfl ?_
  refine sg_aload_n (pc := 28) (v := .ref b) hC dJ0_init_db425_28 rfl rfl ?_
  refine sg_iconst (pc := 29) (nI 0) hC dJ0_init_db425_29 (by decide) ?_
  refine sg_iload (pc := 30) (x := nI w.length) hC dJ0_init_db425_30 rfl ?_
  refine sg_callS (pc := 32) (As := [.ref b, .int (nI 0), .int (nI w.length)]) (rest := [.ref s]) (mc := 1) (ms := w.length) hC tw_412 tw_413 tw_75 tw_414 yd_J7_copyOfRange_39247 (by decide) dJ0_init_db425_32 rfl (Nat.le_of_ble_eq_true rfl) (by first | omega | decide) (by first | omega | decide) ?_
  refine c_copyR (v := 72) htr hB (by first | omega | decide) (by first | omega | decide) (by first | omega | decide) (by first | omega | decide) (fun j hj => by rw [(hG j hj).1]; exact jb_fit (hG j hj).2) (fun q4 M5 g6 hq7 hw8 hg9 => ?_)
  have ne10 : s ≠ q4 := sg_fresh hQ hq7
  have hQ : M5 s = some (71, .inr (0, [.null, .int (nI 0), .int (nI 0), .int (nI 0)])) := hw8.n hQ ne10
  have ne11 : a ≠ q4 := sg_fresh hA hq7
  have hA : M5 a = some (t, .inr (1, [.ref b, .int (nI 0), .int ml, .int (nI w.length)])) := hw8.n hA ne11
  have ne12 : b ≠ q4 := sg_fresh hB hq7
  have hB : M5 b = some (u, .inl (.byte, 16, .inl g)) := hw8.n hB ne12
  have hS : sb_r t u M5 a w := hS.nw hw8 hq7
  have hn13 : M q4 = none := hf.fr hq7
  have hf : sf (fun b _ => b = s) M M5 := hf.nw hw8 hn13
  have hF14 : M5 q4 = some (72, .inl (.byte, w.length, .inl g6)) := hw8.1
  show sg_W X M5 0 ((((w.length - 0) - 0) - 0) - w.length) 35 [some (.ref s), some (.ref a), some (.null), some (.ref b), some (.int (nI w.length))] [.ref q4, .ref s]
  refine sg_putF (pc := 35) (a := s) (v := .ref q4) 0 hC hR rfl rfl inw_J0 tyJ0 tyJ0_ok nmJ0 (by decide) tw_533 rfl rfl rfl rfl rfl dJ0_init_db425_35 hQ (by first | omega | decide) (Nat.le_of_ble_eq_true rfl) ?_
  refine sg_nm (fun M15 hw16 => ?_)
  have hA : M15 a = some (t, .inr (1, [.ref b, .int (nI 0), .int ml, .int (nI w.length)])) := hw16.n hA (sg_net hA hQ (by first | omega | decide))
  have hB : M15 b = some (u, .inl (.byte, 16, .inl g)) := hw16.n hB (sg_net hB hQ (by first | omega | decide))
  have hF14 : M15 q4 = some (72, .inl (.byte, w.length, .inl g6)) := hw16.n hF14 (Ne.symm ne10)
  have hS : sb_r t u M15 a w := hS.st hw16 hQ (by first | omega | decide) (by first | omega | decide)
  have hf : sf (fun b _ => b = s) M M15 := hf.st hw16 hQ (by rfl)
  have hQ : M15 s = some (71, .inr (0, [.ref q4, .int (nI 0), .int (nI 0), .int (nI 0)])) := hw16.1
  refine sg_goto (pc := 38) 97 hC dJ0_init_db425_38 (by decide) ?_
  exact sg_vreturn (st := []) (pc := 97) hC hR dJ0_init_db425_97 (hk _ ⟨q4, nI 0, nI 0, g6, hQ, hF14, by omega, fun j hj => ⟨(hg9 j hj).trans (hG j hj).1, (hG j hj).2⟩⟩ hf)

set_option maxHeartbeats 400000 in
set_option maxRecDepth 100000 in
theorem c_initSB {l : Launch} {G : sg_G} {d : Nat} {M : sg_M} {kr : Option Value → sg_M → Prop} {kx : String → sg_M → Prop} (htr : l.stackTraces = false) {s t u a : Nat} {w : List Nat} (hQ : M s = some (71, .inr (0, [.null, .int (nI 0), .int (nI 0), .int (nI 0)]))) (hS : sb_r t u M a w) (ht : t ≠ 0) (hu : u ≠ 0) (htu : t ≠ u) (h1 : t ≠ 71) (h2 : t ≠ 72) (h3 : u ≠ 71) (h4 : u ≠ 72) (hk : ∀ M', st_r 71 72 M' s w → sf (fun b _ => b = s) M M' → kr none M') : sg_Met l G yJ0_init_81219 cJ0_init_81219 2 none (d + 4) 1 w.length [.ref s, .ref a] M kr kx := by
  refine sg_enter [some (.ref s), some (.ref a)] (by decide) htr (Nat.le_of_ble_eq_true rfl) rfl ?_
  intro X hC hR
  have hC : sg_C X l G cJ0_init_81219 RJ0 2 (d + 4) := hC
  have hf : sf (fun b _ => b = s) M M := sf.rf
  refine sg_aload_n (pc := 0) (v := .ref s) hC dJ0_init_81219_0 rfl rfl ?_
  refine sg_aload_n (pc := 1) (v := .ref a) hC dJ0_init_81219_1 rfl rfl ?_
  refine sg_null (pc := 2) hC dJ0_init_81219_2 ?_
  refine sg_callI (pc := 3) (b := s) (As := [.ref a, .null]) (rest := []) (mc := 1) (ms := w.length) hC tw_401 tw_402 tw_65 tw_403 rfl yd_J0_init_db425 (by decide) dJ0_init_81219_3 rfl (Nat.le_of_ble_eq_true rfl) (by first | omega | decide) (by first | omega | decide) ?_
  refine c_initASB htr hQ hS (by omega) (by omega) (by omega) (by omega) (by omega) (by omega) (by omega) (fun M1 hs2 hf3 => ?_)
  have hS : sb_r t u M1 a w := hS.a hf3 (Or.inr ⟨_, _, hQ, by omega, by omega⟩)
  have hf : sf (fun b _ => b = s) M M1 := hf.tr hf3 (fun _ _ h => h)
  show sg_W X M1 0 (w.length - w.length) 6 [some (.ref s), some (.ref a)] []
  exact sg_vreturn (st := []) (pc := 6) hC hR dJ0_init_81219_6 (hk _ hs2 hf)

set_option maxHeartbeats 400000 in
set_option maxRecDepth 100000 in
theorem c_toStr {l : Launch} {G : sg_G} {d : Nat} {M : sg_M} {kr : Option Value → sg_M → Prop} {kx : String → sg_M → Prop} (htr : l.stackTraces = false) {t u a : Nat} {w : List Nat}  (hS : sb_r t u M a w) (ht : t ≠ 0) (hu : u ≠ 0) (htu : t ≠ u) (h1 : t ≠ 71) (h2 : t ≠ 72) (h3 : u ≠ 71) (h4 : u ≠ 72) (hk : ∀ s M', st_r 71 72 M' s w → sf (pk []) M M' → kr (some (.ref s)) M') : sg_Met l G yJ4_toString_0e30d cJ4_toString_0e30d 1 (some (.object "java/lang/String")) (d + 5) 2 (4 + w.length) [.ref a] M kr kx := by
  refine sg_enter [some (.ref a)] (by decide) htr (Nat.le_of_ble_eq_true rfl) rfl ?_
  intro X hC hR
  have hC : sg_C X l G cJ4_toString_0e30d RJ4 1 (d + 5) := hC
  have hN : w.length ≤ 16 := by
    obtain ⟨_, _, _, -, -, h9, -⟩ := hS
    exact h9
  have hf : sf (pk []) M M := sf.rf
  refine sg_new (pc := 0) (ci := 0) (71) [.null, .int (nI 0), .int (nI 0), .int (nI 0)] hC rfl inw_J0 tyJ0 tyJ0_ok tw_396 tw_397 tw_65 (by intro j hj; have h9 : j = 0 ∨ j = 1 ∨ j = 2 ∨ j = 3 := (by omega); rcases h9 with rfl | rfl | rfl | rfl <;> rfl) dJ4_toString_0e30d_0 (by first | omega | decide) (by first | omega | decide) (by first | omega | decide) (fun q1 hq2 => ?_)
  refine sg_nm (fun M3 hw4 => ?_)
  have hS : sb_r t u M3 a w := hS.nw hw4 hq2
  have hn5 : M q1 = none := hf.fr hq2
  have hf : sf (pk []) M M3 := hf.nw hw4 hn5
  have hF6 : M3 q1 = some (71, .inr (0, [.null, .int (nI 0), .int (nI 0), .int (nI 0)])) := hw4.1
  show sg_W X M3 1 ((4 + w.length) - 4) 3 [some (.ref a)] [.ref q1]
  refine sg_dup (pc := 3) hC dJ4_toString_0e30d_3 rfl ?_
  refine sg_aload_n (pc := 4) (v := .ref a) hC dJ4_toString_0e30d_4 rfl rfl ?_
  refine sg_callI (pc := 5) (b := q1) (As := [.ref a]) (rest := [.ref q1]) (mc := 1) (ms := w.length) hC tw_398 tw_399 tw_65 tw_400 rfl yd_J0_init_81219 (by decide) dJ4_toString_0e30d_5 rfl (Nat.le_of_ble_eq_true rfl) (by first | omega | decide) (by first | omega | decide) ?_
  refine c_initSB htr hF6 hS (by omega) (by omega) (by omega) (by omega) (by omega) (by omega) (by omega) (fun M7 hs8 hf9 => ?_)
  have hS : sb_r t u M7 a w := hS.a hf9 (Or.inr ⟨_, _, hF6, by omega, by omega⟩)
  have hf : sf (pk []) M M7 := hf.trN hf9 (fun b t h => Or.inr (by rw [h]; exact hn5))
  show sg_W X M7 0 (((4 + w.length) - 4) - w.length) 8 [some (.ref a)] [.ref q1]
  exact sg_areturn (st := []) (v := .ref q1) (pc := 8) hC hR (Or.inl ⟨_, rfl⟩) (Or.inr ⟨_, rfl⟩) dJ4_toString_0e30d_8 (hk _ _ hs8 hf)
