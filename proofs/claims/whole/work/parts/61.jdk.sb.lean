theorem sw.tt {M M1 M2 : sg_M} {a : Nat} {y z : Nat × sg_E} (h1 : sw M a y M1) (h2 : sw M1 a z M2) : sw M a z M2 := ⟨h2.1, fun b hb => (h2.2 b hb).trans (h1.2 b hb)⟩
theorem jm_min {x y : Nat} (h : y ≤ x) (hx : x < 2 ^ 31) : (if nI y < nI x then nI y else nI x) = nI y := by
  by_cases c : nI y < nI x
  · rw [if_pos c]
  · rw [if_neg c]
    have : ¬ y < x := fun e => c ((nI_ltI (by omega) hx).mpr e)
    have : x = y := by omega
    rw [this]
theorem jm_max {x y : Nat} (h : y ≤ x) (hx : x < 2 ^ 31) : (if nI x < nI y then nI y else nI x) = nI x := by
  rw [if_neg (fun e => by have := (nI_ltI hx (by omega)).mp e; omega)]
theorem sbx_app {M : sg_M} {a b t u c : Nat} {ml : Int32} {g : Nat → Int32} {w : List Nat} (hA : M a = some (t, .inr (1, [.ref b, .int (nI 0), .int ml, .int (nI (w.length + 1))]))) (hB : M b = some (u, .inl (.byte, 16, .inl (upd g w.length (nI c))))) (hw : w.length < 16) (hG : ∀ j, j < w.length → g j = nI (w.getD j 0) ∧ w.getD j 0 < 128) (hc : c < 128) : sb_r t u M a (w ++ [c]) := by
  have e : (w ++ [c]).length = w.length + 1 := by simp
  refine ⟨b, ml, upd g w.length (nI c), by rw [e]; exact hA, hB, by omega, fun j hj => ?_⟩
  by_cases h : j = w.length
  · subst h
    rw [pk_us]
    simp [hc]
  · have h2 : j < w.length := by omega
    rw [pk_un h]
    have e2 : (w ++ [c]).getD j 0 = w.getD j 0 := by simp [List.getD, List.getElem?_append_left h2]
    rw [e2]; exact hG j h2
theorem sbx_cat {M : sg_M} {a b t u : Nat} {ml : Int32} {g g' : Nat → Int32} {w v : List Nat} (hA : M a = some (t, .inr (1, [.ref b, .int (nI 0), .int ml, .int (nI (w.length + v.length))]))) (hB : M b = some (u, .inl (.byte, 16, .inl g'))) (hw : w.length + v.length ≤ 16) (hG : ∀ j, j < w.length → g j = nI (w.getD j 0) ∧ w.getD j 0 < 128) (hV : ∀ j, j < v.length → v.getD j 0 < 128) (hg : ∀ j, g' j = if w.length ≤ j ∧ j < w.length + v.length then nI (v.getD (j - w.length) 0) else g j) : sb_r t u M a (w ++ v) := by
  have e : (w ++ v).length = w.length + v.length := by simp
  refine ⟨b, ml, g', by rw [e]; exact hA, hB, by omega, fun j hj => ?_⟩
  rw [hg]
  by_cases h : w.length ≤ j
  · rw [if_pos ⟨h, by omega⟩]
    have e2 : (w ++ v).getD j 0 = v.getD (j - w.length) 0 := by simp [List.getD, List.getElem?_append_right h]
    rw [e2]; exact ⟨rfl, hV _ (by omega)⟩
  · rw [if_neg (fun q => h q.1)]
    have e2 : (w ++ v).getD j 0 = w.getD j 0 := by simp [List.getD, List.getElem?_append_left (Nat.not_le.mp h)]
    rw [e2]; exact hG j (by omega)

set_option maxHeartbeats 400000 in
set_option maxRecDepth 100000 in
theorem c_initBB {l : Launch} {G : sg_G} {d : Nat} {M : sg_M} {kr : Option Value → sg_M → Prop} {kx : String → sg_M → Prop} (htr : l.stackTraces = false) {a b t : Nat} (hA : M a = some (t, .inr (0, [.null, .int (nI 0), .int (nI 0), .int (nI 0)]))) (ht : t ≠ 0) (hk : ∀ M', sw M a (t, .inr (0, [.ref b, .int (nI 0), .int (nI 0), .int (nI 0)])) M' → kr none M') : sg_Met l G yJ0_init_031fb cJ0_init_031fb 3 none (d + 1) 0 0 [.ref a, .ref b, .int (nI 0)] M kr kx := by
  refine sg_enter [some (.ref a), some (.ref b), some (.int (nI 0))] (by decide) htr (Nat.le_of_ble_eq_true rfl) rfl ?_
  intro X hC hR
  have hC : sg_C X l G cJ0_init_031fb RJ0 3 (d + 1) := hC
  refine sg_aload_n (pc := 0) (v := .ref a) hC dJ0_init_031fb_0 rfl rfl ?_
  refine sg_objInit (pc := 1) hC tw_404 tw_98 tw_99 dJ0_init_031fb_1 (Nat.le_of_ble_eq_true rfl) ?_
  show sg_W X M 0 0 4 [some (.ref a), some (.ref b), some (.int (nI 0))] []
  refine sg_aload_n (pc := 4) (v := .ref a) hC dJ0_init_031fb_4 rfl rfl ?_
  refine sg_aload_n (pc := 5) (v := .ref b) hC dJ0_init_031fb_5 rfl rfl ?_
  refine sg_putF (pc := 6) (a := a) (v := .ref b) 0 hC hR rfl rfl inw_J0 tyJ0 tyJ0_ok nmJ0 (by decide) tw_533 rfl rfl rfl rfl rfl dJ0_init_031fb_6 hA (by first | omega | decide) (Nat.le_of_ble_eq_true rfl) ?_
  refine sg_nm (fun M1 hw2 => ?_)
  have hA : M1 a = some (t, .inr (0, [.ref b, .int (nI 0), .int (nI 0), .int (nI 0)])) := hw2.1
  refine sg_aload_n (pc := 9) (v := .ref a) hC dJ0_init_031fb_9 rfl rfl ?_
  refine sg_iload_n (pc := 10) (x := nI 0) hC dJ0_init_031fb_10 rfl ?_
  refine sg_putF (pc := 11) (a := a) (v := .int (nI 0)) 1 hC hR rfl rfl inw_J0 tyJ0 tyJ0_ok nmJ0 (by decide) tw_534 rfl rfl rfl (jp_b (by first | omega | decide)) rfl dJ0_init_031fb_11 hA (by first | omega | decide) (Nat.le_of_ble_eq_true rfl) ?_
  refine sg_nm (fun M3 hw4 => ?_)
  have hA : M3 a = some (t, .inr (0, [.ref b, .int (nI 0), .int (nI 0), .int (nI 0)])) := hw4.1
  exact sg_vreturn (st := []) (pc := 14) hC hR dJ0_init_031fb_14 (hk _ (sw.tt hw2 hw4))

set_option maxHeartbeats 400000 in
set_option maxRecDepth 100000 in
theorem c_checkLen {l : Launch} {G : sg_G} {d : Nat} {M : sg_M} {kr : Option Value → sg_M → Prop} {kx : String → sg_M → Prop} (htr : l.stackTraces = false) {i k : Nat} (h1 : i ≤ k) (h2 : k ≤ 65536) (hk : kr none M) : sg_Met l G yJ7_checkLength_df160 cJ7_checkLength_df160 2 none (d + 0) 0 0 [.int (nI i), .int (nI k)] M kr kx := by
  refine sg_enter [some (.int (nI i)), some (.int (nI k))] (by decide) htr (Nat.le_of_ble_eq_true rfl) rfl ?_
  intro X hC hR
  have hC : sg_C X l G cJ7_checkLength_df160 RJ7 2 (d + 0) := hC
  refine sg_iload_n (pc := 0) (x := nI k) hC dJ7_checkLength_df160_0 rfl ?_
  refine sg_iload_n (pc := 1) (x := nI i) hC dJ7_checkLength_df160_1 rfl ?_
  refine sg_icmpN_ge (pc := 2) (a := k) (b := i) 37 hC dJ7_checkLength_df160_2 (by decide) (by first | omega | decide) (by first | omega | decide) (fun h1 => ?_) (fun h1 => by exfalso; omega)
  exact sg_vreturn (st := []) (pc := 37) hC hR dJ7_checkLength_df160_37 hk

set_option maxHeartbeats 400000 in
set_option maxRecDepth 100000 in
theorem c_copyRB {l : Launch} {G : sg_G} {d : Nat} {M : sg_M} {kr : Option Value → sg_M → Prop} {kx : String → sg_M → Prop} (htr : l.stackTraces = false) {b u n k v : Nat} {g : Nat → Int32} (hB : M b = some (u, .inl (.byte, n, .inl g))) (hu : u ≠ 0) (hv : v ≠ 0) (h1 : k ≤ n) (h2 : n ≤ 65536) (hf : ∀ j, j < k → fits .byte (.int (g j)) = true) (hk : ∀ q M' g', M q = none → sw M q (v, .inl (.byte, k, .inl g')) M' → (∀ j, j < k → g' j = g j) → kr (some (.ref q)) M') : sg_Met l G yJ7_copyOfRangeByte_39247 cJ7_copyOfRangeByte_39247 5 (some (.array .byte)) (d + 1) 1 k [.ref b, .int (nI 0), .int (nI k)] M kr kx := by
  refine sg_enter [some (.ref b), some (.int (nI 0)), some (.int (nI k)), none, none] (by decide) htr (Nat.le_of_ble_eq_true rfl) rfl ?_
  intro X hC hR
  have hC : sg_C X l G cJ7_copyOfRangeByte_39247 RJ7 5 (d + 1) := hC
  refine sg_iload_n (pc := 0) (x := nI 0) hC dJ7_copyOfRangeByte_39247_0 rfl ?_
  refine sg_iload_n (pc := 1) (x := nI k) hC dJ7_copyOfRangeByte_39247_1 rfl ?_
  refine sg_callS (pc := 2) (As := [.int (nI 0), .int (nI k)]) (rest := []) (mc := 0) (ms := 0) hC tw_418 tw_419 tw_75 tw_420 yd_J7_checkLength_df160 (by decide) dJ7_copyOfRangeByte_39247_2 rfl (Nat.le_of_ble_eq_true rfl) (by first | omega | decide) (by first | omega | decide) ?_
  refine c_checkLen htr (by first | omega | decide) (by first | omega | decide) ?_
  show sg_W X M 1 (k - 0) 5 [some (.ref b), some (.int (nI 0)), some (.int (nI k)), none, none] []
  refine sg_iload_n (pc := 5) (x := nI k) hC dJ7_copyOfRangeByte_39247_5 rfl ?_
  refine sg_iload_n (pc := 6) (x := nI 0) hC dJ7_copyOfRangeByte_39247_6 rfl ?_
  refine sg_isubN (pc := 7) (a := k) (b := 0) hC dJ7_copyOfRangeByte_39247_7 (by first | omega | decide) ?_
  refine sg_istore_n (pc := 8) (x := nI (k - 0)) hC dJ7_copyOfRangeByte_39247_8 (by decide) ?_
  show sg_W X M 1 (k - 0) 9 [some (.ref b), some (.int (nI 0)), some (.int (nI k)), some (.int (nI (k - 0))), none] []
  rw [Nat.sub_zero]
  show sg_W X M 1 (k - 0) 9 [some (.ref b), some (.int (nI 0)), some (.int (nI k)), some (.int (nI k)), none] []
  refine sg_iload_n (pc := 9) (x := nI k) hC dJ7_copyOfRangeByte_39247_9 rfl ?_
  refine sg_new_byte (pc := 10) (N := k) (v) hC tw_132 dJ7_copyOfRangeByte_39247_10 rfl (by first | omega | decide) (by first | omega | decide) (by first | omega | decide) (by first | omega | decide) (fun q1 hq2 => ?_)
  refine sg_nm (fun M3 hw4 => ?_)
  have ne5 : b ≠ q1 := sg_fresh hB hq2
  have hB : M3 b = some (u, .inl (.byte, n, .inl g)) := hw4.n hB ne5
  have hF6 : M3 q1 = some (v, .inl (.byte, k, .inl (fun _ => 0))) := hw4.1
  show sg_W X M3 0 ((k - 0) - k) 12 [some (.ref b), some (.int (nI 0)), some (.int (nI k)), some (.int (nI k)), none] [.ref q1]
  refine sg_astore (pc := 12) (v := .ref q1) hC dJ7_copyOfRangeByte_39247_12 (by decide) rfl ?_
  show sg_W X M3 0 ((k - 0) - k) 14 [some (.ref b), some (.int (nI 0)), some (.int (nI k)), some (.int (nI k)), some (.ref q1)] []
  refine sg_aload_n (pc := 14) (v := .ref b) hC dJ7_copyOfRangeByte_39247_14 rfl rfl ?_
  refine sg_iload_n (pc := 15) (x := nI 0) hC dJ7_copyOfRangeByte_39247_15 rfl ?_
  refine sg_aload (pc := 16) (v := .ref q1) hC dJ7_copyOfRangeByte_39247_16 rfl rfl ?_
  refine sg_iconst (pc := 18) (nI 0) hC dJ7_copyOfRangeByte_39247_18 (by decide) ?_
  refine sg_aload_n (pc := 19) (v := .ref b) hC dJ7_copyOfRangeByte_39247_19 rfl rfl ?_
  refine sg_alen (pc := 20) 1 hC dJ7_copyOfRangeByte_39247_20 hB rfl ?_
  show sg_W X M3 0 ((k - 0) - k) 21 [some (.ref b), some (.int (nI 0)), some (.int (nI k)), some (.int (nI k)), some (.ref q1)] [.int (nI n), .int (nI 0), .ref q1, .int (nI 0), .ref b]
  refine sg_iload_n (pc := 21) (x := nI 0) hC dJ7_copyOfRangeByte_39247_21 rfl ?_
  refine sg_isubN (pc := 22) (a := n) (b := 0) hC dJ7_copyOfRangeByte_39247_22 (by first | omega | decide) ?_
  rw [Nat.sub_zero]
  show sg_W X M3 0 ((k - 0) - k) 23 [some (.ref b), some (.int (nI 0)), some (.int (nI k)), some (.int (nI k)), some (.ref q1)] [.int (nI n), .int (nI 0), .ref q1, .int (nI 0), .ref b]
  refine sg_iload_n (pc := 23) (x := nI k) hC dJ7_copyOfRangeByte_39247_23 rfl ?_
  refine sg_mmin (pc := 24) (x := nI n) (y := nI k) hC tw_259 tw_260 tw_74 tw_261 dJ7_copyOfRangeByte_39247_24 (Nat.le_of_ble_eq_true rfl) ?_
  rw [jm_min (by omega) (by omega)]
  show sg_W X M3 0 ((k - 0) - k) 27 [some (.ref b), some (.int (nI 0)), some (.int (nI k)), some (.int (nI k)), some (.ref q1)] [.int (nI k), .int (nI 0), .ref q1, .int (nI 0), .ref b]
  refine sg_copyb (pc := 27) (sp := 0) (dp := 0) (n := k) hC tw_262 tw_264 tw_263 tw_76 dJ7_copyOfRangeByte_39247_27 hB (by first | omega | decide) hF6 (by first | omega | decide) (by first | omega | decide) (by first | omega | decide) (by first | omega | decide) (by first | omega | decide) (fun j hj => by rw [Nat.zero_add]; exact hf j hj) (Nat.le_of_ble_eq_true rfl) ?_
  refine sg_nm (fun M7 hw8 => ?_)
  have hB : M7 b = some (u, .inl (.byte, n, .inl g)) := hw8.n hB ne5
  have hF6 : M7 q1 = some (v, .inl (.byte, k, .inl (va_cpy g (fun _ => 0) 0 0 k))) := hw8.1
  show sg_W X M7 0 ((k - 0) - k) 30 [some (.ref b), some (.int (nI 0)), some (.int (nI k)), some (.int (nI k)), some (.ref q1)] []
  refine sg_aload (pc := 30) (v := .ref q1) hC dJ7_copyOfRangeByte_39247_30 rfl rfl ?_
  exact sg_areturn (st := []) (v := .ref q1) (pc := 32) hC hR (Or.inr ⟨_, rfl⟩) (Or.inr ⟨_, rfl⟩) dJ7_copyOfRangeByte_39247_32 (hk _ _ _ hq2 (sw.tt hw4 hw8) (fun j hj => by rw [pk_cpy_in (Nat.zero_le _) (by omega)]; congr 1; omega))

set_option maxHeartbeats 400000 in
set_option maxRecDepth 100000 in
theorem c_copyR {l : Launch} {G : sg_G} {d : Nat} {M : sg_M} {kr : Option Value → sg_M → Prop} {kx : String → sg_M → Prop} (htr : l.stackTraces = false) {b u n k v : Nat} {g : Nat → Int32} (hB : M b = some (u, .inl (.byte, n, .inl g))) (hu : u ≠ 0) (hv : v ≠ 0) (h1 : k ≤ n) (h2 : n ≤ 65536) (hf : ∀ j, j < k → fits .byte (.int (g j)) = true) (hk : ∀ q M' g', M q = none → sw M q (v, .inl (.byte, k, .inl g')) M' → (∀ j, j < k → g' j = g j) → kr (some (.ref q)) M') : sg_Met l G yJ7_copyOfRange_39247 cJ7_copyOfRange_39247 3 (some (.array .byte)) (d + 2) 1 k [.ref b, .int (nI 0), .int (nI k)] M kr kx := by
  refine sg_enter [some (.ref b), some (.int (nI 0)), some (.int (nI k))] (by decide) htr (Nat.le_of_ble_eq_true rfl) rfl ?_
  intro X hC hR
  have hC : sg_C X l G cJ7_copyOfRange_39247 RJ7 3 (d + 2) := hC
  refine sg_iload_n (pc := 0) (x := nI 0) hC dJ7_copyOfRange_39247_0 rfl ?_
  refine sg_ifN_ne (pc := 1) (a := 0) 10 hC dJ7_copyOfRange_39247_1 (by decide) (by decide) (fun h1 => absurd h1 (by decide)) (fun _ => ?_)
  refine sg_iload_n (pc := 4) (x := nI k) hC dJ7_copyOfRange_39247_4 rfl ?_
  refine sg_aload_n (pc := 5) (v := .ref b) hC dJ7_copyOfRange_39247_5 rfl rfl ?_
  refine sg_alen (pc := 6) 1 hC dJ7_copyOfRange_39247_6 hB rfl ?_
  show sg_W X M 1 k 7 [some (.ref b), some (.int (nI 0)), some (.int (nI k))] [.int (nI n), .int (nI k)]
  refine sg_icmpN_eq (pc := 7) (a := k) (b := n) 17 hC dJ7_copyOfRange_39247_7 (by decide) (by first | omega | decide) (by first | omega | decide) (fun h2 => ?_) (fun h2 => ?_)
  · obtain rfl := h2
    show sg_W X M 1 k 17 [some (.ref b), some (.int (nI 0)), some (.int (nI k))] []
    refine sg_aload_n (pc := 17) (v := .ref b) hC dJ7_copyOfRange_39247_17 rfl rfl ?_
    refine sg_cloneB (pc := 18) (n := k) v hC tw_252 tw_253 tw_254 tw_255 tw_256 dJ7_copyOfRange_39247_18 hB (by first | omega | decide) hf (by first | omega | decide) (by first | omega | decide) (by first | omega | decide) (Nat.le_of_ble_eq_true rfl) (fun q3 hq4 => ?_)
    refine sg_nm (fun M5 hw6 => ?_)
    have ne7 : b ≠ q3 := sg_fresh hB hq4
    have hB : M5 b = some (u, .inl (.byte, k, .inl g)) := hw6.n hB ne7
    have hF8 : M5 q3 = some (v, .inl (.byte, k, .inl g)) := hw6.1
    show sg_W X M5 0 (k - k) 21 [some (.ref b), some (.int (nI 0)), some (.int (nI k))] [.ref q3]
    refine sg_castB (pc := 21) hC tw_258 dJ7_copyOfRange_39247_21 hF8 (by first | omega | decide) ?_
    exact sg_areturn (st := []) (v := .ref q3) (pc := 24) hC hR (Or.inr ⟨_, rfl⟩) (Or.inr ⟨_, rfl⟩) dJ7_copyOfRange_39247_24 (hk _ _ _ hq4 hw6 (fun j hj => rfl))
  · refine sg_aload_n (pc := 10) (v := .ref b) hC dJ7_copyOfRange_39247_10 rfl rfl ?_
    refine sg_iload_n (pc := 11) (x := nI 0) hC dJ7_copyOfRange_39247_11 rfl ?_
    refine sg_iload_n (pc := 12) (x := nI k) hC dJ7_copyOfRange_39247_12 rfl ?_
    refine sg_callS (pc := 13) (As := [.ref b, .int (nI 0), .int (nI k)]) (rest := []) (mc := 1) (ms := k) hC tw_415 tw_416 tw_75 tw_417 yd_J7_copyOfRangeByte_39247 (by decide) dJ7_copyOfRange_39247_13 rfl (Nat.le_of_ble_eq_true rfl) (by first | omega | decide) (by first | omega | decide) ?_
    refine c_copyRB (v := v) htr hB (by first | omega | decide) (by first | omega | decide) (by first | omega | decide) (by first | omega | decide) hf (fun q9 M10 g11 hq12 hw13 hg14 => ?_)
    have ne15 : b ≠ q9 := sg_fresh hB hq12
    have hB : M10 b = some (u, .inl (.byte, n, .inl g)) := hw13.n hB ne15
    have hF16 : M10 q9 = some (v, .inl (.byte, k, .inl g11)) := hw13.1
    show sg_W X M10 0 (k - k) 16 [some (.ref b), some (.int (nI 0)), some (.int (nI k))] [.ref q9]
    exact sg_areturn (st := []) (v := .ref q9) (pc := 16) hC hR (Or.inr ⟨_, rfl⟩) (Or.inr ⟨_, rfl⟩) dJ7_copyOfRange_39247_16 (hk _ _ _ hq12 hw13 hg14)

set_option maxHeartbeats 400000 in
set_option maxRecDepth 100000 in
theorem c_newStr {l : Launch} {G : sg_G} {d : Nat} {M : sg_M} {kr : Option Value → sg_M → Prop} {kx : String → sg_M → Prop} (htr : l.stackTraces = false) {b u n k : Nat} {g : Nat → Int32} {w : List Nat} (hB : M b = some (u, .inl (.byte, n, .inl g))) (hu : u ≠ 0) (hl : w.length = k) (h0 : 0 < k) (h1 : k ≤ n) (h2 : n ≤ 65536) (hN : k ≤ 40) (hG : ∀ j, j < k → g j = nI (w.getD j 0) ∧ w.getD j 0 < 128) (hk : ∀ a M', st_r 71 72 M' a w → sf (pk []) M M' → kr (some (.ref a)) M') : sg_Met l G yJ1_newString_b4f7a cJ1_newString_b4f7a 3 (some (.object "java/lang/String")) (d + 4) 2 (4 + k) [.ref b, .int (nI 0), .int (nI k)] M kr kx := by
  refine sg_enter [some (.ref b), some (.int (nI 0)), some (.int (nI k))] (by decide) htr (Nat.le_of_ble_eq_true rfl) rfl ?_
  intro X hC hR
  have hC : sg_C X l G cJ1_newString_b4f7a RJ1 3 (d + 4) := hC
  subst hl
  have hf : sf (pk []) M M := sf.rf
  refine sg_iload_n (pc := 0) (x := nI w.length) hC dJ1_newString_b4f7a_0 rfl ?_
  refine sg_ifN_ne (pc := 1) (a := w.length) 7 hC dJ1_newString_b4f7a_1 (by decide) (by first | omega | decide) (fun h1 => ?_) (fun h1 => by exfalso; omega)
  refine sg_new (pc := 7) (ci := 0) (71) [.null, .int (nI 0), .int (nI 0), .int (nI 0)] hC rfl inw_J0 tyJ0 tyJ0_ok tw_770 tw_397 tw_65 (by intro j hj; have h9 : j = 0 ∨ j = 1 ∨ j = 2 ∨ j = 3 := (by omega); rcases h9 with rfl | rfl | rfl | rfl <;> rfl) dJ1_newString_b4f7a_7 (by first | omega | decide) (by first | omega | decide) (by first | omega | decide) (fun q2 hq3 => ?_)
  refine sg_nm (fun M4 hw5 => ?_)
  have ne6 : b ≠ q2 := sg_fresh hB hq3
  have hB : M4 b = some (u, .inl (.byte, n, .inl g)) := hw5.n hB ne6
  have hn7 : M q2 = none := hf.fr hq3
  have hf : sf (pk []) M M4 := hf.nw hw5 hn7
  have hF8 : M4 q2 = some (71, .inr (0, [.null, .int (nI 0), .int (nI 0), .int (nI 0)])) := hw5.1
  show sg_W X M4 1 ((4 + w.length) - 4) 10 [some (.ref b), some (.int (nI 0)), some (.int (nI w.length))] [.ref q2]
  refine sg_dup (pc := 10) hC dJ1_newString_b4f7a_10 rfl ?_
  refine sg_aload_n (pc := 11) (v := .ref b) hC dJ1_newString_b4f7a_11 rfl rfl ?_
  refine sg_iload_n (pc := 12) (x := nI 0) hC dJ1_newString_b4f7a_12 rfl ?_
  refine sg_iload_n (pc := 13) (x := nI 0) hC dJ1_newString_b4f7a_13 rfl ?_
  refine sg_iload_n (pc := 14) (x := nI w.length) hC dJ1_newString_b4f7a_14 rfl ?_
  refine sg_iaddN (pc := 15) (a := 0) (b := w.length) hC dJ1_newString_b4f7a_15 ?_
  rw [Nat.zero_add]
  show sg_W X M4 1 ((4 + w.length) - 4) 16 [some (.ref b), some (.int (nI 0)), some (.int (nI w.length))] [.int (nI w.length), .int (nI 0), .ref b, .ref q2, .ref q2]
  refine sg_callS (pc := 16) (As := [.ref b, .int (nI 0), .int (nI w.length)]) (rest := [.ref q2, .ref q2]) (mc := 1) (ms := w.length) hC tw_771 tw_413 tw_75 tw_414 yd_J7_copyOfRange_39247 (by decide) dJ1_newString_b4f7a_16 rfl (Nat.le_of_ble_eq_true rfl) (by first | omega | decide) (by first | omega | decide) ?_
  refine c_copyR (v := 72) htr hB (by first | omega | decide) (by first | omega | decide) (by first | omega | decide) (by first | omega | decide) (fun j hj => by rw [(hG j hj).1]; exact jb_fit (hG j hj).2) (fun q9 M10 g11 hq12 hw13 hg14 => ?_)
  have ne15 : b ≠ q9 := sg_fresh hB hq12
  have hB : M10 b = some (u, .inl (.byte, n, .inl g)) := hw13.n hB ne15
  have ne16 : q2 ≠ q9 := sg_fresh hF8 hq12
  have hF8 : M10 q2 = some (71, .inr (0, [.null, .int (nI 0), .int (nI 0), .int (nI 0)])) := hw13.n hF8 ne16
  have hn17 : M q9 = none := hf.fr hq12
  have hf : sf (pk []) M M10 := hf.nw hw13 hn17
  have hF18 : M10 q9 = some (72, .inl (.byte, w.length, .inl g11)) := hw13.1
  show sg_W X M10 0 (((4 + w.length) - 4) - w.length) 19 [some (.ref b), some (.int (nI 0)), some (.int (nI w.length))] [.ref q9, .ref q2, .ref q2]
  refine sg_iconst (pc := 19) (nI 0) hC dJ1_newString_b4f7a_19 (by decide) ?_
  refine sg_callI (pc := 20) (b := q2) (As := [.ref q9, .int (nI 0)]) (rest := [.ref q2]) (mc := 0) (ms := 0) hC tw_772 tw_773 tw_65 tw_774 rfl yd_J0_init_031fb (by decide) dJ1_newString_b4f7a_20 rfl (Nat.le_of_ble_eq_true rfl) (by first | omega | decide) (by first | omega | decide) ?_
  refine c_initBB htr hF8 (by first | omega | decide) (fun M19 hw20 => ?_)
  have hB : M19 b = some (u, .inl (.byte, n, .inl g)) := hw20.n hB ne6
  have hF18 : M19 q9 = some (72, .inl (.byte, w.length, .inl g11)) := hw20.n hF18 (Ne.symm ne16)
  have hf : sf (pk []) M M19 := hf.nw hw20 hn7
  have hF8 : M19 q2 = some (71, .inr (0, [.ref q9, .int (nI 0), .int (nI 0), .int (nI 0)])) := hw20.1
  show sg_W X M19 0 ((((4 + w.length) - 4) - w.length) - 0) 23 [some (.ref b), some (.int (nI 0)), some (.int (nI w.length))] [.ref q2]
  exact sg_areturn (st := []) (v := .ref q2) (pc := 23) hC hR (Or.inl ⟨_, rfl⟩) (Or.inr ⟨_, rfl⟩) dJ1_newString_b4f7a_23 (hk _ _ ⟨q9, nI 0, nI 0, g11, hF8, hF18, hN, fun j hj => ⟨(hg14 j hj).trans (hG j hj).1, (hG j hj).2⟩⟩ hf)

set_option maxHeartbeats 400000 in
set_option maxRecDepth 100000 in
theorem c_cFTI {l : Launch} {G : sg_G} {d : Nat} {M : sg_M} {kr : Option Value → sg_M → Prop} {kx : String → sg_M → Prop} (htr : l.stackTraces = false) {k n : Nat} {r : Option Nat} (h1 : k ≤ n) (h2 : n ≤ 65536) (hk : kr (some (.int (nI 0))) M) : sg_Met l G yJ3_checkFromToIndex_8c36e cJ3_checkFromToIndex_8c36e 4 (some .int) (d + 0) 0 0 [.int (nI 0), .int (nI k), .int (nI n), va_rf r] M kr kx := by
  refine sg_enter [some (.int (nI 0)), some (.int (nI k)), some (.int (nI n)), some (va_rf r)] (by decide) htr (by rcases r with _ | _ <;> exact Nat.le_of_ble_eq_true rfl) (by rcases r with _ | _ <;> rfl) ?_
  intro X hC hR
  have hC : sg_C X l G cJ3_checkFromToIndex_8c36e RJ3 4 (d + 0) := hC
  refine sg_iload_n (pc := 0) (x := nI 0) hC dJ3_checkFromToIndex_8c36e_0 rfl ?_
  refine sg_ifN_lt (pc := 1) (a := 0) 14 hC dJ3_checkFromToIndex_8c36e_1 (by decide) (by first | omega | decide) (fun h1 => by exfalso; omega) (fun h1 => ?_)
  refine sg_iload_n (pc := 4) (x := nI 0) hC dJ3_checkFromToIndex_8c36e_4 rfl ?_
  refine sg_iload_n (pc := 5) (x := nI k) hC dJ3_checkFromToIndex_8c36e_5 rfl ?_
  refine sg_icmpN_gt (pc := 6) (a := 0) (b := k) 14 hC dJ3_checkFromToIndex_8c36e_6 (by decide) (by first | omega | decide) (by first | omega | decide) (fun h2 => by exfalso; omega) (fun h2 => ?_)
  refine sg_iload_n (pc := 9) (x := nI k) hC dJ3_checkFromToIndex_8c36e_9 rfl ?_
  refine sg_iload_n (pc := 10) (x := nI n) hC dJ3_checkFromToIndex_8c36e_10 rfl ?_
  refine sg_icmpN_le (pc := 11) (a := k) (b := n) 22 hC dJ3_checkFromToIndex_8c36e_11 (by decide) (by first | omega | decide) (by first | omega | decide) (fun h3 => ?_) (fun h3 => by exfalso; omega)
  refine sg_iload_n (pc := 22) (x := nI 0) hC dJ3_checkFromToIndex_8c36e_22 rfl ?_
  exact sg_ireturn (st := []) (v := nI 0) (pc := 23) hC hR dJ3_checkFromToIndex_8c36e_23 hk

set_option maxHeartbeats 400000 in
set_option maxRecDepth 100000 in
theorem c_cBBE {l : Launch} {G : sg_G} {d : Nat} {M : sg_M} {kr : Option Value → sg_M → Prop} {kx : String → sg_M → Prop} (htr : l.stackTraces = false) {k n : Nat} (h1 : k ≤ n) (h2 : n ≤ 65536) (hk : kr none M) : sg_Met l G yJ0_checkBoundsBeginEnd_23922 cJ0_checkBoundsBeginEnd_23922 3 none (d + 1) 0 0 [.int (nI 0), .int (nI k), .int (nI n)] M kr kx := by
  refine sg_enter [some (.int (nI 0)), some (.int (nI k)), some (.int (nI n))] (by decide) htr (Nat.le_of_ble_eq_true rfl) rfl ?_
  intro X hC hR
  have hC : sg_C X l G cJ0_checkBoundsBeginEnd_23922 RJ0 3 (d + 1) := hC
  refine sg_iload_n (pc := 0) (x := nI 0) hC dJ0_checkBoundsBeginEnd_23922_0 rfl ?_
  refine sg_iload_n (pc := 1) (x := nI k) hC dJ0_checkBoundsBeginEnd_23922_1 rfl ?_
  refine sg_iload_n (pc := 2) (x := nI n) hC dJ0_checkBoundsBeginEnd_23922_2 rfl ?_
  refine sg_gets_sf (pc := 3) hC tw_292 dJ0_checkBoundsBeginEnd_23922_3 (fun r1 => ?_)
  refine sg_callS (pc := 6) (As := [.int (nI 0), .int (nI k), .int (nI n), va_rf r1]) (rest := []) (mc := 0) (ms := 0) hC tw_458 tw_459 tw_78 tw_460 yd_J3_checkFromToIndex_8c36e (by decide) dJ0_checkBoundsBeginEnd_23922_6 rfl (Nat.le_of_ble_eq_true rfl) (by first | omega | decide) (by first | omega | decide) ?_
  refine c_cFTI htr (by first | omega | decide) (by first | omega | decide) ?_
  show sg_W X M 0 0 9 [some (.int (nI 0)), some (.int (nI k)), some (.int (nI n))] [.int (nI 0)]
  refine sg_pop (pc := 9) hC dJ0_checkBoundsBeginEnd_23922_9 rfl ?_
  exact sg_vreturn (st := []) (pc := 10) hC hR dJ0_checkBoundsBeginEnd_23922_10 hk

set_option maxHeartbeats 400000 in
set_option maxRecDepth 100000 in
theorem c_substr {l : Launch} {G : sg_G} {d : Nat} {M : sg_M} {kr : Option Value → sg_M → Prop} {kx : String → sg_M → Prop} (htr : l.stackTraces = false) {a k : Nat} {w : List Nat} (hS : st_r 71 72 M a w) (h0 : 0 < k) (h1 : k ≤ w.length) (hk : ∀ a' M', st_r 71 72 M' a' (w.take k) → sf (pk []) M M' → kr (some (.ref a')) M') : sg_Met l G yJ0_substring_37a41 cJ0_substring_37a41 5 (some (.object "java/lang/String")) (d + 5) 2 (4 + k) [.ref a, .int (nI 0), .int (nI k)] M kr kx := by
  refine sg_enter [some (.ref a), some (.int (nI 0)), some (.int (nI k)), none, none] (by decide) htr (Nat.le_of_ble_eq_true rfl) rfl ?_
  intro X hC hR
  have hC : sg_C X l G cJ0_substring_37a41 RJ0 5 (d + 5) := hC
  obtain ⟨b, h, z, g, hA, hB, hN, hG⟩ := id hS
  have hf : sf (pk []) M M := sf.rf
  refine sg_aload_n (pc := 0) (v := .ref a) hC dJ0_substring_37a41_0 rfl rfl ?_
  refine sg_callV (pc := 1) (As := []) (rest := []) (mc := 0) (ms := 0) hC tw_656 tw_482 tw_483 tw_65 tw_484 yd_J0_length_8abf5 (by decide) (ci := 0) rfl dJ0_substring_37a41_1 hA rfl (Nat.le_of_ble_eq_true rfl) (by first | omega | decide) (by first | omega | decide) ?_
  refine c_slen htr hS ?_
  show sg_W X M 2 ((4 + k) - 0) 4 [some (.ref a), some (.int (nI 0)), some (.int (nI k)), none, none] [.int (nI w.length)]
  refine sg_istore_n (pc := 4) (x := nI w.length) hC dJ0_substring_37a41_4 (by decide) ?_
  show sg_W X M 2 ((4 + k) - 0) 5 [some (.ref a), some (.int (nI 0)), some (.int (nI k)), some (.int (nI w.length)), none] []
  refine sg_iload_n (pc := 5) (x := nI 0) hC dJ0_substring_37a41_5 rfl ?_
  refine sg_iload_n (pc := 6) (x := nI k) hC dJ0_substring_37a41_6 rfl ?_
  refine sg_iload_n (pc := 7) (x := nI w.length) hC dJ0_substring_37a41_7 rfl ?_
  refine sg_callS (pc := 8) (As := [.int (nI 0), .int (nI k), .int (nI w.length)]) (rest := []) (mc := 0) (ms := 0) hC tw_765 tw_456 tw_65 tw_457 yd_J0_checkBoundsBeginEnd_23922 (by decide) dJ0_substring_37a41_8 rfl (Nat.le_of_ble_eq_true rfl) (by first | omega | decide) (by first | omega | decide) ?_
  refine c_cBBE htr (by first | omega | decide) (by first | omega | decide) ?_
  show sg_W X M 2 (((4 + k) - 0) - 0) 11 [some (.ref a), some (.int (nI 0)), some (.int (nI k)), some (.int (nI w.length)), none] []
  refine sg_iload_n (pc := 11) (x := nI 0) hC dJ0_substring_37a41_11 rfl ?_
  refine sg_ifN_ne (pc := 12) (a := 0) 22 hC dJ0_substring_37a41_12 (by decide) (by decide) (fun h1 => absurd h1 (by decide)) (fun _ => ?_)
  refine sg_iload_n (pc := 15) (x := nI k) hC dJ0_substring_37a41_15 rfl ?_
  refine sg_iload_n (pc := 16) (x := nI w.length) hC dJ0_substring_37a41_16 rfl ?_
  refine sg_icmpN_ne (pc := 17) (a := k) (b := w.length) 22 hC dJ0_substring_37a41_17 (by decide) (by first | omega | decide) (by first | omega | decide) (fun h2 => ?_) (fun h2 => ?_)
  · refine sg_iload_n (pc := 22) (x := nI k) hC dJ0_substring_37a41_22 rfl ?_
    refine sg_iload_n (pc := 23) (x := nI 0) hC dJ0_substring_37a41_23 rfl ?_
    refine sg_isubN (pc := 24) (a := k) (b := 0) hC dJ0_substring_37a41_24 (by first | omega | decide) ?_
    rw [Nat.sub_zero]
    show sg_W X M 2 (((4 + k) - 0) - 0) 25 [some (.ref a), some (.int (nI 0)), some (.int (nI k)), some (.int (nI w.length)), none] [.int (nI k)]
    refine sg_istore (pc := 25) (x := nI k) hC dJ0_substring_37a41_25 (by decide) ?_
    show sg_W X M 2 (((4 + k) - 0) - 0) 27 [some (.ref a), some (.int (nI 0)), some (.int (nI k)), some (.int (nI w.length)), some (.int (nI k))] []
    refine sg_aload_n (pc := 27) (v := .ref a) hC dJ0_substring_37a41_27 rfl rfl ?_
    refine sg_callV (pc := 28) (As := []) (rest := []) (mc := 0) (ms := 0) hC tw_615 tw_616 tw_617 tw_65 tw_618 yd_J0_isLatin1_aae02 (by decide) (ci := 0) rfl dJ0_substring_37a41_28 hA rfl (Nat.le_of_ble_eq_true rfl) (by first | omega | decide) (by first | omega | decide) ?_
    refine c_isLatin1 htr hS ?_
    show sg_W X M 2 ((((4 + k) - 0) - 0) - 0) 31 [some (.ref a), some (.int (nI 0)), some (.int (nI k)), some (.int (nI w.length)), some (.int (nI k))] [.int (nI 1)]
    refine sg_ifN_eq (pc := 31) (a := 1) 47 hC dJ0_substring_37a41_31 (by decide) (by decide) (fun h3 => absurd h3 (by decide)) (fun _ => ?_)
    refine sg_aload_n (pc := 34) (v := .ref a) hC dJ0_substring_37a41_34 rfl rfl ?_
    refine sg_get (pc := 35) (a := a) (v := .ref b) 0 hC rfl inw_J0 (by decide) tw_533 dJ0_substring_37a41_35 hA rfl ?_
    refine sg_iload_n (pc := 38) (x := nI 0) hC dJ0_substring_37a41_38 rfl ?_
    refine sg_iload (pc := 39) (x := nI k) hC dJ0_substring_37a41_39 rfl ?_
    refine sg_callS (pc := 41) (As := [.ref b, .int (nI 0), .int (nI k)]) (rest := []) (mc := 2) (ms := (4 + k)) hC tw_766 tw_767 tw_77 tw_768 yd_J1_newString_b4f7a (by decide) dJ0_substring_37a41_41 rfl (Nat.le_of_ble_eq_true rfl) (by first | omega | decide) (by first | omega | decide) ?_
    refine c_newStr (w := w.take k) htr hB (by first | omega | decide) (by rw [List.length_take]; omega) (by omega) (by omega) (by omega) (by omega) (fun j hj => by rw [show (w.take k).getD j 0 = w.getD j 0 from (by simp [List.getD, List.getElem?_take, hj])]; exact hG j (by omega)) (fun q4 M5 hs6 hf7 => ?_)
    have hA : M5 a = some (71, .inr (0, [.ref b, .int (nI 0), .int h, .int z])) := hf7.p hA (by first | decide | (simp; done) | (simp; omega))
    have hB : M5 b = some (72, .inl (.byte, w.length, .inl g)) := hf7.p hB (by first | decide | (simp; done) | (simp; omega))
    have hS : st_r 71 72 M5 a w := hS.p hf7 (by first | decide | (simp; done) | (simp; omega)) (by first | decide | (simp; done) | (simp; omega))
    have hf : sf (pk []) M M5 := hf.tr hf7 (fun a t h => by first | exact h | (simp [pk] at h; done) | (simp [pk] at h ⊢; omega) | (simp [pk] at h ⊢; done))
    show sg_W X M5 0 (((((4 + k) - 0) - 0) - 0) - (4 + k)) 44 [some (.ref a), some (.int (nI 0)), some (.int (nI k)), some (.int (nI w.length)), some (.int (nI k))] [.ref q4]
    refine sg_goto (pc := 44) 57 hC dJ0_substring_37a41_44 (by decide) ?_
    exact sg_areturn (st := []) (v := .ref q4) (pc := 57) hC hR (Or.inl ⟨_, rfl⟩) (Or.inr ⟨_, rfl⟩) dJ0_substring_37a41_57 (hk _ _ hs6 hf)
  · refine sg_aload_n (pc := 20) (v := .ref a) hC dJ0_substring_37a41_20 rfl rfl ?_
    exact sg_areturn (st := []) (v := .ref a) (pc := 21) hC hR (Or.inl ⟨_, rfl⟩) (Or.inr ⟨_, rfl⟩) dJ0_substring_37a41_21 (hk _ _ (by rw [List.take_of_length_le (by omega)]; exact hS) hf)

set_option maxHeartbeats 400000 in
set_option maxRecDepth 100000 in
theorem c_asbInit {l : Launch} {G : sg_G} {d : Nat} {M : sg_M} {kr : Option Value → sg_M → Prop} {kx : String → sg_M → Prop} (htr : l.stackTraces = false) {a t u : Nat} (hA : M a = some (t, .inr (1, [.null, .int (nI 0), .int (nI 0), .int (nI 0)]))) (ht : t ≠ 0) (hu : u ≠ 0) (hk : ∀ M', sb_r t u M' a [] → sf (fun b _ => b = a) M M' → kr none M') : sg_Met l G yJ5_init_d00df cJ5_init_d00df 2 none (d + 1) 1 16 [.ref a, .int (nI 16)] M kr kx := by
  refine sg_enter [some (.ref a), some (.int (nI 16))] (by decide) htr (Nat.le_of_ble_eq_true rfl) rfl ?_
  intro X hC hR
  have hC : sg_C X l G cJ5_init_d00df RJ5 2 (d + 1) := hC
  have hf : sf (fun b _ => b = a) M M := sf.rf
  refine sg_aload_n (pc := 0) (v := .ref a) hC dJ5_init_d00df_0 rfl rfl ?_
  refine sg_objInit (pc := 1) hC tw_108 tw_98 tw_99 dJ5_init_d00df_1 (Nat.le_of_ble_eq_true rfl) ?_
  show sg_W X M 1 16 4 [some (.ref a), some (.int (nI 16))] []
  refine sg_gets_cs (pc := 4) hC tw_109 dJ5_init_d00df_4 ?_
  refine sg_ifN_eq (pc := 7) (a := 1) 25 hC dJ5_init_d00df_7 (by decide) (by decide) (fun h1 => absurd h1 (by decide)) (fun _ => ?_)
  refine sg_aload_n (pc := 10) (v := .ref a) hC dJ5_init_d00df_10 rfl rfl ?_
  refine sg_iload_n (pc := 11) (x := nI 16) hC dJ5_init_d00df_11 rfl ?_
  refine sg_new_byte (pc := 12) (N := 16) (u) hC tw_132 dJ5_init_d00df_12 rfl (by first | omega | decide) (by first | omega | decide) (by first | omega | decide) (by first | omega | decide) (fun q2 hq3 => ?_)
  refine sg_nm (fun M4 hw5 => ?_)
  have ne6 : a ≠ q2 := sg_fresh hA hq3
  have hA : M4 a = some (t, .inr (1, [.null, .int (nI 0), .int (nI 0), .int (nI 0)])) := hw5.n hA ne6
  have hn7 : M q2 = none := hf.fr hq3
  have hf : sf (fun b _ => b = a) M M4 := hf.nw hw5 hn7
  have hF8 : M4 q2 = some (u, .inl (.byte, 16, .inl (fun _ => 0))) := hw5.1
  show sg_W X M4 0 0 14 [some (.ref a), some (.int (nI 16))] [.ref q2, .ref a]
  refine sg_put (pc := 14) (a := a) (v := .ref q2) 0 hC rfl inw_J4 tyJ4 tyJ4_ok nmJ4 (by decide) tw_118 rfl rfl rfl rfl dJ5_init_d00df_14 hA (by first | omega | decide) (Nat.le_of_ble_eq_true rfl) ?_
  refine sg_nm (fun M9 hw10 => ?_)
  have hF8 : M9 q2 = some (u, .inl (.byte, 16, .inl (fun _ => 0))) := hw10.n hF8 (Ne.symm ne6)
  have hf : sf (fun b _ => b = a) M M9 := hf.st hw10 hA (by rfl)
  have hA : M9 a = some (t, .inr (1, [.ref q2, .int (nI 0), .int (nI 0), .int (nI 0)])) := hw10.1
  refine sg_aload_n (pc := 17) (v := .ref a) hC dJ5_init_d00df_17 rfl rfl ?_
  refine sg_iconst (pc := 18) (nI 0) hC dJ5_init_d00df_18 (by decide) ?_
  refine sg_put (pc := 19) (a := a) (v := .int (nI 0)) 1 hC rfl inw_J4 tyJ4 tyJ4_ok nmJ4 (by decide) tw_119 rfl rfl (jp_b (by first | omega | decide)) rfl dJ5_init_d00df_19 hA (by first | omega | decide) (Nat.le_of_ble_eq_true rfl) ?_
  refine sg_nm (fun M11 hw12 => ?_)
  have hF8 : M11 q2 = some (u, .inl (.byte, 16, .inl (fun _ => 0))) := hw12.n hF8 (Ne.symm ne6)
  have hf : sf (fun b _ => b = a) M M11 := hf.st hw12 hA (by rfl)
  have hA : M11 a = some (t, .inr (1, [.ref q2, .int (nI 0), .int (nI 0), .int (nI 0)])) := hw12.1
  refine sg_goto (pc := 22) 38 hC dJ5_init_d00df_22 (by decide) ?_
  exact sg_vreturn (st := []) (pc := 38) hC hR dJ5_init_d00df_38 (hk _ ⟨q2, nI 0, (fun _ => 0), hA, hF8, Nat.zero_le _, fun j hj => absurd hj (Nat.not_lt_zero _)⟩ hf)

set_option maxHeartbeats 400000 in
set_option maxRecDepth 100000 in
theorem c_sbInit {l : Launch} {G : sg_G} {d : Nat} {M : sg_M} {kr : Option Value → sg_M → Prop} {kx : String → sg_M → Prop} (htr : l.stackTraces = false) {a t u : Nat} (hA : M a = some (t, .inr (1, [.null, .int (nI 0), .int (nI 0), .int (nI 0)]))) (ht : t ≠ 0) (hu : u ≠ 0) (hk : ∀ M', sb_r t u M' a [] → sf (fun b _ => b = a) M M' → kr none M') : sg_Met l G yJ4_init_da8c8 cJ4_init_da8c8 1 none (d + 2) 1 16 [.ref a] M kr kx := by
  refine sg_enter [some (.ref a)] (by decide) htr (Nat.le_of_ble_eq_true rfl) rfl ?_
  intro X hC hR
  have hC : sg_C X l G cJ4_init_da8c8 RJ4 1 (d + 2) := hC
  have hf : sf (fun b _ => b = a) M M := sf.rf
  refine sg_aload_n (pc := 0) (v := .ref a) hC dJ4_init_da8c8_0 rfl rfl ?_
  refine sg_bipush (pc := 1) (nI 16) hC dJ4_init_da8c8_1 (by decide) ?_
  refine sg_callI (pc := 3) (b := a) (As := [.int (nI 16)]) (rest := []) (mc := 1) (ms := 16) hC tw_105 tw_106 tw_63 tw_107 rfl yd_J5_init_d00df (by decide) dJ4_init_da8c8_3 rfl (Nat.le_of_ble_eq_true rfl) (by first | omega | decide) (by first | omega | decide) ?_
  refine c_asbInit (t := t) (u := u) htr hA (by first | omega | decide) (by first | omega | decide) (fun M1 hs2 hf3 => ?_)
  have hf : sf (fun b _ => b = a) M M1 := hf.tr hf3 (fun _ _ h => h)
  show sg_W X M1 0 0 6 [some (.ref a)] []
  exact sg_vreturn (st := []) (pc := 6) hC hR dJ4_init_da8c8_6 (hk _ hs2 hf)

set_option maxHeartbeats 400000 in
set_option maxRecDepth 100000 in
theorem c_ensure {l : Launch} {G : sg_G} {d : Nat} {M : sg_M} {kr : Option Value → sg_M → Prop} {kx : String → sg_M → Prop} (htr : l.stackTraces = false) {t u a : Nat} {w : List Nat} {m : Nat} (hS : sb_r t u M a w) (hm : m ≤ 16) (hk : kr none M) : sg_Met l G yJ5_ensureCapacityInternal_d00df cJ5_ensureCapacityInternal_d00df 3 none (d + 0) 0 0 [.ref a, .int (nI m)] M kr kx := by
  refine sg_enter [some (.ref a), some (.int (nI m)), none] (by decide) htr (Nat.le_of_ble_eq_true rfl) rfl ?_
  intro X hC hR
  have hC : sg_C X l G cJ5_ensureCapacityInternal_d00df RJ5 3 (d + 0) := hC
  obtain ⟨b, ml, g, hA, hB, hN, hG⟩ := id hS
  refine sg_aload_n (pc := 0) (v := .ref a) hC dJ5_ensureCapacityInternal_d00df_0 rfl rfl ?_
  refine sg_get (pc := 1) (a := a) (v := .ref b) 0 hC rfl inw_J4 (by decide) tw_118 dJ5_ensureCapacityInternal_d00df_1 hA rfl ?_
  refine sg_alen (pc := 4) 1 hC dJ5_ensureCapacityInternal_d00df_4 hB rfl ?_
  show sg_W X M 0 0 5 [some (.ref a), some (.int (nI m)), none] [.int (nI 16)]
  refine sg_aload_n (pc := 5) (v := .ref a) hC dJ5_ensureCapacityInternal_d00df_5 rfl rfl ?_
  refine sg_get (pc := 6) (a := a) (v := .int (nI 0)) 1 hC rfl inw_J4 (by decide) tw_119 dJ5_ensureCapacityInternal_d00df_6 hA rfl ?_
  refine sg_ishrN (pc := 9) (a := 16) (b := 0) hC dJ5_ensureCapacityInternal_d00df_9 (by first | omega | decide) (by first | omega | decide) ?_
  show sg_W X M 0 0 10 [some (.ref a), some (.int (nI m)), none] [.int (nI 16)]
  refine sg_istore_n (pc := 10) (x := nI 16) hC dJ5_ensureCapacityInternal_d00df_10 (by decide) ?_
  show sg_W X M 0 0 11 [some (.ref a), some (.int (nI m)), some (.int (nI 16))] []
  refine sg_iload_n (pc := 11) (x := nI m) hC dJ5_ensureCapacityInternal_d00df_11 rfl ?_
  refine sg_iload_n (pc := 12) (x := nI 16) hC dJ5_ensureCapacityInternal_d00df_12 rfl ?_
  refine sg_isub (pc := 13) (x := nI m) (y := nI 16) hC dJ5_ensureCapacityInternal_d00df_13 ?_
  refine sg_if_le (pc := 14) (x := nI m - nI 16) 38 hC dJ5_ensureCapacityInternal_d00df_14 (by decide) (fun _ => ?_) (fun h => absurd (jb_subLe hm (by decide)) h)
  exact sg_vreturn (st := []) (pc := 38) hC hR dJ5_ensureCapacityInternal_d00df_38 hk

set_option maxHeartbeats 400000 in
set_option maxRecDepth 100000 in
theorem c_bLatin {l : Launch} {G : sg_G} {d : Nat} {M : sg_M} {kr : Option Value → sg_M → Prop} {kx : String → sg_M → Prop} (htr : l.stackTraces = false) {t u a : Nat} {w : List Nat}  (hS : sb_r t u M a w) (hk : kr (some (.int (nI 1))) M) : sg_Met l G yJ5_isLatin1_aae02 cJ5_isLatin1_aae02 1 (some .boolean) (d + 0) 0 0 [.ref a] M kr kx := by
  refine sg_enter [some (.ref a)] (by decide) htr (Nat.le_of_ble_eq_true rfl) rfl ?_
  intro X hC hR
  have hC : sg_C X l G cJ5_isLatin1_aae02 RJ5 1 (d + 0) := hC
  obtain ⟨b, ml, g, hA, hB, hN, hG⟩ := id hS
  refine sg_gets_cs (pc := 0) hC tw_109 dJ5_isLatin1_aae02_0 ?_
  refine sg_ifN_eq (pc := 3) (a := 1) 17 hC dJ5_isLatin1_aae02_3 (by decide) (by decide) (fun h1 => absurd h1 (by decide)) (fun _ => ?_)
  refine sg_aload_n (pc := 6) (v := .ref a) hC dJ5_isLatin1_aae02_6 rfl rfl ?_
  refine sg_get (pc := 7) (a := a) (v := .int (nI 0)) 1 hC rfl inw_J4 (by decide) tw_119 dJ5_isLatin1_aae02_7 hA rfl ?_
  refine sg_ifN_ne (pc := 10) (a := 0) 17 hC dJ5_isLatin1_aae02_10 (by decide) (by decide) (fun h2 => absurd h2 (by decide)) (fun _ => ?_)
  refine sg_iconst (pc := 13) (nI 1) hC dJ5_isLatin1_aae02_13 (by decide) ?_
  refine sg_goto (pc := 14) 18 hC dJ5_isLatin1_aae02_14 (by decide) ?_
  exact sg_zreturn (st := []) (v := nI 1) (pc := 18) (ty := .boolean) hC hR (jp_z (by first | omega | decide)) dJ5_isLatin1_aae02_18 hk

set_option maxHeartbeats 400000 in
set_option maxRecDepth 100000 in
theorem c_bLen {l : Launch} {G : sg_G} {d : Nat} {M : sg_M} {kr : Option Value → sg_M → Prop} {kx : String → sg_M → Prop} (htr : l.stackTraces = false) {t u a : Nat} {w : List Nat}  (hS : sb_r t u M a w) (hk : kr (some (.int (nI w.length))) M) : sg_Met l G yJ5_length_8abf5 cJ5_length_8abf5 1 (some .int) (d + 0) 0 0 [.ref a] M kr kx := by
  refine sg_enter [some (.ref a)] (by decide) htr (Nat.le_of_ble_eq_true rfl) rfl ?_
  intro X hC hR
  have hC : sg_C X l G cJ5_length_8abf5 RJ5 1 (d + 0) := hC
  obtain ⟨b, ml, g, hA, hB, hN, hG⟩ := id hS
  refine sg_aload_n (pc := 0) (v := .ref a) hC dJ5_length_8abf5_0 rfl rfl ?_
  refine sg_get (pc := 1) (a := a) (v := .int (nI w.length)) 3 hC rfl inw_J4 (by decide) tw_122 dJ5_length_8abf5_1 hA rfl ?_
  exact sg_ireturn (st := []) (v := nI w.length) (pc := 4) hC hR dJ5_length_8abf5_4 hk

set_option maxHeartbeats 400000 in
set_option maxRecDepth 100000 in
theorem c_sbLen {l : Launch} {G : sg_G} {d : Nat} {M : sg_M} {kr : Option Value → sg_M → Prop} {kx : String → sg_M → Prop} (htr : l.stackTraces = false) {t u a : Nat} {w : List Nat}  (hS : sb_r t u M a w) (hk : kr (some (.int (nI w.length))) M) : sg_Met l G yJ4_length_8abf5 cJ4_length_8abf5 1 (some .int) (d + 1) 0 0 [.ref a] M kr kx := by
  refine sg_enter [some (.ref a)] (by decide) htr (Nat.le_of_ble_eq_true rfl) rfl ?_
  intro X hC hR
  have hC : sg_C X l G cJ4_length_8abf5 RJ4 1 (d + 1) := hC
  obtain ⟨b, ml, g, hA, hB, hN, hG⟩ := id hS
  refine sg_aload_n (pc := 0) (v := .ref a) hC dJ4_length_8abf5_0 rfl rfl ?_
  refine sg_callSU (pc := 1) (As := []) (rest := []) (mc := 0) (ms := 0) hC tw_220 tw_1470 tw_131 tw_221 tw_63 tw_222 ⟨by decide, yd_J5_length_8abf5.2.2⟩ (by decide) (ci := 1) rfl dJ4_length_8abf5_1 hA rfl (Nat.le_of_ble_eq_true rfl) (by first | omega | decide) (by first | omega | decide) ?_
  refine c_bLen htr hS ?_
  show sg_W X M 0 0 4 [some (.ref a)] [.int (nI w.length)]
  exact sg_ireturn (st := []) (v := nI w.length) (pc := 4) hC hR dJ4_length_8abf5_4 hk

set_option maxHeartbeats 400000 in
set_option maxRecDepth 100000 in
theorem c_getVal {l : Launch} {G : sg_G} {d : Nat} {M : sg_M} {kr : Option Value → sg_M → Prop} {kx : String → sg_M → Prop} (htr : l.stackTraces = false) {a b t : Nat} {ml n : Int32} (hA : M a = some (t, .inr (1, [.ref b, .int (nI 0), .int ml, .int n]))) (hk : kr (some (.ref b)) M) : sg_Met l G yJ5_getValue_6d5f1 cJ5_getValue_6d5f1 1 (some (.array .byte)) (d + 0) 0 0 [.ref a] M kr kx := by
  refine sg_enter [some (.ref a)] (by decide) htr (Nat.le_of_ble_eq_true rfl) rfl ?_
  intro X hC hR
  have hC : sg_C X l G cJ5_getValue_6d5f1 RJ5 1 (d + 0) := hC
  refine sg_aload_n (pc := 0) (v := .ref a) hC dJ5_getValue_6d5f1_0 rfl rfl ?_
  refine sg_get (pc := 1) (a := a) (v := .ref b) 0 hC rfl inw_J4 (by decide) tw_118 dJ5_getValue_6d5f1_1 hA rfl ?_
  exact sg_areturn (st := []) (v := .ref b) (pc := 4) hC hR (Or.inr ⟨_, rfl⟩) (Or.inr ⟨_, rfl⟩) dJ5_getValue_6d5f1_4 hk

set_option maxHeartbeats 400000 in
set_option maxRecDepth 100000 in
theorem c_asbAppC {l : Launch} {G : sg_G} {d : Nat} {M : sg_M} {kr : Option Value → sg_M → Prop} {kx : String → sg_M → Prop} (htr : l.stackTraces = false) {t u a : Nat} {w : List Nat} {c : Nat} (hS : sb_r t u M a w) (ht : t ≠ 0) (hu : u ≠ 0) (htu : t ≠ u) (hl : w.length < 16) (hc : c < 128) (hk : ∀ M', sb_r t u M' a (w ++ [c]) → sf (pk [t, u]) M M' → kr (some (.ref a)) M') : sg_Met l G yJ5_append_3fe6f cJ5_append_3fe6f 2 (some (.object "java/lang/AbstractStringBuilder")) (d + 1) 0 0 [.ref a, .int (nI c)] M kr kx := by
  refine sg_enter [some (.ref a), some (.int (nI c))] (by decide) htr (Nat.le_of_ble_eq_true rfl) rfl ?_
  intro X hC hR
  have hC : sg_C X l G cJ5_append_3fe6f RJ5 2 (d + 1) := hC
  obtain ⟨b, ml, g, hA, hB, hN, hG⟩ := id hS
  have hf : sf (pk [t, u]) M M := sf.rf
  refine sg_aload_n (pc := 0) (v := .ref a) hC dJ5_append_3fe6f_0 rfl rfl ?_
  refine sg_aload_n (pc := 1) (v := .ref a) hC dJ5_append_3fe6f_1 rfl rfl ?_
  refine sg_get (pc := 2) (a := a) (v := .int (nI w.length)) 3 hC rfl inw_J4 (by decide) tw_122 dJ5_append_3fe6f_2 hA rfl ?_
  refine sg_iconst (pc := 5) (nI 1) hC dJ5_append_3fe6f_5 (by decide) ?_
  refine sg_iaddN (pc := 6) (a := w.length) (b := 1) hC dJ5_append_3fe6f_6 ?_
  refine sg_callU (pc := 7) (y := yJ5_ensureCapacityInternal_d00df) (As := [.int (nI (w.length + 1))]) (rest := []) (mc := 0) (ms := 0) hC tw_230 tw_1472 tw_232 tw_233 (Or.inr (by simp [sg_wk])) tw_232 tw_63 tw_233 yd_J5_ensureCapacityInternal_d00df (by decide) (ci := 1) rfl dJ5_append_3fe6f_7 hA rfl (Nat.le_of_ble_eq_true rfl) (by first | omega | decide) (by first | omega | decide) ?_
  refine c_ensure htr hS (by first | omega | decide) ?_
  show sg_W X M 0 0 10 [some (.ref a), some (.int (nI c))] []
  refine sg_aload_n (pc := 10) (v := .ref a) hC dJ5_append_3fe6f_10 rfl rfl ?_
  refine sg_callU (pc := 11) (y := yJ5_isLatin1_aae02) (As := []) (rest := []) (mc := 0) (ms := 0) hC tw_265 tw_267 tw_266 tw_269 (Or.inl tw_268) tw_266 tw_63 tw_269 yd_J5_isLatin1_aae02 (by decide) (ci := 1) rfl dJ5_append_3fe6f_11 hA rfl (Nat.le_of_ble_eq_true rfl) (by first | omega | decide) (by first | omega | decide) ?_
  refine c_bLatin htr hS ?_
  show sg_W X M 0 0 14 [some (.ref a), some (.int (nI c))] [.int (nI 1)]
  refine sg_ifN_eq (pc := 14) (a := 1) 45 hC dJ5_append_3fe6f_14 (by decide) (by decide) (fun h1 => absurd h1 (by decide)) (fun _ => ?_)
  refine sg_iload_n (pc := 17) (x := nI c) hC dJ5_append_3fe6f_17 rfl ?_
  refine sg_callS (pc := 18) (As := [.int (nI c)]) (rest := []) (mc := 0) (ms := 0) hC tw_270 tw_271 tw_77 tw_272 yd_J1_canEncode_fc78d (by decide) dJ5_append_3fe6f_18 rfl (Nat.le_of_ble_eq_true rfl) (by first | omega | decide) (by first | omega | decide) ?_
  refine c_canEncC htr (by first | omega | decide) ?_
  show sg_W X M 0 0 21 [some (.ref a), some (.int (nI c))] [.int (nI 1)]
  refine sg_ifN_eq (pc := 21) (a := 1) 45 hC dJ5_append_3fe6f_21 (by decide) (by decide) (fun h2 => absurd h2 (by decide)) (fun _ => ?_)
  refine sg_aload_n (pc := 24) (v := .ref a) hC dJ5_append_3fe6f_24 rfl rfl ?_
  refine sg_get (pc := 25) (a := a) (v := .ref b) 0 hC rfl inw_J4 (by decide) tw_118 dJ5_append_3fe6f_25 hA rfl ?_
  refine sg_aload_n (pc := 28) (v := .ref a) hC dJ5_append_3fe6f_28 rfl rfl ?_
  refine sg_dup (pc := 29) hC dJ5_append_3fe6f_29 rfl ?_
  refine sg_get (pc := 30) (a := a) (v := .int (nI w.length)) 3 hC rfl inw_J4 (by decide) tw_122 dJ5_append_3fe6f_30 hA rfl ?_
  refine sg_dup_x1 (pc := 33) hC dJ5_append_3fe6f_33 rfl rfl ?_
  refine sg_iconst (pc := 34) (nI 1) hC dJ5_append_3fe6f_34 (by decide) ?_
  refine sg_iaddN (pc := 35) (a := w.length) (b := 1) hC dJ5_append_3fe6f_35 ?_
  refine sg_put (pc := 36) (a := a) (v := .int (nI (w.length + 1))) 3 hC rfl inw_J4 tyJ4 tyJ4_ok nmJ4 (by decide) tw_122 rfl rfl rfl rfl dJ5_append_3fe6f_36 hA (by first | omega | decide) (Nat.le_of_ble_eq_true rfl) ?_
  refine sg_nm (fun M3 hw4 => ?_)
  have hB : M3 b = some (u, .inl (.byte, 16, .inl g)) := hw4.n hB (sg_net hB hA (by first | omega | decide))
  have hf : sf (pk [t, u]) M M3 := hf.st hw4 hA (by simp [pk])
  have hA : M3 a = some (t, .inr (1, [.ref b, .int (nI 0), .int ml, .int (nI (w.length + 1))])) := hw4.1
  refine sg_iload_n (pc := 39) (x := nI c) hC dJ5_append_3fe6f_39 rfl ?_
  refine sg_i2b (pc := 40) (nI c) hC dJ5_append_3fe6f_40 (jb_i2b (by first | omega | decide)) ?_
  refine sg_bast (pc := 41) (i := nI w.length) (x := nI c) hC dJ5_append_3fe6f_41 hB (by first | omega | decide) (vp_in_nI (by first | omega | decide) (by first | omega | decide)) ?_
  rw [nI_clamp (by first | omega | decide), jb_nar (by first | omega | decide)]
  refine sg_nm (fun M5 hw6 => ?_)
  have hA : M5 a = some (t, .inr (1, [.ref b, .int (nI 0), .int ml, .int (nI (w.length + 1))])) := hw6.n hA (sg_net hA hB (by first | omega | decide))
  have hf : sf (pk [t, u]) M M5 := hf.st hw6 hB (by simp [pk])
  have hB : M5 b = some (u, .inl (.byte, 16, .inl (upd g w.length (nI c)))) := hw6.1
  refine sg_goto (pc := 42) 75 hC dJ5_append_3fe6f_42 (by decide) ?_
  refine sg_aload_n (pc := 75) (v := .ref a) hC dJ5_append_3fe6f_75 rfl rfl ?_
  exact sg_areturn (st := []) (v := .ref a) (pc := 76) hC hR (Or.inl ⟨_, rfl⟩) (Or.inr ⟨_, rfl⟩) dJ5_append_3fe6f_76 (hk _ (sbx_app hA hB hl hG hc) hf)

set_option maxHeartbeats 400000 in
set_option maxRecDepth 100000 in
theorem c_sbAppC {l : Launch} {G : sg_G} {d : Nat} {M : sg_M} {kr : Option Value → sg_M → Prop} {kx : String → sg_M → Prop} (htr : l.stackTraces = false) {t u a : Nat} {w : List Nat} {c : Nat} (hS : sb_r t u M a w) (ht : t ≠ 0) (hu : u ≠ 0) (htu : t ≠ u) (hl : w.length < 16) (hc : c < 128) (hk : ∀ M', sb_r t u M' a (w ++ [c]) → sf (pk [t, u]) M M' → kr (some (.ref a)) M') : sg_Met l G yJ4_append_cf468 cJ4_append_cf468 2 (some (.object "java/lang/StringBuilder")) (d + 2) 0 0 [.ref a, .int (nI c)] M kr kx := by
  refine sg_enter [some (.ref a), some (.int (nI c))] (by decide) htr (Nat.le_of_ble_eq_true rfl) rfl ?_
  intro X hC hR
  have hC : sg_C X l G cJ4_append_cf468 RJ4 2 (d + 2) := hC
  have hf : sf (pk [t, u]) M M := sf.rf
  refine sg_aload_n (pc := 0) (v := .ref a) hC dJ4_append_cf468_0 rfl rfl ?_
  refine sg_iload_n (pc := 1) (x := nI c) hC dJ4_append_cf468_1 rfl ?_
  obtain ⟨_, _, _, hx1, -⟩ := id hS
  refine sg_callSU (pc := 2) (As := [.int (nI c)]) (rest := []) (mc := 0) (ms := 0) hC tw_227 tw_1471 tw_131 tw_228 tw_63 tw_229 ⟨by decide, yd_J5_append_3fe6f.2.2⟩ (by decide) (ci := 1) rfl dJ4_append_cf468_2 hx1 rfl (Nat.le_of_ble_eq_true rfl) (by first | omega | decide) (by first | omega | decide) ?_
  refine c_asbAppC htr hS (by first | omega | decide) (by first | omega | decide) (by first | omega | decide) (by first | omega | decide) (by first | omega | decide) (fun M2 hs3 hf4 => ?_)
  have hf : sf (pk [t, u]) M M2 := hf.tr hf4 (fun a t h => by first | exact h | (simp [pk] at h; done) | (simp [pk] at h ⊢; omega) | (simp [pk] at h ⊢; done))
  show sg_W X M2 0 0 5 [some (.ref a), some (.int (nI c))] [.ref a]
  refine sg_pop (pc := 5) hC dJ4_append_cf468_5 rfl ?_
  refine sg_aload_n (pc := 6) (v := .ref a) hC dJ4_append_cf468_6 rfl rfl ?_
  exact sg_areturn (st := []) (v := .ref a) (pc := 7) hC hR (Or.inl ⟨_, rfl⟩) (Or.inr ⟨_, rfl⟩) dJ4_append_cf468_7 (hk _ hs3 hf)
