theorem th_NSE_57_59_o : ∀ w ∈ Cond.classLink RX6 57 "java/util/NoSuchElementException" :: Cond.initialized "java/util/NoSuchElementException" :: vx_at0 RX6 59 "java/util/NoSuchElementException" ["java/lang/RuntimeException", "java/lang/Exception"], vx_ot w = true := by decide +kernel
theorem th_NSE_59_b : ∀ w ∈ (vx_at0 RX6 59 "java/util/NoSuchElementException" ["java/lang/RuntimeException", "java/lang/Exception"]).filter (fun w => !goodWord w), w ∈ sg_wk ∧ w.onTables = true := by decide +kernel
theorem th_NSE_59_g : ∀ w ∈ (vx_at0 RX6 59 "java/util/NoSuchElementException" ["java/lang/RuntimeException", "java/lang/Exception"]).filter goodWord, w ∈ sg_tb := by decide +kernel
theorem th_ISE_112_114_o : ∀ w ∈ Cond.classLink RX6 112 "java/lang/IllegalStateException" :: Cond.initialized "java/lang/IllegalStateException" :: vx_at0 RX6 114 "java/lang/IllegalStateException" ["java/lang/RuntimeException", "java/lang/Exception"], vx_ot w = true := by decide +kernel
theorem th_ISE_114_b : ∀ w ∈ (vx_at0 RX6 114 "java/lang/IllegalStateException" ["java/lang/RuntimeException", "java/lang/Exception"]).filter (fun w => !goodWord w), w ∈ sg_wk ∧ w.onTables = true := by decide +kernel
theorem th_ISE_114_g : ∀ w ∈ (vx_at0 RX6 114 "java/lang/IllegalStateException" ["java/lang/RuntimeException", "java/lang/Exception"]).filter goodWord, w ∈ sg_tb := by decide +kernel
theorem th_IAE_119_121_o : ∀ w ∈ Cond.classLink RX6 119 "java/lang/IllegalArgumentException" :: Cond.initialized "java/lang/IllegalArgumentException" :: vx_at0 RX6 121 "java/lang/IllegalArgumentException" ["java/lang/RuntimeException", "java/lang/Exception"], vx_ot w = true := by decide +kernel
theorem th_IAE_121_b : ∀ w ∈ (vx_at0 RX6 121 "java/lang/IllegalArgumentException" ["java/lang/RuntimeException", "java/lang/Exception"]).filter (fun w => !goodWord w), w ∈ sg_wk ∧ w.onTables = true := by decide +kernel
theorem th_IAE_121_g : ∀ w ∈ (vx_at0 RX6 121 "java/lang/IllegalArgumentException" ["java/lang/RuntimeException", "java/lang/Exception"]).filter goodWord, w ∈ sg_tb := by decide +kernel
/-! numbers of the calls -/
theorem in_t {v : Int32} {k : Nat} (h0 : ¬ v < 0) (h : v.toNatClampNeg ≤ k) (hk : k < 2 ^ 31) : md_in v (nI 0) (nI k) = true := by
  have e := md_nat h0
  unfold md_in
  rw [e.1, if_neg (fun z => by have := (nI_ltI e.2 (by decide)).mp z; omega), if_neg (fun z => by have := (nI_ltI hk e.2).mp z; omega)]
theorem in_f {v : Int32} {k : Nat} (h : v < 0 ∨ k < v.toNatClampNeg) (hk : k < 2 ^ 31) : md_in v (nI 0) (nI k) = false := by
  unfold md_in
  by_cases h0 : v < 0
  · rw [if_pos (show v < nI 0 from h0)]
  · have e := md_nat h0
    have hh : k < v.toNatClampNeg := h.resolve_left h0
    rw [if_neg (show ¬ v < nI 0 from h0), if_pos]
    rw [e.1]
    exact (nI_ltI hk e.2).mpr hh
theorem isSlot_t {N : Nat → Nat → Nat} {v : Int32} (h0 : ¬ v < 0) (h : v.toNatClampNeg < 8) (h3 : N 3 v.toNatClampNeg ≠ 0) : md_isSlot N v = true := by
  unfold md_isSlot
  rw [in_t h0 (by omega) (by decide), if_pos rfl, if_neg (by omega)]
theorem isSlot_f {N : Nat → Nat → Nat} {v : Int32} (h : v < 0 ∨ 8 ≤ v.toNatClampNeg ∨ N 3 v.toNatClampNeg = 0) : md_isSlot N v = false := by
  unfold md_isSlot
  by_cases h1 : v < 0 ∨ 7 < v.toNatClampNeg
  · rw [in_f h1 (by decide), if_neg (by decide)]
  · rw [in_t (fun z => h1 (Or.inl z)) (by omega) (by decide), if_pos rfl, if_pos (by
      obtain ⟨q1, q2⟩ := not_or.mp h1
      rcases h with h | h | h
      · exact absurd h q1
      · omega
      · omega)]
theorem isThr_t {N : Nat → Nat → Nat} {v : Int32} (h0 : ¬ v < 0) (h : v.toNatClampNeg < 4) (h3 : N 13 v.toNatClampNeg ≠ 0) : md_isThread N v = true := by
  unfold md_isThread
  rw [in_t h0 (by omega) (by decide), if_pos rfl, if_neg h3]
theorem isThr_f {N : Nat → Nat → Nat} {v : Int32} (h : v < 0 ∨ 4 ≤ v.toNatClampNeg ∨ N 13 v.toNatClampNeg = 0) : md_isThread N v = false := by
  unfold md_isThread
  by_cases h1 : v < 0 ∨ 3 < v.toNatClampNeg
  · rw [in_f h1 (by decide), if_neg (by decide)]
  · rw [in_t (fun z => h1 (Or.inl z)) (by omega) (by decide), if_pos rfl, if_pos (by
      obtain ⟨q1, q2⟩ := not_or.mp h1
      rcases h with h | h | h
      · exact absurd h q1
      · omega
      · omega)]
theorem isCtx_t {N : Nat → Nat → Nat} {v : Int32} (h0 : ¬ v < 0) (h : v.toNatClampNeg < 8) (h3 : N 19 v.toNatClampNeg ≠ 0) : md_isContext N v = true := by
  unfold md_isContext
  rw [in_t h0 (by omega) (by decide), if_pos rfl, if_neg h3]
theorem isCtx_f {N : Nat → Nat → Nat} {v : Int32} (h : v < 0 ∨ 8 ≤ v.toNatClampNeg ∨ N 19 v.toNatClampNeg = 0) : md_isContext N v = false := by
  unfold md_isContext
  by_cases h1 : v < 0 ∨ 7 < v.toNatClampNeg
  · rw [in_f h1 (by decide), if_neg (by decide)]
  · rw [in_t (fun z => h1 (Or.inl z)) (by omega) (by decide), if_pos rfl, if_pos (by
      obtain ⟨q1, q2⟩ := not_or.mp h1
      rcases h with h | h | h
      · exact absurd h q1
      · omega
      · omega)]
theorem mo_1 {c k : Nat} (h : md_o (if c = 0 then none else some k) = -1) (hk : k < 2 ^ 31) : c = 0 := by
  by_cases e : c = 0
  · exact e
  · rw [if_neg e] at h
    exact absurd h (jn_ne hk)
theorem mo_2 {c k : Nat} (h : md_o (if c = 0 then none else some k) ≠ -1) : c ≠ 0 ∧ md_o (if c = 0 then none else some k) = nI k := by
  by_cases e : c = 0
  · rw [if_pos e] at h
    exact absurd rfl h
  · rw [if_neg e]
    exact ⟨e, rfl⟩
def gpm (M : sg_M) (g : Nat → Option Nat) (N : Nat → Nat → Nat) : Prop := ∀ i, i < 8 → (N 3 i = 0 → g i = none) ∧ (N 3 i ≠ 0 → ∃ a, g i = some a ∧ pm_r M a (rq N i))
def gso (G : sg_G) (M : sg_M) (g : Nat → Option Nat) (N : Nat → Nat → Nat) : Prop := ∀ s, s < 6 → ∃ a, g s = some a ∧ so_r G M s a N
def gth (G : sg_G) (M : sg_M) (g : Nat → Option Nat) (N : Nat → Nat → Nat) : Prop := ∀ t, t < 4 → (N 13 t = 0 → g t = none) ∧ (N 13 t ≠ 0 → ∃ a, g t = some a ∧ cs_r G M t a N)

set_option maxHeartbeats 400000 in
set_option maxRecDepth 100000 in
theorem c_permIn {l : Launch} {G : sg_G} {d : Nat} {M : sg_M} {kr : Option Value → sg_M → Prop} {kx : String → sg_M → Prop} (htr : l.stackTraces = false) {ca pb sl so th cx nt : Nat} {N : Nat → Nat → Nat} {gs : Nat → Option Nat} {v : Int32} (hX : M ca = some (1, .inr (9, [.ref pb, .ref sl, .ref so, .ref th, .ref cx, .ref nt]))) (hSl : M sl = some (4, .inl (.object RX3, 8, .inr (.inr (.inr (.inr gs)))))) (hG : gpm M gs N) (hk : ∀ a, ¬ v < 0 → v.toNatClampNeg < 8 → N 3 v.toNatClampNeg ≠ 0 → gs v.toNatClampNeg = some a → kr (some (.ref a)) M) (hx : md_isSlot N v = false → kx "java/util/NoSuchElementException" M) : sg_Met l G yX6_permissionIn cX6_permissionIn 2 (some (.object "StackGuard$Permission")) (d + 7) 1 6 [.ref ca, .int v] M kr kx := by
  refine sg_enter [some (.ref ca), some (.int v)] (by decide) htr (Nat.le_of_ble_eq_true rfl) rfl ?_
  intro X hC hR
  have hC : sg_C X l G cX6_permissionIn RX6 2 (d + 7) := hC
  refine sg_iload_n (pc := 0) (x := v) hC dX6_permissionIn_0 rfl ?_
  refine sg_if_lt (pc := 1) (x := v) 19 hC dX6_permissionIn_1 (by decide) (fun h1 => ?_) (fun h1 => ?_)
  · exact sg_throw (pc := 19) (st := []) hC hR (by decide) tw_326 tw_82 th_NSE_59_g th_NSE_59_b th_NSE_57_59_o dX6_permissionIn_19 dX6_permissionIn_22 dX6_permissionIn_23 dX6_permissionIn_26 (by decide) (by first | omega | decide) (by first | omega | decide) (hx (isSlot_f (by first | (left; assumption) | (right; left; omega) | (right; right; assumption))))
  · obtain ⟨hs2, hs3⟩ := md_nat h1
    rw [hs2]
    show sg_W X M 1 6 4 [some (.ref ca), some (.int (nI v.toNatClampNeg))] []
    refine sg_iload_n (pc := 4) (x := nI v.toNatClampNeg) hC dX6_permissionIn_4 rfl ?_
    refine sg_bipush (pc := 5) (nI 8) hC dX6_permissionIn_5 (by decide) ?_
    refine sg_icmpN_ge (pc := 7) (a := v.toNatClampNeg) (b := 8) 19 hC dX6_permissionIn_7 (by decide) (by first | omega | decide) (by first | omega | decide) (fun h4 => ?_) (fun h4 => ?_)
    · exact sg_throw (pc := 19) (st := []) hC hR (by decide) tw_326 tw_82 th_NSE_59_g th_NSE_59_b th_NSE_57_59_o dX6_permissionIn_19 dX6_permissionIn_22 dX6_permissionIn_23 dX6_permissionIn_26 (by decide) (by first | omega | decide) (by first | omega | decide) (hx (isSlot_f (by first | (left; assumption) | (right; left; omega) | (right; right; assumption))))
    · refine sg_aload_n (pc := 10) (v := .ref ca) hC dX6_permissionIn_10 rfl rfl ?_
      refine sg_get (pc := 11) (a := ca) (v := .ref sl) 1 hC rfl inw_X6 (by decide) tw_194 dX6_permissionIn_11 hX rfl ?_
      refine sg_iload_n (pc := 14) (x := nI v.toNatClampNeg) hC dX6_permissionIn_14 rfl ?_
      refine sg_aald7 (pc := 15) (i := nI v.toNatClampNeg) hC dX6_permissionIn_15 hSl (vp_in_nI (by first | omega | decide) (by first | omega | decide)) ?_
      rw [nI_clamp (by first | omega | decide)]
      show sg_W X M 1 6 16 [some (.ref ca), some (.int (nI v.toNatClampNeg))] [va_rf (gs v.toNatClampNeg)]
      refine sg_ifnonnull (pc := 16) (r := gs v.toNatClampNeg) 27 hC dX6_permissionIn_16 (by decide) (fun q5 h6 => ?_) (fun h6 => ?_)
      · have hnn : N 3 v.toNatClampNeg ≠ 0 := fun e9 => by have h9 := (hG _ (by omega)).1 e9; rw [h6] at h9; cases h9
        refine sg_aload_n (pc := 27) (v := .ref ca) hC dX6_permissionIn_27 rfl rfl ?_
        refine sg_get (pc := 28) (a := ca) (v := .ref sl) 1 hC rfl inw_X6 (by decide) tw_194 dX6_permissionIn_28 hX rfl ?_
        refine sg_iload_n (pc := 31) (x := nI v.toNatClampNeg) hC dX6_permissionIn_31 rfl ?_
        refine sg_aald7 (pc := 32) (i := nI v.toNatClampNeg) hC dX6_permissionIn_32 hSl (vp_in_nI (by first | omega | decide) (by first | omega | decide)) ?_
        rw [nI_clamp (by first | omega | decide)]
        rw [h6]
        show sg_W X M 1 6 33 [some (.ref ca), some (.int (nI v.toNatClampNeg))] [.ref q5]
        exact sg_areturn (st := []) (v := .ref q5) (pc := 33) hC hR (Or.inl ⟨_, rfl⟩) (Or.inr ⟨_, rfl⟩) dX6_permissionIn_33 (hk _ (by assumption) (by omega) hnn h6)
      · have hnn : N 3 v.toNatClampNeg = 0 := Decidable.byContradiction (fun e9 => by obtain ⟨a9, h9, -⟩ := (hG _ (by omega)).2 e9; rw [h6] at h9; cases h9)
        exact sg_throw (pc := 19) (st := []) hC hR (by decide) tw_326 tw_82 th_NSE_59_g th_NSE_59_b th_NSE_57_59_o dX6_permissionIn_19 dX6_permissionIn_22 dX6_permissionIn_23 dX6_permissionIn_26 (by decide) (by first | omega | decide) (by first | omega | decide) (hx (isSlot_f (by first | (left; assumption) | (right; left; omega) | (right; right; assumption))))

set_option maxHeartbeats 400000 in
set_option maxRecDepth 100000 in
theorem c_stkOf {l : Launch} {G : sg_G} {d : Nat} {M : sg_M} {kr : Option Value → sg_M → Prop} {kx : String → sg_M → Prop} (htr : l.stackTraces = false) {ca pb sl so th cx nt : Nat} {N : Nat → Nat → Nat} {gt : Nat → Option Nat} {v : Int32} (hX : M ca = some (1, .inr (9, [.ref pb, .ref sl, .ref so, .ref th, .ref cx, .ref nt]))) (hTh : M th = some (6, .inl (.object RX0, 4, .inr (.inr (.inr (.inr gt)))))) (hG : gth G M gt N) (hk : ∀ a, ¬ v < 0 → v.toNatClampNeg < 4 → N 13 v.toNatClampNeg ≠ 0 → gt v.toNatClampNeg = some a → kr (some (.ref a)) M) (hx : md_isThread N v = false → kx "java/util/NoSuchElementException" M) : sg_Met l G yX6_stackOf cX6_stackOf 2 (some (.object "StackGuard$CallStack")) (d + 7) 1 6 [.ref ca, .int v] M kr kx := by
  refine sg_enter [some (.ref ca), some (.int v)] (by decide) htr (Nat.le_of_ble_eq_true rfl) rfl ?_
  intro X hC hR
  have hC : sg_C X l G cX6_stackOf RX6 2 (d + 7) := hC
  refine sg_iload_n (pc := 0) (x := v) hC dX6_stackOf_0 rfl ?_
  refine sg_if_lt (pc := 1) (x := v) 18 hC dX6_stackOf_1 (by decide) (fun h1 => ?_) (fun h1 => ?_)
  · exact sg_throw (pc := 18) (st := []) hC hR (by decide) tw_326 tw_82 th_NSE_59_g th_NSE_59_b th_NSE_57_59_o dX6_stackOf_18 dX6_stackOf_21 dX6_stackOf_22 dX6_stackOf_25 (by decide) (by first | omega | decide) (by first | omega | decide) (hx (isThr_f (by first | (left; assumption) | (right; left; omega) | (right; right; assumption))))
  · obtain ⟨hs2, hs3⟩ := md_nat h1
    rw [hs2]
    show sg_W X M 1 6 4 [some (.ref ca), some (.int (nI v.toNatClampNeg))] []
    refine sg_iload_n (pc := 4) (x := nI v.toNatClampNeg) hC dX6_stackOf_4 rfl ?_
    refine sg_iconst (pc := 5) (nI 4) hC dX6_stackOf_5 (by decide) ?_
    refine sg_icmpN_ge (pc := 6) (a := v.toNatClampNeg) (b := 4) 18 hC dX6_stackOf_6 (by decide) (by first | omega | decide) (by first | omega | decide) (fun h4 => ?_) (fun h4 => ?_)
    · exact sg_throw (pc := 18) (st := []) hC hR (by decide) tw_326 tw_82 th_NSE_59_g th_NSE_59_b th_NSE_57_59_o dX6_stackOf_18 dX6_stackOf_21 dX6_stackOf_22 dX6_stackOf_25 (by decide) (by first | omega | decide) (by first | omega | decide) (hx (isThr_f (by first | (left; assumption) | (right; left; omega) | (right; right; assumption))))
    · refine sg_aload_n (pc := 9) (v := .ref ca) hC dX6_stackOf_9 rfl rfl ?_
      refine sg_get (pc := 10) (a := ca) (v := .ref th) 3 hC rfl inw_X6 (by decide) tw_196 dX6_stackOf_10 hX rfl ?_
      refine sg_iload_n (pc := 13) (x := nI v.toNatClampNeg) hC dX6_stackOf_13 rfl ?_
      refine sg_aald9 (pc := 14) (i := nI v.toNatClampNeg) hC dX6_stackOf_14 hTh (vp_in_nI (by first | omega | decide) (by first | omega | decide)) ?_
      rw [nI_clamp (by first | omega | decide)]
      show sg_W X M 1 6 15 [some (.ref ca), some (.int (nI v.toNatClampNeg))] [va_rf (gt v.toNatClampNeg)]
      refine sg_ifnonnull (pc := 15) (r := gt v.toNatClampNeg) 26 hC dX6_stackOf_15 (by decide) (fun q5 h6 => ?_) (fun h6 => ?_)
      · have hnn : N 13 v.toNatClampNeg ≠ 0 := fun e9 => by have h9 := (hG _ (by omega)).1 e9; rw [h6] at h9; cases h9
        refine sg_aload_n (pc := 26) (v := .ref ca) hC dX6_stackOf_26 rfl rfl ?_
        refine sg_get (pc := 27) (a := ca) (v := .ref th) 3 hC rfl inw_X6 (by decide) tw_196 dX6_stackOf_27 hX rfl ?_
        refine sg_iload_n (pc := 30) (x := nI v.toNatClampNeg) hC dX6_stackOf_30 rfl ?_
        refine sg_aald9 (pc := 31) (i := nI v.toNatClampNeg) hC dX6_stackOf_31 hTh (vp_in_nI (by first | omega | decide) (by first | omega | decide)) ?_
        rw [nI_clamp (by first | omega | decide)]
        rw [h6]
        show sg_W X M 1 6 32 [some (.ref ca), some (.int (nI v.toNatClampNeg))] [.ref q5]
        exact sg_areturn (st := []) (v := .ref q5) (pc := 32) hC hR (Or.inl ⟨_, rfl⟩) (Or.inr ⟨_, rfl⟩) dX6_stackOf_32 (hk _ (by assumption) (by omega) hnn h6)
      · have hnn : N 13 v.toNatClampNeg = 0 := Decidable.byContradiction (fun e9 => by obtain ⟨a9, h9, -⟩ := (hG _ (by omega)).2 e9; rw [h6] at h9; cases h9)
        exact sg_throw (pc := 18) (st := []) hC hR (by decide) tw_326 tw_82 th_NSE_59_g th_NSE_59_b th_NSE_57_59_o dX6_stackOf_18 dX6_stackOf_21 dX6_stackOf_22 dX6_stackOf_25 (by decide) (by first | omega | decide) (by first | omega | decide) (hx (isThr_f (by first | (left; assumption) | (right; left; omega) | (right; right; assumption))))

set_option maxHeartbeats 400000 in
set_option maxRecDepth 100000 in
theorem c_srcOf {l : Launch} {G : sg_G} {d : Nat} {M : sg_M} {kr : Option Value → sg_M → Prop} {kx : String → sg_M → Prop} (htr : l.stackTraces = false) {ca pb sl so th cx nt : Nat} {N : Nat → Nat → Nat} {go : Nat → Option Nat} {v : Int32} (hX : M ca = some (1, .inr (9, [.ref pb, .ref sl, .ref so, .ref th, .ref cx, .ref nt]))) (hSo : M so = some (5, .inl (.object RX5, 6, .inr (.inr (.inr (.inr go)))))) (hG : gso G M go N) (hk : ∀ a, ¬ v < 0 → v.toNatClampNeg < 6 → go v.toNatClampNeg = some a → kr (some (.ref a)) M) (hx : md_in v (nI 0) (nI 5) = false → kx "java/util/NoSuchElementException" M) : sg_Met l G yX6_sourceOf cX6_sourceOf 2 (some (.object "StackGuard$Source")) (d + 7) 1 6 [.ref ca, .int v] M kr kx := by
  refine sg_enter [some (.ref ca), some (.int v)] (by decide) htr (Nat.le_of_ble_eq_true rfl) rfl ?_
  intro X hC hR
  have hC : sg_C X l G cX6_sourceOf RX6 2 (d + 7) := hC
  refine sg_iload_n (pc := 0) (x := v) hC dX6_sourceOf_0 rfl ?_
  refine sg_if_lt (pc := 1) (x := v) 10 hC dX6_sourceOf_1 (by decide) (fun h1 => ?_) (fun h1 => ?_)
  · exact sg_throw (pc := 10) (st := []) hC hR (by decide) tw_326 tw_82 th_NSE_59_g th_NSE_59_b th_NSE_57_59_o dX6_sourceOf_10 dX6_sourceOf_13 dX6_sourceOf_14 dX6_sourceOf_17 (by decide) (by first | omega | decide) (by first | omega | decide) (hx (in_f (by first | (left; assumption) | (right; omega)) (by decide)))
  · obtain ⟨hs2, hs3⟩ := md_nat h1
    rw [hs2]
    show sg_W X M 1 6 4 [some (.ref ca), some (.int (nI v.toNatClampNeg))] []
    refine sg_iload_n (pc := 4) (x := nI v.toNatClampNeg) hC dX6_sourceOf_4 rfl ?_
    refine sg_bipush (pc := 5) (nI 6) hC dX6_sourceOf_5 (by decide) ?_
    refine sg_icmpN_lt (pc := 7) (a := v.toNatClampNeg) (b := 6) 18 hC dX6_sourceOf_7 (by decide) (by first | omega | decide) (by first | omega | decide) (fun h4 => ?_) (fun h4 => ?_)
    · refine sg_aload_n (pc := 18) (v := .ref ca) hC dX6_sourceOf_18 rfl rfl ?_
      refine sg_get (pc := 19) (a := ca) (v := .ref so) 2 hC rfl inw_X6 (by decide) tw_195 dX6_sourceOf_19 hX rfl ?_
      refine sg_iload_n (pc := 22) (x := nI v.toNatClampNeg) hC dX6_sourceOf_22 rfl ?_
      refine sg_aald8 (pc := 23) (i := nI v.toNatClampNeg) hC dX6_sourceOf_23 hSo (vp_in_nI (by first | omega | decide) (by first | omega | decide)) ?_
      rw [nI_clamp (by first | omega | decide)]
      obtain ⟨q5, hq6, -⟩ := hG v.toNatClampNeg (by omega)
      rw [hq6]
      show sg_W X M 1 6 24 [some (.ref ca), some (.int (nI v.toNatClampNeg))] [.ref q5]
      exact sg_areturn (st := []) (v := .ref q5) (pc := 24) hC hR (Or.inl ⟨_, rfl⟩) (Or.inr ⟨_, rfl⟩) dX6_sourceOf_24 (hk _ (by assumption) (by omega) hq6)
    · exact sg_throw (pc := 10) (st := []) hC hR (by decide) tw_326 tw_82 th_NSE_59_g th_NSE_59_b th_NSE_57_59_o dX6_sourceOf_10 dX6_sourceOf_13 dX6_sourceOf_14 dX6_sourceOf_17 (by decide) (by first | omega | decide) (by first | omega | decide) (hx (in_f (by first | (left; assumption) | (right; omega)) (by decide)))

set_option maxHeartbeats 400000 in
set_option maxRecDepth 100000 in
theorem c_srcsIn {l : Launch} {G : sg_G} {d : Nat} {M : sg_M} {kr : Option Value → sg_M → Prop} {kx : String → sg_M → Prop} (htr : l.stackTraces = false) {ca pb sl so th cx nt : Nat} {N : Nat → Nat → Nat} {gc : Nat → Int32} {v : Int32} (hW : WN N) (hX : M ca = some (1, .inr (9, [.ref pb, .ref sl, .ref so, .ref th, .ref cx, .ref nt]))) (hCx : M cx = some (7, .inl (.int, 8, .inl gc))) (hG : ∀ j, j < 8 → gc j = md_o (if N 19 j = 0 then none else some (N 20 j))) (hk : ¬ v < 0 → v.toNatClampNeg < 8 → N 19 v.toNatClampNeg ≠ 0 → kr (some (.int (nI (N 20 v.toNatClampNeg)))) M) (hx : md_isContext N v = false → kx "java/util/NoSuchElementException" M) : sg_Met l G yX6_sourcesIn cX6_sourcesIn 2 (some .int) (d + 7) 1 6 [.ref ca, .int v] M kr kx := by
  refine sg_enter [some (.ref ca), some (.int v)] (by decide) htr (Nat.le_of_ble_eq_true rfl) rfl ?_
  intro X hC hR
  have hC : sg_C X l G cX6_sourcesIn RX6 2 (d + 7) := hC
  refine sg_iload_n (pc := 0) (x := v) hC dX6_sourcesIn_0 rfl ?_
  refine sg_if_lt (pc := 1) (x := v) 20 hC dX6_sourcesIn_1 (by decide) (fun h1 => ?_) (fun h1 => ?_)
  · exact sg_throw (pc := 20) (st := []) hC hR (by decide) tw_326 tw_82 th_NSE_59_g th_NSE_59_b th_NSE_57_59_o dX6_sourcesIn_20 dX6_sourcesIn_23 dX6_sourcesIn_24 dX6_sourcesIn_27 (by decide) (by first | omega | decide) (by first | omega | decide) (hx (isCtx_f (by first | (left; assumption) | (right; left; omega) | (right; right; assumption))))
  · obtain ⟨hs2, hs3⟩ := md_nat h1
    rw [hs2]
    show sg_W X M 1 6 4 [some (.ref ca), some (.int (nI v.toNatClampNeg))] []
    refine sg_iload_n (pc := 4) (x := nI v.toNatClampNeg) hC dX6_sourcesIn_4 rfl ?_
    refine sg_bipush (pc := 5) (nI 8) hC dX6_sourcesIn_5 (by decide) ?_
    refine sg_icmpN_ge (pc := 7) (a := v.toNatClampNeg) (b := 8) 20 hC dX6_sourcesIn_7 (by decide) (by first | omega | decide) (by first | omega | decide) (fun h4 => ?_) (fun h4 => ?_)
    · exact sg_throw (pc := 20) (st := []) hC hR (by decide) tw_326 tw_82 th_NSE_59_g th_NSE_59_b th_NSE_57_59_o dX6_sourcesIn_20 dX6_sourcesIn_23 dX6_sourcesIn_24 dX6_sourcesIn_27 (by decide) (by first | omega | decide) (by first | omega | decide) (hx (isCtx_f (by first | (left; assumption) | (right; left; omega) | (right; right; assumption))))
    · refine sg_aload_n (pc := 10) (v := .ref ca) hC dX6_sourcesIn_10 rfl rfl ?_
      refine sg_get (pc := 11) (a := ca) (v := .ref cx) 4 hC rfl inw_X6 (by decide) tw_197 dX6_sourcesIn_11 hX rfl ?_
      refine sg_iload_n (pc := 14) (x := nI v.toNatClampNeg) hC dX6_sourcesIn_14 rfl ?_
      refine sg_iald (pc := 15) (i := nI v.toNatClampNeg) hC dX6_sourcesIn_15 hCx (vp_in_nI (by first | omega | decide) (by first | omega | decide)) ?_
      rw [nI_clamp (by first | omega | decide)]
      rw [hG v.toNatClampNeg (by omega)]
      show sg_W X M 1 6 16 [some (.ref ca), some (.int (nI v.toNatClampNeg))] [.int (md_o (if N 19 v.toNatClampNeg = 0 then none else some (N 20 v.toNatClampNeg)))]
      refine sg_iconst (pc := 16) (((-1))) hC dX6_sourcesIn_16 (by decide) ?_
      refine sg_icmp_ne (pc := 17) (x := md_o (if N 19 v.toNatClampNeg = 0 then none else some (N 20 v.toNatClampNeg))) (y := -1) 28 hC dX6_sourcesIn_17 (by decide) (fun h5 => ?_) (fun h5 => ?_)
      · have hnn := mo_2 h5
        refine sg_aload_n (pc := 28) (v := .ref ca) hC dX6_sourcesIn_28 rfl rfl ?_
        refine sg_get (pc := 29) (a := ca) (v := .ref cx) 4 hC rfl inw_X6 (by decide) tw_197 dX6_sourcesIn_29 hX rfl ?_
        refine sg_iload_n (pc := 32) (x := nI v.toNatClampNeg) hC dX6_sourcesIn_32 rfl ?_
        refine sg_iald (pc := 33) (i := nI v.toNatClampNeg) hC dX6_sourcesIn_33 hCx (vp_in_nI (by first | omega | decide) (by first | omega | decide)) ?_
        rw [nI_clamp (by first | omega | decide)]
        rw [hG v.toNatClampNeg (by omega)]
        rw [hnn.2]
        show sg_W X M 1 6 34 [some (.ref ca), some (.int (nI v.toNatClampNeg))] [.int (nI (N 20 v.toNatClampNeg))]
        exact sg_ireturn (st := []) (v := nI (N 20 v.toNatClampNeg)) (pc := 34) hC hR dX6_sourcesIn_34 (hk (by assumption) (by omega) hnn.1)
      · have hnn : N 19 v.toNatClampNeg = 0 := mo_1 h5 (Nat.lt_of_le_of_lt (hW 20 _) (by decide))
        exact sg_throw (pc := 20) (st := []) hC hR (by decide) tw_326 tw_82 th_NSE_59_g th_NSE_59_b th_NSE_57_59_o dX6_sourcesIn_20 dX6_sourcesIn_23 dX6_sourcesIn_24 dX6_sourcesIn_27 (by decide) (by first | omega | decide) (by first | omega | decide) (hx (isCtx_f (by first | (left; assumption) | (right; left; omega) | (right; right; assumption))))

def k_lowCtx (N : Nat → Nat → Nat) : Option Nat := if N 19 0 = 0 then some 0 else if N 19 1 = 0 then some 1 else if N 19 2 = 0 then some 2 else if N 19 3 = 0 then some 3 else if N 19 4 = 0 then some 4 else if N 19 5 = 0 then some 5 else if N 19 6 = 0 then some 6 else if N 19 7 = 0 then some 7 else none
set_option maxHeartbeats 400000 in
set_option maxRecDepth 100000 in
theorem c_lowCtx {l : Launch} {G : sg_G} {d : Nat} {M : sg_M} {kr : Option Value → sg_M → Prop} {kx : String → sg_M → Prop} (htr : l.stackTraces = false) {ca pb sl so th cx nt : Nat} {N : Nat → Nat → Nat} {gc : Nat → Int32} (hW : WN N) (hX : M ca = some (1, .inr (9, [.ref pb, .ref sl, .ref so, .ref th, .ref cx, .ref nt]))) (hCx : M cx = some (7, .inl (.int, 8, .inl gc))) (hG : ∀ j, j < 8 → gc j = md_o (if N 19 j = 0 then none else some (N 20 j))) (hk : kr (some (.int (md_o (k_lowCtx N)))) M) : sg_Met l G yX6_lowestEmptyContext cX6_lowestEmptyContext 2 (some .int) (d + 0) 0 0 [.ref ca] M kr kx := by
  refine sg_enter [some (.ref ca), none] (by decide) htr (Nat.le_of_ble_eq_true rfl) rfl ?_
  intro X hC hR
  have hC : sg_C X l G cX6_lowestEmptyContext RX6 2 (d + 0) := hC
  refine sg_iconst (pc := 0) (nI 0) hC dX6_lowestEmptyContext_0 (by decide) ?_
  refine sg_istore_n (pc := 1) (x := nI 0) hC dX6_lowestEmptyContext_1 (by decide) ?_
  show sg_W X M 0 0 2 [some (.ref ca), some (.int (nI 0))] []
  refine sg_iload_n (pc := 2) (x := nI 0) hC dX6_lowestEmptyContext_2 rfl ?_
  refine sg_bipush (pc := 3) (nI 8) hC dX6_lowestEmptyContext_3 (by decide) ?_
  refine sg_icmpN_ge (pc := 5) (a := 0) (b := 8) 26 hC dX6_lowestEmptyContext_5 (by decide) (by decide) (by decide) (fun h1 => absurd h1 (by decide)) (fun _ => ?_)
  refine sg_aload_n (pc := 8) (v := .ref ca) hC dX6_lowestEmptyContext_8 rfl rfl ?_
  refine sg_get (pc := 9) (a := ca) (v := .ref cx) 4 hC rfl inw_X6 (by decide) tw_197 dX6_lowestEmptyContext_9 hX rfl ?_
  refine sg_iload_n (pc := 12) (x := nI 0) hC dX6_lowestEmptyContext_12 rfl ?_
  refine sg_iald (pc := 13) (i := nI 0) hC dX6_lowestEmptyContext_13 hCx (vp_in_nI (by first | omega | decide) (by first | omega | decide)) ?_
  rw [nI_clamp (by first | omega | decide)]
  rw [hG 0 (by omega)]
  show sg_W X M 0 0 14 [some (.ref ca), some (.int (nI 0))] [.int (md_o (if N 19 0 = 0 then none else some (N 20 0)))]
  refine sg_iconst (pc := 14) (((-1))) hC dX6_lowestEmptyContext_14 (by decide) ?_
  refine sg_icmp_ne (pc := 15) (x := md_o (if N 19 0 = 0 then none else some (N 20 0))) (y := -1) 20 hC dX6_lowestEmptyContext_15 (by decide) (fun h2 => ?_) (fun h2 => ?_)
  · have hn3 := (mo_2 h2).1
    refine sg_iincN (pc := 20) (a := 0) (b := 1) hC dX6_lowestEmptyContext_20 rfl (nI_1 _) (by decide) ?_
    show sg_W X M 0 0 23 [some (.ref ca), some (.int (nI 1))] []
    refine sg_goto (pc := 23) 2 hC dX6_lowestEmptyContext_23 (by decide) ?_
    refine sg_iload_n (pc := 2) (x := nI 1) hC dX6_lowestEmptyContext_2 rfl ?_
    refine sg_bipush (pc := 3) (nI 8) hC dX6_lowestEmptyContext_3 (by decide) ?_
    refine sg_icmpN_ge (pc := 5) (a := 1) (b := 8) 26 hC dX6_lowestEmptyContext_5 (by decide) (by decide) (by decide) (fun h4 => absurd h4 (by decide)) (fun _ => ?_)
    refine sg_aload_n (pc := 8) (v := .ref ca) hC dX6_lowestEmptyContext_8 rfl rfl ?_
    refine sg_get (pc := 9) (a := ca) (v := .ref cx) 4 hC rfl inw_X6 (by decide) tw_197 dX6_lowestEmptyContext_9 hX rfl ?_
    refine sg_iload_n (pc := 12) (x := nI 1) hC dX6_lowestEmptyContext_12 rfl ?_
    refine sg_iald (pc := 13) (i := nI 1) hC dX6_lowestEmptyContext_13 hCx (vp_in_nI (by first | omega | decide) (by first | omega | decide)) ?_
    rw [nI_clamp (by first | omega | decide)]
    rw [hG 1 (by omega)]
    show sg_W X M 0 0 14 [some (.ref ca), some (.int (nI 1))] [.int (md_o (if N 19 1 = 0 then none else some (N 20 1)))]
    refine sg_iconst (pc := 14) (((-1))) hC dX6_lowestEmptyContext_14 (by decide) ?_
    refine sg_icmp_ne (pc := 15) (x := md_o (if N 19 1 = 0 then none else some (N 20 1))) (y := -1) 20 hC dX6_lowestEmptyContext_15 (by decide) (fun h5 => ?_) (fun h5 => ?_)
    · have hn6 := (mo_2 h5).1
      refine sg_iincN (pc := 20) (a := 1) (b := 2) hC dX6_lowestEmptyContext_20 rfl (nI_1 _) (by decide) ?_
      show sg_W X M 0 0 23 [some (.ref ca), some (.int (nI 2))] []
      refine sg_goto (pc := 23) 2 hC dX6_lowestEmptyContext_23 (by decide) ?_
      refine sg_iload_n (pc := 2) (x := nI 2) hC dX6_lowestEmptyContext_2 rfl ?_
      refine sg_bipush (pc := 3) (nI 8) hC dX6_lowestEmptyContext_3 (by decide) ?_
      refine sg_icmpN_ge (pc := 5) (a := 2) (b := 8) 26 hC dX6_lowestEmptyContext_5 (by decide) (by decide) (by decide) (fun h7 => absurd h7 (by decide)) (fun _ => ?_)
      refine sg_aload_n (pc := 8) (v := .ref ca) hC dX6_lowestEmptyContext_8 rfl rfl ?_
      refine sg_get (pc := 9) (a := ca) (v := .ref cx) 4 hC rfl inw_X6 (by decide) tw_197 dX6_lowestEmptyContext_9 hX rfl ?_
      refine sg_iload_n (pc := 12) (x := nI 2) hC dX6_lowestEmptyContext_12 rfl ?_
      refine sg_iald (pc := 13) (i := nI 2) hC dX6_lowestEmptyContext_13 hCx (vp_in_nI (by first | omega | decide) (by first | omega | decide)) ?_
      rw [nI_clamp (by first | omega | decide)]
      rw [hG 2 (by omega)]
      show sg_W X M 0 0 14 [some (.ref ca), some (.int (nI 2))] [.int (md_o (if N 19 2 = 0 then none else some (N 20 2)))]
      refine sg_iconst (pc := 14) (((-1))) hC dX6_lowestEmptyContext_14 (by decide) ?_
      refine sg_icmp_ne (pc := 15) (x := md_o (if N 19 2 = 0 then none else some (N 20 2))) (y := -1) 20 hC dX6_lowestEmptyContext_15 (by decide) (fun h8 => ?_) (fun h8 => ?_)
      · have hn9 := (mo_2 h8).1
        refine sg_iincN (pc := 20) (a := 2) (b := 3) hC dX6_lowestEmptyContext_20 rfl (nI_1 _) (by decide) ?_
        show sg_W X M 0 0 23 [some (.ref ca), some (.int (nI 3))] []
        refine sg_goto (pc := 23) 2 hC dX6_lowestEmptyContext_23 (by decide) ?_
        refine sg_iload_n (pc := 2) (x := nI 3) hC dX6_lowestEmptyContext_2 rfl ?_
        refine sg_bipush (pc := 3) (nI 8) hC dX6_lowestEmptyContext_3 (by decide) ?_
        refine sg_icmpN_ge (pc := 5) (a := 3) (b := 8) 26 hC dX6_lowestEmptyContext_5 (by decide) (by decide) (by decide) (fun h10 => absurd h10 (by decide)) (fun _ => ?_)
        refine sg_aload_n (pc := 8) (v := .ref ca) hC dX6_lowestEmptyContext_8 rfl rfl ?_
        refine sg_get (pc := 9) (a := ca) (v := .ref cx) 4 hC rfl inw_X6 (by decide) tw_197 dX6_lowestEmptyContext_9 hX rfl ?_
        refine sg_iload_n (pc := 12) (x := nI 3) hC dX6_lowestEmptyContext_12 rfl ?_
        refine sg_iald (pc := 13) (i := nI 3) hC dX6_lowestEmptyContext_13 hCx (vp_in_nI (by first | omega | decide) (by first | omega | decide)) ?_
        rw [nI_clamp (by first | omega | decide)]
        rw [hG 3 (by omega)]
        show sg_W X M 0 0 14 [some (.ref ca), some (.int (nI 3))] [.int (md_o (if N 19 3 = 0 then none else some (N 20 3)))]
        refine sg_iconst (pc := 14) (((-1))) hC dX6_lowestEmptyContext_14 (by decide) ?_
        refine sg_icmp_ne (pc := 15) (x := md_o (if N 19 3 = 0 then none else some (N 20 3))) (y := -1) 20 hC dX6_lowestEmptyContext_15 (by decide) (fun h11 => ?_) (fun h11 => ?_)
        · have hn12 := (mo_2 h11).1
          refine sg_iincN (pc := 20) (a := 3) (b := 4) hC dX6_lowestEmptyContext_20 rfl (nI_1 _) (by decide) ?_
          show sg_W X M 0 0 23 [some (.ref ca), some (.int (nI 4))] []
          refine sg_goto (pc := 23) 2 hC dX6_lowestEmptyContext_23 (by decide) ?_
          refine sg_iload_n (pc := 2) (x := nI 4) hC dX6_lowestEmptyContext_2 rfl ?_
          refine sg_bipush (pc := 3) (nI 8) hC dX6_lowestEmptyContext_3 (by decide) ?_
          refine sg_icmpN_ge (pc := 5) (a := 4) (b := 8) 26 hC dX6_lowestEmptyContext_5 (by decide) (by decide) (by decide) (fun h13 => absurd h13 (by decide)) (fun _ => ?_)
          refine sg_aload_n (pc := 8) (v := .ref ca) hC dX6_lowestEmptyContext_8 rfl rfl ?_
          refine sg_get (pc := 9) (a := ca) (v := .ref cx) 4 hC rfl inw_X6 (by decide) tw_197 dX6_lowestEmptyContext_9 hX rfl ?_
          refine sg_iload_n (pc := 12) (x := nI 4) hC dX6_lowestEmptyContext_12 rfl ?_
          refine sg_iald (pc := 13) (i := nI 4) hC dX6_lowestEmptyContext_13 hCx (vp_in_nI (by first | omega | decide) (by first | omega | decide)) ?_
          rw [nI_clamp (by first | omega | decide)]
          rw [hG 4 (by omega)]
          show sg_W X M 0 0 14 [some (.ref ca), some (.int (nI 4))] [.int (md_o (if N 19 4 = 0 then none else some (N 20 4)))]
          refine sg_iconst (pc := 14) (((-1))) hC dX6_lowestEmptyContext_14 (by decide) ?_
          refine sg_icmp_ne (pc := 15) (x := md_o (if N 19 4 = 0 then none else some (N 20 4))) (y := -1) 20 hC dX6_lowestEmptyContext_15 (by decide) (fun h14 => ?_) (fun h14 => ?_)
          · have hn15 := (mo_2 h14).1
            refine sg_iincN (pc := 20) (a := 4) (b := 5) hC dX6_lowestEmptyContext_20 rfl (nI_1 _) (by decide) ?_
            show sg_W X M 0 0 23 [some (.ref ca), some (.int (nI 5))] []
            refine sg_goto (pc := 23) 2 hC dX6_lowestEmptyContext_23 (by decide) ?_
            refine sg_iload_n (pc := 2) (x := nI 5) hC dX6_lowestEmptyContext_2 rfl ?_
            refine sg_bipush (pc := 3) (nI 8) hC dX6_lowestEmptyContext_3 (by decide) ?_
            refine sg_icmpN_ge (pc := 5) (a := 5) (b := 8) 26 hC dX6_lowestEmptyContext_5 (by decide) (by decide) (by decide) (fun h16 => absurd h16 (by decide)) (fun _ => ?_)
            refine sg_aload_n (pc := 8) (v := .ref ca) hC dX6_lowestEmptyContext_8 rfl rfl ?_
            refine sg_get (pc := 9) (a := ca) (v := .ref cx) 4 hC rfl inw_X6 (by decide) tw_197 dX6_lowestEmptyContext_9 hX rfl ?_
            refine sg_iload_n (pc := 12) (x := nI 5) hC dX6_lowestEmptyContext_12 rfl ?_
            refine sg_iald (pc := 13) (i := nI 5) hC dX6_lowestEmptyContext_13 hCx (vp_in_nI (by first | omega | decide) (by first | omega | decide)) ?_
            rw [nI_clamp (by first | omega | decide)]
            rw [hG 5 (by omega)]
            show sg_W X M 0 0 14 [some (.ref ca), some (.int (nI 5))] [.int (md_o (if N 19 5 = 0 then none else some (N 20 5)))]
            refine sg_iconst (pc := 14) (((-1))) hC dX6_lowestEmptyContext_14 (by decide) ?_
            refine sg_icmp_ne (pc := 15) (x := md_o (if N 19 5 = 0 then none else some (N 20 5))) (y := -1) 20 hC dX6_lowestEmptyContext_15 (by decide) (fun h17 => ?_) (fun h17 => ?_)
            · have hn18 := (mo_2 h17).1
              refine sg_iincN (pc := 20) (a := 5) (b := 6) hC dX6_lowestEmptyContext_20 rfl (nI_1 _) (by decide) ?_
              show sg_W X M 0 0 23 [some (.ref ca), some (.int (nI 6))] []
              refine sg_goto (pc := 23) 2 hC dX6_lowestEmptyContext_23 (by decide) ?_
              refine sg_iload_n (pc := 2) (x := nI 6) hC dX6_lowestEmptyContext_2 rfl ?_
              refine sg_bipush (pc := 3) (nI 8) hC dX6_lowestEmptyContext_3 (by decide) ?_
              refine sg_icmpN_ge (pc := 5) (a := 6) (b := 8) 26 hC dX6_lowestEmptyContext_5 (by decide) (by decide) (by decide) (fun h19 => absurd h19 (by decide)) (fun _ => ?_)
              refine sg_aload_n (pc := 8) (v := .ref ca) hC dX6_lowestEmptyContext_8 rfl rfl ?_
              refine sg_get (pc := 9) (a := ca) (v := .ref cx) 4 hC rfl inw_X6 (by decide) tw_197 dX6_lowestEmptyContext_9 hX rfl ?_
              refine sg_iload_n (pc := 12) (x := nI 6) hC dX6_lowestEmptyContext_12 rfl ?_
              refine sg_iald (pc := 13) (i := nI 6) hC dX6_lowestEmptyContext_13 hCx (vp_in_nI (by first | omega | decide) (by first | omega | decide)) ?_
              rw [nI_clamp (by first | omega | decide)]
              rw [hG 6 (by omega)]
              show sg_W X M 0 0 14 [some (.ref ca), some (.int (nI 6))] [.int (md_o (if N 19 6 = 0 then none else some (N 20 6)))]
              refine sg_iconst (pc := 14) (((-1))) hC dX6_lowestEmptyContext_14 (by decide) ?_
              refine sg_icmp_ne (pc := 15) (x := md_o (if N 19 6 = 0 then none else some (N 20 6))) (y := -1) 20 hC dX6_lowestEmptyContext_15 (by decide) (fun h20 => ?_) (fun h20 => ?_)
              · have hn21 := (mo_2 h20).1
                refine sg_iincN (pc := 20) (a := 6) (b := 7) hC dX6_lowestEmptyContext_20 rfl (nI_1 _) (by decide) ?_
                show sg_W X M 0 0 23 [some (.ref ca), some (.int (nI 7))] []
                refine sg_goto (pc := 23) 2 hC dX6_lowestEmptyContext_23 (by decide) ?_
                refine sg_iload_n (pc := 2) (x := nI 7) hC dX6_lowestEmptyContext_2 rfl ?_
                refine sg_bipush (pc := 3) (nI 8) hC dX6_lowestEmptyContext_3 (by decide) ?_
                refine sg_icmpN_ge (pc := 5) (a := 7) (b := 8) 26 hC dX6_lowestEmptyContext_5 (by decide) (by decide) (by decide) (fun h22 => absurd h22 (by decide)) (fun _ => ?_)
                refine sg_aload_n (pc := 8) (v := .ref ca) hC dX6_lowestEmptyContext_8 rfl rfl ?_
                refine sg_get (pc := 9) (a := ca) (v := .ref cx) 4 hC rfl inw_X6 (by decide) tw_197 dX6_lowestEmptyContext_9 hX rfl ?_
                refine sg_iload_n (pc := 12) (x := nI 7) hC dX6_lowestEmptyContext_12 rfl ?_
                refine sg_iald (pc := 13) (i := nI 7) hC dX6_lowestEmptyContext_13 hCx (vp_in_nI (by first | omega | decide) (by first | omega | decide)) ?_
                rw [nI_clamp (by first | omega | decide)]
                rw [hG 7 (by omega)]
                show sg_W X M 0 0 14 [some (.ref ca), some (.int (nI 7))] [.int (md_o (if N 19 7 = 0 then none else some (N 20 7)))]
                refine sg_iconst (pc := 14) (((-1))) hC dX6_lowestEmptyContext_14 (by decide) ?_
                refine sg_icmp_ne (pc := 15) (x := md_o (if N 19 7 = 0 then none else some (N 20 7))) (y := -1) 20 hC dX6_lowestEmptyContext_15 (by decide) (fun h23 => ?_) (fun h23 => ?_)
                · have hn24 := (mo_2 h23).1
                  refine sg_iincN (pc := 20) (a := 7) (b := 8) hC dX6_lowestEmptyContext_20 rfl (nI_1 _) (by decide) ?_
                  show sg_W X M 0 0 23 [some (.ref ca), some (.int (nI 8))] []
                  refine sg_goto (pc := 23) 2 hC dX6_lowestEmptyContext_23 (by decide) ?_
                  refine sg_iload_n (pc := 2) (x := nI 8) hC dX6_lowestEmptyContext_2 rfl ?_
                  refine sg_bipush (pc := 3) (nI 8) hC dX6_lowestEmptyContext_3 (by decide) ?_
                  refine sg_icmpN_ge (pc := 5) (a := 8) (b := 8) 26 hC dX6_lowestEmptyContext_5 (by decide) (by decide) (by decide) (fun _ => ?_) (fun h25 => absurd h25 (by decide))
                  refine sg_iconst (pc := 26) (((-1))) hC dX6_lowestEmptyContext_26 (by decide) ?_
                  have e9 : k_lowCtx N = none := by rw [k_lowCtx]; simp only [if_neg hn3, if_neg hn6, if_neg hn9, if_neg hn12, if_neg hn15, if_neg hn18, if_neg hn21, if_neg hn24]
                  rw [e9] at hk
                  exact sg_ireturn (st := []) (v := md_o none) (pc := 27) hC hR dX6_lowestEmptyContext_27 hk
                · have hn26 : N 19 7 = 0 := mo_1 h23 (Nat.lt_of_le_of_lt (hW 20 _) (by decide))
                  refine sg_iload_n (pc := 18) (x := nI 7) hC dX6_lowestEmptyContext_18 rfl ?_
                  have e9 : k_lowCtx N = some 7 := by rw [k_lowCtx]; simp only [if_neg hn3, if_neg hn6, if_neg hn9, if_neg hn12, if_neg hn15, if_neg hn18, if_neg hn21, if_pos hn26]
                  rw [e9] at hk
                  exact sg_ireturn (st := []) (v := md_o (some 7)) (pc := 19) hC hR dX6_lowestEmptyContext_19 hk
              · have hn27 : N 19 6 = 0 := mo_1 h20 (Nat.lt_of_le_of_lt (hW 20 _) (by decide))
                refine sg_iload_n (pc := 18) (x := nI 6) hC dX6_lowestEmptyContext_18 rfl ?_
                have e9 : k_lowCtx N = some 6 := by rw [k_lowCtx]; simp only [if_neg hn3, if_neg hn6, if_neg hn9, if_neg hn12, if_neg hn15, if_neg hn18, if_pos hn27]
                rw [e9] at hk
                exact sg_ireturn (st := []) (v := md_o (some 6)) (pc := 19) hC hR dX6_lowestEmptyContext_19 hk
            · have hn28 : N 19 5 = 0 := mo_1 h17 (Nat.lt_of_le_of_lt (hW 20 _) (by decide))
              refine sg_iload_n (pc := 18) (x := nI 5) hC dX6_lowestEmptyContext_18 rfl ?_
              have e9 : k_lowCtx N = some 5 := by rw [k_lowCtx]; simp only [if_neg hn3, if_neg hn6, if_neg hn9, if_neg hn12, if_neg hn15, if_pos hn28]
              rw [e9] at hk
              exact sg_ireturn (st := []) (v := md_o (some 5)) (pc := 19) hC hR dX6_lowestEmptyContext_19 hk
          · have hn29 : N 19 4 = 0 := mo_1 h14 (Nat.lt_of_le_of_lt (hW 20 _) (by decide))
            refine sg_iload_n (pc := 18) (x := nI 4) hC dX6_lowestEmptyContext_18 rfl ?_
            have e9 : k_lowCtx N = some 4 := by rw [k_lowCtx]; simp only [if_neg hn3, if_neg hn6, if_neg hn9, if_neg hn12, if_pos hn29]
            rw [e9] at hk
            exact sg_ireturn (st := []) (v := md_o (some 4)) (pc := 19) hC hR dX6_lowestEmptyContext_19 hk
        · have hn30 : N 19 3 = 0 := mo_1 h11 (Nat.lt_of_le_of_lt (hW 20 _) (by decide))
          refine sg_iload_n (pc := 18) (x := nI 3) hC dX6_lowestEmptyContext_18 rfl ?_
          have e9 : k_lowCtx N = some 3 := by rw [k_lowCtx]; simp only [if_neg hn3, if_neg hn6, if_neg hn9, if_pos hn30]
          rw [e9] at hk
          exact sg_ireturn (st := []) (v := md_o (some 3)) (pc := 19) hC hR dX6_lowestEmptyContext_19 hk
      · have hn31 : N 19 2 = 0 := mo_1 h8 (Nat.lt_of_le_of_lt (hW 20 _) (by decide))
        refine sg_iload_n (pc := 18) (x := nI 2) hC dX6_lowestEmptyContext_18 rfl ?_
        have e9 : k_lowCtx N = some 2 := by rw [k_lowCtx]; simp only [if_neg hn3, if_neg hn6, if_pos hn31]
        rw [e9] at hk
        exact sg_ireturn (st := []) (v := md_o (some 2)) (pc := 19) hC hR dX6_lowestEmptyContext_19 hk
    · have hn32 : N 19 1 = 0 := mo_1 h5 (Nat.lt_of_le_of_lt (hW 20 _) (by decide))
      refine sg_iload_n (pc := 18) (x := nI 1) hC dX6_lowestEmptyContext_18 rfl ?_
      have e9 : k_lowCtx N = some 1 := by rw [k_lowCtx]; simp only [if_neg hn3, if_pos hn32]
      rw [e9] at hk
      exact sg_ireturn (st := []) (v := md_o (some 1)) (pc := 19) hC hR dX6_lowestEmptyContext_19 hk
  · have hn33 : N 19 0 = 0 := mo_1 h2 (Nat.lt_of_le_of_lt (hW 20 _) (by decide))
    refine sg_iload_n (pc := 18) (x := nI 0) hC dX6_lowestEmptyContext_18 rfl ?_
    have e9 : k_lowCtx N = some 0 := by rw [k_lowCtx]; simp only [if_pos hn33]
    rw [e9] at hk
    exact sg_ireturn (st := []) (v := md_o (some 0)) (pc := 19) hC hR dX6_lowestEmptyContext_19 hk

def k_lowThr (N : Nat → Nat → Nat) : Option Nat := if N 13 0 = 0 then some 0 else if N 13 1 = 0 then some 1 else if N 13 2 = 0 then some 2 else if N 13 3 = 0 then some 3 else none
set_option maxHeartbeats 400000 in
set_option maxRecDepth 100000 in
theorem c_lowThr {l : Launch} {G : sg_G} {d : Nat} {M : sg_M} {kr : Option Value → sg_M → Prop} {kx : String → sg_M → Prop} (htr : l.stackTraces = false) {ca pb sl so th cx nt : Nat} {N : Nat → Nat → Nat} {gt : Nat → Option Nat} (hX : M ca = some (1, .inr (9, [.ref pb, .ref sl, .ref so, .ref th, .ref cx, .ref nt]))) (hTh : M th = some (6, .inl (.object RX0, 4, .inr (.inr (.inr (.inr gt)))))) (hG : gth G M gt N) (hk : kr (some (.int (md_o (k_lowThr N)))) M) : sg_Met l G yX6_lowestMissingThread cX6_lowestMissingThread 2 (some .int) (d + 0) 0 0 [.ref ca] M kr kx := by
  refine sg_enter [some (.ref ca), none] (by decide) htr (Nat.le_of_ble_eq_true rfl) rfl ?_
  intro X hC hR
  have hC : sg_C X l G cX6_lowestMissingThread RX6 2 (d + 0) := hC
  refine sg_iconst (pc := 0) (nI 0) hC dX6_lowestMissingThread_0 (by decide) ?_
  refine sg_istore_n (pc := 1) (x := nI 0) hC dX6_lowestMissingThread_1 (by decide) ?_
  show sg_W X M 0 0 2 [some (.ref ca), some (.int (nI 0))] []
  refine sg_iload_n (pc := 2) (x := nI 0) hC dX6_lowestMissingThread_2 rfl ?_
  refine sg_iconst (pc := 3) (nI 4) hC dX6_lowestMissingThread_3 (by decide) ?_
  refine sg_icmpN_ge (pc := 4) (a := 0) (b := 4) 24 hC dX6_lowestMissingThread_4 (by decide) (by decide) (by decide) (fun h1 => absurd h1 (by decide)) (fun _ => ?_)
  refine sg_aload_n (pc := 7) (v := .ref ca) hC dX6_lowestMissingThread_7 rfl rfl ?_
  refine sg_get (pc := 8) (a := ca) (v := .ref th) 3 hC rfl inw_X6 (by decide) tw_196 dX6_lowestMissingThread_8 hX rfl ?_
  refine sg_iload_n (pc := 11) (x := nI 0) hC dX6_lowestMissingThread_11 rfl ?_
  refine sg_aald9 (pc := 12) (i := nI 0) hC dX6_lowestMissingThread_12 hTh (vp_in_nI (by first | omega | decide) (by first | omega | decide)) ?_
  rw [nI_clamp (by first | omega | decide)]
  show sg_W X M 0 0 13 [some (.ref ca), some (.int (nI 0))] [va_rf (gt 0)]
  refine sg_ifnonnull (pc := 13) (r := gt 0) 18 hC dX6_lowestMissingThread_13 (by decide) (fun q2 h3 => ?_) (fun h3 => ?_)
  · have hn4 : N 13 0 ≠ 0 := fun e9 => by have h9 := (hG _ (by omega)).1 e9; rw [h3] at h9; cases h9
    refine sg_iincN (pc := 18) (a := 0) (b := 1) hC dX6_lowestMissingThread_18 rfl (nI_1 _) (by decide) ?_
    show sg_W X M 0 0 21 [some (.ref ca), some (.int (nI 1))] []
    refine sg_goto (pc := 21) 2 hC dX6_lowestMissingThread_21 (by decide) ?_
    refine sg_iload_n (pc := 2) (x := nI 1) hC dX6_lowestMissingThread_2 rfl ?_
    refine sg_iconst (pc := 3) (nI 4) hC dX6_lowestMissingThread_3 (by decide) ?_
    refine sg_icmpN_ge (pc := 4) (a := 1) (b := 4) 24 hC dX6_lowestMissingThread_4 (by decide) (by decide) (by decide) (fun h5 => absurd h5 (by decide)) (fun _ => ?_)
    refine sg_aload_n (pc := 7) (v := .ref ca) hC dX6_lowestMissingThread_7 rfl rfl ?_
    refine sg_get (pc := 8) (a := ca) (v := .ref th) 3 hC rfl inw_X6 (by decide) tw_196 dX6_lowestMissingThread_8 hX rfl ?_
    refine sg_iload_n (pc := 11) (x := nI 1) hC dX6_lowestMissingThread_11 rfl ?_
    refine sg_aald9 (pc := 12) (i := nI 1) hC dX6_lowestMissingThread_12 hTh (vp_in_nI (by first | omega | decide) (by first | omega | decide)) ?_
    rw [nI_clamp (by first | omega | decide)]
    show sg_W X M 0 0 13 [some (.ref ca), some (.int (nI 1))] [va_rf (gt 1)]
    refine sg_ifnonnull (pc := 13) (r := gt 1) 18 hC dX6_lowestMissingThread_13 (by decide) (fun q6 h7 => ?_) (fun h7 => ?_)
    · have hn8 : N 13 1 ≠ 0 := fun e9 => by have h9 := (hG _ (by omega)).1 e9; rw [h7] at h9; cases h9
      refine sg_iincN (pc := 18) (a := 1) (b := 2) hC dX6_lowestMissingThread_18 rfl (nI_1 _) (by decide) ?_
      show sg_W X M 0 0 21 [some (.ref ca), some (.int (nI 2))] []
      refine sg_goto (pc := 21) 2 hC dX6_lowestMissingThread_21 (by decide) ?_
      refine sg_iload_n (pc := 2) (x := nI 2) hC dX6_lowestMissingThread_2 rfl ?_
      refine sg_iconst (pc := 3) (nI 4) hC dX6_lowestMissingThread_3 (by decide) ?_
      refine sg_icmpN_ge (pc := 4) (a := 2) (b := 4) 24 hC dX6_lowestMissingThread_4 (by decide) (by decide) (by decide) (fun h9 => absurd h9 (by decide)) (fun _ => ?_)
      refine sg_aload_n (pc := 7) (v := .ref ca) hC dX6_lowestMissingThread_7 rfl rfl ?_
      refine sg_get (pc := 8) (a := ca) (v := .ref th) 3 hC rfl inw_X6 (by decide) tw_196 dX6_lowestMissingThread_8 hX rfl ?_
      refine sg_iload_n (pc := 11) (x := nI 2) hC dX6_lowestMissingThread_11 rfl ?_
      refine sg_aald9 (pc := 12) (i := nI 2) hC dX6_lowestMissingThread_12 hTh (vp_in_nI (by first | omega | decide) (by first | omega | decide)) ?_
      rw [nI_clamp (by first | omega | decide)]
      show sg_W X M 0 0 13 [some (.ref ca), some (.int (nI 2))] [va_rf (gt 2)]
      refine sg_ifnonnull (pc := 13) (r := gt 2) 18 hC dX6_lowestMissingThread_13 (by decide) (fun q10 h11 => ?_) (fun h11 => ?_)
      · have hn12 : N 13 2 ≠ 0 := fun e9 => by have h9 := (hG _ (by omega)).1 e9; rw [h11] at h9; cases h9
        refine sg_iincN (pc := 18) (a := 2) (b := 3) hC dX6_lowestMissingThread_18 rfl (nI_1 _) (by decide) ?_
        show sg_W X M 0 0 21 [some (.ref ca), some (.int (nI 3))] []
        refine sg_goto (pc := 21) 2 hC dX6_lowestMissingThread_21 (by decide) ?_
        refine sg_iload_n (pc := 2) (x := nI 3) hC dX6_lowestMissingThread_2 rfl ?_
        refine sg_iconst (pc := 3) (nI 4) hC dX6_lowestMissingThread_3 (by decide) ?_
        refine sg_icmpN_ge (pc := 4) (a := 3) (b := 4) 24 hC dX6_lowestMissingThread_4 (by decide) (by decide) (by decide) (fun h13 => absurd h13 (by decide)) (fun _ => ?_)
        refine sg_aload_n (pc := 7) (v := .ref ca) hC dX6_lowestMissingThread_7 rfl rfl ?_
        refine sg_get (pc := 8) (a := ca) (v := .ref th) 3 hC rfl inw_X6 (by decide) tw_196 dX6_lowestMissingThread_8 hX rfl ?_
        refine sg_iload_n (pc := 11) (x := nI 3) hC dX6_lowestMissingThread_11 rfl ?_
        refine sg_aald9 (pc := 12) (i := nI 3) hC dX6_lowestMissingThread_12 hTh (vp_in_nI (by first | omega | decide) (by first | omega | decide)) ?_
        rw [nI_clamp (by first | omega | decide)]
        show sg_W X M 0 0 13 [some (.ref ca), some (.int (nI 3))] [va_rf (gt 3)]
        refine sg_ifnonnull (pc := 13) (r := gt 3) 18 hC dX6_lowestMissingThread_13 (by decide) (fun q14 h15 => ?_) (fun h15 => ?_)
        · have hn16 : N 13 3 ≠ 0 := fun e9 => by have h9 := (hG _ (by omega)).1 e9; rw [h15] at h9; cases h9
          refine sg_iincN (pc := 18) (a := 3) (b := 4) hC dX6_lowestMissingThread_18 rfl (nI_1 _) (by decide) ?_
          show sg_W X M 0 0 21 [some (.ref ca), some (.int (nI 4))] []
          refine sg_goto (pc := 21) 2 hC dX6_lowestMissingThread_21 (by decide) ?_
          refine sg_iload_n (pc := 2) (x := nI 4) hC dX6_lowestMissingThread_2 rfl ?_
          refine sg_iconst (pc := 3) (nI 4) hC dX6_lowestMissingThread_3 (by decide) ?_
          refine sg_icmpN_ge (pc := 4) (a := 4) (b := 4) 24 hC dX6_lowestMissingThread_4 (by decide) (by decide) (by decide) (fun _ => ?_) (fun h17 => absurd h17 (by decide))
          refine sg_iconst (pc := 24) (((-1))) hC dX6_lowestMissingThread_24 (by decide) ?_
          have e9 : k_lowThr N = none := by rw [k_lowThr]; simp only [if_neg hn4, if_neg hn8, if_neg hn12, if_neg hn16]
          rw [e9] at hk
          exact sg_ireturn (st := []) (v := md_o none) (pc := 25) hC hR dX6_lowestMissingThread_25 hk
        · have hn18 : N 13 3 = 0 := Decidable.byContradiction (fun e9 => by obtain ⟨a9, h9, -⟩ := (hG _ (by omega)).2 e9; rw [h15] at h9; cases h9)
          refine sg_iload_n (pc := 16) (x := nI 3) hC dX6_lowestMissingThread_16 rfl ?_
          have e9 : k_lowThr N = some 3 := by rw [k_lowThr]; simp only [if_neg hn4, if_neg hn8, if_neg hn12, if_pos hn18]
          rw [e9] at hk
          exact sg_ireturn (st := []) (v := md_o (some 3)) (pc := 17) hC hR dX6_lowestMissingThread_17 hk
      · have hn19 : N 13 2 = 0 := Decidable.byContradiction (fun e9 => by obtain ⟨a9, h9, -⟩ := (hG _ (by omega)).2 e9; rw [h11] at h9; cases h9)
        refine sg_iload_n (pc := 16) (x := nI 2) hC dX6_lowestMissingThread_16 rfl ?_
        have e9 : k_lowThr N = some 2 := by rw [k_lowThr]; simp only [if_neg hn4, if_neg hn8, if_pos hn19]
        rw [e9] at hk
        exact sg_ireturn (st := []) (v := md_o (some 2)) (pc := 17) hC hR dX6_lowestMissingThread_17 hk
    · have hn20 : N 13 1 = 0 := Decidable.byContradiction (fun e9 => by obtain ⟨a9, h9, -⟩ := (hG _ (by omega)).2 e9; rw [h7] at h9; cases h9)
      refine sg_iload_n (pc := 16) (x := nI 1) hC dX6_lowestMissingThread_16 rfl ?_
      have e9 : k_lowThr N = some 1 := by rw [k_lowThr]; simp only [if_neg hn4, if_pos hn20]
      rw [e9] at hk
      exact sg_ireturn (st := []) (v := md_o (some 1)) (pc := 17) hC hR dX6_lowestMissingThread_17 hk
  · have hn21 : N 13 0 = 0 := Decidable.byContradiction (fun e9 => by obtain ⟨a9, h9, -⟩ := (hG _ (by omega)).2 e9; rw [h3] at h9; cases h9)
    refine sg_iload_n (pc := 16) (x := nI 0) hC dX6_lowestMissingThread_16 rfl ?_
    have e9 : k_lowThr N = some 0 := by rw [k_lowThr]; simp only [if_pos hn21]
    rw [e9] at hk
    exact sg_ireturn (st := []) (v := md_o (some 0)) (pc := 17) hC hR dX6_lowestMissingThread_17 hk

theorem c_granted {l : Launch} {G : sg_G} {d : Nat} {M : sg_M} {kr : Option Value → sg_M → Prop} {kx : String → sg_M → Prop} (htr : l.stackTraces = false) {s a b : Nat} {N : Nat → Nat → Nat} {t : RQ} (hW : WN N) (hs : s < 6) (hA : so_r G M s a N) (hB : pm_r M b t) (hk : kr (some (.int (md_b (isg (gl N s) t)))) M) : sg_Met l G yX5_isGranted cX5_isGranted 6 (some .boolean) (d + 7) 0 0 [.ref a, .ref b] M kr kx := by
  obtain ⟨la, f, h1, h2, h3⟩ := hA
  refine c_isG (g := fun j => rq N (8 + 6 * s + j)) htr h1 h2 h3 (hW 12 s) hB ?_
  rw [k_isG_eq (fun j hj => ?_) hB.w, ← List.range_eq_range']
  · exact hk
  · obtain ⟨p, p1, p2⟩ := h3 j hj
    exact p2.w

def k_blm (N : Nat → Nat → Nat) (w : Nat) (t : RQ) : Option Nat := if w &&& 1 = 1 then if (isg (gl N 0) t) = true then if (w >>> 1) &&& 1 = 1 then if (isg (gl N 1) t) = true then if (w >>> 2) &&& 1 = 1 then if (isg (gl N 2) t) = true then if (w >>> 3) &&& 1 = 1 then if (isg (gl N 3) t) = true then if (w >>> 4) &&& 1 = 1 then if (isg (gl N 4) t) = true then if (w >>> 5) &&& 1 = 1 then if (isg (gl N 5) t) = true then none else some 5 else none else some 4 else if (w >>> 5) &&& 1 = 1 then if (isg (gl N 5) t) = true then none else some 5 else none else some 3 else if (w >>> 4) &&& 1 = 1 then if (isg (gl N 4) t) = true then if (w >>> 5) &&& 1 = 1 then if (isg (gl N 5) t) = true then none else some 5 else none else some 4 else if (w >>> 5) &&& 1 = 1 then if (isg (gl N 5) t) = true then none else some 5 else none else some 2 else if (w >>> 3) &&& 1 = 1 then if (isg (gl N 3) t) = true then if (w >>> 4) &&& 1 = 1 then if (isg (gl N 4) t) = true then if (w >>> 5) &&& 1 = 1 then if (isg (gl N 5) t) = true then none else some 5 else none else some 4 else if (w >>> 5) &&& 1 = 1 then if (isg (gl N 5) t) = true then none else some 5 else none else some 3 else if (w >>> 4) &&& 1 = 1 then if (isg (gl N 4) t) = true then if (w >>> 5) &&& 1 = 1 then if (isg (gl N 5) t) = true then none else some 5 else none else some 4 else if (w >>> 5) &&& 1 = 1 then if (isg (gl N 5) t) = true then none else some 5 else none else some 1 else if (w >>> 2) &&& 1 = 1 then if (isg (gl N 2) t) = true then if (w >>> 3) &&& 1 = 1 then if (isg (gl N 3) t) = true then if (w >>> 4) &&& 1 = 1 then if (isg (gl N 4) t) = true then if (w >>> 5) &&& 1 = 1 then if (isg (gl N 5) t) = true then none else some 5 else none else some 4 else if (w >>> 5) &&& 1 = 1 then if (isg (gl N 5) t) = true then none else some 5 else none else some 3 else if (w >>> 4) &&& 1 = 1 then if (isg (gl N 4) t) = true then if (w >>> 5) &&& 1 = 1 then if (isg (gl N 5) t) = true then none else some 5 else none else some 4 else if (w >>> 5) &&& 1 = 1 then if (isg (gl N 5) t) = true then none else some 5 else none else some 2 else if (w >>> 3) &&& 1 = 1 then if (isg (gl N 3) t) = true then if (w >>> 4) &&& 1 = 1 then if (isg (gl N 4) t) = true then if (w >>> 5) &&& 1 = 1 then if (isg (gl N 5) t) = true then none else some 5 else none else some 4 else if (w >>> 5) &&& 1 = 1 then if (isg (gl N 5) t) = true then none else some 5 else none else some 3 else if (w >>> 4) &&& 1 = 1 then if (isg (gl N 4) t) = true then if (w >>> 5) &&& 1 = 1 then if (isg (gl N 5) t) = true then none else some 5 else none else some 4 else if (w >>> 5) &&& 1 = 1 then if (isg (gl N 5) t) = true then none else some 5 else none else some 0 else if (w >>> 1) &&& 1 = 1 then if (isg (gl N 1) t) = true then if (w >>> 2) &&& 1 = 1 then if (isg (gl N 2) t) = true then if (w >>> 3) &&& 1 = 1 then if (isg (gl N 3) t) = true then if (w >>> 4) &&& 1 = 1 then if (isg (gl N 4) t) = true then if (w >>> 5) &&& 1 = 1 then if (isg (gl N 5) t) = true then none else some 5 else none else some 4 else if (w >>> 5) &&& 1 = 1 then if (isg (gl N 5) t) = true then none else some 5 else none else some 3 else if (w >>> 4) &&& 1 = 1 then if (isg (gl N 4) t) = true then if (w >>> 5) &&& 1 = 1 then if (isg (gl N 5) t) = true then none else some 5 else none else some 4 else if (w >>> 5) &&& 1 = 1 then if (isg (gl N 5) t) = true then none else some 5 else none else some 2 else if (w >>> 3) &&& 1 = 1 then if (isg (gl N 3) t) = true then if (w >>> 4) &&& 1 = 1 then if (isg (gl N 4) t) = true then if (w >>> 5) &&& 1 = 1 then if (isg (gl N 5) t) = true then none else some 5 else none else some 4 else if (w >>> 5) &&& 1 = 1 then if (isg (gl N 5) t) = true then none else some 5 else none else some 3 else if (w >>> 4) &&& 1 = 1 then if (isg (gl N 4) t) = true then if (w >>> 5) &&& 1 = 1 then if (isg (gl N 5) t) = true then none else some 5 else none else some 4 else if (w >>> 5) &&& 1 = 1 then if (isg (gl N 5) t) = true then none else some 5 else none else some 1 else if (w >>> 2) &&& 1 = 1 then if (isg (gl N 2) t) = true then if (w >>> 3) &&& 1 = 1 then if (isg (gl N 3) t) = true then if (w >>> 4) &&& 1 = 1 then if (isg (gl N 4) t) = true then if (w >>> 5) &&& 1 = 1 then if (isg (gl N 5) t) = true then none else some 5 else none else some 4 else if (w >>> 5) &&& 1 = 1 then if (isg (gl N 5) t) = true then none else some 5 else none else some 3 else if (w >>> 4) &&& 1 = 1 then if (isg (gl N 4) t) = true then if (w >>> 5) &&& 1 = 1 then if (isg (gl N 5) t) = true then none else some 5 else none else some 4 else if (w >>> 5) &&& 1 = 1 then if (isg (gl N 5) t) = true then none else some 5 else none else some 2 else if (w >>> 3) &&& 1 = 1 then if (isg (gl N 3) t) = true then if (w >>> 4) &&& 1 = 1 then if (isg (gl N 4) t) = true then if (w >>> 5) &&& 1 = 1 then if (isg (gl N 5) t) = true then none else some 5 else none else some 4 else if (w >>> 5) &&& 1 = 1 then if (isg (gl N 5) t) = true then none else some 5 else none else some 3 else if (w >>> 4) &&& 1 = 1 then if (isg (gl N 4) t) = true then if (w >>> 5) &&& 1 = 1 then if (isg (gl N 5) t) = true then none else some 5 else none else some 4 else if (w >>> 5) &&& 1 = 1 then if (isg (gl N 5) t) = true then none else some 5 else none
set_option maxHeartbeats 400000 in
set_option maxRecDepth 100000 in
theorem c_blm {l : Launch} {G : sg_G} {d : Nat} {M : sg_M} {kr : Option Value → sg_M → Prop} {kx : String → sg_M → Prop} (htr : l.stackTraces = false) {ca pb sl so th cx nt : Nat} {N : Nat → Nat → Nat} {go : Nat → Option Nat} {w b : Nat} {t : RQ} (hW : WN N) (hX : M ca = some (1, .inr (9, [.ref pb, .ref sl, .ref so, .ref th, .ref cx, .ref nt]))) (hSo : M so = some (5, .inl (.object RX5, 6, .inr (.inr (.inr (.inr go)))))) (hG : gso G M go N) (hB : pm_r M b t) (hw : w < 65536) (hk : kr (some (.int (md_o (k_blm N w t)))) M) : sg_Met l G yX6_sourceToBlame cX6_sourceToBlame 4 (some .int) (d + 8) 0 0 [.ref ca, .int (nI w), .ref b] M kr kx := by
  refine sg_enter [some (.ref ca), some (.int (nI w)), some (.ref b), none] (by decide) htr (Nat.le_of_ble_eq_true rfl) rfl ?_
  intro X hC hR
  have hC : sg_C X l G cX6_sourceToBlame RX6 4 (d + 8) := hC
  refine sg_iconst (pc := 0) (nI 0) hC dX6_sourceToBlame_0 (by decide) ?_
  refine sg_istore_n (pc := 1) (x := nI 0) hC dX6_sourceToBlame_1 (by decide) ?_
  show sg_W X M 0 0 2 [some (.ref ca), some (.int (nI w)), some (.ref b), some (.int (nI 0))] []
  refine sg_iload_n (pc := 2) (x := nI 0) hC dX6_sourceToBlame_2 rfl ?_
  refine sg_bipush (pc := 3) (nI 6) hC dX6_sourceToBlame_3 (by decide) ?_
  refine sg_icmpN_ge (pc := 5) (a := 0) (b := 6) 38 hC dX6_sourceToBlame_5 (by decide) (by decide) (by decide) (fun h1 => absurd h1 (by decide)) (fun _ => ?_)
  refine sg_iload_n (pc := 8) (x := nI w) hC dX6_sourceToBlame_8 rfl ?_
  refine sg_iload_n (pc := 9) (x := nI 0) hC dX6_sourceToBlame_9 rfl ?_
  refine sg_ishrN (pc := 10) (a := w) (b := 0) hC dX6_sourceToBlame_10 (by first | omega | decide | exact Nat.lt_of_le_of_lt jshr (by omega) | exact Nat.lt_of_le_of_lt jand1 (by decide)) (by first | omega | decide | exact Nat.lt_of_le_of_lt jshr (by omega) | exact Nat.lt_of_le_of_lt jand1 (by decide)) ?_
  show sg_W X M 0 0 11 [some (.ref ca), some (.int (nI w)), some (.ref b), some (.int (nI 0))] [.int (nI w)]
  refine sg_iconst (pc := 11) (nI 1) hC dX6_sourceToBlame_11 (by decide) ?_
  refine sg_iandN (pc := 12) (a := w) (b := 1) hC dX6_sourceToBlame_12 ?_
  refine sg_iconst (pc := 13) (nI 1) hC dX6_sourceToBlame_13 (by decide) ?_
  refine sg_icmpN_ne (pc := 14) (a := w &&& 1) (b := 1) 32 hC dX6_sourceToBlame_14 (by decide) (by first | omega | decide | exact Nat.lt_of_le_of_lt jshr (by omega) | exact Nat.lt_of_le_of_lt jand1 (by decide)) (by first | omega | decide | exact Nat.lt_of_le_of_lt jshr (by omega) | exact Nat.lt_of_le_of_lt jand1 (by decide)) (fun h2 => ?_) (fun h2 => ?_)
  · refine sg_iincN (pc := 32) (a := 0) (b := 1) hC dX6_sourceToBlame_32 rfl (nI_1 _) (by decide) ?_
    show sg_W X M 0 0 35 [some (.ref ca), some (.int (nI w)), some (.ref b), some (.int (nI 1))] []
    refine sg_goto (pc := 35) 2 hC dX6_sourceToBlame_35 (by decide) ?_
    refine sg_iload_n (pc := 2) (x := nI 1) hC dX6_sourceToBlame_2 rfl ?_
    refine sg_bipush (pc := 3) (nI 6) hC dX6_sourceToBlame_3 (by decide) ?_
    refine sg_icmpN_ge (pc := 5) (a := 1) (b := 6) 38 hC dX6_sourceToBlame_5 (by decide) (by decide) (by decide) (fun h3 => absurd h3 (by decide)) (fun _ => ?_)
    refine sg_iload_n (pc := 8) (x := nI w) hC dX6_sourceToBlame_8 rfl ?_
    refine sg_iload_n (pc := 9) (x := nI 1) hC dX6_sourceToBlame_9 rfl ?_
    refine sg_ishrN (pc := 10) (a := w) (b := 1) hC dX6_sourceToBlame_10 (by first | omega | decide | exact Nat.lt_of_le_of_lt jshr (by omega) | exact Nat.lt_of_le_of_lt jand1 (by decide)) (by first | omega | decide | exact Nat.lt_of_le_of_lt jshr (by omega) | exact Nat.lt_of_le_of_lt jand1 (by decide)) ?_
    refine sg_iconst (pc := 11) (nI 1) hC dX6_sourceToBlame_11 (by decide) ?_
    refine sg_iandN (pc := 12) (a := w >>> 1) (b := 1) hC dX6_sourceToBlame_12 ?_
    refine sg_iconst (pc := 13) (nI 1) hC dX6_sourceToBlame_13 (by decide) ?_
    refine sg_icmpN_ne (pc := 14) (a := (w >>> 1) &&& 1) (b := 1) 32 hC dX6_sourceToBlame_14 (by decide) (by first | omega | decide | exact Nat.lt_of_le_of_lt jshr (by omega) | exact Nat.lt_of_le_of_lt jand1 (by decide)) (by first | omega | decide | exact Nat.lt_of_le_of_lt jshr (by omega) | exact Nat.lt_of_le_of_lt jand1 (by decide)) (fun h4 => ?_) (fun h4 => ?_)
    · refine sg_iincN (pc := 32) (a := 1) (b := 2) hC dX6_sourceToBlame_32 rfl (nI_1 _) (by decide) ?_
      show sg_W X M 0 0 35 [some (.ref ca), some (.int (nI w)), some (.ref b), some (.int (nI 2))] []
      refine sg_goto (pc := 35) 2 hC dX6_sourceToBlame_35 (by decide) ?_
      refine sg_iload_n (pc := 2) (x := nI 2) hC dX6_sourceToBlame_2 rfl ?_
      refine sg_bipush (pc := 3) (nI 6) hC dX6_sourceToBlame_3 (by decide) ?_
      refine sg_icmpN_ge (pc := 5) (a := 2) (b := 6) 38 hC dX6_sourceToBlame_5 (by decide) (by decide) (by decide) (fun h5 => absurd h5 (by decide)) (fun _ => ?_)
      refine sg_iload_n (pc := 8) (x := nI w) hC dX6_sourceToBlame_8 rfl ?_
      refine sg_iload_n (pc := 9) (x := nI 2) hC dX6_sourceToBlame_9 rfl ?_
      refine sg_ishrN (pc := 10) (a := w) (b := 2) hC dX6_sourceToBlame_10 (by first | omega | decide | exact Nat.lt_of_le_of_lt jshr (by omega) | exact Nat.lt_of_le_of_lt jand1 (by decide)) (by first | omega | decide | exact Nat.lt_of_le_of_lt jshr (by omega) | exact Nat.lt_of_le_of_lt jand1 (by decide)) ?_
      refine sg_iconst (pc := 11) (nI 1) hC dX6_sourceToBlame_11 (by decide) ?_
      refine sg_iandN (pc := 12) (a := w >>> 2) (b := 1) hC dX6_sourceToBlame_12 ?_
      refine sg_iconst (pc := 13) (nI 1) hC dX6_sourceToBlame_13 (by decide) ?_
      refine sg_icmpN_ne (pc := 14) (a := (w >>> 2) &&& 1) (b := 1) 32 hC dX6_sourceToBlame_14 (by decide) (by first | omega | decide | exact Nat.lt_of_le_of_lt jshr (by omega) | exact Nat.lt_of_le_of_lt jand1 (by decide)) (by first | omega | decide | exact Nat.lt_of_le_of_lt jshr (by omega) | exact Nat.lt_of_le_of_lt jand1 (by decide)) (fun h6 => ?_) (fun h6 => ?_)
      · refine sg_iincN (pc := 32) (a := 2) (b := 3) hC dX6_sourceToBlame_32 rfl (nI_1 _) (by decide) ?_
        show sg_W X M 0 0 35 [some (.ref ca), some (.int (nI w)), some (.ref b), some (.int (nI 3))] []
        refine sg_goto (pc := 35) 2 hC dX6_sourceToBlame_35 (by decide) ?_
        refine sg_iload_n (pc := 2) (x := nI 3) hC dX6_sourceToBlame_2 rfl ?_
        refine sg_bipush (pc := 3) (nI 6) hC dX6_sourceToBlame_3 (by decide) ?_
        refine sg_icmpN_ge (pc := 5) (a := 3) (b := 6) 38 hC dX6_sourceToBlame_5 (by decide) (by decide) (by decide) (fun h7 => absurd h7 (by decide)) (fun _ => ?_)
        refine sg_iload_n (pc := 8) (x := nI w) hC dX6_sourceToBlame_8 rfl ?_
        refine sg_iload_n (pc := 9) (x := nI 3) hC dX6_sourceToBlame_9 rfl ?_
        refine sg_ishrN (pc := 10) (a := w) (b := 3) hC dX6_sourceToBlame_10 (by first | omega | decide | exact Nat.lt_of_le_of_lt jshr (by omega) | exact Nat.lt_of_le_of_lt jand1 (by decide)) (by first | omega | decide | exact Nat.lt_of_le_of_lt jshr (by omega) | exact Nat.lt_of_le_of_lt jand1 (by decide)) ?_
        refine sg_iconst (pc := 11) (nI 1) hC dX6_sourceToBlame_11 (by decide) ?_
        refine sg_iandN (pc := 12) (a := w >>> 3) (b := 1) hC dX6_sourceToBlame_12 ?_
        refine sg_iconst (pc := 13) (nI 1) hC dX6_sourceToBlame_13 (by decide) ?_
        refine sg_icmpN_ne (pc := 14) (a := (w >>> 3) &&& 1) (b := 1) 32 hC dX6_sourceToBlame_14 (by decide) (by first | omega | decide | exact Nat.lt_of_le_of_lt jshr (by omega) | exact Nat.lt_of_le_of_lt jand1 (by decide)) (by first | omega | decide | exact Nat.lt_of_le_of_lt jshr (by omega) | exact Nat.lt_of_le_of_lt jand1 (by decide)) (fun h8 => ?_) (fun h8 => ?_)
        · refine sg_iincN (pc := 32) (a := 3) (b := 4) hC dX6_sourceToBlame_32 rfl (nI_1 _) (by decide) ?_
          show sg_W X M 0 0 35 [some (.ref ca), some (.int (nI w)), some (.ref b), some (.int (nI 4))] []
          refine sg_goto (pc := 35) 2 hC dX6_sourceToBlame_35 (by decide) ?_
          refine sg_iload_n (pc := 2) (x := nI 4) hC dX6_sourceToBlame_2 rfl ?_
          refine sg_bipush (pc := 3) (nI 6) hC dX6_sourceToBlame_3 (by decide) ?_
          refine sg_icmpN_ge (pc := 5) (a := 4) (b := 6) 38 hC dX6_sourceToBlame_5 (by decide) (by decide) (by decide) (fun h9 => absurd h9 (by decide)) (fun _ => ?_)
          refine sg_iload_n (pc := 8) (x := nI w) hC dX6_sourceToBlame_8 rfl ?_
          refine sg_iload_n (pc := 9) (x := nI 4) hC dX6_sourceToBlame_9 rfl ?_
          refine sg_ishrN (pc := 10) (a := w) (b := 4) hC dX6_sourceToBlame_10 (by first | omega | decide | exact Nat.lt_of_le_of_lt jshr (by omega) | exact Nat.lt_of_le_of_lt jand1 (by decide)) (by first | omega | decide | exact Nat.lt_of_le_of_lt jshr (by omega) | exact Nat.lt_of_le_of_lt jand1 (by decide)) ?_
          refine sg_iconst (pc := 11) (nI 1) hC dX6_sourceToBlame_11 (by decide) ?_
          refine sg_iandN (pc := 12) (a := w >>> 4) (b := 1) hC dX6_sourceToBlame_12 ?_
          refine sg_iconst (pc := 13) (nI 1) hC dX6_sourceToBlame_13 (by decide) ?_
          refine sg_icmpN_ne (pc := 14) (a := (w >>> 4) &&& 1) (b := 1) 32 hC dX6_sourceToBlame_14 (by decide) (by first | omega | decide | exact Nat.lt_of_le_of_lt jshr (by omega) | exact Nat.lt_of_le_of_lt jand1 (by decide)) (by first | omega | decide | exact Nat.lt_of_le_of_lt jshr (by omega) | exact Nat.lt_of_le_of_lt jand1 (by decide)) (fun h10 => ?_) (fun h10 => ?_)
          · refine sg_iincN (pc := 32) (a := 4) (b := 5) hC dX6_sourceToBlame_32 rfl (nI_1 _) (by decide) ?_
            show sg_W X M 0 0 35 [some (.ref ca), some (.int (nI w)), some (.ref b), some (.int (nI 5))] []
            refine sg_goto (pc := 35) 2 hC dX6_sourceToBlame_35 (by decide) ?_
            refine sg_iload_n (pc := 2) (x := nI 5) hC dX6_sourceToBlame_2 rfl ?_
            refine sg_bipush (pc := 3) (nI 6) hC dX6_sourceToBlame_3 (by decide) ?_
            refine sg_icmpN_ge (pc := 5) (a := 5) (b := 6) 38 hC dX6_sourceToBlame_5 (by decide) (by decide) (by decide) (fun h11 => absurd h11 (by decide)) (fun _ => ?_)
            refine sg_iload_n (pc := 8) (x := nI w) hC dX6_sourceToBlame_8 rfl ?_
            refine sg_iload_n (pc := 9) (x := nI 5) hC dX6_sourceToBlame_9 rfl ?_
            refine sg_ishrN (pc := 10) (a := w) (b := 5) hC dX6_sourceToBlame_10 (by first | omega | decide | exact Nat.lt_of_le_of_lt jshr (by omega) | exact Nat.lt_of_le_of_lt jand1 (by decide)) (by first | omega | decide | exact Nat.lt_of_le_of_lt jshr (by omega) | exact Nat.lt_of_le_of_lt jand1 (by decide)) ?_
            refine sg_iconst (pc := 11) (nI 1) hC dX6_sourceToBlame_11 (by decide) ?_
            refine sg_iandN (pc := 12) (a := w >>> 5) (b := 1) hC dX6_sourceToBlame_12 ?_
            refine sg_iconst (pc := 13) (nI 1) hC dX6_sourceToBlame_13 (by decide) ?_
            refine sg_icmpN_ne (pc := 14) (a := (w >>> 5) &&& 1) (b := 1) 32 hC dX6_sourceToBlame_14 (by decide) (by first | omega | decide | exact Nat.lt_of_le_of_lt jshr (by omega) | exact Nat.lt_of_le_of_lt jand1 (by decide)) (by first | omega | decide | exact Nat.lt_of_le_of_lt jshr (by omega) | exact Nat.lt_of_le_of_lt jand1 (by decide)) (fun h12 => ?_) (fun h12 => ?_)
            · refine sg_iincN (pc := 32) (a := 5) (b := 6) hC dX6_sourceToBlame_32 rfl (nI_1 _) (by decide) ?_
              show sg_W X M 0 0 35 [some (.ref ca), some (.int (nI w)), some (.ref b), some (.int (nI 6))] []
              refine sg_goto (pc := 35) 2 hC dX6_sourceToBlame_35 (by decide) ?_
              refine sg_iload_n (pc := 2) (x := nI 6) hC dX6_sourceToBlame_2 rfl ?_
              refine sg_bipush (pc := 3) (nI 6) hC dX6_sourceToBlame_3 (by decide) ?_
              refine sg_icmpN_ge (pc := 5) (a := 6) (b := 6) 38 hC dX6_sourceToBlame_5 (by decide) (by decide) (by decide) (fun _ => ?_) (fun h13 => absurd h13 (by decide))
              refine sg_iconst (pc := 38) (((-1))) hC dX6_sourceToBlame_38 (by decide) ?_
              have e9 : k_blm N w t = none := by rw [k_blm]; simp only [if_neg h2, if_neg h4, if_neg h6, if_neg h8, if_neg h10, if_neg h12]
              rw [e9] at hk
              exact sg_ireturn (st := []) (v := md_o none) (pc := 39) hC hR dX6_sourceToBlame_39 hk
            · refine sg_aload_n (pc := 17) (v := .ref ca) hC dX6_sourceToBlame_17 rfl rfl ?_
              refine sg_get (pc := 18) (a := ca) (v := .ref so) 2 hC rfl inw_X6 (by decide) tw_195 dX6_sourceToBlame_18 hX rfl ?_
              refine sg_iload_n (pc := 21) (x := nI 5) hC dX6_sourceToBlame_21 rfl ?_
              refine sg_aald8 (pc := 22) (i := nI 5) hC dX6_sourceToBlame_22 hSo (vp_in_nI (by first | omega | decide | exact Nat.lt_of_le_of_lt jshr (by omega) | exact Nat.lt_of_le_of_lt jand1 (by decide)) (by first | omega | decide | exact Nat.lt_of_le_of_lt jshr (by omega) | exact Nat.lt_of_le_of_lt jand1 (by decide))) ?_
              rw [nI_clamp (by first | omega | decide | exact Nat.lt_of_le_of_lt jshr (by omega) | exact Nat.lt_of_le_of_lt jand1 (by decide))]
              obtain ⟨q14, hq15, hs16⟩ := hG 5 (by omega)
              rw [hq15]
              obtain ⟨la17, f18, hc19, -, -⟩ := id hs16
              show sg_W X M 0 0 23 [some (.ref ca), some (.int (nI w)), some (.ref b), some (.int (nI 5))] [.ref q14]
              refine sg_aload_n (pc := 23) (v := .ref b) hC dX6_sourceToBlame_23 rfl rfl ?_
              refine sg_callV (pc := 24) (As := [.ref b]) (rest := []) (mc := 0) (ms := 0) hC tw_965 tw_966 tw_967 tw_70 tw_968 yd_X5_isGranted (by decide) (ci := 8) rfl dX6_sourceToBlame_24 hc19 rfl (Nat.le_of_ble_eq_true rfl) (by first | omega | decide | exact Nat.lt_of_le_of_lt jshr (by omega) | exact Nat.lt_of_le_of_lt jand1 (by decide)) (by first | omega | decide | exact Nat.lt_of_le_of_lt jshr (by omega) | exact Nat.lt_of_le_of_lt jand1 (by decide)) ?_
              refine c_granted htr hW (by omega) hs16 hB ?_
              show sg_W X M 0 0 27 [some (.ref ca), some (.int (nI w)), some (.ref b), some (.int (nI 5))] [.int (md_b ((isg (gl N 5) t)))]
              refine sg_ifB_ne (pc := 27) (b := (isg (gl N 5) t)) 32 hC dX6_sourceToBlame_27 (by decide) (fun h20 => ?_) (fun h20 => ?_)
              · refine sg_iincN (pc := 32) (a := 5) (b := 6) hC dX6_sourceToBlame_32 rfl (nI_1 _) (by decide) ?_
                show sg_W X M 0 0 35 [some (.ref ca), some (.int (nI w)), some (.ref b), some (.int (nI 6))] []
                refine sg_goto (pc := 35) 2 hC dX6_sourceToBlame_35 (by decide) ?_
                refine sg_iload_n (pc := 2) (x := nI 6) hC dX6_sourceToBlame_2 rfl ?_
                refine sg_bipush (pc := 3) (nI 6) hC dX6_sourceToBlame_3 (by decide) ?_
                refine sg_icmpN_ge (pc := 5) (a := 6) (b := 6) 38 hC dX6_sourceToBlame_5 (by decide) (by decide) (by decide) (fun _ => ?_) (fun h21 => absurd h21 (by decide))
                refine sg_iconst (pc := 38) (((-1))) hC dX6_sourceToBlame_38 (by decide) ?_
                have e9 : k_blm N w t = none := by rw [k_blm]; simp only [if_neg h2, if_neg h4, if_neg h6, if_neg h8, if_neg h10, if_pos h12, if_pos h20]
                rw [e9] at hk
                exact sg_ireturn (st := []) (v := md_o none) (pc := 39) hC hR dX6_sourceToBlame_39 hk
              · refine sg_iload_n (pc := 30) (x := nI 5) hC dX6_sourceToBlame_30 rfl ?_
                have e9 : k_blm N w t = some 5 := by rw [k_blm]; simp only [if_neg h2, if_neg h4, if_neg h6, if_neg h8, if_neg h10, if_pos h12, if_neg (ts9 h20)]
                rw [e9] at hk
                exact sg_ireturn (st := []) (v := md_o (some 5)) (pc := 31) hC hR dX6_sourceToBlame_31 hk
          · refine sg_aload_n (pc := 17) (v := .ref ca) hC dX6_sourceToBlame_17 rfl rfl ?_
            refine sg_get (pc := 18) (a := ca) (v := .ref so) 2 hC rfl inw_X6 (by decide) tw_195 dX6_sourceToBlame_18 hX rfl ?_
            refine sg_iload_n (pc := 21) (x := nI 4) hC dX6_sourceToBlame_21 rfl ?_
            refine sg_aald8 (pc := 22) (i := nI 4) hC dX6_sourceToBlame_22 hSo (vp_in_nI (by first | omega | decide | exact Nat.lt_of_le_of_lt jshr (by omega) | exact Nat.lt_of_le_of_lt jand1 (by decide)) (by first | omega | decide | exact Nat.lt_of_le_of_lt jshr (by omega) | exact Nat.lt_of_le_of_lt jand1 (by decide))) ?_
            rw [nI_clamp (by first | omega | decide | exact Nat.lt_of_le_of_lt jshr (by omega) | exact Nat.lt_of_le_of_lt jand1 (by decide))]
            obtain ⟨q22, hq23, hs24⟩ := hG 4 (by omega)
            rw [hq23]
            obtain ⟨la25, f26, hc27, -, -⟩ := id hs24
            show sg_W X M 0 0 23 [some (.ref ca), some (.int (nI w)), some (.ref b), some (.int (nI 4))] [.ref q22]
            refine sg_aload_n (pc := 23) (v := .ref b) hC dX6_sourceToBlame_23 rfl rfl ?_
            refine sg_callV (pc := 24) (As := [.ref b]) (rest := []) (mc := 0) (ms := 0) hC tw_965 tw_966 tw_967 tw_70 tw_968 yd_X5_isGranted (by decide) (ci := 8) rfl dX6_sourceToBlame_24 hc27 rfl (Nat.le_of_ble_eq_true rfl) (by first | omega | decide | exact Nat.lt_of_le_of_lt jshr (by omega) | exact Nat.lt_of_le_of_lt jand1 (by decide)) (by first | omega | decide | exact Nat.lt_of_le_of_lt jshr (by omega) | exact Nat.lt_of_le_of_lt jand1 (by decide)) ?_
            refine c_granted htr hW (by omega) hs24 hB ?_
            show sg_W X M 0 0 27 [some (.ref ca), some (.int (nI w)), some (.ref b), some (.int (nI 4))] [.int (md_b ((isg (gl N 4) t)))]
            refine sg_ifB_ne (pc := 27) (b := (isg (gl N 4) t)) 32 hC dX6_sourceToBlame_27 (by decide) (fun h28 => ?_) (fun h28 => ?_)
            · refine sg_iincN (pc := 32) (a := 4) (b := 5) hC dX6_sourceToBlame_32 rfl (nI_1 _) (by decide) ?_
              show sg_W X M 0 0 35 [some (.ref ca), some (.int (nI w)), some (.ref b), some (.int (nI 5))] []
              refine sg_goto (pc := 35) 2 hC dX6_sourceToBlame_35 (by decide) ?_
              refine sg_iload_n (pc := 2) (x := nI 5) hC dX6_sourceToBlame_2 rfl ?_
              refine sg_bipush (pc := 3) (nI 6) hC dX6_sourceToBlame_3 (by decide) ?_
              refine sg_icmpN_ge (pc := 5) (a := 5) (b := 6) 38 hC dX6_sourceToBlame_5 (by decide) (by decide) (by decide) (fun h29 => absurd h29 (by decide)) (fun _ => ?_)
              refine sg_iload_n (pc := 8) (x := nI w) hC dX6_sourceToBlame_8 rfl ?_
              refine sg_iload_n (pc := 9) (x := nI 5) hC dX6_sourceToBlame_9 rfl ?_
              refine sg_ishrN (pc := 10) (a := w) (b := 5) hC dX6_sourceToBlame_10 (by first | omega | decide | exact Nat.lt_of_le_of_lt jshr (by omega) | exact Nat.lt_of_le_of_lt jand1 (by decide)) (by first | omega | decide | exact Nat.lt_of_le_of_lt jshr (by omega) | exact Nat.lt_of_le_of_lt jand1 (by decide)) ?_
              refine sg_iconst (pc := 11) (nI 1) hC dX6_sourceToBlame_11 (by decide) ?_
              refine sg_iandN (pc := 12) (a := w >>> 5) (b := 1) hC dX6_sourceToBlame_12 ?_
              refine sg_iconst (pc := 13) (nI 1) hC dX6_sourceToBlame_13 (by decide) ?_
              refine sg_icmpN_ne (pc := 14) (a := (w >>> 5) &&& 1) (b := 1) 32 hC dX6_sourceToBlame_14 (by decide) (by first | omega | decide | exact Nat.lt_of_le_of_lt jshr (by omega) | exact Nat.lt_of_le_of_lt jand1 (by decide)) (by first | omega | decide | exact Nat.lt_of_le_of_lt jshr (by omega) | exact Nat.lt_of_le_of_lt jand1 (by decide)) (fun h30 => ?_) (fun h30 => ?_)
              · refine sg_iincN (pc := 32) (a := 5) (b := 6) hC dX6_sourceToBlame_32 rfl (nI_1 _) (by decide) ?_
                show sg_W X M 0 0 35 [some (.ref ca), some (.int (nI w)), some (.ref b), some (.int (nI 6))] []
                refine sg_goto (pc := 35) 2 hC dX6_sourceToBlame_35 (by decide) ?_
                refine sg_iload_n (pc := 2) (x := nI 6) hC dX6_sourceToBlame_2 rfl ?_
                refine sg_bipush (pc := 3) (nI 6) hC dX6_sourceToBlame_3 (by decide) ?_
                refine sg_icmpN_ge (pc := 5) (a := 6) (b := 6) 38 hC dX6_sourceToBlame_5 (by decide) (by decide) (by decide) (fun _ => ?_) (fun h31 => absurd h31 (by decide))
                refine sg_iconst (pc := 38) (((-1))) hC dX6_sourceToBlame_38 (by decide) ?_
                have e9 : k_blm N w t = none := by rw [k_blm]; simp only [if_neg h2, if_neg h4, if_neg h6, if_neg h8, if_pos h10, if_pos h28, if_neg h30]
                rw [e9] at hk
                exact sg_ireturn (st := []) (v := md_o none) (pc := 39) hC hR dX6_sourceToBlame_39 hk
              · refine sg_aload_n (pc := 17) (v := .ref ca) hC dX6_sourceToBlame_17 rfl rfl ?_
                refine sg_get (pc := 18) (a := ca) (v := .ref so) 2 hC rfl inw_X6 (by decide) tw_195 dX6_sourceToBlame_18 hX rfl ?_
                refine sg_iload_n (pc := 21) (x := nI 5) hC dX6_sourceToBlame_21 rfl ?_
                refine sg_aald8 (pc := 22) (i := nI 5) hC dX6_sourceToBlame_22 hSo (vp_in_nI (by first | omega | decide | exact Nat.lt_of_le_of_lt jshr (by omega) | exact Nat.lt_of_le_of_lt jand1 (by decide)) (by first | omega | decide | exact Nat.lt_of_le_of_lt jshr (by omega) | exact Nat.lt_of_le_of_lt jand1 (by decide))) ?_
                rw [nI_clamp (by first | omega | decide | exact Nat.lt_of_le_of_lt jshr (by omega) | exact Nat.lt_of_le_of_lt jand1 (by decide))]
                obtain ⟨q32, hq33, hs34⟩ := hG 5 (by omega)
                rw [hq33]
                obtain ⟨la35, f36, hc37, -, -⟩ := id hs34
                show sg_W X M 0 0 23 [some (.ref ca), some (.int (nI w)), some (.ref b), some (.int (nI 5))] [.ref q32]
                refine sg_aload_n (pc := 23) (v := .ref b) hC dX6_sourceToBlame_23 rfl rfl ?_
                refine sg_callV (pc := 24) (As := [.ref b]) (rest := []) (mc := 0) (ms := 0) hC tw_965 tw_966 tw_967 tw_70 tw_968 yd_X5_isGranted (by decide) (ci := 8) rfl dX6_sourceToBlame_24 hc37 rfl (Nat.le_of_ble_eq_true rfl) (by first | omega | decide | exact Nat.lt_of_le_of_lt jshr (by omega) | exact Nat.lt_of_le_of_lt jand1 (by decide)) (by first | omega | decide | exact Nat.lt_of_le_of_lt jshr (by omega) | exact Nat.lt_of_le_of_lt jand1 (by decide)) ?_
                refine c_granted htr hW (by omega) hs34 hB ?_
                show sg_W X M 0 0 27 [some (.ref ca), some (.int (nI w)), some (.ref b), some (.int (nI 5))] [.int (md_b ((isg (gl N 5) t)))]
                refine sg_ifB_ne (pc := 27) (b := (isg (gl N 5) t)) 32 hC dX6_sourceToBlame_27 (by decide) (fun h38 => ?_) (fun h38 => ?_)
                · refine sg_iincN (pc := 32) (a := 5) (b := 6) hC dX6_sourceToBlame_32 rfl (nI_1 _) (by decide) ?_
                  show sg_W X M 0 0 35 [some (.ref ca), some (.int (nI w)), some (.ref b), some (.int (nI 6))] []
                  refine sg_goto (pc := 35) 2 hC dX6_sourceToBlame_35 (by decide) ?_
                  refine sg_iload_n (pc := 2) (x := nI 6) hC dX6_sourceToBlame_2 rfl ?_
                  refine sg_bipush (pc := 3) (nI 6) hC dX6_sourceToBlame_3 (by decide) ?_
                  refine sg_icmpN_ge (pc := 5) (a := 6) (b := 6) 38 hC dX6_sourceToBlame_5 (by decide) (by decide) (by decide) (fun _ => ?_) (fun h39 => absurd h39 (by decide))
                  refine sg_iconst (pc := 38) (((-1))) hC dX6_sourceToBlame_38 (by decide) ?_
                  have e9 : k_blm N w t = none := by rw [k_blm]; simp only [if_neg h2, if_neg h4, if_neg h6, if_neg h8, if_pos h10, if_pos h28, if_pos h30, if_pos h38]
                  rw [e9] at hk
                  exact sg_ireturn (st := []) (v := md_o none) (pc := 39) hC hR dX6_sourceToBlame_39 hk
                · refine sg_iload_n (pc := 30) (x := nI 5) hC dX6_sourceToBlame_30 rfl ?_
                  have e9 : k_blm N w t = some 5 := by rw [k_blm]; simp only [if_neg h2, if_neg h4, if_neg h6, if_neg h8, if_pos h10, if_pos h28, if_pos h30, if_neg (ts9 h38)]
                  rw [e9] at hk
                  exact sg_ireturn (st := []) (v := md_o (some 5)) (pc := 31) hC hR dX6_sourceToBlame_31 hk
            · refine sg_iload_n (pc := 30) (x := nI 4) hC dX6_sourceToBlame_30 rfl ?_
              have e9 : k_blm N w t = some 4 := by rw [k_blm]; simp only [if_neg h2, if_neg h4, if_neg h6, if_neg h8, if_pos h10, if_neg (ts9 h28)]
              rw [e9] at hk
              exact sg_ireturn (st := []) (v := md_o (some 4)) (pc := 31) hC hR dX6_sourceToBlame_31 hk
        · refine sg_aload_n (pc := 17) (v := .ref ca) hC dX6_sourceToBlame_17 rfl rfl ?_
          refine sg_get (pc := 18) (a := ca) (v := .ref so) 2 hC rfl inw_X6 (by decide) tw_195 dX6_sourceToBlame_18 hX rfl ?_
          refine sg_iload_n (pc := 21) (x := nI 3) hC dX6_sourceToBlame_21 rfl ?_
          refine sg_aald8 (pc := 22) (i := nI 3) hC dX6_sourceToBlame_22 hSo (vp_in_nI (by first | omega | decide | exact Nat.lt_of_le_of_lt jshr (by omega) | exact Nat.lt_of_le_of_lt jand1 (by decide)) (by first | omega | decide | exact Nat.lt_of_le_of_lt jshr (by omega) | exact Nat.lt_of_le_of_lt jand1 (by decide))) ?_
          rw [nI_clamp (by first | omega | decide | exact Nat.lt_of_le_of_lt jshr (by omega) | exact Nat.lt_of_le_of_lt jand1 (by decide))]
          obtain ⟨q40, hq41, hs42⟩ := hG 3 (by omega)
          rw [hq41]
          obtain ⟨la43, f44, hc45, -, -⟩ := id hs42
          show sg_W X M 0 0 23 [some (.ref ca), some (.int (nI w)), some (.ref b), some (.int (nI 3))] [.ref q40]
          refine sg_aload_n (pc := 23) (v := .ref b) hC dX6_sourceToBlame_23 rfl rfl ?_
          refine sg_callV (pc := 24) (As := [.ref b]) (rest := []) (mc := 0) (ms := 0) hC tw_965 tw_966 tw_967 tw_70 tw_968 yd_X5_isGranted (by decide) (ci := 8) rfl dX6_sourceToBlame_24 hc45 rfl (Nat.le_of_ble_eq_true rfl) (by first | omega | decide | exact Nat.lt_of_le_of_lt jshr (by omega) | exact Nat.lt_of_le_of_lt jand1 (by decide)) (by first | omega | decide | exact Nat.lt_of_le_of_lt jshr (by omega) | exact Nat.lt_of_le_of_lt jand1 (by decide)) ?_
          refine c_granted htr hW (by omega) hs42 hB ?_
          show sg_W X M 0 0 27 [some (.ref ca), some (.int (nI w)), some (.ref b), some (.int (nI 3))] [.int (md_b ((isg (gl N 3) t)))]
          refine sg_ifB_ne (pc := 27) (b := (isg (gl N 3) t)) 32 hC dX6_sourceToBlame_27 (by decide) (fun h46 => ?_) (fun h46 => ?_)
          · refine sg_iincN (pc := 32) (a := 3) (b := 4) hC dX6_sourceToBlame_32 rfl (nI_1 _) (by decide) ?_
            show sg_W X M 0 0 35 [some (.ref ca), some (.int (nI w)), some (.ref b), some (.int (nI 4))] []
            refine sg_goto (pc := 35) 2 hC dX6_sourceToBlame_35 (by decide) ?_
            refine sg_iload_n (pc := 2) (x := nI 4) hC dX6_sourceToBlame_2 rfl ?_
            refine sg_bipush (pc := 3) (nI 6) hC dX6_sourceToBlame_3 (by decide) ?_
            refine sg_icmpN_ge (pc := 5) (a := 4) (b := 6) 38 hC dX6_sourceToBlame_5 (by decide) (by decide) (by decide) (fun h47 => absurd h47 (by decide)) (fun _ => ?_)
            refine sg_iload_n (pc := 8) (x := nI w) hC dX6_sourceToBlame_8 rfl ?_
            refine sg_iload_n (pc := 9) (x := nI 4) hC dX6_sourceToBlame_9 rfl ?_
            refine sg_ishrN (pc := 10) (a := w) (b := 4) hC dX6_sourceToBlame_10 (by first | omega | decide | exact Nat.lt_of_le_of_lt jshr (by omega) | exact Nat.lt_of_le_of_lt jand1 (by decide)) (by first | omega | decide | exact Nat.lt_of_le_of_lt jshr (by omega) | exact Nat.lt_of_le_of_lt jand1 (by decide)) ?_
            refine sg_iconst (pc := 11) (nI 1) hC dX6_sourceToBlame_11 (by decide) ?_
            refine sg_iandN (pc := 12) (a := w >>> 4) (b := 1) hC dX6_sourceToBlame_12 ?_
            refine sg_iconst (pc := 13) (nI 1) hC dX6_sourceToBlame_13 (by decide) ?_
            refine sg_icmpN_ne (pc := 14) (a := (w >>> 4) &&& 1) (b := 1) 32 hC dX6_sourceToBlame_14 (by decide) (by first | omega | decide | exact Nat.lt_of_le_of_lt jshr (by omega) | exact Nat.lt_of_le_of_lt jand1 (by decide)) (by first | omega | decide | exact Nat.lt_of_le_of_lt jshr (by omega) | exact Nat.lt_of_le_of_lt jand1 (by decide)) (fun h48 => ?_) (fun h48 => ?_)
            · refine sg_iincN (pc := 32) (a := 4) (b := 5) hC dX6_sourceToBlame_32 rfl (nI_1 _) (by decide) ?_
              show sg_W X M 0 0 35 [some (.ref ca), some (.int (nI w)), some (.ref b), some (.int (nI 5))] []
              refine sg_goto (pc := 35) 2 hC dX6_sourceToBlame_35 (by decide) ?_
              refine sg_iload_n (pc := 2) (x := nI 5) hC dX6_sourceToBlame_2 rfl ?_
              refine sg_bipush (pc := 3) (nI 6) hC dX6_sourceToBlame_3 (by decide) ?_
              refine sg_icmpN_ge (pc := 5) (a := 5) (b := 6) 38 hC dX6_sourceToBlame_5 (by decide) (by decide) (by decide) (fun h49 => absurd h49 (by decide)) (fun _ => ?_)
              refine sg_iload_n (pc := 8) (x := nI w) hC dX6_sourceToBlame_8 rfl ?_
              refine sg_iload_n (pc := 9) (x := nI 5) hC dX6_sourceToBlame_9 rfl ?_
              refine sg_ishrN (pc := 10) (a := w) (b := 5) hC dX6_sourceToBlame_10 (by first | omega | decide | exact Nat.lt_of_le_of_lt jshr (by omega) | exact Nat.lt_of_le_of_lt jand1 (by decide)) (by first | omega | decide | exact Nat.lt_of_le_of_lt jshr (by omega) | exact Nat.lt_of_le_of_lt jand1 (by decide)) ?_
              refine sg_iconst (pc := 11) (nI 1) hC dX6_sourceToBlame_11 (by decide) ?_
              refine sg_iandN (pc := 12) (a := w >>> 5) (b := 1) hC dX6_sourceToBlame_12 ?_
              refine sg_iconst (pc := 13) (nI 1) hC dX6_sourceToBlame_13 (by decide) ?_
              refine sg_icmpN_ne (pc := 14) (a := (w >>> 5) &&& 1) (b := 1) 32 hC dX6_sourceToBlame_14 (by decide) (by first | omega | decide | exact Nat.lt_of_le_of_lt jshr (by omega) | exact Nat.lt_of_le_of_lt jand1 (by decide)) (by first | omega | decide | exact Nat.lt_of_le_of_lt jshr (by omega) | exact Nat.lt_of_le_of_lt jand1 (by decide)) (fun h50 => ?_) (fun h50 => ?_)
              · refine sg_iincN (pc := 32) (a := 5) (b := 6) hC dX6_sourceToBlame_32 rfl (nI_1 _) (by decide) ?_
                show sg_W X M 0 0 35 [some (.ref ca), some (.int (nI w)), some (.ref b), some (.int (nI 6))] []
                refine sg_goto (pc := 35) 2 hC dX6_sourceToBlame_35 (by decide) ?_
                refine sg_iload_n (pc := 2) (x := nI 6) hC dX6_sourceToBlame_2 rfl ?_
                refine sg_bipush (pc := 3) (nI 6) hC dX6_sourceToBlame_3 (by decide) ?_
                refine sg_icmpN_ge (pc := 5) (a := 6) (b := 6) 38 hC dX6_sourceToBlame_5 (by decide) (by decide) (by decide) (fun _ => ?_) (fun h51 => absurd h51 (by decide))
                refine sg_iconst (pc := 38) (((-1))) hC dX6_sourceToBlame_38 (by decide) ?_
                have e9 : k_blm N w t = none := by rw [k_blm]; simp only [if_neg h2, if_neg h4, if_neg h6, if_pos h8, if_pos h46, if_neg h48, if_neg h50]
                rw [e9] at hk
                exact sg_ireturn (st := []) (v := md_o none) (pc := 39) hC hR dX6_sourceToBlame_39 hk
              · refine sg_aload_n (pc := 17) (v := .ref ca) hC dX6_sourceToBlame_17 rfl rfl ?_
                refine sg_get (pc := 18) (a := ca) (v := .ref so) 2 hC rfl inw_X6 (by decide) tw_195 dX6_sourceToBlame_18 hX rfl ?_
                refine sg_iload_n (pc := 21) (x := nI 5) hC dX6_sourceToBlame_21 rfl ?_
                refine sg_aald8 (pc := 22) (i := nI 5) hC dX6_sourceToBlame_22 hSo (vp_in_nI (by first | omega | decide | exact Nat.lt_of_le_of_lt jshr (by omega) | exact Nat.lt_of_le_of_lt jand1 (by decide)) (by first | omega | decide | exact Nat.lt_of_le_of_lt jshr (by omega) | exact Nat.lt_of_le_of_lt jand1 (by decide))) ?_
                rw [nI_clamp (by first | omega | decide | exact Nat.lt_of_le_of_lt jshr (by omega) | exact Nat.lt_of_le_of_lt jand1 (by decide))]
                obtain ⟨q52, hq53, hs54⟩ := hG 5 (by omega)
                rw [hq53]
                obtain ⟨la55, f56, hc57, -, -⟩ := id hs54
                show sg_W X M 0 0 23 [some (.ref ca), some (.int (nI w)), some (.ref b), some (.int (nI 5))] [.ref q52]
                refine sg_aload_n (pc := 23) (v := .ref b) hC dX6_sourceToBlame_23 rfl rfl ?_
                refine sg_callV (pc := 24) (As := [.ref b]) (rest := []) (mc := 0) (ms := 0) hC tw_965 tw_966 tw_967 tw_70 tw_968 yd_X5_isGranted (by decide) (ci := 8) rfl dX6_sourceToBlame_24 hc57 rfl (Nat.le_of_ble_eq_true rfl) (by first | omega | decide | exact Nat.lt_of_le_of_lt jshr (by omega) | exact Nat.lt_of_le_of_lt jand1 (by decide)) (by first | omega | decide | exact Nat.lt_of_le_of_lt jshr (by omega) | exact Nat.lt_of_le_of_lt jand1 (by decide)) ?_
                refine c_granted htr hW (by omega) hs54 hB ?_
                show sg_W X M 0 0 27 [some (.ref ca), some (.int (nI w)), some (.ref b), some (.int (nI 5))] [.int (md_b ((isg (gl N 5) t)))]
                refine sg_ifB_ne (pc := 27) (b := (isg (gl N 5) t)) 32 hC dX6_sourceToBlame_27 (by decide) (fun h58 => ?_) (fun h58 => ?_)
                · refine sg_iincN (pc := 32) (a := 5) (b := 6) hC dX6_sourceToBlame_32 rfl (nI_1 _) (by decide) ?_
                  show sg_W X M 0 0 35 [some (.ref ca), some (.int (nI w)), some (.ref b), some (.int (nI 6))] []
                  refine sg_goto (pc := 35) 2 hC dX6_sourceToBlame_35 (by decide) ?_
                  refine sg_iload_n (pc := 2) (x := nI 6) hC dX6_sourceToBlame_2 rfl ?_
                  refine sg_bipush (pc := 3) (nI 6) hC dX6_sourceToBlame_3 (by decide) ?_
                  refine sg_icmpN_ge (pc := 5) (a := 6) (b := 6) 38 hC dX6_sourceToBlame_5 (by decide) (by decide) (by decide) (fun _ => ?_) (fun h59 => absurd h59 (by decide))
                  refine sg_iconst (pc := 38) (((-1))) hC dX6_sourceToBlame_38 (by decide) ?_
                  have e9 : k_blm N w t = none := by rw [k_blm]; simp only [if_neg h2, if_neg h4, if_neg h6, if_pos h8, if_pos h46, if_neg h48, if_pos h50, if_pos h58]
                  rw [e9] at hk
                  exact sg_ireturn (st := []) (v := md_o none) (pc := 39) hC hR dX6_sourceToBlame_39 hk
                · refine sg_iload_n (pc := 30) (x := nI 5) hC dX6_sourceToBlame_30 rfl ?_
                  have e9 : k_blm N w t = some 5 := by rw [k_blm]; simp only [if_neg h2, if_neg h4, if_neg h6, if_pos h8, if_pos h46, if_neg h48, if_pos h50, if_neg (ts9 h58)]
                  rw [e9] at hk
                  exact sg_ireturn (st := []) (v := md_o (some 5)) (pc := 31) hC hR dX6_sourceToBlame_31 hk
            · refine sg_aload_n (pc := 17) (v := .ref ca) hC dX6_sourceToBlame_17 rfl rfl ?_
              refine sg_get (pc := 18) (a := ca) (v := .ref so) 2 hC rfl inw_X6 (by decide) tw_195 dX6_sourceToBlame_18 hX rfl ?_
              refine sg_iload_n (pc := 21) (x := nI 4) hC dX6_sourceToBlame_21 rfl ?_
              refine sg_aald8 (pc := 22) (i := nI 4) hC dX6_sourceToBlame_22 hSo (vp_in_nI (by first | omega | decide | exact Nat.lt_of_le_of_lt jshr (by omega) | exact Nat.lt_of_le_of_lt jand1 (by decide)) (by first | omega | decide | exact Nat.lt_of_le_of_lt jshr (by omega) | exact Nat.lt_of_le_of_lt jand1 (by decide))) ?_
              rw [nI_clamp (by first | omega | decide | exact Nat.lt_of_le_of_lt jshr (by omega) | exact Nat.lt_of_le_of_lt jand1 (by decide))]
              obtain ⟨q60, hq61, hs62⟩ := hG 4 (by omega)
              rw [hq61]
              obtain ⟨la63, f64, hc65, -, -⟩ := id hs62
              show sg_W X M 0 0 23 [some (.ref ca), some (.int (nI w)), some (.ref b), some (.int (nI 4))] [.ref q60]
              refine sg_aload_n (pc := 23) (v := .ref b) hC dX6_sourceToBlame_23 rfl rfl ?_
              refine sg_callV (pc := 24) (As := [.ref b]) (rest := []) (mc := 0) (ms := 0) hC tw_965 tw_966 tw_967 tw_70 tw_968 yd_X5_isGranted (by decide) (ci := 8) rfl dX6_sourceToBlame_24 hc65 rfl (Nat.le_of_ble_eq_true rfl) (by first | omega | decide | exact Nat.lt_of_le_of_lt jshr (by omega) | exact Nat.lt_of_le_of_lt jand1 (by decide)) (by first | omega | decide | exact Nat.lt_of_le_of_lt jshr (by omega) | exact Nat.lt_of_le_of_lt jand1 (by decide)) ?_
              refine c_granted htr hW (by omega) hs62 hB ?_
              show sg_W X M 0 0 27 [some (.ref ca), some (.int (nI w)), some (.ref b), some (.int (nI 4))] [.int (md_b ((isg (gl N 4) t)))]
              refine sg_ifB_ne (pc := 27) (b := (isg (gl N 4) t)) 32 hC dX6_sourceToBlame_27 (by decide) (fun h66 => ?_) (fun h66 => ?_)
              · refine sg_iincN (pc := 32) (a := 4) (b := 5) hC dX6_sourceToBlame_32 rfl (nI_1 _) (by decide) ?_
                show sg_W X M 0 0 35 [some (.ref ca), some (.int (nI w)), some (.ref b), some (.int (nI 5))] []
                refine sg_goto (pc := 35) 2 hC dX6_sourceToBlame_35 (by decide) ?_
                refine sg_iload_n (pc := 2) (x := nI 5) hC dX6_sourceToBlame_2 rfl ?_
                refine sg_bipush (pc := 3) (nI 6) hC dX6_sourceToBlame_3 (by decide) ?_
                refine sg_icmpN_ge (pc := 5) (a := 5) (b := 6) 38 hC dX6_sourceToBlame_5 (by decide) (by decide) (by decide) (fun h67 => absurd h67 (by decide)) (fun _ => ?_)
                refine sg_iload_n (pc := 8) (x := nI w) hC dX6_sourceToBlame_8 rfl ?_
                refine sg_iload_n (pc := 9) (x := nI 5) hC dX6_sourceToBlame_9 rfl ?_
                refine sg_ishrN (pc := 10) (a := w) (b := 5) hC dX6_sourceToBlame_10 (by first | omega | decide | exact Nat.lt_of_le_of_lt jshr (by omega) | exact Nat.lt_of_le_of_lt jand1 (by decide)) (by first | omega | decide | exact Nat.lt_of_le_of_lt jshr (by omega) | exact Nat.lt_of_le_of_lt jand1 (by decide)) ?_
                refine sg_iconst (pc := 11) (nI 1) hC dX6_sourceToBlame_11 (by decide) ?_
                refine sg_iandN (pc := 12) (a := w >>> 5) (b := 1) hC dX6_sourceToBlame_12 ?_
                refine sg_iconst (pc := 13) (nI 1) hC dX6_sourceToBlame_13 (by decide) ?_
                refine sg_icmpN_ne (pc := 14) (a := (w >>> 5) &&& 1) (b := 1) 32 hC dX6_sourceToBlame_14 (by decide) (by first | omega | decide | exact Nat.lt_of_le_of_lt jshr (by omega) | exact Nat.lt_of_le_of_lt jand1 (by decide)) (by first | omega | decide | exact Nat.lt_of_le_of_lt jshr (by omega) | exact Nat.lt_of_le_of_lt jand1 (by decide)) (fun h68 => ?_) (fun h68 => ?_)
                · refine sg_iincN (pc := 32) (a := 5) (b := 6) hC dX6_sourceToBlame_32 rfl (nI_1 _) (by decide) ?_
                  show sg_W X M 0 0 35 [some (.ref ca), some (.int (nI w)), some (.ref b), some (.int (nI 6))] []
                  refine sg_goto (pc := 35) 2 hC dX6_sourceToBlame_35 (by decide) ?_
                  refine sg_iload_n (pc := 2) (x := nI 6) hC dX6_sourceToBlame_2 rfl ?_
                  refine sg_bipush (pc := 3) (nI 6) hC dX6_sourceToBlame_3 (by decide) ?_
                  refine sg_icmpN_ge (pc := 5) (a := 6) (b := 6) 38 hC dX6_sourceToBlame_5 (by decide) (by decide) (by decide) (fun _ => ?_) (fun h69 => absurd h69 (by decide))
                  refine sg_iconst (pc := 38) (((-1))) hC dX6_sourceToBlame_38 (by decide) ?_
                  have e9 : k_blm N w t = none := by rw [k_blm]; simp only [if_neg h2, if_neg h4, if_neg h6, if_pos h8, if_pos h46, if_pos h48, if_pos h66, if_neg h68]
                  rw [e9] at hk
                  exact sg_ireturn (st := []) (v := md_o none) (pc := 39) hC hR dX6_sourceToBlame_39 hk
                · refine sg_aload_n (pc := 17) (v := .ref ca) hC dX6_sourceToBlame_17 rfl rfl ?_
                  refine sg_get (pc := 18) (a := ca) (v := .ref so) 2 hC rfl inw_X6 (by decide) tw_195 dX6_sourceToBlame_18 hX rfl ?_
                  refine sg_iload_n (pc := 21) (x := nI 5) hC dX6_sourceToBlame_21 rfl ?_
                  refine sg_aald8 (pc := 22) (i := nI 5) hC dX6_sourceToBlame_22 hSo (vp_in_nI (by first | omega | decide | exact Nat.lt_of_le_of_lt jshr (by omega) | exact Nat.lt_of_le_of_lt jand1 (by decide)) (by first | omega | decide | exact Nat.lt_of_le_of_lt jshr (by omega) | exact Nat.lt_of_le_of_lt jand1 (by decide))) ?_
                  rw [nI_clamp (by first | omega | decide | exact Nat.lt_of_le_of_lt jshr (by omega) | exact Nat.lt_of_le_of_lt jand1 (by decide))]
                  obtain ⟨q70, hq71, hs72⟩ := hG 5 (by omega)
                  rw [hq71]
                  obtain ⟨la73, f74, hc75, -, -⟩ := id hs72
                  show sg_W X M 0 0 23 [some (.ref ca), some (.int (nI w)), some (.ref b), some (.int (nI 5))] [.ref q70]
                  refine sg_aload_n (pc := 23) (v := .ref b) hC dX6_sourceToBlame_23 rfl rfl ?_
                  refine sg_callV (pc := 24) (As := [.ref b]) (rest := []) (mc := 0) (ms := 0) hC tw_965 tw_966 tw_967 tw_70 tw_968 yd_X5_isGranted (by decide) (ci := 8) rfl dX6_sourceToBlame_24 hc75 rfl (Nat.le_of_ble_eq_true rfl) (by first | omega | decide | exact Nat.lt_of_le_of_lt jshr (by omega) | exact Nat.lt_of_le_of_lt jand1 (by decide)) (by first | omega | decide | exact Nat.lt_of_le_of_lt jshr (by omega) | exact Nat.lt_of_le_of_lt jand1 (by decide)) ?_
                  refine c_granted htr hW (by omega) hs72 hB ?_
                  show sg_W X M 0 0 27 [some (.ref ca), some (.int (nI w)), some (.ref b), some (.int (nI 5))] [.int (md_b ((isg (gl N 5) t)))]
                  refine sg_ifB_ne (pc := 27) (b := (isg (gl N 5) t)) 32 hC dX6_sourceToBlame_27 (by decide) (fun h76 => ?_) (fun h76 => ?_)
                  · refine sg_iincN (pc := 32) (a := 5) (b := 6) hC dX6_sourceToBlame_32 rfl (nI_1 _) (by decide) ?_
                    show sg_W X M 0 0 35 [some (.ref ca), some (.int (nI w)), some (.ref b), some (.int (nI 6))] []
                    refine sg_goto (pc := 35) 2 hC dX6_sourceToBlame_35 (by decide) ?_
                    refine sg_iload_n (pc := 2) (x := nI 6) hC dX6_sourceToBlame_2 rfl ?_
                    refine sg_bipush (pc := 3) (nI 6) hC dX6_sourceToBlame_3 (by decide) ?_
                    refine sg_icmpN_ge (pc := 5) (a := 6) (b := 6) 38 hC dX6_sourceToBlame_5 (by decide) (by decide) (by decide) (fun _ => ?_) (fun h77 => absurd h77 (by decide))
                    refine sg_iconst (pc := 38) (((-1))) hC dX6_sourceToBlame_38 (by decide) ?_
                    have e9 : k_blm N w t = none := by rw [k_blm]; simp only [if_neg h2, if_neg h4, if_neg h6, if_pos h8, if_pos h46, if_pos h48, if_pos h66, if_pos h68, if_pos h76]
                    rw [e9] at hk
                    exact sg_ireturn (st := []) (v := md_o none) (pc := 39) hC hR dX6_sourceToBlame_39 hk
                  · refine sg_iload_n (pc := 30) (x := nI 5) hC dX6_sourceToBlame_30 rfl ?_
                    have e9 : k_blm N w t = some 5 := by rw [k_blm]; simp only [if_neg h2, if_neg h4, if_neg h6, if_pos h8, if_pos h46, if_pos h48, if_pos h66, if_pos h68, if_neg (ts9 h76)]
                    rw [e9] at hk
                    exact sg_ireturn (st := []) (v := md_o (some 5)) (pc := 31) hC hR dX6_sourceToBlame_31 hk
              · refine sg_iload_n (pc := 30) (x := nI 4) hC dX6_sourceToBlame_30 rfl ?_
                have e9 : k_blm N w t = some 4 := by rw [k_blm]; simp only [if_neg h2, if_neg h4, if_neg h6, if_pos h8, if_pos h46, if_pos h48, if_neg (ts9 h66)]
                rw [e9] at hk
                exact sg_ireturn (st := []) (v := md_o (some 4)) (pc := 31) hC hR dX6_sourceToBlame_31 hk
          · refine sg_iload_n (pc := 30) (x := nI 3) hC dX6_sourceToBlame_30 rfl ?_
            have e9 : k_blm N w t = some 3 := by rw [k_blm]; simp only [if_neg h2, if_neg h4, if_neg h6, if_pos h8, if_neg (ts9 h46)]
            rw [e9] at hk
            exact sg_ireturn (st := []) (v := md_o (some 3)) (pc := 31) hC hR dX6_sourceToBlame_31 hk
      · refine sg_aload_n (pc := 17) (v := .ref ca) hC dX6_sourceToBlame_17 rfl rfl ?_
        refine sg_get (pc := 18) (a := ca) (v := .ref so) 2 hC rfl inw_X6 (by decide) tw_195 dX6_sourceToBlame_18 hX rfl ?_
        refine sg_iload_n (pc := 21) (x := nI 2) hC dX6_sourceToBlame_21 rfl ?_
        refine sg_aald8 (pc := 22) (i := nI 2) hC dX6_sourceToBlame_22 hSo (vp_in_nI (by first | omega | decide | exact Nat.lt_of_le_of_lt jshr (by omega) | exact Nat.lt_of_le_of_lt jand1 (by decide)) (by first | omega | decide | exact Nat.lt_of_le_of_lt jshr (by omega) | exact Nat.lt_of_le_of_lt jand1 (by decide))) ?_
        rw [nI_clamp (by first | omega | decide | exact Nat.lt_of_le_of_lt jshr (by omega) | exact Nat.lt_of_le_of_lt jand1 (by decide))]
        obtain ⟨q78, hq79, hs80⟩ := hG 2 (by omega)
        rw [hq79]
        obtain ⟨la81, f82, hc83, -, -⟩ := id hs80
        show sg_W X M 0 0 23 [some (.ref ca), some (.int (nI w)), some (.ref b), some (.int (nI 2))] [.ref q78]
        refine sg_aload_n (pc := 23) (v := .ref b) hC dX6_sourceToBlame_23 rfl rfl ?_
        refine sg_callV (pc := 24) (As := [.ref b]) (rest := []) (mc := 0) (ms := 0) hC tw_965 tw_966 tw_967 tw_70 tw_968 yd_X5_isGranted (by decide) (ci := 8) rfl dX6_sourceToBlame_24 hc83 rfl (Nat.le_of_ble_eq_true rfl) (by first | omega | decide | exact Nat.lt_of_le_of_lt jshr (by omega) | exact Nat.lt_of_le_of_lt jand1 (by decide)) (by first | omega | decide | exact Nat.lt_of_le_of_lt jshr (by omega) | exact Nat.lt_of_le_of_lt jand1 (by decide)) ?_
        refine c_granted htr hW (by omega) hs80 hB ?_
        show sg_W X M 0 0 27 [some (.ref ca), some (.int (nI w)), some (.ref b), some (.int (nI 2))] [.int (md_b ((isg (gl N 2) t)))]
        refine sg_ifB_ne (pc := 27) (b := (isg (gl N 2) t)) 32 hC dX6_sourceToBlame_27 (by decide) (fun h84 => ?_) (fun h84 => ?_)
        · refine sg_iincN (pc := 32) (a := 2) (b := 3) hC dX6_sourceToBlame_32 rfl (nI_1 _) (by decide) ?_
          show sg_W X M 0 0 35 [some (.ref ca), some (.int (nI w)), some (.ref b), some (.int (nI 3))] []
          refine sg_goto (pc := 35) 2 hC dX6_sourceToBlame_35 (by decide) ?_
          refine sg_iload_n (pc := 2) (x := nI 3) hC dX6_sourceToBlame_2 rfl ?_
          refine sg_bipush (pc := 3) (nI 6) hC dX6_sourceToBlame_3 (by decide) ?_
          refine sg_icmpN_ge (pc := 5) (a := 3) (b := 6) 38 hC dX6_sourceToBlame_5 (by decide) (by decide) (by decide) (fun h85 => absurd h85 (by decide)) (fun _ => ?_)
          refine sg_iload_n (pc := 8) (x := nI w) hC dX6_sourceToBlame_8 rfl ?_
          refine sg_iload_n (pc := 9) (x := nI 3) hC dX6_sourceToBlame_9 rfl ?_
          refine sg_ishrN (pc := 10) (a := w) (b := 3) hC dX6_sourceToBlame_10 (by first | omega | decide | exact Nat.lt_of_le_of_lt jshr (by omega) | exact Nat.lt_of_le_of_lt jand1 (by decide)) (by first | omega | decide | exact Nat.lt_of_le_of_lt jshr (by omega) | exact Nat.lt_of_le_of_lt jand1 (by decide)) ?_
          refine sg_iconst (pc := 11) (nI 1) hC dX6_sourceToBlame_11 (by decide) ?_
          refine sg_iandN (pc := 12) (a := w >>> 3) (b := 1) hC dX6_sourceToBlame_12 ?_
          refine sg_iconst (pc := 13) (nI 1) hC dX6_sourceToBlame_13 (by decide) ?_
          refine sg_icmpN_ne (pc := 14) (a := (w >>> 3) &&& 1) (b := 1) 32 hC dX6_sourceToBlame_14 (by decide) (by first | omega | decide | exact Nat.lt_of_le_of_lt jshr (by omega) | exact Nat.lt_of_le_of_lt jand1 (by decide)) (by first | omega | decide | exact Nat.lt_of_le_of_lt jshr (by omega) | exact Nat.lt_of_le_of_lt jand1 (by decide)) (fun h86 => ?_) (fun h86 => ?_)
          · refine sg_iincN (pc := 32) (a := 3) (b := 4) hC dX6_sourceToBlame_32 rfl (nI_1 _) (by decide) ?_
            show sg_W X M 0 0 35 [some (.ref ca), some (.int (nI w)), some (.ref b), some (.int (nI 4))] []
            refine sg_goto (pc := 35) 2 hC dX6_sourceToBlame_35 (by decide) ?_
            refine sg_iload_n (pc := 2) (x := nI 4) hC dX6_sourceToBlame_2 rfl ?_
            refine sg_bipush (pc := 3) (nI 6) hC dX6_sourceToBlame_3 (by decide) ?_
            refine sg_icmpN_ge (pc := 5) (a := 4) (b := 6) 38 hC dX6_sourceToBlame_5 (by decide) (by decide) (by decide) (fun h87 => absurd h87 (by decide)) (fun _ => ?_)
            refine sg_iload_n (pc := 8) (x := nI w) hC dX6_sourceToBlame_8 rfl ?_
            refine sg_iload_n (pc := 9) (x := nI 4) hC dX6_sourceToBlame_9 rfl ?_
            refine sg_ishrN (pc := 10) (a := w) (b := 4) hC dX6_sourceToBlame_10 (by first | omega | decide | exact Nat.lt_of_le_of_lt jshr (by omega) | exact Nat.lt_of_le_of_lt jand1 (by decide)) (by first | omega | decide | exact Nat.lt_of_le_of_lt jshr (by omega) | exact Nat.lt_of_le_of_lt jand1 (by decide)) ?_
            refine sg_iconst (pc := 11) (nI 1) hC dX6_sourceToBlame_11 (by decide) ?_
            refine sg_iandN (pc := 12) (a := w >>> 4) (b := 1) hC dX6_sourceToBlame_12 ?_
            refine sg_iconst (pc := 13) (nI 1) hC dX6_sourceToBlame_13 (by decide) ?_
            refine sg_icmpN_ne (pc := 14) (a := (w >>> 4) &&& 1) (b := 1) 32 hC dX6_sourceToBlame_14 (by decide) (by first | omega | decide | exact Nat.lt_of_le_of_lt jshr (by omega) | exact Nat.lt_of_le_of_lt jand1 (by decide)) (by first | omega | decide | exact Nat.lt_of_le_of_lt jshr (by omega) | exact Nat.lt_of_le_of_lt jand1 (by decide)) (fun h88 => ?_) (fun h88 => ?_)
            · refine sg_iincN (pc := 32) (a := 4) (b := 5) hC dX6_sourceToBlame_32 rfl (nI_1 _) (by decide) ?_
              show sg_W X M 0 0 35 [some (.ref ca), some (.int (nI w)), some (.ref b), some (.int (nI 5))] []
              refine sg_goto (pc := 35) 2 hC dX6_sourceToBlame_35 (by decide) ?_
              refine sg_iload_n (pc := 2) (x := nI 5) hC dX6_sourceToBlame_2 rfl ?_
              refine sg_bipush (pc := 3) (nI 6) hC dX6_sourceToBlame_3 (by decide) ?_
              refine sg_icmpN_ge (pc := 5) (a := 5) (b := 6) 38 hC dX6_sourceToBlame_5 (by decide) (by decide) (by decide) (fun h89 => absurd h89 (by decide)) (fun _ => ?_)
              refine sg_iload_n (pc := 8) (x := nI w) hC dX6_sourceToBlame_8 rfl ?_
              refine sg_iload_n (pc := 9) (x := nI 5) hC dX6_sourceToBlame_9 rfl ?_
              refine sg_ishrN (pc := 10) (a := w) (b := 5) hC dX6_sourceToBlame_10 (by first | omega | decide | exact Nat.lt_of_le_of_lt jshr (by omega) | exact Nat.lt_of_le_of_lt jand1 (by decide)) (by first | omega | decide | exact Nat.lt_of_le_of_lt jshr (by omega) | exact Nat.lt_of_le_of_lt jand1 (by decide)) ?_
              refine sg_iconst (pc := 11) (nI 1) hC dX6_sourceToBlame_11 (by decide) ?_
              refine sg_iandN (pc := 12) (a := w >>> 5) (b := 1) hC dX6_sourceToBlame_12 ?_
              refine sg_iconst (pc := 13) (nI 1) hC dX6_sourceToBlame_13 (by decide) ?_
              refine sg_icmpN_ne (pc := 14) (a := (w >>> 5) &&& 1) (b := 1) 32 hC dX6_sourceToBlame_14 (by decide) (by first | omega | decide | exact Nat.lt_of_le_of_lt jshr (by omega) | exact Nat.lt_of_le_of_lt jand1 (by decide)) (by first | omega | decide | exact Nat.lt_of_le_of_lt jshr (by omega) | exact Nat.lt_of_le_of_lt jand1 (by decide)) (fun h90 => ?_) (fun h90 => ?_)
              · refine sg_iincN (pc := 32) (a := 5) (b := 6) hC dX6_sourceToBlame_32 rfl (nI_1 _) (by decide) ?_
                show sg_W X M 0 0 35 [some (.ref ca), some (.int (nI w)), some (.ref b), some (.int (nI 6))] []
                refine sg_goto (pc := 35) 2 hC dX6_sourceToBlame_35 (by decide) ?_
                refine sg_iload_n (pc := 2) (x := nI 6) hC dX6_sourceToBlame_2 rfl ?_
                refine sg_bipush (pc := 3) (nI 6) hC dX6_sourceToBlame_3 (by decide) ?_
                refine sg_icmpN_ge (pc := 5) (a := 6) (b := 6) 38 hC dX6_sourceToBlame_5 (by decide) (by decide) (by decide) (fun _ => ?_) (fun h91 => absurd h91 (by decide))
                refine sg_iconst (pc := 38) (((-1))) hC dX6_sourceToBlame_38 (by decide) ?_
                have e9 : k_blm N w t = none := by rw [k_blm]; simp only [if_neg h2, if_neg h4, if_pos h6, if_pos h84, if_neg h86, if_neg h88, if_neg h90]
                rw [e9] at hk
                exact sg_ireturn (st := []) (v := md_o none) (pc := 39) hC hR dX6_sourceToBlame_39 hk
              · refine sg_aload_n (pc := 17) (v := .ref ca) hC dX6_sourceToBlame_17 rfl rfl ?_
                refine sg_get (pc := 18) (a := ca) (v := .ref so) 2 hC rfl inw_X6 (by decide) tw_195 dX6_sourceToBlame_18 hX rfl ?_
                refine sg_iload_n (pc := 21) (x := nI 5) hC dX6_sourceToBlame_21 rfl ?_
                refine sg_aald8 (pc := 22) (i := nI 5) hC dX6_sourceToBlame_22 hSo (vp_in_nI (by first | omega | decide | exact Nat.lt_of_le_of_lt jshr (by omega) | exact Nat.lt_of_le_of_lt jand1 (by decide)) (by first | omega | decide | exact Nat.lt_of_le_of_lt jshr (by omega) | exact Nat.lt_of_le_of_lt jand1 (by decide))) ?_
                rw [nI_clamp (by first | omega | decide | exact Nat.lt_of_le_of_lt jshr (by omega) | exact Nat.lt_of_le_of_lt jand1 (by decide))]
                obtain ⟨q92, hq93, hs94⟩ := hG 5 (by omega)
                rw [hq93]
                obtain ⟨la95, f96, hc97, -, -⟩ := id hs94
                show sg_W X M 0 0 23 [some (.ref ca), some (.int (nI w)), some (.ref b), some (.int (nI 5))] [.ref q92]
                refine sg_aload_n (pc := 23) (v := .ref b) hC dX6_sourceToBlame_23 rfl rfl ?_
                refine sg_callV (pc := 24) (As := [.ref b]) (rest := []) (mc := 0) (ms := 0) hC tw_965 tw_966 tw_967 tw_70 tw_968 yd_X5_isGranted (by decide) (ci := 8) rfl dX6_sourceToBlame_24 hc97 rfl (Nat.le_of_ble_eq_true rfl) (by first | omega | decide | exact Nat.lt_of_le_of_lt jshr (by omega) | exact Nat.lt_of_le_of_lt jand1 (by decide)) (by first | omega | decide | exact Nat.lt_of_le_of_lt jshr (by omega) | exact Nat.lt_of_le_of_lt jand1 (by decide)) ?_
                refine c_granted htr hW (by omega) hs94 hB ?_
                show sg_W X M 0 0 27 [some (.ref ca), some (.int (nI w)), some (.ref b), some (.int (nI 5))] [.int (md_b ((isg (gl N 5) t)))]
                refine sg_ifB_ne (pc := 27) (b := (isg (gl N 5) t)) 32 hC dX6_sourceToBlame_27 (by decide) (fun h98 => ?_) (fun h98 => ?_)
                · refine sg_iincN (pc := 32) (a := 5) (b := 6) hC dX6_sourceToBlame_32 rfl (nI_1 _) (by decide) ?_
                  show sg_W X M 0 0 35 [some (.ref ca), some (.int (nI w)), some (.ref b), some (.int (nI 6))] []
                  refine sg_goto (pc := 35) 2 hC dX6_sourceToBlame_35 (by decide) ?_
                  refine sg_iload_n (pc := 2) (x := nI 6) hC dX6_sourceToBlame_2 rfl ?_
                  refine sg_bipush (pc := 3) (nI 6) hC dX6_sourceToBlame_3 (by decide) ?_
                  refine sg_icmpN_ge (pc := 5) (a := 6) (b := 6) 38 hC dX6_sourceToBlame_5 (by decide) (by decide) (by decide) (fun _ => ?_) (fun h99 => absurd h99 (by decide))
                  refine sg_iconst (pc := 38) (((-1))) hC dX6_sourceToBlame_38 (by decide) ?_
                  have e9 : k_blm N w t = none := by rw [k_blm]; simp only [if_neg h2, if_neg h4, if_pos h6, if_pos h84, if_neg h86, if_neg h88, if_pos h90, if_pos h98]
                  rw [e9] at hk
                  exact sg_ireturn (st := []) (v := md_o none) (pc := 39) hC hR dX6_sourceToBlame_39 hk
                · refine sg_iload_n (pc := 30) (x := nI 5) hC dX6_sourceToBlame_30 rfl ?_
                  have e9 : k_blm N w t = some 5 := by rw [k_blm]; simp only [if_neg h2, if_neg h4, if_pos h6, if_pos h84, if_neg h86, if_neg h88, if_pos h90, if_neg (ts9 h98)]
                  rw [e9] at hk
                  exact sg_ireturn (st := []) (v := md_o (some 5)) (pc := 31) hC hR dX6_sourceToBlame_31 hk
            · refine sg_aload_n (pc := 17) (v := .ref ca) hC dX6_sourceToBlame_17 rfl rfl ?_
              refine sg_get (pc := 18) (a := ca) (v := .ref so) 2 hC rfl inw_X6 (by decide) tw_195 dX6_sourceToBlame_18 hX rfl ?_
              refine sg_iload_n (pc := 21) (x := nI 4) hC dX6_sourceToBlame_21 rfl ?_
              refine sg_aald8 (pc := 22) (i := nI 4) hC dX6_sourceToBlame_22 hSo (vp_in_nI (by first | omega | decide | exact Nat.lt_of_le_of_lt jshr (by omega) | exact Nat.lt_of_le_of_lt jand1 (by decide)) (by first | omega | decide | exact Nat.lt_of_le_of_lt jshr (by omega) | exact Nat.lt_of_le_of_lt jand1 (by decide))) ?_
              rw [nI_clamp (by first | omega | decide | exact Nat.lt_of_le_of_lt jshr (by omega) | exact Nat.lt_of_le_of_lt jand1 (by decide))]
              obtain ⟨q100, hq101, hs102⟩ := hG 4 (by omega)
              rw [hq101]
              obtain ⟨la103, f104, hc105, -, -⟩ := id hs102
              show sg_W X M 0 0 23 [some (.ref ca), some (.int (nI w)), some (.ref b), some (.int (nI 4))] [.ref q100]
              refine sg_aload_n (pc := 23) (v := .ref b) hC dX6_sourceToBlame_23 rfl rfl ?_
              refine sg_callV (pc := 24) (As := [.ref b]) (rest := []) (mc := 0) (ms := 0) hC tw_965 tw_966 tw_967 tw_70 tw_968 yd_X5_isGranted (by decide) (ci := 8) rfl dX6_sourceToBlame_24 hc105 rfl (Nat.le_of_ble_eq_true rfl) (by first | omega | decide | exact Nat.lt_of_le_of_lt jshr (by omega) | exact Nat.lt_of_le_of_lt jand1 (by decide)) (by first | omega | decide | exact Nat.lt_of_le_of_lt jshr (by omega) | exact Nat.lt_of_le_of_lt jand1 (by decide)) ?_
              refine c_granted htr hW (by omega) hs102 hB ?_
              show sg_W X M 0 0 27 [some (.ref ca), some (.int (nI w)), some (.ref b), some (.int (nI 4))] [.int (md_b ((isg (gl N 4) t)))]
              refine sg_ifB_ne (pc := 27) (b := (isg (gl N 4) t)) 32 hC dX6_sourceToBlame_27 (by decide) (fun h106 => ?_) (fun h106 => ?_)
              · refine sg_iincN (pc := 32) (a := 4) (b := 5) hC dX6_sourceToBlame_32 rfl (nI_1 _) (by decide) ?_
                show sg_W X M 0 0 35 [some (.ref ca), some (.int (nI w)), some (.ref b), some (.int (nI 5))] []
                refine sg_goto (pc := 35) 2 hC dX6_sourceToBlame_35 (by decide) ?_
                refine sg_iload_n (pc := 2) (x := nI 5) hC dX6_sourceToBlame_2 rfl ?_
                refine sg_bipush (pc := 3) (nI 6) hC dX6_sourceToBlame_3 (by decide) ?_
                refine sg_icmpN_ge (pc := 5) (a := 5) (b := 6) 38 hC dX6_sourceToBlame_5 (by decide) (by decide) (by decide) (fun h107 => absurd h107 (by decide)) (fun _ => ?_)
                refine sg_iload_n (pc := 8) (x := nI w) hC dX6_sourceToBlame_8 rfl ?_
                refine sg_iload_n (pc := 9) (x := nI 5) hC dX6_sourceToBlame_9 rfl ?_
                refine sg_ishrN (pc := 10) (a := w) (b := 5) hC dX6_sourceToBlame_10 (by first | omega | decide | exact Nat.lt_of_le_of_lt jshr (by omega) | exact Nat.lt_of_le_of_lt jand1 (by decide)) (by first | omega | decide | exact Nat.lt_of_le_of_lt jshr (by omega) | exact Nat.lt_of_le_of_lt jand1 (by decide)) ?_
                refine sg_iconst (pc := 11) (nI 1) hC dX6_sourceToBlame_11 (by decide) ?_
                refine sg_iandN (pc := 12) (a := w >>> 5) (b := 1) hC dX6_sourceToBlame_12 ?_
                refine sg_iconst (pc := 13) (nI 1) hC dX6_sourceToBlame_13 (by decide) ?_
                refine sg_icmpN_ne (pc := 14) (a := (w >>> 5) &&& 1) (b := 1) 32 hC dX6_sourceToBlame_14 (by decide) (by first | omega | decide | exact Nat.lt_of_le_of_lt jshr (by omega) | exact Nat.lt_of_le_of_lt jand1 (by decide)) (by first | omega | decide | exact Nat.lt_of_le_of_lt jshr (by omega) | exact Nat.lt_of_le_of_lt jand1 (by decide)) (fun h108 => ?_) (fun h108 => ?_)
                · refine sg_iincN (pc := 32) (a := 5) (b := 6) hC dX6_sourceToBlame_32 rfl (nI_1 _) (by decide) ?_
                  show sg_W X M 0 0 35 [some (.ref ca), some (.int (nI w)), some (.ref b), some (.int (nI 6))] []
                  refine sg_goto (pc := 35) 2 hC dX6_sourceToBlame_35 (by decide) ?_
                  refine sg_iload_n (pc := 2) (x := nI 6) hC dX6_sourceToBlame_2 rfl ?_
                  refine sg_bipush (pc := 3) (nI 6) hC dX6_sourceToBlame_3 (by decide) ?_
                  refine sg_icmpN_ge (pc := 5) (a := 6) (b := 6) 38 hC dX6_sourceToBlame_5 (by decide) (by decide) (by decide) (fun _ => ?_) (fun h109 => absurd h109 (by decide))
                  refine sg_iconst (pc := 38) (((-1))) hC dX6_sourceToBlame_38 (by decide) ?_
                  have e9 : k_blm N w t = none := by rw [k_blm]; simp only [if_neg h2, if_neg h4, if_pos h6, if_pos h84, if_neg h86, if_pos h88, if_pos h106, if_neg h108]
                  rw [e9] at hk
                  exact sg_ireturn (st := []) (v := md_o none) (pc := 39) hC hR dX6_sourceToBlame_39 hk
                · refine sg_aload_n (pc := 17) (v := .ref ca) hC dX6_sourceToBlame_17 rfl rfl ?_
                  refine sg_get (pc := 18) (a := ca) (v := .ref so) 2 hC rfl inw_X6 (by decide) tw_195 dX6_sourceToBlame_18 hX rfl ?_
                  refine sg_iload_n (pc := 21) (x := nI 5) hC dX6_sourceToBlame_21 rfl ?_
                  refine sg_aald8 (pc := 22) (i := nI 5) hC dX6_sourceToBlame_22 hSo (vp_in_nI (by first | omega | decide | exact Nat.lt_of_le_of_lt jshr (by omega) | exact Nat.lt_of_le_of_lt jand1 (by decide)) (by first | omega | decide | exact Nat.lt_of_le_of_lt jshr (by omega) | exact Nat.lt_of_le_of_lt jand1 (by decide))) ?_
                  rw [nI_clamp (by first | omega | decide | exact Nat.lt_of_le_of_lt jshr (by omega) | exact Nat.lt_of_le_of_lt jand1 (by decide))]
                  obtain ⟨q110, hq111, hs112⟩ := hG 5 (by omega)
                  rw [hq111]
                  obtain ⟨la113, f114, hc115, -, -⟩ := id hs112
                  show sg_W X M 0 0 23 [some (.ref ca), some (.int (nI w)), some (.ref b), some (.int (nI 5))] [.ref q110]
                  refine sg_aload_n (pc := 23) (v := .ref b) hC dX6_sourceToBlame_23 rfl rfl ?_
                  refine sg_callV (pc := 24) (As := [.ref b]) (rest := []) (mc := 0) (ms := 0) hC tw_965 tw_966 tw_967 tw_70 tw_968 yd_X5_isGranted (by decide) (ci := 8) rfl dX6_sourceToBlame_24 hc115 rfl (Nat.le_of_ble_eq_true rfl) (by first | omega | decide | exact Nat.lt_of_le_of_lt jshr (by omega) | exact Nat.lt_of_le_of_lt jand1 (by decide)) (by first | omega | decide | exact Nat.lt_of_le_of_lt jshr (by omega) | exact Nat.lt_of_le_of_lt jand1 (by decide)) ?_
                  refine c_granted htr hW (by omega) hs112 hB ?_
                  show sg_W X M 0 0 27 [some (.ref ca), some (.int (nI w)), some (.ref b), some (.int (nI 5))] [.int (md_b ((isg (gl N 5) t)))]
                  refine sg_ifB_ne (pc := 27) (b := (isg (gl N 5) t)) 32 hC dX6_sourceToBlame_27 (by decide) (fun h116 => ?_) (fun h116 => ?_)
                  · refine sg_iincN (pc := 32) (a := 5) (b := 6) hC dX6_sourceToBlame_32 rfl (nI_1 _) (by decide) ?_
                    show sg_W X M 0 0 35 [some (.ref ca), some (.int (nI w)), some (.ref b), some (.int (nI 6))] []
                    refine sg_goto (pc := 35) 2 hC dX6_sourceToBlame_35 (by decide) ?_
                    refine sg_iload_n (pc := 2) (x := nI 6) hC dX6_sourceToBlame_2 rfl ?_
                    refine sg_bipush (pc := 3) (nI 6) hC dX6_sourceToBlame_3 (by decide) ?_
                    refine sg_icmpN_ge (pc := 5) (a := 6) (b := 6) 38 hC dX6_sourceToBlame_5 (by decide) (by decide) (by decide) (fun _ => ?_) (fun h117 => absurd h117 (by decide))
                    refine sg_iconst (pc := 38) (((-1))) hC dX6_sourceToBlame_38 (by decide) ?_
                    have e9 : k_blm N w t = none := by rw [k_blm]; simp only [if_neg h2, if_neg h4, if_pos h6, if_pos h84, if_neg h86, if_pos h88, if_pos h106, if_pos h108, if_pos h116]
                    rw [e9] at hk
                    exact sg_ireturn (st := []) (v := md_o none) (pc := 39) hC hR dX6_sourceToBlame_39 hk
                  · refine sg_iload_n (pc := 30) (x := nI 5) hC dX6_sourceToBlame_30 rfl ?_
                    have e9 : k_blm N w t = some 5 := by rw [k_blm]; simp only [if_neg h2, if_neg h4, if_pos h6, if_pos h84, if_neg h86, if_pos h88, if_pos h106, if_pos h108, if_neg (ts9 h116)]
                    rw [e9] at hk
                    exact sg_ireturn (st := []) (v := md_o (some 5)) (pc := 31) hC hR dX6_sourceToBlame_31 hk
              · refine sg_iload_n (pc := 30) (x := nI 4) hC dX6_sourceToBlame_30 rfl ?_
                have e9 : k_blm N w t = some 4 := by rw [k_blm]; simp only [if_neg h2, if_neg h4, if_pos h6, if_pos h84, if_neg h86, if_pos h88, if_neg (ts9 h106)]
                rw [e9] at hk
                exact sg_ireturn (st := []) (v := md_o (some 4)) (pc := 31) hC hR dX6_sourceToBlame_31 hk
          · refine sg_aload_n (pc := 17) (v := .ref ca) hC dX6_sourceToBlame_17 rfl rfl ?_
            refine sg_get (pc := 18) (a := ca) (v := .ref so) 2 hC rfl inw_X6 (by decide) tw_195 dX6_sourceToBlame_18 hX rfl ?_
            refine sg_iload_n (pc := 21) (x := nI 3) hC dX6_sourceToBlame_21 rfl ?_
            refine sg_aald8 (pc := 22) (i := nI 3) hC dX6_sourceToBlame_22 hSo (vp_in_nI (by first | omega | decide | exact Nat.lt_of_le_of_lt jshr (by omega) | exact Nat.lt_of_le_of_lt jand1 (by decide)) (by first | omega | decide | exact Nat.lt_of_le_of_lt jshr (by omega) | exact Nat.lt_of_le_of_lt jand1 (by decide))) ?_
            rw [nI_clamp (by first | omega | decide | exact Nat.lt_of_le_of_lt jshr (by omega) | exact Nat.lt_of_le_of_lt jand1 (by decide))]
            obtain ⟨q118, hq119, hs120⟩ := hG 3 (by omega)
            rw [hq119]
            obtain ⟨la121, f122, hc123, -, -⟩ := id hs120
            show sg_W X M 0 0 23 [some (.ref ca), some (.int (nI w)), some (.ref b), some (.int (nI 3))] [.ref q118]
            refine sg_aload_n (pc := 23) (v := .ref b) hC dX6_sourceToBlame_23 rfl rfl ?_
            refine sg_callV (pc := 24) (As := [.ref b]) (rest := []) (mc := 0) (ms := 0) hC tw_965 tw_966 tw_967 tw_70 tw_968 yd_X5_isGranted (by decide) (ci := 8) rfl dX6_sourceToBlame_24 hc123 rfl (Nat.le_of_ble_eq_true rfl) (by first | omega | decide | exact Nat.lt_of_le_of_lt jshr (by omega) | exact Nat.lt_of_le_of_lt jand1 (by decide)) (by first | omega | decide | exact Nat.lt_of_le_of_lt jshr (by omega) | exact Nat.lt_of_le_of_lt jand1 (by decide)) ?_
            refine c_granted htr hW (by omega) hs120 hB ?_
            show sg_W X M 0 0 27 [some (.ref ca), some (.int (nI w)), some (.ref b), some (.int (nI 3))] [.int (md_b ((isg (gl N 3) t)))]
            refine sg_ifB_ne (pc := 27) (b := (isg (gl N 3) t)) 32 hC dX6_sourceToBlame_27 (by decide) (fun h124 => ?_) (fun h124 => ?_)
            · refine sg_iincN (pc := 32) (a := 3) (b := 4) hC dX6_sourceToBlame_32 rfl (nI_1 _) (by decide) ?_
              show sg_W X M 0 0 35 [some (.ref ca), some (.int (nI w)), some (.ref b), some (.int (nI 4))] []
              refine sg_goto (pc := 35) 2 hC dX6_sourceToBlame_35 (by decide) ?_
              refine sg_iload_n (pc := 2) (x := nI 4) hC dX6_sourceToBlame_2 rfl ?_
              refine sg_bipush (pc := 3) (nI 6) hC dX6_sourceToBlame_3 (by decide) ?_
              refine sg_icmpN_ge (pc := 5) (a := 4) (b := 6) 38 hC dX6_sourceToBlame_5 (by decide) (by decide) (by decide) (fun h125 => absurd h125 (by decide)) (fun _ => ?_)
              refine sg_iload_n (pc := 8) (x := nI w) hC dX6_sourceToBlame_8 rfl ?_
              refine sg_iload_n (pc := 9) (x := nI 4) hC dX6_sourceToBlame_9 rfl ?_
              refine sg_ishrN (pc := 10) (a := w) (b := 4) hC dX6_sourceToBlame_10 (by first | omega | decide | exact Nat.lt_of_le_of_lt jshr (by omega) | exact Nat.lt_of_le_of_lt jand1 (by decide)) (by first | omega | decide | exact Nat.lt_of_le_of_lt jshr (by omega) | exact Nat.lt_of_le_of_lt jand1 (by decide)) ?_
              refine sg_iconst (pc := 11) (nI 1) hC dX6_sourceToBlame_11 (by decide) ?_
              refine sg_iandN (pc := 12) (a := w >>> 4) (b := 1) hC dX6_sourceToBlame_12 ?_
              refine sg_iconst (pc := 13) (nI 1) hC dX6_sourceToBlame_13 (by decide) ?_
              refine sg_icmpN_ne (pc := 14) (a := (w >>> 4) &&& 1) (b := 1) 32 hC dX6_sourceToBlame_14 (by decide) (by first | omega | decide | exact Nat.lt_of_le_of_lt jshr (by omega) | exact Nat.lt_of_le_of_lt jand1 (by decide)) (by first | omega | decide | exact Nat.lt_of_le_of_lt jshr (by omega) | exact Nat.lt_of_le_of_lt jand1 (by decide)) (fun h126 => ?_) (fun h126 => ?_)
              · refine sg_iincN (pc := 32) (a := 4) (b := 5) hC dX6_sourceToBlame_32 rfl (nI_1 _) (by decide) ?_
                show sg_W X M 0 0 35 [some (.ref ca), some (.int (nI w)), some (.ref b), some (.int (nI 5))] []
                refine sg_goto (pc := 35) 2 hC dX6_sourceToBlame_35 (by decide) ?_
                refine sg_iload_n (pc := 2) (x := nI 5) hC dX6_sourceToBlame_2 rfl ?_
                refine sg_bipush (pc := 3) (nI 6) hC dX6_sourceToBlame_3 (by decide) ?_
                refine sg_icmpN_ge (pc := 5) (a := 5) (b := 6) 38 hC dX6_sourceToBlame_5 (by decide) (by decide) (by decide) (fun h127 => absurd h127 (by decide)) (fun _ => ?_)
                refine sg_iload_n (pc := 8) (x := nI w) hC dX6_sourceToBlame_8 rfl ?_
                refine sg_iload_n (pc := 9) (x := nI 5) hC dX6_sourceToBlame_9 rfl ?_
                refine sg_ishrN (pc := 10) (a := w) (b := 5) hC dX6_sourceToBlame_10 (by first | omega | decide | exact Nat.lt_of_le_of_lt jshr (by omega) | exact Nat.lt_of_le_of_lt jand1 (by decide)) (by first | omega | decide | exact Nat.lt_of_le_of_lt jshr (by omega) | exact Nat.lt_of_le_of_lt jand1 (by decide)) ?_
                refine sg_iconst (pc := 11) (nI 1) hC dX6_sourceToBlame_11 (by decide) ?_
                refine sg_iandN (pc := 12) (a := w >>> 5) (b := 1) hC dX6_sourceToBlame_12 ?_
                refine sg_iconst (pc := 13) (nI 1) hC dX6_sourceToBlame_13 (by decide) ?_
                refine sg_icmpN_ne (pc := 14) (a := (w >>> 5) &&& 1) (b := 1) 32 hC dX6_sourceToBlame_14 (by decide) (by first | omega | decide | exact Nat.lt_of_le_of_lt jshr (by omega) | exact Nat.lt_of_le_of_lt jand1 (by decide)) (by first | omega | decide | exact Nat.lt_of_le_of_lt jshr (by omega) | exact Nat.lt_of_le_of_lt jand1 (by decide)) (fun h128 => ?_) (fun h128 => ?_)
                · refine sg_iincN (pc := 32) (a := 5) (b := 6) hC dX6_sourceToBlame_32 rfl (nI_1 _) (by decide) ?_
                  show sg_W X M 0 0 35 [some (.ref ca), some (.int (nI w)), some (.ref b), some (.int (nI 6))] []
                  refine sg_goto (pc := 35) 2 hC dX6_sourceToBlame_35 (by decide) ?_
                  refine sg_iload_n (pc := 2) (x := nI 6) hC dX6_sourceToBlame_2 rfl ?_
                  refine sg_bipush (pc := 3) (nI 6) hC dX6_sourceToBlame_3 (by decide) ?_
                  refine sg_icmpN_ge (pc := 5) (a := 6) (b := 6) 38 hC dX6_sourceToBlame_5 (by decide) (by decide) (by decide) (fun _ => ?_) (fun h129 => absurd h129 (by decide))
                  refine sg_iconst (pc := 38) (((-1))) hC dX6_sourceToBlame_38 (by decide) ?_
                  have e9 : k_blm N w t = none := by rw [k_blm]; simp only [if_neg h2, if_neg h4, if_pos h6, if_pos h84, if_pos h86, if_pos h124, if_neg h126, if_neg h128]
                  rw [e9] at hk
                  exact sg_ireturn (st := []) (v := md_o none) (pc := 39) hC hR dX6_sourceToBlame_39 hk
                · refine sg_aload_n (pc := 17) (v := .ref ca) hC dX6_sourceToBlame_17 rfl rfl ?_
                  refine sg_get (pc := 18) (a := ca) (v := .ref so) 2 hC rfl inw_X6 (by decide) tw_195 dX6_sourceToBlame_18 hX rfl ?_
                  refine sg_iload_n (pc := 21) (x := nI 5) hC dX6_sourceToBlame_21 rfl ?_
                  refine sg_aald8 (pc := 22) (i := nI 5) hC dX6_sourceToBlame_22 hSo (vp_in_nI (by first | omega | decide | exact Nat.lt_of_le_of_lt jshr (by omega) | exact Nat.lt_of_le_of_lt jand1 (by decide)) (by first | omega | decide | exact Nat.lt_of_le_of_lt jshr (by omega) | exact Nat.lt_of_le_of_lt jand1 (by decide))) ?_
                  rw [nI_clamp (by first | omega | decide | exact Nat.lt_of_le_of_lt jshr (by omega) | exact Nat.lt_of_le_of_lt jand1 (by decide))]
                  obtain ⟨q130, hq131, hs132⟩ := hG 5 (by omega)
                  rw [hq131]
                  obtain ⟨la133, f134, hc135, -, -⟩ := id hs132
                  show sg_W X M 0 0 23 [some (.ref ca), some (.int (nI w)), some (.ref b), some (.int (nI 5))] [.ref q130]
                  refine sg_aload_n (pc := 23) (v := .ref b) hC dX6_sourceToBlame_23 rfl rfl ?_
                  refine sg_callV (pc := 24) (As := [.ref b]) (rest := []) (mc := 0) (ms := 0) hC tw_965 tw_966 tw_967 tw_70 tw_968 yd_X5_isGranted (by decide) (ci := 8) rfl dX6_sourceToBlame_24 hc135 rfl (Nat.le_of_ble_eq_true rfl) (by first | omega | decide | exact Nat.lt_of_le_of_lt jshr (by omega) | exact Nat.lt_of_le_of_lt jand1 (by decide)) (by first | omega | decide | exact Nat.lt_of_le_of_lt jshr (by omega) | exact Nat.lt_of_le_of_lt jand1 (by decide)) ?_
                  refine c_granted htr hW (by omega) hs132 hB ?_
                  show sg_W X M 0 0 27 [some (.ref ca), some (.int (nI w)), some (.ref b), some (.int (nI 5))] [.int (md_b ((isg (gl N 5) t)))]
                  refine sg_ifB_ne (pc := 27) (b := (isg (gl N 5) t)) 32 hC dX6_sourceToBlame_27 (by decide) (fun h136 => ?_) (fun h136 => ?_)
                  · refine sg_iincN (pc := 32) (a := 5) (b := 6) hC dX6_sourceToBlame_32 rfl (nI_1 _) (by decide) ?_
                    show sg_W X M 0 0 35 [some (.ref ca), some (.int (nI w)), some (.ref b), some (.int (nI 6))] []
                    refine sg_goto (pc := 35) 2 hC dX6_sourceToBlame_35 (by decide) ?_
                    refine sg_iload_n (pc := 2) (x := nI 6) hC dX6_sourceToBlame_2 rfl ?_
                    refine sg_bipush (pc := 3) (nI 6) hC dX6_sourceToBlame_3 (by decide) ?_
                    refine sg_icmpN_ge (pc := 5) (a := 6) (b := 6) 38 hC dX6_sourceToBlame_5 (by decide) (by decide) (by decide) (fun _ => ?_) (fun h137 => absurd h137 (by decide))
                    refine sg_iconst (pc := 38) (((-1))) hC dX6_sourceToBlame_38 (by decide) ?_
                    have e9 : k_blm N w t = none := by rw [k_blm]; simp only [if_neg h2, if_neg h4, if_pos h6, if_pos h84, if_pos h86, if_pos h124, if_neg h126, if_pos h128, if_pos h136]
                    rw [e9] at hk
                    exact sg_ireturn (st := []) (v := md_o none) (pc := 39) hC hR dX6_sourceToBlame_39 hk
                  · refine sg_iload_n (pc := 30) (x := nI 5) hC dX6_sourceToBlame_30 rfl ?_
                    have e9 : k_blm N w t = some 5 := by rw [k_blm]; simp only [if_neg h2, if_neg h4, if_pos h6, if_pos h84, if_pos h86, if_pos h124, if_neg h126, if_pos h128, if_neg (ts9 h136)]
                    rw [e9] at hk
                    exact sg_ireturn (st := []) (v := md_o (some 5)) (pc := 31) hC hR dX6_sourceToBlame_31 hk
              · refine sg_aload_n (pc := 17) (v := .ref ca) hC dX6_sourceToBlame_17 rfl rfl ?_
                refine sg_get (pc := 18) (a := ca) (v := .ref so) 2 hC rfl inw_X6 (by decide) tw_195 dX6_sourceToBlame_18 hX rfl ?_
                refine sg_iload_n (pc := 21) (x := nI 4) hC dX6_sourceToBlame_21 rfl ?_
                refine sg_aald8 (pc := 22) (i := nI 4) hC dX6_sourceToBlame_22 hSo (vp_in_nI (by first | omega | decide | exact Nat.lt_of_le_of_lt jshr (by omega) | exact Nat.lt_of_le_of_lt jand1 (by decide)) (by first | omega | decide | exact Nat.lt_of_le_of_lt jshr (by omega) | exact Nat.lt_of_le_of_lt jand1 (by decide))) ?_
                rw [nI_clamp (by first | omega | decide | exact Nat.lt_of_le_of_lt jshr (by omega) | exact Nat.lt_of_le_of_lt jand1 (by decide))]
                obtain ⟨q138, hq139, hs140⟩ := hG 4 (by omega)
                rw [hq139]
                obtain ⟨la141, f142, hc143, -, -⟩ := id hs140
                show sg_W X M 0 0 23 [some (.ref ca), some (.int (nI w)), some (.ref b), some (.int (nI 4))] [.ref q138]
                refine sg_aload_n (pc := 23) (v := .ref b) hC dX6_sourceToBlame_23 rfl rfl ?_
                refine sg_callV (pc := 24) (As := [.ref b]) (rest := []) (mc := 0) (ms := 0) hC tw_965 tw_966 tw_967 tw_70 tw_968 yd_X5_isGranted (by decide) (ci := 8) rfl dX6_sourceToBlame_24 hc143 rfl (Nat.le_of_ble_eq_true rfl) (by first | omega | decide | exact Nat.lt_of_le_of_lt jshr (by omega) | exact Nat.lt_of_le_of_lt jand1 (by decide)) (by first | omega | decide | exact Nat.lt_of_le_of_lt jshr (by omega) | exact Nat.lt_of_le_of_lt jand1 (by decide)) ?_
                refine c_granted htr hW (by omega) hs140 hB ?_
                show sg_W X M 0 0 27 [some (.ref ca), some (.int (nI w)), some (.ref b), some (.int (nI 4))] [.int (md_b ((isg (gl N 4) t)))]
                refine sg_ifB_ne (pc := 27) (b := (isg (gl N 4) t)) 32 hC dX6_sourceToBlame_27 (by decide) (fun h144 => ?_) (fun h144 => ?_)
                · refine sg_iincN (pc := 32) (a := 4) (b := 5) hC dX6_sourceToBlame_32 rfl (nI_1 _) (by decide) ?_
                  show sg_W X M 0 0 35 [some (.ref ca), some (.int (nI w)), some (.ref b), some (.int (nI 5))] []
                  refine sg_goto (pc := 35) 2 hC dX6_sourceToBlame_35 (by decide) ?_
                  refine sg_iload_n (pc := 2) (x := nI 5) hC dX6_sourceToBlame_2 rfl ?_
                  refine sg_bipush (pc := 3) (nI 6) hC dX6_sourceToBlame_3 (by decide) ?_
                  refine sg_icmpN_ge (pc := 5) (a := 5) (b := 6) 38 hC dX6_sourceToBlame_5 (by decide) (by decide) (by decide) (fun h145 => absurd h145 (by decide)) (fun _ => ?_)
                  refine sg_iload_n (pc := 8) (x := nI w) hC dX6_sourceToBlame_8 rfl ?_
                  refine sg_iload_n (pc := 9) (x := nI 5) hC dX6_sourceToBlame_9 rfl ?_
                  refine sg_ishrN (pc := 10) (a := w) (b := 5) hC dX6_sourceToBlame_10 (by first | omega | decide | exact Nat.lt_of_le_of_lt jshr (by omega) | exact Nat.lt_of_le_of_lt jand1 (by decide)) (by first | omega | decide | exact Nat.lt_of_le_of_lt jshr (by omega) | exact Nat.lt_of_le_of_lt jand1 (by decide)) ?_
                  refine sg_iconst (pc := 11) (nI 1) hC dX6_sourceToBlame_11 (by decide) ?_
                  refine sg_iandN (pc := 12) (a := w >>> 5) (b := 1) hC dX6_sourceToBlame_12 ?_
                  refine sg_iconst (pc := 13) (nI 1) hC dX6_sourceToBlame_13 (by decide) ?_
                  refine sg_icmpN_ne (pc := 14) (a := (w >>> 5) &&& 1) (b := 1) 32 hC dX6_sourceToBlame_14 (by decide) (by first | omega | decide | exact Nat.lt_of_le_of_lt jshr (by omega) | exact Nat.lt_of_le_of_lt jand1 (by decide)) (by first | omega | decide | exact Nat.lt_of_le_of_lt jshr (by omega) | exact Nat.lt_of_le_of_lt jand1 (by decide)) (fun h146 => ?_) (fun h146 => ?_)
                  · refine sg_iincN (pc := 32) (a := 5) (b := 6) hC dX6_sourceToBlame_32 rfl (nI_1 _) (by decide) ?_
                    show sg_W X M 0 0 35 [some (.ref ca), some (.int (nI w)), some (.ref b), some (.int (nI 6))] []
                    refine sg_goto (pc := 35) 2 hC dX6_sourceToBlame_35 (by decide) ?_
                    refine sg_iload_n (pc := 2) (x := nI 6) hC dX6_sourceToBlame_2 rfl ?_
                    refine sg_bipush (pc := 3) (nI 6) hC dX6_sourceToBlame_3 (by decide) ?_
                    refine sg_icmpN_ge (pc := 5) (a := 6) (b := 6) 38 hC dX6_sourceToBlame_5 (by decide) (by decide) (by decide) (fun _ => ?_) (fun h147 => absurd h147 (by decide))
                    refine sg_iconst (pc := 38) (((-1))) hC dX6_sourceToBlame_38 (by decide) ?_
                    have e9 : k_blm N w t = none := by rw [k_blm]; simp only [if_neg h2, if_neg h4, if_pos h6, if_pos h84, if_pos h86, if_pos h124, if_pos h126, if_pos h144, if_neg h146]
                    rw [e9] at hk
                    exact sg_ireturn (st := []) (v := md_o none) (pc := 39) hC hR dX6_sourceToBlame_39 hk
                  · refine sg_aload_n (pc := 17) (v := .ref ca) hC dX6_sourceToBlame_17 rfl rfl ?_
                    refine sg_get (pc := 18) (a := ca) (v := .ref so) 2 hC rfl inw_X6 (by decide) tw_195 dX6_sourceToBlame_18 hX rfl ?_
                    refine sg_iload_n (pc := 21) (x := nI 5) hC dX6_sourceToBlame_21 rfl ?_
                    refine sg_aald8 (pc := 22) (i := nI 5) hC dX6_sourceToBlame_22 hSo (vp_in_nI (by first | omega | decide | exact Nat.lt_of_le_of_lt jshr (by omega) | exact Nat.lt_of_le_of_lt jand1 (by decide)) (by first | omega | decide | exact Nat.lt_of_le_of_lt jshr (by omega) | exact Nat.lt_of_le_of_lt jand1 (by decide))) ?_
                    rw [nI_clamp (by first | omega | decide | exact Nat.lt_of_le_of_lt jshr (by omega) | exact Nat.lt_of_le_of_lt jand1 (by decide))]
                    obtain ⟨q148, hq149, hs150⟩ := hG 5 (by omega)
                    rw [hq149]
                    obtain ⟨la151, f152, hc153, -, -⟩ := id hs150
                    show sg_W X M 0 0 23 [some (.ref ca), some (.int (nI w)), some (.ref b), some (.int (nI 5))] [.ref q148]
                    refine sg_aload_n (pc := 23) (v := .ref b) hC dX6_sourceToBlame_23 rfl rfl ?_
                    refine sg_callV (pc := 24) (As := [.ref b]) (rest := []) (mc := 0) (ms := 0) hC tw_965 tw_966 tw_967 tw_70 tw_968 yd_X5_isGranted (by decide) (ci := 8) rfl dX6_sourceToBlame_24 hc153 rfl (Nat.le_of_ble_eq_true rfl) (by first | omega | decide | exact Nat.lt_of_le_of_lt jshr (by omega) | exact Nat.lt_of_le_of_lt jand1 (by decide)) (by first | omega | decide | exact Nat.lt_of_le_of_lt jshr (by omega) | exact Nat.lt_of_le_of_lt jand1 (by decide)) ?_
                    refine c_granted htr hW (by omega) hs150 hB ?_
                    show sg_W X M 0 0 27 [some (.ref ca), some (.int (nI w)), some (.ref b), some (.int (nI 5))] [.int (md_b ((isg (gl N 5) t)))]
                    refine sg_ifB_ne (pc := 27) (b := (isg (gl N 5) t)) 32 hC dX6_sourceToBlame_27 (by decide) (fun h154 => ?_) (fun h154 => ?_)
                    · refine sg_iincN (pc := 32) (a := 5) (b := 6) hC dX6_sourceToBlame_32 rfl (nI_1 _) (by decide) ?_
                      show sg_W X M 0 0 35 [some (.ref ca), some (.int (nI w)), some (.ref b), some (.int (nI 6))] []
                      refine sg_goto (pc := 35) 2 hC dX6_sourceToBlame_35 (by decide) ?_
                      refine sg_iload_n (pc := 2) (x := nI 6) hC dX6_sourceToBlame_2 rfl ?_
                      refine sg_bipush (pc := 3) (nI 6) hC dX6_sourceToBlame_3 (by decide) ?_
                      refine sg_icmpN_ge (pc := 5) (a := 6) (b := 6) 38 hC dX6_sourceToBlame_5 (by decide) (by decide) (by decide) (fun _ => ?_) (fun h155 => absurd h155 (by decide))
                      refine sg_iconst (pc := 38) (((-1))) hC dX6_sourceToBlame_38 (by decide) ?_
                      have e9 : k_blm N w t = none := by rw [k_blm]; simp only [if_neg h2, if_neg h4, if_pos h6, if_pos h84, if_pos h86, if_pos h124, if_pos h126, if_pos h144, if_pos h146, if_pos h154]
                      rw [e9] at hk
                      exact sg_ireturn (st := []) (v := md_o none) (pc := 39) hC hR dX6_sourceToBlame_39 hk
                    · refine sg_iload_n (pc := 30) (x := nI 5) hC dX6_sourceToBlame_30 rfl ?_
                      have e9 : k_blm N w t = some 5 := by rw [k_blm]; simp only [if_neg h2, if_neg h4, if_pos h6, if_pos h84, if_pos h86, if_pos h124, if_pos h126, if_pos h144, if_pos h146, if_neg (ts9 h154)]
                      rw [e9] at hk
                      exact sg_ireturn (st := []) (v := md_o (some 5)) (pc := 31) hC hR dX6_sourceToBlame_31 hk
                · refine sg_iload_n (pc := 30) (x := nI 4) hC dX6_sourceToBlame_30 rfl ?_
                  have e9 : k_blm N w t = some 4 := by rw [k_blm]; simp only [if_neg h2, if_neg h4, if_pos h6, if_pos h84, if_pos h86, if_pos h124, if_pos h126, if_neg (ts9 h144)]
                  rw [e9] at hk
                  exact sg_ireturn (st := []) (v := md_o (some 4)) (pc := 31) hC hR dX6_sourceToBlame_31 hk
            · refine sg_iload_n (pc := 30) (x := nI 3) hC dX6_sourceToBlame_30 rfl ?_
              have e9 : k_blm N w t = some 3 := by rw [k_blm]; simp only [if_neg h2, if_neg h4, if_pos h6, if_pos h84, if_pos h86, if_neg (ts9 h124)]
              rw [e9] at hk
              exact sg_ireturn (st := []) (v := md_o (some 3)) (pc := 31) hC hR dX6_sourceToBlame_31 hk
        · refine sg_iload_n (pc := 30) (x := nI 2) hC dX6_sourceToBlame_30 rfl ?_
          have e9 : k_blm N w t = some 2 := by rw [k_blm]; simp only [if_neg h2, if_neg h4, if_pos h6, if_neg (ts9 h84)]
          rw [e9] at hk
          exact sg_ireturn (st := []) (v := md_o (some 2)) (pc := 31) hC hR dX6_sourceToBlame_31 hk
    · refine sg_aload_n (pc := 17) (v := .ref ca) hC dX6_sourceToBlame_17 rfl rfl ?_
      refine sg_get (pc := 18) (a := ca) (v := .ref so) 2 hC rfl inw_X6 (by decide) tw_195 dX6_sourceToBlame_18 hX rfl ?_
      refine sg_iload_n (pc := 21) (x := nI 1) hC dX6_sourceToBlame_21 rfl ?_
      refine sg_aald8 (pc := 22) (i := nI 1) hC dX6_sourceToBlame_22 hSo (vp_in_nI (by first | omega | decide | exact Nat.lt_of_le_of_lt jshr (by omega) | exact Nat.lt_of_le_of_lt jand1 (by decide)) (by first | omega | decide | exact Nat.lt_of_le_of_lt jshr (by omega) | exact Nat.lt_of_le_of_lt jand1 (by decide))) ?_
      rw [nI_clamp (by first | omega | decide | exact Nat.lt_of_le_of_lt jshr (by omega) | exact Nat.lt_of_le_of_lt jand1 (by decide))]
      obtain ⟨q156, hq157, hs158⟩ := hG 1 (by omega)
      rw [hq157]
      obtain ⟨la159, f160, hc161, -, -⟩ := id hs158
      show sg_W X M 0 0 23 [some (.ref ca), some (.int (nI w)), some (.ref b), some (.int (nI 1))] [.ref q156]
      refine sg_aload_n (pc := 23) (v := .ref b) hC dX6_sourceToBlame_23 rfl rfl ?_
      refine sg_callV (pc := 24) (As := [.ref b]) (rest := []) (mc := 0) (ms := 0) hC tw_965 tw_966 tw_967 tw_70 tw_968 yd_X5_isGranted (by decide) (ci := 8) rfl dX6_sourceToBlame_24 hc161 rfl (Nat.le_of_ble_eq_true rfl) (by first | omega | decide | exact Nat.lt_of_le_of_lt jshr (by omega) | exact Nat.lt_of_le_of_lt jand1 (by decide)) (by first | omega | decide | exact Nat.lt_of_le_of_lt jshr (by omega) | exact Nat.lt_of_le_of_lt jand1 (by decide)) ?_
      refine c_granted htr hW (by omega) hs158 hB ?_
      show sg_W X M 0 0 27 [some (.ref ca), some (.int (nI w)), some (.ref b), some (.int (nI 1))] [.int (md_b ((isg (gl N 1) t)))]
      refine sg_ifB_ne (pc := 27) (b := (isg (gl N 1) t)) 32 hC dX6_sourceToBlame_27 (by decide) (fun h162 => ?_) (fun h162 => ?_)
      · refine sg_iincN (pc := 32) (a := 1) (b := 2) hC dX6_sourceToBlame_32 rfl (nI_1 _) (by decide) ?_
        show sg_W X M 0 0 35 [some (.ref ca), some (.int (nI w)), some (.ref b), some (.int (nI 2))] []
        refine sg_goto (pc := 35) 2 hC dX6_sourceToBlame_35 (by decide) ?_
        refine sg_iload_n (pc := 2) (x := nI 2) hC dX6_sourceToBlame_2 rfl ?_
        refine sg_bipush (pc := 3) (nI 6) hC dX6_sourceToBlame_3 (by decide) ?_
        refine sg_icmpN_ge (pc := 5) (a := 2) (b := 6) 38 hC dX6_sourceToBlame_5 (by decide) (by decide) (by decide) (fun h163 => absurd h163 (by decide)) (fun _ => ?_)
        refine sg_iload_n (pc := 8) (x := nI w) hC dX6_sourceToBlame_8 rfl ?_
        refine sg_iload_n (pc := 9) (x := nI 2) hC dX6_sourceToBlame_9 rfl ?_
        refine sg_ishrN (pc := 10) (a := w) (b := 2) hC dX6_sourceToBlame_10 (by first | omega | decide | exact Nat.lt_of_le_of_lt jshr (by omega) | exact Nat.lt_of_le_of_lt jand1 (by decide)) (by first | omega | decide | exact Nat.lt_of_le_of_lt jshr (by omega) | exact Nat.lt_of_le_of_lt jand1 (by decide)) ?_
        refine sg_iconst (pc := 11) (nI 1) hC dX6_sourceToBlame_11 (by decide) ?_
        refine sg_iandN (pc := 12) (a := w >>> 2) (b := 1) hC dX6_sourceToBlame_12 ?_
        refine sg_iconst (pc := 13) (nI 1) hC dX6_sourceToBlame_13 (by decide) ?_
        refine sg_icmpN_ne (pc := 14) (a := (w >>> 2) &&& 1) (b := 1) 32 hC dX6_sourceToBlame_14 (by decide) (by first | omega | decide | exact Nat.lt_of_le_of_lt jshr (by omega) | exact Nat.lt_of_le_of_lt jand1 (by decide)) (by first | omega | decide | exact Nat.lt_of_le_of_lt jshr (by omega) | exact Nat.lt_of_le_of_lt jand1 (by decide)) (fun h164 => ?_) (fun h164 => ?_)
        · refine sg_iincN (pc := 32) (a := 2) (b := 3) hC dX6_sourceToBlame_32 rfl (nI_1 _) (by decide) ?_
          show sg_W X M 0 0 35 [some (.ref ca), some (.int (nI w)), some (.ref b), some (.int (nI 3))] []
          refine sg_goto (pc := 35) 2 hC dX6_sourceToBlame_35 (by decide) ?_
          refine sg_iload_n (pc := 2) (x := nI 3) hC dX6_sourceToBlame_2 rfl ?_
          refine sg_bipush (pc := 3) (nI 6) hC dX6_sourceToBlame_3 (by decide) ?_
          refine sg_icmpN_ge (pc := 5) (a := 3) (b := 6) 38 hC dX6_sourceToBlame_5 (by decide) (by decide) (by decide) (fun h165 => absurd h165 (by decide)) (fun _ => ?_)
          refine sg_iload_n (pc := 8) (x := nI w) hC dX6_sourceToBlame_8 rfl ?_
          refine sg_iload_n (pc := 9) (x := nI 3) hC dX6_sourceToBlame_9 rfl ?_
          refine sg_ishrN (pc := 10) (a := w) (b := 3) hC dX6_sourceToBlame_10 (by first | omega | decide | exact Nat.lt_of_le_of_lt jshr (by omega) | exact Nat.lt_of_le_of_lt jand1 (by decide)) (by first | omega | decide | exact Nat.lt_of_le_of_lt jshr (by omega) | exact Nat.lt_of_le_of_lt jand1 (by decide)) ?_
          refine sg_iconst (pc := 11) (nI 1) hC dX6_sourceToBlame_11 (by decide) ?_
          refine sg_iandN (pc := 12) (a := w >>> 3) (b := 1) hC dX6_sourceToBlame_12 ?_
          refine sg_iconst (pc := 13) (nI 1) hC dX6_sourceToBlame_13 (by decide) ?_
          refine sg_icmpN_ne (pc := 14) (a := (w >>> 3) &&& 1) (b := 1) 32 hC dX6_sourceToBlame_14 (by decide) (by first | omega | decide | exact Nat.lt_of_le_of_lt jshr (by omega) | exact Nat.lt_of_le_of_lt jand1 (by decide)) (by first | omega | decide | exact Nat.lt_of_le_of_lt jshr (by omega) | exact Nat.lt_of_le_of_lt jand1 (by decide)) (fun h166 => ?_) (fun h166 => ?_)
          · refine sg_iincN (pc := 32) (a := 3) (b := 4) hC dX6_sourceToBlame_32 rfl (nI_1 _) (by decide) ?_
            show sg_W X M 0 0 35 [some (.ref ca), some (.int (nI w)), some (.ref b), some (.int (nI 4))] []
            refine sg_goto (pc := 35) 2 hC dX6_sourceToBlame_35 (by decide) ?_
            refine sg_iload_n (pc := 2) (x := nI 4) hC dX6_sourceToBlame_2 rfl ?_
            refine sg_bipush (pc := 3) (nI 6) hC dX6_sourceToBlame_3 (by decide) ?_
            refine sg_icmpN_ge (pc := 5) (a := 4) (b := 6) 38 hC dX6_sourceToBlame_5 (by decide) (by decide) (by decide) (fun h167 => absurd h167 (by decide)) (fun _ => ?_)
            refine sg_iload_n (pc := 8) (x := nI w) hC dX6_sourceToBlame_8 rfl ?_
            refine sg_iload_n (pc := 9) (x := nI 4) hC dX6_sourceToBlame_9 rfl ?_
            refine sg_ishrN (pc := 10) (a := w) (b := 4) hC dX6_sourceToBlame_10 (by first | omega | decide | exact Nat.lt_of_le_of_lt jshr (by omega) | exact Nat.lt_of_le_of_lt jand1 (by decide)) (by first | omega | decide | exact Nat.lt_of_le_of_lt jshr (by omega) | exact Nat.lt_of_le_of_lt jand1 (by decide)) ?_
            refine sg_iconst (pc := 11) (nI 1) hC dX6_sourceToBlame_11 (by decide) ?_
            refine sg_iandN (pc := 12) (a := w >>> 4) (b := 1) hC dX6_sourceToBlame_12 ?_
            refine sg_iconst (pc := 13) (nI 1) hC dX6_sourceToBlame_13 (by decide) ?_
            refine sg_icmpN_ne (pc := 14) (a := (w >>> 4) &&& 1) (b := 1) 32 hC dX6_sourceToBlame_14 (by decide) (by first | omega | decide | exact Nat.lt_of_le_of_lt jshr (by omega) | exact Nat.lt_of_le_of_lt jand1 (by decide)) (by first | omega | decide | exact Nat.lt_of_le_of_lt jshr (by omega) | exact Nat.lt_of_le_of_lt jand1 (by decide)) (fun h168 => ?_) (fun h168 => ?_)
            · refine sg_iincN (pc := 32) (a := 4) (b := 5) hC dX6_sourceToBlame_32 rfl (nI_1 _) (by decide) ?_
              show sg_W X M 0 0 35 [some (.ref ca), some (.int (nI w)), some (.ref b), some (.int (nI 5))] []
              refine sg_goto (pc := 35) 2 hC dX6_sourceToBlame_35 (by decide) ?_
              refine sg_iload_n (pc := 2) (x := nI 5) hC dX6_sourceToBlame_2 rfl ?_
              refine sg_bipush (pc := 3) (nI 6) hC dX6_sourceToBlame_3 (by decide) ?_
              refine sg_icmpN_ge (pc := 5) (a := 5) (b := 6) 38 hC dX6_sourceToBlame_5 (by decide) (by decide) (by decide) (fun h169 => absurd h169 (by decide)) (fun _ => ?_)
              refine sg_iload_n (pc := 8) (x := nI w) hC dX6_sourceToBlame_8 rfl ?_
              refine sg_iload_n (pc := 9) (x := nI 5) hC dX6_sourceToBlame_9 rfl ?_
              refine sg_ishrN (pc := 10) (a := w) (b := 5) hC dX6_sourceToBlame_10 (by first | omega | decide | exact Nat.lt_of_le_of_lt jshr (by omega) | exact Nat.lt_of_le_of_lt jand1 (by decide)) (by first | omega | decide | exact Nat.lt_of_le_of_lt jshr (by omega) | exact Nat.lt_of_le_of_lt jand1 (by decide)) ?_
              refine sg_iconst (pc := 11) (nI 1) hC dX6_sourceToBlame_11 (by decide) ?_
              refine sg_iandN (pc := 12) (a := w >>> 5) (b := 1) hC dX6_sourceToBlame_12 ?_
              refine sg_iconst (pc := 13) (nI 1) hC dX6_sourceToBlame_13 (by decide) ?_
              refine sg_icmpN_ne (pc := 14) (a := (w >>> 5) &&& 1) (b := 1) 32 hC dX6_sourceToBlame_14 (by decide) (by first | omega | decide | exact Nat.lt_of_le_of_lt jshr (by omega) | exact Nat.lt_of_le_of_lt jand1 (by decide)) (by first | omega | decide | exact Nat.lt_of_le_of_lt jshr (by omega) | exact Nat.lt_of_le_of_lt jand1 (by decide)) (fun h170 => ?_) (fun h170 => ?_)
              · refine sg_iincN (pc := 32) (a := 5) (b := 6) hC dX6_sourceToBlame_32 rfl (nI_1 _) (by decide) ?_
                show sg_W X M 0 0 35 [some (.ref ca), some (.int (nI w)), some (.ref b), some (.int (nI 6))] []
                refine sg_goto (pc := 35) 2 hC dX6_sourceToBlame_35 (by decide) ?_
                refine sg_iload_n (pc := 2) (x := nI 6) hC dX6_sourceToBlame_2 rfl ?_
                refine sg_bipush (pc := 3) (nI 6) hC dX6_sourceToBlame_3 (by decide) ?_
                refine sg_icmpN_ge (pc := 5) (a := 6) (b := 6) 38 hC dX6_sourceToBlame_5 (by decide) (by decide) (by decide) (fun _ => ?_) (fun h171 => absurd h171 (by decide))
                refine sg_iconst (pc := 38) (((-1))) hC dX6_sourceToBlame_38 (by decide) ?_
                have e9 : k_blm N w t = none := by rw [k_blm]; simp only [if_neg h2, if_pos h4, if_pos h162, if_neg h164, if_neg h166, if_neg h168, if_neg h170]
                rw [e9] at hk
                exact sg_ireturn (st := []) (v := md_o none) (pc := 39) hC hR dX6_sourceToBlame_39 hk
              · refine sg_aload_n (pc := 17) (v := .ref ca) hC dX6_sourceToBlame_17 rfl rfl ?_
                refine sg_get (pc := 18) (a := ca) (v := .ref so) 2 hC rfl inw_X6 (by decide) tw_195 dX6_sourceToBlame_18 hX rfl ?_
                refine sg_iload_n (pc := 21) (x := nI 5) hC dX6_sourceToBlame_21 rfl ?_
                refine sg_aald8 (pc := 22) (i := nI 5) hC dX6_sourceToBlame_22 hSo (vp_in_nI (by first | omega | decide | exact Nat.lt_of_le_of_lt jshr (by omega) | exact Nat.lt_of_le_of_lt jand1 (by decide)) (by first | omega | decide | exact Nat.lt_of_le_of_lt jshr (by omega) | exact Nat.lt_of_le_of_lt jand1 (by decide))) ?_
                rw [nI_clamp (by first | omega | decide | exact Nat.lt_of_le_of_lt jshr (by omega) | exact Nat.lt_of_le_of_lt jand1 (by decide))]
                obtain ⟨q172, hq173, hs174⟩ := hG 5 (by omega)
                rw [hq173]
                obtain ⟨la175, f176, hc177, -, -⟩ := id hs174
                show sg_W X M 0 0 23 [some (.ref ca), some (.int (nI w)), some (.ref b), some (.int (nI 5))] [.ref q172]
                refine sg_aload_n (pc := 23) (v := .ref b) hC dX6_sourceToBlame_23 rfl rfl ?_
                refine sg_callV (pc := 24) (As := [.ref b]) (rest := []) (mc := 0) (ms := 0) hC tw_965 tw_966 tw_967 tw_70 tw_968 yd_X5_isGranted (by decide) (ci := 8) rfl dX6_sourceToBlame_24 hc177 rfl (Nat.le_of_ble_eq_true rfl) (by first | omega | decide | exact Nat.lt_of_le_of_lt jshr (by omega) | exact Nat.lt_of_le_of_lt jand1 (by decide)) (by first | omega | decide | exact Nat.lt_of_le_of_lt jshr (by omega) | exact Nat.lt_of_le_of_lt jand1 (by decide)) ?_
                refine c_granted htr hW (by omega) hs174 hB ?_
                show sg_W X M 0 0 27 [some (.ref ca), some (.int (nI w)), some (.ref b), some (.int (nI 5))] [.int (md_b ((isg (gl N 5) t)))]
                refine sg_ifB_ne (pc := 27) (b := (isg (gl N 5) t)) 32 hC dX6_sourceToBlame_27 (by decide) (fun h178 => ?_) (fun h178 => ?_)
                · refine sg_iincN (pc := 32) (a := 5) (b := 6) hC dX6_sourceToBlame_32 rfl (nI_1 _) (by decide) ?_
                  show sg_W X M 0 0 35 [some (.ref ca), some (.int (nI w)), some (.ref b), some (.int (nI 6))] []
                  refine sg_goto (pc := 35) 2 hC dX6_sourceToBlame_35 (by decide) ?_
                  refine sg_iload_n (pc := 2) (x := nI 6) hC dX6_sourceToBlame_2 rfl ?_
                  refine sg_bipush (pc := 3) (nI 6) hC dX6_sourceToBlame_3 (by decide) ?_
                  refine sg_icmpN_ge (pc := 5) (a := 6) (b := 6) 38 hC dX6_sourceToBlame_5 (by decide) (by decide) (by decide) (fun _ => ?_) (fun h179 => absurd h179 (by decide))
                  refine sg_iconst (pc := 38) (((-1))) hC dX6_sourceToBlame_38 (by decide) ?_
                  have e9 : k_blm N w t = none := by rw [k_blm]; simp only [if_neg h2, if_pos h4, if_pos h162, if_neg h164, if_neg h166, if_neg h168, if_pos h170, if_pos h178]
                  rw [e9] at hk
                  exact sg_ireturn (st := []) (v := md_o none) (pc := 39) hC hR dX6_sourceToBlame_39 hk
                · refine sg_iload_n (pc := 30) (x := nI 5) hC dX6_sourceToBlame_30 rfl ?_
                  have e9 : k_blm N w t = some 5 := by rw [k_blm]; simp only [if_neg h2, if_pos h4, if_pos h162, if_neg h164, if_neg h166, if_neg h168, if_pos h170, if_neg (ts9 h178)]
                  rw [e9] at hk
                  exact sg_ireturn (st := []) (v := md_o (some 5)) (pc := 31) hC hR dX6_sourceToBlame_31 hk
            · refine sg_aload_n (pc := 17) (v := .ref ca) hC dX6_sourceToBlame_17 rfl rfl ?_
              refine sg_get (pc := 18) (a := ca) (v := .ref so) 2 hC rfl inw_X6 (by decide) tw_195 dX6_sourceToBlame_18 hX rfl ?_
              refine sg_iload_n (pc := 21) (x := nI 4) hC dX6_sourceToBlame_21 rfl ?_
              refine sg_aald8 (pc := 22) (i := nI 4) hC dX6_sourceToBlame_22 hSo (vp_in_nI (by first | omega | decide | exact Nat.lt_of_le_of_lt jshr (by omega) | exact Nat.lt_of_le_of_lt jand1 (by decide)) (by first | omega | decide | exact Nat.lt_of_le_of_lt jshr (by omega) | exact Nat.lt_of_le_of_lt jand1 (by decide))) ?_
              rw [nI_clamp (by first | omega | decide | exact Nat.lt_of_le_of_lt jshr (by omega) | exact Nat.lt_of_le_of_lt jand1 (by decide))]
              obtain ⟨q180, hq181, hs182⟩ := hG 4 (by omega)
              rw [hq181]
              obtain ⟨la183, f184, hc185, -, -⟩ := id hs182
              show sg_W X M 0 0 23 [some (.ref ca), some (.int (nI w)), some (.ref b), some (.int (nI 4))] [.ref q180]
              refine sg_aload_n (pc := 23) (v := .ref b) hC dX6_sourceToBlame_23 rfl rfl ?_
              refine sg_callV (pc := 24) (As := [.ref b]) (rest := []) (mc := 0) (ms := 0) hC tw_965 tw_966 tw_967 tw_70 tw_968 yd_X5_isGranted (by decide) (ci := 8) rfl dX6_sourceToBlame_24 hc185 rfl (Nat.le_of_ble_eq_true rfl) (by first | omega | decide | exact Nat.lt_of_le_of_lt jshr (by omega) | exact Nat.lt_of_le_of_lt jand1 (by decide)) (by first | omega | decide | exact Nat.lt_of_le_of_lt jshr (by omega) | exact Nat.lt_of_le_of_lt jand1 (by decide)) ?_
              refine c_granted htr hW (by omega) hs182 hB ?_
              show sg_W X M 0 0 27 [some (.ref ca), some (.int (nI w)), some (.ref b), some (.int (nI 4))] [.int (md_b ((isg (gl N 4) t)))]
              refine sg_ifB_ne (pc := 27) (b := (isg (gl N 4) t)) 32 hC dX6_sourceToBlame_27 (by decide) (fun h186 => ?_) (fun h186 => ?_)
              · refine sg_iincN (pc := 32) (a := 4) (b := 5) hC dX6_sourceToBlame_32 rfl (nI_1 _) (by decide) ?_
                show sg_W X M 0 0 35 [some (.ref ca), some (.int (nI w)), some (.ref b), some (.int (nI 5))] []
                refine sg_goto (pc := 35) 2 hC dX6_sourceToBlame_35 (by decide) ?_
                refine sg_iload_n (pc := 2) (x := nI 5) hC dX6_sourceToBlame_2 rfl ?_
                refine sg_bipush (pc := 3) (nI 6) hC dX6_sourceToBlame_3 (by decide) ?_
                refine sg_icmpN_ge (pc := 5) (a := 5) (b := 6) 38 hC dX6_sourceToBlame_5 (by decide) (by decide) (by decide) (fun h187 => absurd h187 (by decide)) (fun _ => ?_)
                refine sg_iload_n (pc := 8) (x := nI w) hC dX6_sourceToBlame_8 rfl ?_
                refine sg_iload_n (pc := 9) (x := nI 5) hC dX6_sourceToBlame_9 rfl ?_
                refine sg_ishrN (pc := 10) (a := w) (b := 5) hC dX6_sourceToBlame_10 (by first | omega | decide | exact Nat.lt_of_le_of_lt jshr (by omega) | exact Nat.lt_of_le_of_lt jand1 (by decide)) (by first | omega | decide | exact Nat.lt_of_le_of_lt jshr (by omega) | exact Nat.lt_of_le_of_lt jand1 (by decide)) ?_
                refine sg_iconst (pc := 11) (nI 1) hC dX6_sourceToBlame_11 (by decide) ?_
                refine sg_iandN (pc := 12) (a := w >>> 5) (b := 1) hC dX6_sourceToBlame_12 ?_
                refine sg_iconst (pc := 13) (nI 1) hC dX6_sourceToBlame_13 (by decide) ?_
                refine sg_icmpN_ne (pc := 14) (a := (w >>> 5) &&& 1) (b := 1) 32 hC dX6_sourceToBlame_14 (by decide) (by first | omega | decide | exact Nat.lt_of_le_of_lt jshr (by omega) | exact Nat.lt_of_le_of_lt jand1 (by decide)) (by first | omega | decide | exact Nat.lt_of_le_of_lt jshr (by omega) | exact Nat.lt_of_le_of_lt jand1 (by decide)) (fun h188 => ?_) (fun h188 => ?_)
                · refine sg_iincN (pc := 32) (a := 5) (b := 6) hC dX6_sourceToBlame_32 rfl (nI_1 _) (by decide) ?_
                  show sg_W X M 0 0 35 [some (.ref ca), some (.int (nI w)), some (.ref b), some (.int (nI 6))] []
                  refine sg_goto (pc := 35) 2 hC dX6_sourceToBlame_35 (by decide) ?_
                  refine sg_iload_n (pc := 2) (x := nI 6) hC dX6_sourceToBlame_2 rfl ?_
                  refine sg_bipush (pc := 3) (nI 6) hC dX6_sourceToBlame_3 (by decide) ?_
                  refine sg_icmpN_ge (pc := 5) (a := 6) (b := 6) 38 hC dX6_sourceToBlame_5 (by decide) (by decide) (by decide) (fun _ => ?_) (fun h189 => absurd h189 (by decide))
                  refine sg_iconst (pc := 38) (((-1))) hC dX6_sourceToBlame_38 (by decide) ?_
                  have e9 : k_blm N w t = none := by rw [k_blm]; simp only [if_neg h2, if_pos h4, if_pos h162, if_neg h164, if_neg h166, if_pos h168, if_pos h186, if_neg h188]
                  rw [e9] at hk
                  exact sg_ireturn (st := []) (v := md_o none) (pc := 39) hC hR dX6_sourceToBlame_39 hk
                · refine sg_aload_n (pc := 17) (v := .ref ca) hC dX6_sourceToBlame_17 rfl rfl ?_
                  refine sg_get (pc := 18) (a := ca) (v := .ref so) 2 hC rfl inw_X6 (by decide) tw_195 dX6_sourceToBlame_18 hX rfl ?_
                  refine sg_iload_n (pc := 21) (x := nI 5) hC dX6_sourceToBlame_21 rfl ?_
                  refine sg_aald8 (pc := 22) (i := nI 5) hC dX6_sourceToBlame_22 hSo (vp_in_nI (by first | omega | decide | exact Nat.lt_of_le_of_lt jshr (by omega) | exact Nat.lt_of_le_of_lt jand1 (by decide)) (by first | omega | decide | exact Nat.lt_of_le_of_lt jshr (by omega) | exact Nat.lt_of_le_of_lt jand1 (by decide))) ?_
                  rw [nI_clamp (by first | omega | decide | exact Nat.lt_of_le_of_lt jshr (by omega) | exact Nat.lt_of_le_of_lt jand1 (by decide))]
                  obtain ⟨q190, hq191, hs192⟩ := hG 5 (by omega)
                  rw [hq191]
                  obtain ⟨la193, f194, hc195, -, -⟩ := id hs192
                  show sg_W X M 0 0 23 [some (.ref ca), some (.int (nI w)), some (.ref b), some (.int (nI 5))] [.ref q190]
                  refine sg_aload_n (pc := 23) (v := .ref b) hC dX6_sourceToBlame_23 rfl rfl ?_
                  refine sg_callV (pc := 24) (As := [.ref b]) (rest := []) (mc := 0) (ms := 0) hC tw_965 tw_966 tw_967 tw_70 tw_968 yd_X5_isGranted (by decide) (ci := 8) rfl dX6_sourceToBlame_24 hc195 rfl (Nat.le_of_ble_eq_true rfl) (by first | omega | decide | exact Nat.lt_of_le_of_lt jshr (by omega) | exact Nat.lt_of_le_of_lt jand1 (by decide)) (by first | omega | decide | exact Nat.lt_of_le_of_lt jshr (by omega) | exact Nat.lt_of_le_of_lt jand1 (by decide)) ?_
                  refine c_granted htr hW (by omega) hs192 hB ?_
                  show sg_W X M 0 0 27 [some (.ref ca), some (.int (nI w)), some (.ref b), some (.int (nI 5))] [.int (md_b ((isg (gl N 5) t)))]
                  refine sg_ifB_ne (pc := 27) (b := (isg (gl N 5) t)) 32 hC dX6_sourceToBlame_27 (by decide) (fun h196 => ?_) (fun h196 => ?_)
                  · refine sg_iincN (pc := 32) (a := 5) (b := 6) hC dX6_sourceToBlame_32 rfl (nI_1 _) (by decide) ?_
                    show sg_W X M 0 0 35 [some (.ref ca), some (.int (nI w)), some (.ref b), some (.int (nI 6))] []
                    refine sg_goto (pc := 35) 2 hC dX6_sourceToBlame_35 (by decide) ?_
                    refine sg_iload_n (pc := 2) (x := nI 6) hC dX6_sourceToBlame_2 rfl ?_
                    refine sg_bipush (pc := 3) (nI 6) hC dX6_sourceToBlame_3 (by decide) ?_
                    refine sg_icmpN_ge (pc := 5) (a := 6) (b := 6) 38 hC dX6_sourceToBlame_5 (by decide) (by decide) (by decide) (fun _ => ?_) (fun h197 => absurd h197 (by decide))
                    refine sg_iconst (pc := 38) (((-1))) hC dX6_sourceToBlame_38 (by decide) ?_
                    have e9 : k_blm N w t = none := by rw [k_blm]; simp only [if_neg h2, if_pos h4, if_pos h162, if_neg h164, if_neg h166, if_pos h168, if_pos h186, if_pos h188, if_pos h196]
                    rw [e9] at hk
                    exact sg_ireturn (st := []) (v := md_o none) (pc := 39) hC hR dX6_sourceToBlame_39 hk
                  · refine sg_iload_n (pc := 30) (x := nI 5) hC dX6_sourceToBlame_30 rfl ?_
                    have e9 : k_blm N w t = some 5 := by rw [k_blm]; simp only [if_neg h2, if_pos h4, if_pos h162, if_neg h164, if_neg h166, if_pos h168, if_pos h186, if_pos h188, if_neg (ts9 h196)]
                    rw [e9] at hk
                    exact sg_ireturn (st := []) (v := md_o (some 5)) (pc := 31) hC hR dX6_sourceToBlame_31 hk
              · refine sg_iload_n (pc := 30) (x := nI 4) hC dX6_sourceToBlame_30 rfl ?_
                have e9 : k_blm N w t = some 4 := by rw [k_blm]; simp only [if_neg h2, if_pos h4, if_pos h162, if_neg h164, if_neg h166, if_pos h168, if_neg (ts9 h186)]
                rw [e9] at hk
                exact sg_ireturn (st := []) (v := md_o (some 4)) (pc := 31) hC hR dX6_sourceToBlame_31 hk
          · refine sg_aload_n (pc := 17) (v := .ref ca) hC dX6_sourceToBlame_17 rfl rfl ?_
            refine sg_get (pc := 18) (a := ca) (v := .ref so) 2 hC rfl inw_X6 (by decide) tw_195 dX6_sourceToBlame_18 hX rfl ?_
            refine sg_iload_n (pc := 21) (x := nI 3) hC dX6_sourceToBlame_21 rfl ?_
            refine sg_aald8 (pc := 22) (i := nI 3) hC dX6_sourceToBlame_22 hSo (vp_in_nI (by first | omega | decide | exact Nat.lt_of_le_of_lt jshr (by omega) | exact Nat.lt_of_le_of_lt jand1 (by decide)) (by first | omega | decide | exact Nat.lt_of_le_of_lt jshr (by omega) | exact Nat.lt_of_le_of_lt jand1 (by decide))) ?_
            rw [nI_clamp (by first | omega | decide | exact Nat.lt_of_le_of_lt jshr (by omega) | exact Nat.lt_of_le_of_lt jand1 (by decide))]
            obtain ⟨q198, hq199, hs200⟩ := hG 3 (by omega)
            rw [hq199]
            obtain ⟨la201, f202, hc203, -, -⟩ := id hs200
            show sg_W X M 0 0 23 [some (.ref ca), some (.int (nI w)), some (.ref b), some (.int (nI 3))] [.ref q198]
            refine sg_aload_n (pc := 23) (v := .ref b) hC dX6_sourceToBlame_23 rfl rfl ?_
            refine sg_callV (pc := 24) (As := [.ref b]) (rest := []) (mc := 0) (ms := 0) hC tw_965 tw_966 tw_967 tw_70 tw_968 yd_X5_isGranted (by decide) (ci := 8) rfl dX6_sourceToBlame_24 hc203 rfl (Nat.le_of_ble_eq_true rfl) (by first | omega | decide | exact Nat.lt_of_le_of_lt jshr (by omega) | exact Nat.lt_of_le_of_lt jand1 (by decide)) (by first | omega | decide | exact Nat.lt_of_le_of_lt jshr (by omega) | exact Nat.lt_of_le_of_lt jand1 (by decide)) ?_
            refine c_granted htr hW (by omega) hs200 hB ?_
            show sg_W X M 0 0 27 [some (.ref ca), some (.int (nI w)), some (.ref b), some (.int (nI 3))] [.int (md_b ((isg (gl N 3) t)))]
            refine sg_ifB_ne (pc := 27) (b := (isg (gl N 3) t)) 32 hC dX6_sourceToBlame_27 (by decide) (fun h204 => ?_) (fun h204 => ?_)
            · refine sg_iincN (pc := 32) (a := 3) (b := 4) hC dX6_sourceToBlame_32 rfl (nI_1 _) (by decide) ?_
              show sg_W X M 0 0 35 [some (.ref ca), some (.int (nI w)), some (.ref b), some (.int (nI 4))] []
              refine sg_goto (pc := 35) 2 hC dX6_sourceToBlame_35 (by decide) ?_
              refine sg_iload_n (pc := 2) (x := nI 4) hC dX6_sourceToBlame_2 rfl ?_
              refine sg_bipush (pc := 3) (nI 6) hC dX6_sourceToBlame_3 (by decide) ?_
              refine sg_icmpN_ge (pc := 5) (a := 4) (b := 6) 38 hC dX6_sourceToBlame_5 (by decide) (by decide) (by decide) (fun h205 => absurd h205 (by decide)) (fun _ => ?_)
              refine sg_iload_n (pc := 8) (x := nI w) hC dX6_sourceToBlame_8 rfl ?_
              refine sg_iload_n (pc := 9) (x := nI 4) hC dX6_sourceToBlame_9 rfl ?_
              refine sg_ishrN (pc := 10) (a := w) (b := 4) hC dX6_sourceToBlame_10 (by first | omega | decide | exact Nat.lt_of_le_of_lt jshr (by omega) | exact Nat.lt_of_le_of_lt jand1 (by decide)) (by first | omega | decide | exact Nat.lt_of_le_of_lt jshr (by omega) | exact Nat.lt_of_le_of_lt jand1 (by decide)) ?_
              refine sg_iconst (pc := 11) (nI 1) hC dX6_sourceToBlame_11 (by decide) ?_
              refine sg_iandN (pc := 12) (a := w >>> 4) (b := 1) hC dX6_sourceToBlame_12 ?_
              refine sg_iconst (pc := 13) (nI 1) hC dX6_sourceToBlame_13 (by decide) ?_
              refine sg_icmpN_ne (pc := 14) (a := (w >>> 4) &&& 1) (b := 1) 32 hC dX6_sourceToBlame_14 (by decide) (by first | omega | decide | exact Nat.lt_of_le_of_lt jshr (by omega) | exact Nat.lt_of_le_of_lt jand1 (by decide)) (by first | omega | decide | exact Nat.lt_of_le_of_lt jshr (by omega) | exact Nat.lt_of_le_of_lt jand1 (by decide)) (fun h206 => ?_) (fun h206 => ?_)
              · refine sg_iincN (pc := 32) (a := 4) (b := 5) hC dX6_sourceToBlame_32 rfl (nI_1 _) (by decide) ?_
                show sg_W X M 0 0 35 [some (.ref ca), some (.int (nI w)), some (.ref b), some (.int (nI 5))] []
                refine sg_goto (pc := 35) 2 hC dX6_sourceToBlame_35 (by decide) ?_
                refine sg_iload_n (pc := 2) (x := nI 5) hC dX6_sourceToBlame_2 rfl ?_
                refine sg_bipush (pc := 3) (nI 6) hC dX6_sourceToBlame_3 (by decide) ?_
                refine sg_icmpN_ge (pc := 5) (a := 5) (b := 6) 38 hC dX6_sourceToBlame_5 (by decide) (by decide) (by decide) (fun h207 => absurd h207 (by decide)) (fun _ => ?_)
                refine sg_iload_n (pc := 8) (x := nI w) hC dX6_sourceToBlame_8 rfl ?_
                refine sg_iload_n (pc := 9) (x := nI 5) hC dX6_sourceToBlame_9 rfl ?_
                refine sg_ishrN (pc := 10) (a := w) (b := 5) hC dX6_sourceToBlame_10 (by first | omega | decide | exact Nat.lt_of_le_of_lt jshr (by omega) | exact Nat.lt_of_le_of_lt jand1 (by decide)) (by first | omega | decide | exact Nat.lt_of_le_of_lt jshr (by omega) | exact Nat.lt_of_le_of_lt jand1 (by decide)) ?_
                refine sg_iconst (pc := 11) (nI 1) hC dX6_sourceToBlame_11 (by decide) ?_
                refine sg_iandN (pc := 12) (a := w >>> 5) (b := 1) hC dX6_sourceToBlame_12 ?_
                refine sg_iconst (pc := 13) (nI 1) hC dX6_sourceToBlame_13 (by decide) ?_
                refine sg_icmpN_ne (pc := 14) (a := (w >>> 5) &&& 1) (b := 1) 32 hC dX6_sourceToBlame_14 (by decide) (by first | omega | decide | exact Nat.lt_of_le_of_lt jshr (by omega) | exact Nat.lt_of_le_of_lt jand1 (by decide)) (by first | omega | decide | exact Nat.lt_of_le_of_lt jshr (by omega) | exact Nat.lt_of_le_of_lt jand1 (by decide)) (fun h208 => ?_) (fun h208 => ?_)
                · refine sg_iincN (pc := 32) (a := 5) (b := 6) hC dX6_sourceToBlame_32 rfl (nI_1 _) (by decide) ?_
                  show sg_W X M 0 0 35 [some (.ref ca), some (.int (nI w)), some (.ref b), some (.int (nI 6))] []
                  refine sg_goto (pc := 35) 2 hC dX6_sourceToBlame_35 (by decide) ?_
                  refine sg_iload_n (pc := 2) (x := nI 6) hC dX6_sourceToBlame_2 rfl ?_
                  refine sg_bipush (pc := 3) (nI 6) hC dX6_sourceToBlame_3 (by decide) ?_
                  refine sg_icmpN_ge (pc := 5) (a := 6) (b := 6) 38 hC dX6_sourceToBlame_5 (by decide) (by decide) (by decide) (fun _ => ?_) (fun h209 => absurd h209 (by decide))
                  refine sg_iconst (pc := 38) (((-1))) hC dX6_sourceToBlame_38 (by decide) ?_
                  have e9 : k_blm N w t = none := by rw [k_blm]; simp only [if_neg h2, if_pos h4, if_pos h162, if_neg h164, if_pos h166, if_pos h204, if_neg h206, if_neg h208]
                  rw [e9] at hk
                  exact sg_ireturn (st := []) (v := md_o none) (pc := 39) hC hR dX6_sourceToBlame_39 hk
                · refine sg_aload_n (pc := 17) (v := .ref ca) hC dX6_sourceToBlame_17 rfl rfl ?_
                  refine sg_get (pc := 18) (a := ca) (v := .ref so) 2 hC rfl inw_X6 (by decide) tw_195 dX6_sourceToBlame_18 hX rfl ?_
                  refine sg_iload_n (pc := 21) (x := nI 5) hC dX6_sourceToBlame_21 rfl ?_
                  refine sg_aald8 (pc := 22) (i := nI 5) hC dX6_sourceToBlame_22 hSo (vp_in_nI (by first | omega | decide | exact Nat.lt_of_le_of_lt jshr (by omega) | exact Nat.lt_of_le_of_lt jand1 (by decide)) (by first | omega | decide | exact Nat.lt_of_le_of_lt jshr (by omega) | exact Nat.lt_of_le_of_lt jand1 (by decide))) ?_
                  rw [nI_clamp (by first | omega | decide | exact Nat.lt_of_le_of_lt jshr (by omega) | exact Nat.lt_of_le_of_lt jand1 (by decide))]
                  obtain ⟨q210, hq211, hs212⟩ := hG 5 (by omega)
                  rw [hq211]
                  obtain ⟨la213, f214, hc215, -, -⟩ := id hs212
                  show sg_W X M 0 0 23 [some (.ref ca), some (.int (nI w)), some (.ref b), some (.int (nI 5))] [.ref q210]
                  refine sg_aload_n (pc := 23) (v := .ref b) hC dX6_sourceToBlame_23 rfl rfl ?_
                  refine sg_callV (pc := 24) (As := [.ref b]) (rest := []) (mc := 0) (ms := 0) hC tw_965 tw_966 tw_967 tw_70 tw_968 yd_X5_isGranted (by decide) (ci := 8) rfl dX6_sourceToBlame_24 hc215 rfl (Nat.le_of_ble_eq_true rfl) (by first | omega | decide | exact Nat.lt_of_le_of_lt jshr (by omega) | exact Nat.lt_of_le_of_lt jand1 (by decide)) (by first | omega | decide | exact Nat.lt_of_le_of_lt jshr (by omega) | exact Nat.lt_of_le_of_lt jand1 (by decide)) ?_
                  refine c_granted htr hW (by omega) hs212 hB ?_
                  show sg_W X M 0 0 27 [some (.ref ca), some (.int (nI w)), some (.ref b), some (.int (nI 5))] [.int (md_b ((isg (gl N 5) t)))]
                  refine sg_ifB_ne (pc := 27) (b := (isg (gl N 5) t)) 32 hC dX6_sourceToBlame_27 (by decide) (fun h216 => ?_) (fun h216 => ?_)
                  · refine sg_iincN (pc := 32) (a := 5) (b := 6) hC dX6_sourceToBlame_32 rfl (nI_1 _) (by decide) ?_
                    show sg_W X M 0 0 35 [some (.ref ca), some (.int (nI w)), some (.ref b), some (.int (nI 6))] []
                    refine sg_goto (pc := 35) 2 hC dX6_sourceToBlame_35 (by decide) ?_
                    refine sg_iload_n (pc := 2) (x := nI 6) hC dX6_sourceToBlame_2 rfl ?_
                    refine sg_bipush (pc := 3) (nI 6) hC dX6_sourceToBlame_3 (by decide) ?_
                    refine sg_icmpN_ge (pc := 5) (a := 6) (b := 6) 38 hC dX6_sourceToBlame_5 (by decide) (by decide) (by decide) (fun _ => ?_) (fun h217 => absurd h217 (by decide))
                    refine sg_iconst (pc := 38) (((-1))) hC dX6_sourceToBlame_38 (by decide) ?_
                    have e9 : k_blm N w t = none := by rw [k_blm]; simp only [if_neg h2, if_pos h4, if_pos h162, if_neg h164, if_pos h166, if_pos h204, if_neg h206, if_pos h208, if_pos h216]
                    rw [e9] at hk
                    exact sg_ireturn (st := []) (v := md_o none) (pc := 39) hC hR dX6_sourceToBlame_39 hk
                  · refine sg_iload_n (pc := 30) (x := nI 5) hC dX6_sourceToBlame_30 rfl ?_
                    have e9 : k_blm N w t = some 5 := by rw [k_blm]; simp only [if_neg h2, if_pos h4, if_pos h162, if_neg h164, if_pos h166, if_pos h204, if_neg h206, if_pos h208, if_neg (ts9 h216)]
                    rw [e9] at hk
                    exact sg_ireturn (st := []) (v := md_o (some 5)) (pc := 31) hC hR dX6_sourceToBlame_31 hk
              · refine sg_aload_n (pc := 17) (v := .ref ca) hC dX6_sourceToBlame_17 rfl rfl ?_
                refine sg_get (pc := 18) (a := ca) (v := .ref so) 2 hC rfl inw_X6 (by decide) tw_195 dX6_sourceToBlame_18 hX rfl ?_
                refine sg_iload_n (pc := 21) (x := nI 4) hC dX6_sourceToBlame_21 rfl ?_
                refine sg_aald8 (pc := 22) (i := nI 4) hC dX6_sourceToBlame_22 hSo (vp_in_nI (by first | omega | decide | exact Nat.lt_of_le_of_lt jshr (by omega) | exact Nat.lt_of_le_of_lt jand1 (by decide)) (by first | omega | decide | exact Nat.lt_of_le_of_lt jshr (by omega) | exact Nat.lt_of_le_of_lt jand1 (by decide))) ?_
                rw [nI_clamp (by first | omega | decide | exact Nat.lt_of_le_of_lt jshr (by omega) | exact Nat.lt_of_le_of_lt jand1 (by decide))]
                obtain ⟨q218, hq219, hs220⟩ := hG 4 (by omega)
                rw [hq219]
                obtain ⟨la221, f222, hc223, -, -⟩ := id hs220
                show sg_W X M 0 0 23 [some (.ref ca), some (.int (nI w)), some (.ref b), some (.int (nI 4))] [.ref q218]
                refine sg_aload_n (pc := 23) (v := .ref b) hC dX6_sourceToBlame_23 rfl rfl ?_
                refine sg_callV (pc := 24) (As := [.ref b]) (rest := []) (mc := 0) (ms := 0) hC tw_965 tw_966 tw_967 tw_70 tw_968 yd_X5_isGranted (by decide) (ci := 8) rfl dX6_sourceToBlame_24 hc223 rfl (Nat.le_of_ble_eq_true rfl) (by first | omega | decide | exact Nat.lt_of_le_of_lt jshr (by omega) | exact Nat.lt_of_le_of_lt jand1 (by decide)) (by first | omega | decide | exact Nat.lt_of_le_of_lt jshr (by omega) | exact Nat.lt_of_le_of_lt jand1 (by decide)) ?_
                refine c_granted htr hW (by omega) hs220 hB ?_
                show sg_W X M 0 0 27 [some (.ref ca), some (.int (nI w)), some (.ref b), some (.int (nI 4))] [.int (md_b ((isg (gl N 4) t)))]
                refine sg_ifB_ne (pc := 27) (b := (isg (gl N 4) t)) 32 hC dX6_sourceToBlame_27 (by decide) (fun h224 => ?_) (fun h224 => ?_)
                · refine sg_iincN (pc := 32) (a := 4) (b := 5) hC dX6_sourceToBlame_32 rfl (nI_1 _) (by decide) ?_
                  show sg_W X M 0 0 35 [some (.ref ca), some (.int (nI w)), some (.ref b), some (.int (nI 5))] []
                  refine sg_goto (pc := 35) 2 hC dX6_sourceToBlame_35 (by decide) ?_
                  refine sg_iload_n (pc := 2) (x := nI 5) hC dX6_sourceToBlame_2 rfl ?_
                  refine sg_bipush (pc := 3) (nI 6) hC dX6_sourceToBlame_3 (by decide) ?_
                  refine sg_icmpN_ge (pc := 5) (a := 5) (b := 6) 38 hC dX6_sourceToBlame_5 (by decide) (by decide) (by decide) (fun h225 => absurd h225 (by decide)) (fun _ => ?_)
                  refine sg_iload_n (pc := 8) (x := nI w) hC dX6_sourceToBlame_8 rfl ?_
                  refine sg_iload_n (pc := 9) (x := nI 5) hC dX6_sourceToBlame_9 rfl ?_
                  refine sg_ishrN (pc := 10) (a := w) (b := 5) hC dX6_sourceToBlame_10 (by first | omega | decide | exact Nat.lt_of_le_of_lt jshr (by omega) | exact Nat.lt_of_le_of_lt jand1 (by decide)) (by first | omega | decide | exact Nat.lt_of_le_of_lt jshr (by omega) | exact Nat.lt_of_le_of_lt jand1 (by decide)) ?_
                  refine sg_iconst (pc := 11) (nI 1) hC dX6_sourceToBlame_11 (by decide) ?_
                  refine sg_iandN (pc := 12) (a := w >>> 5) (b := 1) hC dX6_sourceToBlame_12 ?_
                  refine sg_iconst (pc := 13) (nI 1) hC dX6_sourceToBlame_13 (by decide) ?_
                  refine sg_icmpN_ne (pc := 14) (a := (w >>> 5) &&& 1) (b := 1) 32 hC dX6_sourceToBlame_14 (by decide) (by first | omega | decide | exact Nat.lt_of_le_of_lt jshr (by omega) | exact Nat.lt_of_le_of_lt jand1 (by decide)) (by first | omega | decide | exact Nat.lt_of_le_of_lt jshr (by omega) | exact Nat.lt_of_le_of_lt jand1 (by decide)) (fun h226 => ?_) (fun h226 => ?_)
                  · refine sg_iincN (pc := 32) (a := 5) (b := 6) hC dX6_sourceToBlame_32 rfl (nI_1 _) (by decide) ?_
                    show sg_W X M 0 0 35 [some (.ref ca), some (.int (nI w)), some (.ref b), some (.int (nI 6))] []
                    refine sg_goto (pc := 35) 2 hC dX6_sourceToBlame_35 (by decide) ?_
                    refine sg_iload_n (pc := 2) (x := nI 6) hC dX6_sourceToBlame_2 rfl ?_
                    refine sg_bipush (pc := 3) (nI 6) hC dX6_sourceToBlame_3 (by decide) ?_
                    refine sg_icmpN_ge (pc := 5) (a := 6) (b := 6) 38 hC dX6_sourceToBlame_5 (by decide) (by decide) (by decide) (fun _ => ?_) (fun h227 => absurd h227 (by decide))
                    refine sg_iconst (pc := 38) (((-1))) hC dX6_sourceToBlame_38 (by decide) ?_
                    have e9 : k_blm N w t = none := by rw [k_blm]; simp only [if_neg h2, if_pos h4, if_pos h162, if_neg h164, if_pos h166, if_pos h204, if_pos h206, if_pos h224, if_neg h226]
                    rw [e9] at hk
                    exact sg_ireturn (st := []) (v := md_o none) (pc := 39) hC hR dX6_sourceToBlame_39 hk
                  · refine sg_aload_n (pc := 17) (v := .ref ca) hC dX6_sourceToBlame_17 rfl rfl ?_
                    refine sg_get (pc := 18) (a := ca) (v := .ref so) 2 hC rfl inw_X6 (by decide) tw_195 dX6_sourceToBlame_18 hX rfl ?_
                    refine sg_iload_n (pc := 21) (x := nI 5) hC dX6_sourceToBlame_21 rfl ?_
                    refine sg_aald8 (pc := 22) (i := nI 5) hC dX6_sourceToBlame_22 hSo (vp_in_nI (by first | omega | decide | exact Nat.lt_of_le_of_lt jshr (by omega) | exact Nat.lt_of_le_of_lt jand1 (by decide)) (by first | omega | decide | exact Nat.lt_of_le_of_lt jshr (by omega) | exact Nat.lt_of_le_of_lt jand1 (by decide))) ?_
                    rw [nI_clamp (by first | omega | decide | exact Nat.lt_of_le_of_lt jshr (by omega) | exact Nat.lt_of_le_of_lt jand1 (by decide))]
                    obtain ⟨q228, hq229, hs230⟩ := hG 5 (by omega)
                    rw [hq229]
                    obtain ⟨la231, f232, hc233, -, -⟩ := id hs230
                    show sg_W X M 0 0 23 [some (.ref ca), some (.int (nI w)), some (.ref b), some (.int (nI 5))] [.ref q228]
                    refine sg_aload_n (pc := 23) (v := .ref b) hC dX6_sourceToBlame_23 rfl rfl ?_
                    refine sg_callV (pc := 24) (As := [.ref b]) (rest := []) (mc := 0) (ms := 0) hC tw_965 tw_966 tw_967 tw_70 tw_968 yd_X5_isGranted (by decide) (ci := 8) rfl dX6_sourceToBlame_24 hc233 rfl (Nat.le_of_ble_eq_true rfl) (by first | omega | decide | exact Nat.lt_of_le_of_lt jshr (by omega) | exact Nat.lt_of_le_of_lt jand1 (by decide)) (by first | omega | decide | exact Nat.lt_of_le_of_lt jshr (by omega) | exact Nat.lt_of_le_of_lt jand1 (by decide)) ?_
                    refine c_granted htr hW (by omega) hs230 hB ?_
                    show sg_W X M 0 0 27 [some (.ref ca), some (.int (nI w)), some (.ref b), some (.int (nI 5))] [.int (md_b ((isg (gl N 5) t)))]
                    refine sg_ifB_ne (pc := 27) (b := (isg (gl N 5) t)) 32 hC dX6_sourceToBlame_27 (by decide) (fun h234 => ?_) (fun h234 => ?_)
                    · refine sg_iincN (pc := 32) (a := 5) (b := 6) hC dX6_sourceToBlame_32 rfl (nI_1 _) (by decide) ?_
                      show sg_W X M 0 0 35 [some (.ref ca), some (.int (nI w)), some (.ref b), some (.int (nI 6))] []
                      refine sg_goto (pc := 35) 2 hC dX6_sourceToBlame_35 (by decide) ?_
                      refine sg_iload_n (pc := 2) (x := nI 6) hC dX6_sourceToBlame_2 rfl ?_
                      refine sg_bipush (pc := 3) (nI 6) hC dX6_sourceToBlame_3 (by decide) ?_
                      refine sg_icmpN_ge (pc := 5) (a := 6) (b := 6) 38 hC dX6_sourceToBlame_5 (by decide) (by decide) (by decide) (fun _ => ?_) (fun h235 => absurd h235 (by decide))
                      refine sg_iconst (pc := 38) (((-1))) hC dX6_sourceToBlame_38 (by decide) ?_
                      have e9 : k_blm N w t = none := by rw [k_blm]; simp only [if_neg h2, if_pos h4, if_pos h162, if_neg h164, if_pos h166, if_pos h204, if_pos h206, if_pos h224, if_pos h226, if_pos h234]
                      rw [e9] at hk
                      exact sg_ireturn (st := []) (v := md_o none) (pc := 39) hC hR dX6_sourceToBlame_39 hk
                    · refine sg_iload_n (pc := 30) (x := nI 5) hC dX6_sourceToBlame_30 rfl ?_
                      have e9 : k_blm N w t = some 5 := by rw [k_blm]; simp only [if_neg h2, if_pos h4, if_pos h162, if_neg h164, if_pos h166, if_pos h204, if_pos h206, if_pos h224, if_pos h226, if_neg (ts9 h234)]
                      rw [e9] at hk
                      exact sg_ireturn (st := []) (v := md_o (some 5)) (pc := 31) hC hR dX6_sourceToBlame_31 hk
                · refine sg_iload_n (pc := 30) (x := nI 4) hC dX6_sourceToBlame_30 rfl ?_
                  have e9 : k_blm N w t = some 4 := by rw [k_blm]; simp only [if_neg h2, if_pos h4, if_pos h162, if_neg h164, if_pos h166, if_pos h204, if_pos h206, if_neg (ts9 h224)]
                  rw [e9] at hk
                  exact sg_ireturn (st := []) (v := md_o (some 4)) (pc := 31) hC hR dX6_sourceToBlame_31 hk
            · refine sg_iload_n (pc := 30) (x := nI 3) hC dX6_sourceToBlame_30 rfl ?_
              have e9 : k_blm N w t = some 3 := by rw [k_blm]; simp only [if_neg h2, if_pos h4, if_pos h162, if_neg h164, if_pos h166, if_neg (ts9 h204)]
              rw [e9] at hk
              exact sg_ireturn (st := []) (v := md_o (some 3)) (pc := 31) hC hR dX6_sourceToBlame_31 hk
        · refine sg_aload_n (pc := 17) (v := .ref ca) hC dX6_sourceToBlame_17 rfl rfl ?_
          refine sg_get (pc := 18) (a := ca) (v := .ref so) 2 hC rfl inw_X6 (by decide) tw_195 dX6_sourceToBlame_18 hX rfl ?_
          refine sg_iload_n (pc := 21) (x := nI 2) hC dX6_sourceToBlame_21 rfl ?_
          refine sg_aald8 (pc := 22) (i := nI 2) hC dX6_sourceToBlame_22 hSo (vp_in_nI (by first | omega | decide | exact Nat.lt_of_le_of_lt jshr (by omega) | exact Nat.lt_of_le_of_lt jand1 (by decide)) (by first | omega | decide | exact Nat.lt_of_le_of_lt jshr (by omega) | exact Nat.lt_of_le_of_lt jand1 (by decide))) ?_
          rw [nI_clamp (by first | omega | decide | exact Nat.lt_of_le_of_lt jshr (by omega) | exact Nat.lt_of_le_of_lt jand1 (by decide))]
          obtain ⟨q236, hq237, hs238⟩ := hG 2 (by omega)
          rw [hq237]
          obtain ⟨la239, f240, hc241, -, -⟩ := id hs238
          show sg_W X M 0 0 23 [some (.ref ca), some (.int (nI w)), some (.ref b), some (.int (nI 2))] [.ref q236]
          refine sg_aload_n (pc := 23) (v := .ref b) hC dX6_sourceToBlame_23 rfl rfl ?_
          refine sg_callV (pc := 24) (As := [.ref b]) (rest := []) (mc := 0) (ms := 0) hC tw_965 tw_966 tw_967 tw_70 tw_968 yd_X5_isGranted (by decide) (ci := 8) rfl dX6_sourceToBlame_24 hc241 rfl (Nat.le_of_ble_eq_true rfl) (by first | omega | decide | exact Nat.lt_of_le_of_lt jshr (by omega) | exact Nat.lt_of_le_of_lt jand1 (by decide)) (by first | omega | decide | exact Nat.lt_of_le_of_lt jshr (by omega) | exact Nat.lt_of_le_of_lt jand1 (by decide)) ?_
          refine c_granted htr hW (by omega) hs238 hB ?_
          show sg_W X M 0 0 27 [some (.ref ca), some (.int (nI w)), some (.ref b), some (.int (nI 2))] [.int (md_b ((isg (gl N 2) t)))]
          refine sg_ifB_ne (pc := 27) (b := (isg (gl N 2) t)) 32 hC dX6_sourceToBlame_27 (by decide) (fun h242 => ?_) (fun h242 => ?_)
          · refine sg_iincN (pc := 32) (a := 2) (b := 3) hC dX6_sourceToBlame_32 rfl (nI_1 _) (by decide) ?_
            show sg_W X M 0 0 35 [some (.ref ca), some (.int (nI w)), some (.ref b), some (.int (nI 3))] []
            refine sg_goto (pc := 35) 2 hC dX6_sourceToBlame_35 (by decide) ?_
            refine sg_iload_n (pc := 2) (x := nI 3) hC dX6_sourceToBlame_2 rfl ?_
            refine sg_bipush (pc := 3) (nI 6) hC dX6_sourceToBlame_3 (by decide) ?_
            refine sg_icmpN_ge (pc := 5) (a := 3) (b := 6) 38 hC dX6_sourceToBlame_5 (by decide) (by decide) (by decide) (fun h243 => absurd h243 (by decide)) (fun _ => ?_)
            refine sg_iload_n (pc := 8) (x := nI w) hC dX6_sourceToBlame_8 rfl ?_
            refine sg_iload_n (pc := 9) (x := nI 3) hC dX6_sourceToBlame_9 rfl ?_
            refine sg_ishrN (pc := 10) (a := w) (b := 3) hC dX6_sourceToBlame_10 (by first | omega | decide | exact Nat.lt_of_le_of_lt jshr (by omega) | exact Nat.lt_of_le_of_lt jand1 (by decide)) (by first | omega | decide | exact Nat.lt_of_le_of_lt jshr (by omega) | exact Nat.lt_of_le_of_lt jand1 (by decide)) ?_
            refine sg_iconst (pc := 11) (nI 1) hC dX6_sourceToBlame_11 (by decide) ?_
            refine sg_iandN (pc := 12) (a := w >>> 3) (b := 1) hC dX6_sourceToBlame_12 ?_
            refine sg_iconst (pc := 13) (nI 1) hC dX6_sourceToBlame_13 (by decide) ?_
            refine sg_icmpN_ne (pc := 14) (a := (w >>> 3) &&& 1) (b := 1) 32 hC dX6_sourceToBlame_14 (by decide) (by first | omega | decide | exact Nat.lt_of_le_of_lt jshr (by omega) | exact Nat.lt_of_le_of_lt jand1 (by decide)) (by first | omega | decide | exact Nat.lt_of_le_of_lt jshr (by omega) | exact Nat.lt_of_le_of_lt jand1 (by decide)) (fun h244 => ?_) (fun h244 => ?_)
            · refine sg_iincN (pc := 32) (a := 3) (b := 4) hC dX6_sourceToBlame_32 rfl (nI_1 _) (by decide) ?_
              show sg_W X M 0 0 35 [some (.ref ca), some (.int (nI w)), some (.ref b), some (.int (nI 4))] []
              refine sg_goto (pc := 35) 2 hC dX6_sourceToBlame_35 (by decide) ?_
              refine sg_iload_n (pc := 2) (x := nI 4) hC dX6_sourceToBlame_2 rfl ?_
              refine sg_bipush (pc := 3) (nI 6) hC dX6_sourceToBlame_3 (by decide) ?_
              refine sg_icmpN_ge (pc := 5) (a := 4) (b := 6) 38 hC dX6_sourceToBlame_5 (by decide) (by decide) (by decide) (fun h245 => absurd h245 (by decide)) (fun _ => ?_)
              refine sg_iload_n (pc := 8) (x := nI w) hC dX6_sourceToBlame_8 rfl ?_
              refine sg_iload_n (pc := 9) (x := nI 4) hC dX6_sourceToBlame_9 rfl ?_
              refine sg_ishrN (pc := 10) (a := w) (b := 4) hC dX6_sourceToBlame_10 (by first | omega | decide | exact Nat.lt_of_le_of_lt jshr (by omega) | exact Nat.lt_of_le_of_lt jand1 (by decide)) (by first | omega | decide | exact Nat.lt_of_le_of_lt jshr (by omega) | exact Nat.lt_of_le_of_lt jand1 (by decide)) ?_
              refine sg_iconst (pc := 11) (nI 1) hC dX6_sourceToBlame_11 (by decide) ?_
              refine sg_iandN (pc := 12) (a := w >>> 4) (b := 1) hC dX6_sourceToBlame_12 ?_
              refine sg_iconst (pc := 13) (nI 1) hC dX6_sourceToBlame_13 (by decide) ?_
              refine sg_icmpN_ne (pc := 14) (a := (w >>> 4) &&& 1) (b := 1) 32 hC dX6_sourceToBlame_14 (by decide) (by first | omega | decide | exact Nat.lt_of_le_of_lt jshr (by omega) | exact Nat.lt_of_le_of_lt jand1 (by decide)) (by first | omega | decide | exact Nat.lt_of_le_of_lt jshr (by omega) | exact Nat.lt_of_le_of_lt jand1 (by decide)) (fun h246 => ?_) (fun h246 => ?_)
              · refine sg_iincN (pc := 32) (a := 4) (b := 5) hC dX6_sourceToBlame_32 rfl (nI_1 _) (by decide) ?_
                show sg_W X M 0 0 35 [some (.ref ca), some (.int (nI w)), some (.ref b), some (.int (nI 5))] []
                refine sg_goto (pc := 35) 2 hC dX6_sourceToBlame_35 (by decide) ?_
                refine sg_iload_n (pc := 2) (x := nI 5) hC dX6_sourceToBlame_2 rfl ?_
                refine sg_bipush (pc := 3) (nI 6) hC dX6_sourceToBlame_3 (by decide) ?_
                refine sg_icmpN_ge (pc := 5) (a := 5) (b := 6) 38 hC dX6_sourceToBlame_5 (by decide) (by decide) (by decide) (fun h247 => absurd h247 (by decide)) (fun _ => ?_)
                refine sg_iload_n (pc := 8) (x := nI w) hC dX6_sourceToBlame_8 rfl ?_
                refine sg_iload_n (pc := 9) (x := nI 5) hC dX6_sourceToBlame_9 rfl ?_
                refine sg_ishrN (pc := 10) (a := w) (b := 5) hC dX6_sourceToBlame_10 (by first | omega | decide | exact Nat.lt_of_le_of_lt jshr (by omega) | exact Nat.lt_of_le_of_lt jand1 (by decide)) (by first | omega | decide | exact Nat.lt_of_le_of_lt jshr (by omega) | exact Nat.lt_of_le_of_lt jand1 (by decide)) ?_
                refine sg_iconst (pc := 11) (nI 1) hC dX6_sourceToBlame_11 (by decide) ?_
                refine sg_iandN (pc := 12) (a := w >>> 5) (b := 1) hC dX6_sourceToBlame_12 ?_
                refine sg_iconst (pc := 13) (nI 1) hC dX6_sourceToBlame_13 (by decide) ?_
                refine sg_icmpN_ne (pc := 14) (a := (w >>> 5) &&& 1) (b := 1) 32 hC dX6_sourceToBlame_14 (by decide) (by first | omega | decide | exact Nat.lt_of_le_of_lt jshr (by omega) | exact Nat.lt_of_le_of_lt jand1 (by decide)) (by first | omega | decide | exact Nat.lt_of_le_of_lt jshr (by omega) | exact Nat.lt_of_le_of_lt jand1 (by decide)) (fun h248 => ?_) (fun h248 => ?_)
                · refine sg_iincN (pc := 32) (a := 5) (b := 6) hC dX6_sourceToBlame_32 rfl (nI_1 _) (by decide) ?_
                  show sg_W X M 0 0 35 [some (.ref ca), some (.int (nI w)), some (.ref b), some (.int (nI 6))] []
                  refine sg_goto (pc := 35) 2 hC dX6_sourceToBlame_35 (by decide) ?_
                  refine sg_iload_n (pc := 2) (x := nI 6) hC dX6_sourceToBlame_2 rfl ?_
                  refine sg_bipush (pc := 3) (nI 6) hC dX6_sourceToBlame_3 (by decide) ?_
                  refine sg_icmpN_ge (pc := 5) (a := 6) (b := 6) 38 hC dX6_sourceToBlame_5 (by decide) (by decide) (by decide) (fun _ => ?_) (fun h249 => absurd h249 (by decide))
                  refine sg_iconst (pc := 38) (((-1))) hC dX6_sourceToBlame_38 (by decide) ?_
                  have e9 : k_blm N w t = none := by rw [k_blm]; simp only [if_neg h2, if_pos h4, if_pos h162, if_pos h164, if_pos h242, if_neg h244, if_neg h246, if_neg h248]
                  rw [e9] at hk
                  exact sg_ireturn (st := []) (v := md_o none) (pc := 39) hC hR dX6_sourceToBlame_39 hk
                · refine sg_aload_n (pc := 17) (v := .ref ca) hC dX6_sourceToBlame_17 rfl rfl ?_
                  refine sg_get (pc := 18) (a := ca) (v := .ref so) 2 hC rfl inw_X6 (by decide) tw_195 dX6_sourceToBlame_18 hX rfl ?_
                  refine sg_iload_n (pc := 21) (x := nI 5) hC dX6_sourceToBlame_21 rfl ?_
                  refine sg_aald8 (pc := 22) (i := nI 5) hC dX6_sourceToBlame_22 hSo (vp_in_nI (by first | omega | decide | exact Nat.lt_of_le_of_lt jshr (by omega) | exact Nat.lt_of_le_of_lt jand1 (by decide)) (by first | omega | decide | exact Nat.lt_of_le_of_lt jshr (by omega) | exact Nat.lt_of_le_of_lt jand1 (by decide))) ?_
                  rw [nI_clamp (by first | omega | decide | exact Nat.lt_of_le_of_lt jshr (by omega) | exact Nat.lt_of_le_of_lt jand1 (by decide))]
                  obtain ⟨q250, hq251, hs252⟩ := hG 5 (by omega)
                  rw [hq251]
                  obtain ⟨la253, f254, hc255, -, -⟩ := id hs252
                  show sg_W X M 0 0 23 [some (.ref ca), some (.int (nI w)), some (.ref b), some (.int (nI 5))] [.ref q250]
                  refine sg_aload_n (pc := 23) (v := .ref b) hC dX6_sourceToBlame_23 rfl rfl ?_
                  refine sg_callV (pc := 24) (As := [.ref b]) (rest := []) (mc := 0) (ms := 0) hC tw_965 tw_966 tw_967 tw_70 tw_968 yd_X5_isGranted (by decide) (ci := 8) rfl dX6_sourceToBlame_24 hc255 rfl (Nat.le_of_ble_eq_true rfl) (by first | omega | decide | exact Nat.lt_of_le_of_lt jshr (by omega) | exact Nat.lt_of_le_of_lt jand1 (by decide)) (by first | omega | decide | exact Nat.lt_of_le_of_lt jshr (by omega) | exact Nat.lt_of_le_of_lt jand1 (by decide)) ?_
                  refine c_granted htr hW (by omega) hs252 hB ?_
                  show sg_W X M 0 0 27 [some (.ref ca), some (.int (nI w)), some (.ref b), some (.int (nI 5))] [.int (md_b ((isg (gl N 5) t)))]
                  refine sg_ifB_ne (pc := 27) (b := (isg (gl N 5) t)) 32 hC dX6_sourceToBlame_27 (by decide) (fun h256 => ?_) (fun h256 => ?_)
                  · refine sg_iincN (pc := 32) (a := 5) (b := 6) hC dX6_sourceToBlame_32 rfl (nI_1 _) (by decide) ?_
                    show sg_W X M 0 0 35 [some (.ref ca), some (.int (nI w)), some (.ref b), some (.int (nI 6))] []
                    refine sg_goto (pc := 35) 2 hC dX6_sourceToBlame_35 (by decide) ?_
                    refine sg_iload_n (pc := 2) (x := nI 6) hC dX6_sourceToBlame_2 rfl ?_
                    refine sg_bipush (pc := 3) (nI 6) hC dX6_sourceToBlame_3 (by decide) ?_
                    refine sg_icmpN_ge (pc := 5) (a := 6) (b := 6) 38 hC dX6_sourceToBlame_5 (by decide) (by decide) (by decide) (fun _ => ?_) (fun h257 => absurd h257 (by decide))
                    refine sg_iconst (pc := 38) (((-1))) hC dX6_sourceToBlame_38 (by decide) ?_
                    have e9 : k_blm N w t = none := by rw [k_blm]; simp only [if_neg h2, if_pos h4, if_pos h162, if_pos h164, if_pos h242, if_neg h244, if_neg h246, if_pos h248, if_pos h256]
                    rw [e9] at hk
                    exact sg_ireturn (st := []) (v := md_o none) (pc := 39) hC hR dX6_sourceToBlame_39 hk
                  · refine sg_iload_n (pc := 30) (x := nI 5) hC dX6_sourceToBlame_30 rfl ?_
                    have e9 : k_blm N w t = some 5 := by rw [k_blm]; simp only [if_neg h2, if_pos h4, if_pos h162, if_pos h164, if_pos h242, if_neg h244, if_neg h246, if_pos h248, if_neg (ts9 h256)]
                    rw [e9] at hk
                    exact sg_ireturn (st := []) (v := md_o (some 5)) (pc := 31) hC hR dX6_sourceToBlame_31 hk
              · refine sg_aload_n (pc := 17) (v := .ref ca) hC dX6_sourceToBlame_17 rfl rfl ?_
                refine sg_get (pc := 18) (a := ca) (v := .ref so) 2 hC rfl inw_X6 (by decide) tw_195 dX6_sourceToBlame_18 hX rfl ?_
                refine sg_iload_n (pc := 21) (x := nI 4) hC dX6_sourceToBlame_21 rfl ?_
                refine sg_aald8 (pc := 22) (i := nI 4) hC dX6_sourceToBlame_22 hSo (vp_in_nI (by first | omega | decide | exact Nat.lt_of_le_of_lt jshr (by omega) | exact Nat.lt_of_le_of_lt jand1 (by decide)) (by first | omega | decide | exact Nat.lt_of_le_of_lt jshr (by omega) | exact Nat.lt_of_le_of_lt jand1 (by decide))) ?_
                rw [nI_clamp (by first | omega | decide | exact Nat.lt_of_le_of_lt jshr (by omega) | exact Nat.lt_of_le_of_lt jand1 (by decide))]
                obtain ⟨q258, hq259, hs260⟩ := hG 4 (by omega)
                rw [hq259]
                obtain ⟨la261, f262, hc263, -, -⟩ := id hs260
                show sg_W X M 0 0 23 [some (.ref ca), some (.int (nI w)), some (.ref b), some (.int (nI 4))] [.ref q258]
                refine sg_aload_n (pc := 23) (v := .ref b) hC dX6_sourceToBlame_23 rfl rfl ?_
                refine sg_callV (pc := 24) (As := [.ref b]) (rest := []) (mc := 0) (ms := 0) hC tw_965 tw_966 tw_967 tw_70 tw_968 yd_X5_isGranted (by decide) (ci := 8) rfl dX6_sourceToBlame_24 hc263 rfl (Nat.le_of_ble_eq_true rfl) (by first | omega | decide | exact Nat.lt_of_le_of_lt jshr (by omega) | exact Nat.lt_of_le_of_lt jand1 (by decide)) (by first | omega | decide | exact Nat.lt_of_le_of_lt jshr (by omega) | exact Nat.lt_of_le_of_lt jand1 (by decide)) ?_
                refine c_granted htr hW (by omega) hs260 hB ?_
                show sg_W X M 0 0 27 [some (.ref ca), some (.int (nI w)), some (.ref b), some (.int (nI 4))] [.int (md_b ((isg (gl N 4) t)))]
                refine sg_ifB_ne (pc := 27) (b := (isg (gl N 4) t)) 32 hC dX6_sourceToBlame_27 (by decide) (fun h264 => ?_) (fun h264 => ?_)
                · refine sg_iincN (pc := 32) (a := 4) (b := 5) hC dX6_sourceToBlame_32 rfl (nI_1 _) (by decide) ?_
                  show sg_W X M 0 0 35 [some (.ref ca), some (.int (nI w)), some (.ref b), some (.int (nI 5))] []
                  refine sg_goto (pc := 35) 2 hC dX6_sourceToBlame_35 (by decide) ?_
                  refine sg_iload_n (pc := 2) (x := nI 5) hC dX6_sourceToBlame_2 rfl ?_
                  refine sg_bipush (pc := 3) (nI 6) hC dX6_sourceToBlame_3 (by decide) ?_
                  refine sg_icmpN_ge (pc := 5) (a := 5) (b := 6) 38 hC dX6_sourceToBlame_5 (by decide) (by decide) (by decide) (fun h265 => absurd h265 (by decide)) (fun _ => ?_)
                  refine sg_iload_n (pc := 8) (x := nI w) hC dX6_sourceToBlame_8 rfl ?_
                  refine sg_iload_n (pc := 9) (x := nI 5) hC dX6_sourceToBlame_9 rfl ?_
                  refine sg_ishrN (pc := 10) (a := w) (b := 5) hC dX6_sourceToBlame_10 (by first | omega | decide | exact Nat.lt_of_le_of_lt jshr (by omega) | exact Nat.lt_of_le_of_lt jand1 (by decide)) (by first | omega | decide | exact Nat.lt_of_le_of_lt jshr (by omega) | exact Nat.lt_of_le_of_lt jand1 (by decide)) ?_
                  refine sg_iconst (pc := 11) (nI 1) hC dX6_sourceToBlame_11 (by decide) ?_
                  refine sg_iandN (pc := 12) (a := w >>> 5) (b := 1) hC dX6_sourceToBlame_12 ?_
                  refine sg_iconst (pc := 13) (nI 1) hC dX6_sourceToBlame_13 (by decide) ?_
                  refine sg_icmpN_ne (pc := 14) (a := (w >>> 5) &&& 1) (b := 1) 32 hC dX6_sourceToBlame_14 (by decide) (by first | omega | decide | exact Nat.lt_of_le_of_lt jshr (by omega) | exact Nat.lt_of_le_of_lt jand1 (by decide)) (by first | omega | decide | exact Nat.lt_of_le_of_lt jshr (by omega) | exact Nat.lt_of_le_of_lt jand1 (by decide)) (fun h266 => ?_) (fun h266 => ?_)
                  · refine sg_iincN (pc := 32) (a := 5) (b := 6) hC dX6_sourceToBlame_32 rfl (nI_1 _) (by decide) ?_
                    show sg_W X M 0 0 35 [some (.ref ca), some (.int (nI w)), some (.ref b), some (.int (nI 6))] []
                    refine sg_goto (pc := 35) 2 hC dX6_sourceToBlame_35 (by decide) ?_
                    refine sg_iload_n (pc := 2) (x := nI 6) hC dX6_sourceToBlame_2 rfl ?_
                    refine sg_bipush (pc := 3) (nI 6) hC dX6_sourceToBlame_3 (by decide) ?_
                    refine sg_icmpN_ge (pc := 5) (a := 6) (b := 6) 38 hC dX6_sourceToBlame_5 (by decide) (by decide) (by decide) (fun _ => ?_) (fun h267 => absurd h267 (by decide))
                    refine sg_iconst (pc := 38) (((-1))) hC dX6_sourceToBlame_38 (by decide) ?_
                    have e9 : k_blm N w t = none := by rw [k_blm]; simp only [if_neg h2, if_pos h4, if_pos h162, if_pos h164, if_pos h242, if_neg h244, if_pos h246, if_pos h264, if_neg h266]
                    rw [e9] at hk
                    exact sg_ireturn (st := []) (v := md_o none) (pc := 39) hC hR dX6_sourceToBlame_39 hk
                  · refine sg_aload_n (pc := 17) (v := .ref ca) hC dX6_sourceToBlame_17 rfl rfl ?_
                    refine sg_get (pc := 18) (a := ca) (v := .ref so) 2 hC rfl inw_X6 (by decide) tw_195 dX6_sourceToBlame_18 hX rfl ?_
                    refine sg_iload_n (pc := 21) (x := nI 5) hC dX6_sourceToBlame_21 rfl ?_
                    refine sg_aald8 (pc := 22) (i := nI 5) hC dX6_sourceToBlame_22 hSo (vp_in_nI (by first | omega | decide | exact Nat.lt_of_le_of_lt jshr (by omega) | exact Nat.lt_of_le_of_lt jand1 (by decide)) (by first | omega | decide | exact Nat.lt_of_le_of_lt jshr (by omega) | exact Nat.lt_of_le_of_lt jand1 (by decide))) ?_
                    rw [nI_clamp (by first | omega | decide | exact Nat.lt_of_le_of_lt jshr (by omega) | exact Nat.lt_of_le_of_lt jand1 (by decide))]
                    obtain ⟨q268, hq269, hs270⟩ := hG 5 (by omega)
                    rw [hq269]
                    obtain ⟨la271, f272, hc273, -, -⟩ := id hs270
                    show sg_W X M 0 0 23 [some (.ref ca), some (.int (nI w)), some (.ref b), some (.int (nI 5))] [.ref q268]
                    refine sg_aload_n (pc := 23) (v := .ref b) hC dX6_sourceToBlame_23 rfl rfl ?_
                    refine sg_callV (pc := 24) (As := [.ref b]) (rest := []) (mc := 0) (ms := 0) hC tw_965 tw_966 tw_967 tw_70 tw_968 yd_X5_isGranted (by decide) (ci := 8) rfl dX6_sourceToBlame_24 hc273 rfl (Nat.le_of_ble_eq_true rfl) (by first | omega | decide | exact Nat.lt_of_le_of_lt jshr (by omega) | exact Nat.lt_of_le_of_lt jand1 (by decide)) (by first | omega | decide | exact Nat.lt_of_le_of_lt jshr (by omega) | exact Nat.lt_of_le_of_lt jand1 (by decide)) ?_
                    refine c_granted htr hW (by omega) hs270 hB ?_
                    show sg_W X M 0 0 27 [some (.ref ca), some (.int (nI w)), some (.ref b), some (.int (nI 5))] [.int (md_b ((isg (gl N 5) t)))]
                    refine sg_ifB_ne (pc := 27) (b := (isg (gl N 5) t)) 32 hC dX6_sourceToBlame_27 (by decide) (fun h274 => ?_) (fun h274 => ?_)
                    · refine sg_iincN (pc := 32) (a := 5) (b := 6) hC dX6_sourceToBlame_32 rfl (nI_1 _) (by decide) ?_
                      show sg_W X M 0 0 35 [some (.ref ca), some (.int (nI w)), some (.ref b), some (.int (nI 6))] []
                      refine sg_goto (pc := 35) 2 hC dX6_sourceToBlame_35 (by decide) ?_
                      refine sg_iload_n (pc := 2) (x := nI 6) hC dX6_sourceToBlame_2 rfl ?_
                      refine sg_bipush (pc := 3) (nI 6) hC dX6_sourceToBlame_3 (by decide) ?_
                      refine sg_icmpN_ge (pc := 5) (a := 6) (b := 6) 38 hC dX6_sourceToBlame_5 (by decide) (by decide) (by decide) (fun _ => ?_) (fun h275 => absurd h275 (by decide))
                      refine sg_iconst (pc := 38) (((-1))) hC dX6_sourceToBlame_38 (by decide) ?_
                      have e9 : k_blm N w t = none := by rw [k_blm]; simp only [if_neg h2, if_pos h4, if_pos h162, if_pos h164, if_pos h242, if_neg h244, if_pos h246, if_pos h264, if_pos h266, if_pos h274]
                      rw [e9] at hk
                      exact sg_ireturn (st := []) (v := md_o none) (pc := 39) hC hR dX6_sourceToBlame_39 hk
                    · refine sg_iload_n (pc := 30) (x := nI 5) hC dX6_sourceToBlame_30 rfl ?_
                      have e9 : k_blm N w t = some 5 := by rw [k_blm]; simp only [if_neg h2, if_pos h4, if_pos h162, if_pos h164, if_pos h242, if_neg h244, if_pos h246, if_pos h264, if_pos h266, if_neg (ts9 h274)]
                      rw [e9] at hk
                      exact sg_ireturn (st := []) (v := md_o (some 5)) (pc := 31) hC hR dX6_sourceToBlame_31 hk
                · refine sg_iload_n (pc := 30) (x := nI 4) hC dX6_sourceToBlame_30 rfl ?_
                  have e9 : k_blm N w t = some 4 := by rw [k_blm]; simp only [if_neg h2, if_pos h4, if_pos h162, if_pos h164, if_pos h242, if_neg h244, if_pos h246, if_neg (ts9 h264)]
                  rw [e9] at hk
                  exact sg_ireturn (st := []) (v := md_o (some 4)) (pc := 31) hC hR dX6_sourceToBlame_31 hk
            · refine sg_aload_n (pc := 17) (v := .ref ca) hC dX6_sourceToBlame_17 rfl rfl ?_
              refine sg_get (pc := 18) (a := ca) (v := .ref so) 2 hC rfl inw_X6 (by decide) tw_195 dX6_sourceToBlame_18 hX rfl ?_
              refine sg_iload_n (pc := 21) (x := nI 3) hC dX6_sourceToBlame_21 rfl ?_
              refine sg_aald8 (pc := 22) (i := nI 3) hC dX6_sourceToBlame_22 hSo (vp_in_nI (by first | omega | decide | exact Nat.lt_of_le_of_lt jshr (by omega) | exact Nat.lt_of_le_of_lt jand1 (by decide)) (by first | omega | decide | exact Nat.lt_of_le_of_lt jshr (by omega) | exact Nat.lt_of_le_of_lt jand1 (by decide))) ?_
              rw [nI_clamp (by first | omega | decide | exact Nat.lt_of_le_of_lt jshr (by omega) | exact Nat.lt_of_le_of_lt jand1 (by decide))]
              obtain ⟨q276, hq277, hs278⟩ := hG 3 (by omega)
              rw [hq277]
              obtain ⟨la279, f280, hc281, -, -⟩ := id hs278
              show sg_W X M 0 0 23 [some (.ref ca), some (.int (nI w)), some (.ref b), some (.int (nI 3))] [.ref q276]
              refine sg_aload_n (pc := 23) (v := .ref b) hC dX6_sourceToBlame_23 rfl rfl ?_
              refine sg_callV (pc := 24) (As := [.ref b]) (rest := []) (mc := 0) (ms := 0) hC tw_965 tw_966 tw_967 tw_70 tw_968 yd_X5_isGranted (by decide) (ci := 8) rfl dX6_sourceToBlame_24 hc281 rfl (Nat.le_of_ble_eq_true rfl) (by first | omega | decide | exact Nat.lt_of_le_of_lt jshr (by omega) | exact Nat.lt_of_le_of_lt jand1 (by decide)) (by first | omega | decide | exact Nat.lt_of_le_of_lt jshr (by omega) | exact Nat.lt_of_le_of_lt jand1 (by decide)) ?_
              refine c_granted htr hW (by omega) hs278 hB ?_
              show sg_W X M 0 0 27 [some (.ref ca), some (.int (nI w)), some (.ref b), some (.int (nI 3))] [.int (md_b ((isg (gl N 3) t)))]
              refine sg_ifB_ne (pc := 27) (b := (isg (gl N 3) t)) 32 hC dX6_sourceToBlame_27 (by decide) (fun h282 => ?_) (fun h282 => ?_)
              · refine sg_iincN (pc := 32) (a := 3) (b := 4) hC dX6_sourceToBlame_32 rfl (nI_1 _) (by decide) ?_
                show sg_W X M 0 0 35 [some (.ref ca), some (.int (nI w)), some (.ref b), some (.int (nI 4))] []
                refine sg_goto (pc := 35) 2 hC dX6_sourceToBlame_35 (by decide) ?_
                refine sg_iload_n (pc := 2) (x := nI 4) hC dX6_sourceToBlame_2 rfl ?_
                refine sg_bipush (pc := 3) (nI 6) hC dX6_sourceToBlame_3 (by decide) ?_
                refine sg_icmpN_ge (pc := 5) (a := 4) (b := 6) 38 hC dX6_sourceToBlame_5 (by decide) (by decide) (by decide) (fun h283 => absurd h283 (by decide)) (fun _ => ?_)
                refine sg_iload_n (pc := 8) (x := nI w) hC dX6_sourceToBlame_8 rfl ?_
                refine sg_iload_n (pc := 9) (x := nI 4) hC dX6_sourceToBlame_9 rfl ?_
                refine sg_ishrN (pc := 10) (a := w) (b := 4) hC dX6_sourceToBlame_10 (by first | omega | decide | exact Nat.lt_of_le_of_lt jshr (by omega) | exact Nat.lt_of_le_of_lt jand1 (by decide)) (by first | omega | decide | exact Nat.lt_of_le_of_lt jshr (by omega) | exact Nat.lt_of_le_of_lt jand1 (by decide)) ?_
                refine sg_iconst (pc := 11) (nI 1) hC dX6_sourceToBlame_11 (by decide) ?_
                refine sg_iandN (pc := 12) (a := w >>> 4) (b := 1) hC dX6_sourceToBlame_12 ?_
                refine sg_iconst (pc := 13) (nI 1) hC dX6_sourceToBlame_13 (by decide) ?_
                refine sg_icmpN_ne (pc := 14) (a := (w >>> 4) &&& 1) (b := 1) 32 hC dX6_sourceToBlame_14 (by decide) (by first | omega | decide | exact Nat.lt_of_le_of_lt jshr (by omega) | exact Nat.lt_of_le_of_lt jand1 (by decide)) (by first | omega | decide | exact Nat.lt_of_le_of_lt jshr (by omega) | exact Nat.lt_of_le_of_lt jand1 (by decide)) (fun h284 => ?_) (fun h284 => ?_)
                · refine sg_iincN (pc := 32) (a := 4) (b := 5) hC dX6_sourceToBlame_32 rfl (nI_1 _) (by decide) ?_
                  show sg_W X M 0 0 35 [some (.ref ca), some (.int (nI w)), some (.ref b), some (.int (nI 5))] []
                  refine sg_goto (pc := 35) 2 hC dX6_sourceToBlame_35 (by decide) ?_
                  refine sg_iload_n (pc := 2) (x := nI 5) hC dX6_sourceToBlame_2 rfl ?_
                  refine sg_bipush (pc := 3) (nI 6) hC dX6_sourceToBlame_3 (by decide) ?_
                  refine sg_icmpN_ge (pc := 5) (a := 5) (b := 6) 38 hC dX6_sourceToBlame_5 (by decide) (by decide) (by decide) (fun h285 => absurd h285 (by decide)) (fun _ => ?_)
                  refine sg_iload_n (pc := 8) (x := nI w) hC dX6_sourceToBlame_8 rfl ?_
                  refine sg_iload_n (pc := 9) (x := nI 5) hC dX6_sourceToBlame_9 rfl ?_
                  refine sg_ishrN (pc := 10) (a := w) (b := 5) hC dX6_sourceToBlame_10 (by first | omega | decide | exact Nat.lt_of_le_of_lt jshr (by omega) | exact Nat.lt_of_le_of_lt jand1 (by decide)) (by first | omega | decide | exact Nat.lt_of_le_of_lt jshr (by omega) | exact Nat.lt_of_le_of_lt jand1 (by decide)) ?_
                  refine sg_iconst (pc := 11) (nI 1) hC dX6_sourceToBlame_11 (by decide) ?_
                  refine sg_iandN (pc := 12) (a := w >>> 5) (b := 1) hC dX6_sourceToBlame_12 ?_
                  refine sg_iconst (pc := 13) (nI 1) hC dX6_sourceToBlame_13 (by decide) ?_
                  refine sg_icmpN_ne (pc := 14) (a := (w >>> 5) &&& 1) (b := 1) 32 hC dX6_sourceToBlame_14 (by decide) (by first | omega | decide | exact Nat.lt_of_le_of_lt jshr (by omega) | exact Nat.lt_of_le_of_lt jand1 (by decide)) (by first | omega | decide | exact Nat.lt_of_le_of_lt jshr (by omega) | exact Nat.lt_of_le_of_lt jand1 (by decide)) (fun h286 => ?_) (fun h286 => ?_)
                  · refine sg_iincN (pc := 32) (a := 5) (b := 6) hC dX6_sourceToBlame_32 rfl (nI_1 _) (by decide) ?_
                    show sg_W X M 0 0 35 [some (.ref ca), some (.int (nI w)), some (.ref b), some (.int (nI 6))] []
                    refine sg_goto (pc := 35) 2 hC dX6_sourceToBlame_35 (by decide) ?_
                    refine sg_iload_n (pc := 2) (x := nI 6) hC dX6_sourceToBlame_2 rfl ?_
                    refine sg_bipush (pc := 3) (nI 6) hC dX6_sourceToBlame_3 (by decide) ?_
                    refine sg_icmpN_ge (pc := 5) (a := 6) (b := 6) 38 hC dX6_sourceToBlame_5 (by decide) (by decide) (by decide) (fun _ => ?_) (fun h287 => absurd h287 (by decide))
                    refine sg_iconst (pc := 38) (((-1))) hC dX6_sourceToBlame_38 (by decide) ?_
                    have e9 : k_blm N w t = none := by rw [k_blm]; simp only [if_neg h2, if_pos h4, if_pos h162, if_pos h164, if_pos h242, if_pos h244, if_pos h282, if_neg h284, if_neg h286]
                    rw [e9] at hk
                    exact sg_ireturn (st := []) (v := md_o none) (pc := 39) hC hR dX6_sourceToBlame_39 hk
                  · refine sg_aload_n (pc := 17) (v := .ref ca) hC dX6_sourceToBlame_17 rfl rfl ?_
                    refine sg_get (pc := 18) (a := ca) (v := .ref so) 2 hC rfl inw_X6 (by decide) tw_195 dX6_sourceToBlame_18 hX rfl ?_
                    refine sg_iload_n (pc := 21) (x := nI 5) hC dX6_sourceToBlame_21 rfl ?_
                    refine sg_aald8 (pc := 22) (i := nI 5) hC dX6_sourceToBlame_22 hSo (vp_in_nI (by first | omega | decide | exact Nat.lt_of_le_of_lt jshr (by omega) | exact Nat.lt_of_le_of_lt jand1 (by decide)) (by first | omega | decide | exact Nat.lt_of_le_of_lt jshr (by omega) | exact Nat.lt_of_le_of_lt jand1 (by decide))) ?_
                    rw [nI_clamp (by first | omega | decide | exact Nat.lt_of_le_of_lt jshr (by omega) | exact Nat.lt_of_le_of_lt jand1 (by decide))]
                    obtain ⟨q288, hq289, hs290⟩ := hG 5 (by omega)
                    rw [hq289]
                    obtain ⟨la291, f292, hc293, -, -⟩ := id hs290
                    show sg_W X M 0 0 23 [some (.ref ca), some (.int (nI w)), some (.ref b), some (.int (nI 5))] [.ref q288]
                    refine sg_aload_n (pc := 23) (v := .ref b) hC dX6_sourceToBlame_23 rfl rfl ?_
                    refine sg_callV (pc := 24) (As := [.ref b]) (rest := []) (mc := 0) (ms := 0) hC tw_965 tw_966 tw_967 tw_70 tw_968 yd_X5_isGranted (by decide) (ci := 8) rfl dX6_sourceToBlame_24 hc293 rfl (Nat.le_of_ble_eq_true rfl) (by first | omega | decide | exact Nat.lt_of_le_of_lt jshr (by omega) | exact Nat.lt_of_le_of_lt jand1 (by decide)) (by first | omega | decide | exact Nat.lt_of_le_of_lt jshr (by omega) | exact Nat.lt_of_le_of_lt jand1 (by decide)) ?_
                    refine c_granted htr hW (by omega) hs290 hB ?_
                    show sg_W X M 0 0 27 [some (.ref ca), some (.int (nI w)), some (.ref b), some (.int (nI 5))] [.int (md_b ((isg (gl N 5) t)))]
                    refine sg_ifB_ne (pc := 27) (b := (isg (gl N 5) t)) 32 hC dX6_sourceToBlame_27 (by decide) (fun h294 => ?_) (fun h294 => ?_)
                    · refine sg_iincN (pc := 32) (a := 5) (b := 6) hC dX6_sourceToBlame_32 rfl (nI_1 _) (by decide) ?_
                      show sg_W X M 0 0 35 [some (.ref ca), some (.int (nI w)), some (.ref b), some (.int (nI 6))] []
                      refine sg_goto (pc := 35) 2 hC dX6_sourceToBlame_35 (by decide) ?_
                      refine sg_iload_n (pc := 2) (x := nI 6) hC dX6_sourceToBlame_2 rfl ?_
                      refine sg_bipush (pc := 3) (nI 6) hC dX6_sourceToBlame_3 (by decide) ?_
                      refine sg_icmpN_ge (pc := 5) (a := 6) (b := 6) 38 hC dX6_sourceToBlame_5 (by decide) (by decide) (by decide) (fun _ => ?_) (fun h295 => absurd h295 (by decide))
                      refine sg_iconst (pc := 38) (((-1))) hC dX6_sourceToBlame_38 (by decide) ?_
                      have e9 : k_blm N w t = none := by rw [k_blm]; simp only [if_neg h2, if_pos h4, if_pos h162, if_pos h164, if_pos h242, if_pos h244, if_pos h282, if_neg h284, if_pos h286, if_pos h294]
                      rw [e9] at hk
                      exact sg_ireturn (st := []) (v := md_o none) (pc := 39) hC hR dX6_sourceToBlame_39 hk
                    · refine sg_iload_n (pc := 30) (x := nI 5) hC dX6_sourceToBlame_30 rfl ?_
                      have e9 : k_blm N w t = some 5 := by rw [k_blm]; simp only [if_neg h2, if_pos h4, if_pos h162, if_pos h164, if_pos h242, if_pos h244, if_pos h282, if_neg h284, if_pos h286, if_neg (ts9 h294)]
                      rw [e9] at hk
                      exact sg_ireturn (st := []) (v := md_o (some 5)) (pc := 31) hC hR dX6_sourceToBlame_31 hk
                · refine sg_aload_n (pc := 17) (v := .ref ca) hC dX6_sourceToBlame_17 rfl rfl ?_
                  refine sg_get (pc := 18) (a := ca) (v := .ref so) 2 hC rfl inw_X6 (by decide) tw_195 dX6_sourceToBlame_18 hX rfl ?_
                  refine sg_iload_n (pc := 21) (x := nI 4) hC dX6_sourceToBlame_21 rfl ?_
                  refine sg_aald8 (pc := 22) (i := nI 4) hC dX6_sourceToBlame_22 hSo (vp_in_nI (by first | omega | decide | exact Nat.lt_of_le_of_lt jshr (by omega) | exact Nat.lt_of_le_of_lt jand1 (by decide)) (by first | omega | decide | exact Nat.lt_of_le_of_lt jshr (by omega) | exact Nat.lt_of_le_of_lt jand1 (by decide))) ?_
                  rw [nI_clamp (by first | omega | decide | exact Nat.lt_of_le_of_lt jshr (by omega) | exact Nat.lt_of_le_of_lt jand1 (by decide))]
                  obtain ⟨q296, hq297, hs298⟩ := hG 4 (by omega)
                  rw [hq297]
                  obtain ⟨la299, f300, hc301, -, -⟩ := id hs298
                  show sg_W X M 0 0 23 [some (.ref ca), some (.int (nI w)), some (.ref b), some (.int (nI 4))] [.ref q296]
                  refine sg_aload_n (pc := 23) (v := .ref b) hC dX6_sourceToBlame_23 rfl rfl ?_
                  refine sg_callV (pc := 24) (As := [.ref b]) (rest := []) (mc := 0) (ms := 0) hC tw_965 tw_966 tw_967 tw_70 tw_968 yd_X5_isGranted (by decide) (ci := 8) rfl dX6_sourceToBlame_24 hc301 rfl (Nat.le_of_ble_eq_true rfl) (by first | omega | decide | exact Nat.lt_of_le_of_lt jshr (by omega) | exact Nat.lt_of_le_of_lt jand1 (by decide)) (by first | omega | decide | exact Nat.lt_of_le_of_lt jshr (by omega) | exact Nat.lt_of_le_of_lt jand1 (by decide)) ?_
                  refine c_granted htr hW (by omega) hs298 hB ?_
                  show sg_W X M 0 0 27 [some (.ref ca), some (.int (nI w)), some (.ref b), some (.int (nI 4))] [.int (md_b ((isg (gl N 4) t)))]
                  refine sg_ifB_ne (pc := 27) (b := (isg (gl N 4) t)) 32 hC dX6_sourceToBlame_27 (by decide) (fun h302 => ?_) (fun h302 => ?_)
                  · refine sg_iincN (pc := 32) (a := 4) (b := 5) hC dX6_sourceToBlame_32 rfl (nI_1 _) (by decide) ?_
                    show sg_W X M 0 0 35 [some (.ref ca), some (.int (nI w)), some (.ref b), some (.int (nI 5))] []
                    refine sg_goto (pc := 35) 2 hC dX6_sourceToBlame_35 (by decide) ?_
                    refine sg_iload_n (pc := 2) (x := nI 5) hC dX6_sourceToBlame_2 rfl ?_
                    refine sg_bipush (pc := 3) (nI 6) hC dX6_sourceToBlame_3 (by decide) ?_
                    refine sg_icmpN_ge (pc := 5) (a := 5) (b := 6) 38 hC dX6_sourceToBlame_5 (by decide) (by decide) (by decide) (fun h303 => absurd h303 (by decide)) (fun _ => ?_)
                    refine sg_iload_n (pc := 8) (x := nI w) hC dX6_sourceToBlame_8 rfl ?_
                    refine sg_iload_n (pc := 9) (x := nI 5) hC dX6_sourceToBlame_9 rfl ?_
                    refine sg_ishrN (pc := 10) (a := w) (b := 5) hC dX6_sourceToBlame_10 (by first | omega | decide | exact Nat.lt_of_le_of_lt jshr (by omega) | exact Nat.lt_of_le_of_lt jand1 (by decide)) (by first | omega | decide | exact Nat.lt_of_le_of_lt jshr (by omega) | exact Nat.lt_of_le_of_lt jand1 (by decide)) ?_
                    refine sg_iconst (pc := 11) (nI 1) hC dX6_sourceToBlame_11 (by decide) ?_
                    refine sg_iandN (pc := 12) (a := w >>> 5) (b := 1) hC dX6_sourceToBlame_12 ?_
                    refine sg_iconst (pc := 13) (nI 1) hC dX6_sourceToBlame_13 (by decide) ?_
                    refine sg_icmpN_ne (pc := 14) (a := (w >>> 5) &&& 1) (b := 1) 32 hC dX6_sourceToBlame_14 (by decide) (by first | omega | decide | exact Nat.lt_of_le_of_lt jshr (by omega) | exact Nat.lt_of_le_of_lt jand1 (by decide)) (by first | omega | decide | exact Nat.lt_of_le_of_lt jshr (by omega) | exact Nat.lt_of_le_of_lt jand1 (by decide)) (fun h304 => ?_) (fun h304 => ?_)
                    · refine sg_iincN (pc := 32) (a := 5) (b := 6) hC dX6_sourceToBlame_32 rfl (nI_1 _) (by decide) ?_
                      show sg_W X M 0 0 35 [some (.ref ca), some (.int (nI w)), some (.ref b), some (.int (nI 6))] []
                      refine sg_goto (pc := 35) 2 hC dX6_sourceToBlame_35 (by decide) ?_
                      refine sg_iload_n (pc := 2) (x := nI 6) hC dX6_sourceToBlame_2 rfl ?_
                      refine sg_bipush (pc := 3) (nI 6) hC dX6_sourceToBlame_3 (by decide) ?_
                      refine sg_icmpN_ge (pc := 5) (a := 6) (b := 6) 38 hC dX6_sourceToBlame_5 (by decide) (by decide) (by decide) (fun _ => ?_) (fun h305 => absurd h305 (by decide))
                      refine sg_iconst (pc := 38) (((-1))) hC dX6_sourceToBlame_38 (by decide) ?_
                      have e9 : k_blm N w t = none := by rw [k_blm]; simp only [if_neg h2, if_pos h4, if_pos h162, if_pos h164, if_pos h242, if_pos h244, if_pos h282, if_pos h284, if_pos h302, if_neg h304]
                      rw [e9] at hk
                      exact sg_ireturn (st := []) (v := md_o none) (pc := 39) hC hR dX6_sourceToBlame_39 hk
                    · refine sg_aload_n (pc := 17) (v := .ref ca) hC dX6_sourceToBlame_17 rfl rfl ?_
                      refine sg_get (pc := 18) (a := ca) (v := .ref so) 2 hC rfl inw_X6 (by decide) tw_195 dX6_sourceToBlame_18 hX rfl ?_
                      refine sg_iload_n (pc := 21) (x := nI 5) hC dX6_sourceToBlame_21 rfl ?_
                      refine sg_aald8 (pc := 22) (i := nI 5) hC dX6_sourceToBlame_22 hSo (vp_in_nI (by first | omega | decide | exact Nat.lt_of_le_of_lt jshr (by omega) | exact Nat.lt_of_le_of_lt jand1 (by decide)) (by first | omega | decide | exact Nat.lt_of_le_of_lt jshr (by omega) | exact Nat.lt_of_le_of_lt jand1 (by decide))) ?_
                      rw [nI_clamp (by first | omega | decide | exact Nat.lt_of_le_of_lt jshr (by omega) | exact Nat.lt_of_le_of_lt jand1 (by decide))]
                      obtain ⟨q306, hq307, hs308⟩ := hG 5 (by omega)
                      rw [hq307]
                      obtain ⟨la309, f310, hc311, -, -⟩ := id hs308
                      show sg_W X M 0 0 23 [some (.ref ca), some (.int (nI w)), some (.ref b), some (.int (nI 5))] [.ref q306]
                      refine sg_aload_n (pc := 23) (v := .ref b) hC dX6_sourceToBlame_23 rfl rfl ?_
                      refine sg_callV (pc := 24) (As := [.ref b]) (rest := []) (mc := 0) (ms := 0) hC tw_965 tw_966 tw_967 tw_70 tw_968 yd_X5_isGranted (by decide) (ci := 8) rfl dX6_sourceToBlame_24 hc311 rfl (Nat.le_of_ble_eq_true rfl) (by first | omega | decide | exact Nat.lt_of_le_of_lt jshr (by omega) | exact Nat.lt_of_le_of_lt jand1 (by decide)) (by first | omega | decide | exact Nat.lt_of_le_of_lt jshr (by omega) | exact Nat.lt_of_le_of_lt jand1 (by decide)) ?_
                      refine c_granted htr hW (by omega) hs308 hB ?_
                      show sg_W X M 0 0 27 [some (.ref ca), some (.int (nI w)), some (.ref b), some (.int (nI 5))] [.int (md_b ((isg (gl N 5) t)))]
                      refine sg_ifB_ne (pc := 27) (b := (isg (gl N 5) t)) 32 hC dX6_sourceToBlame_27 (by decide) (fun h312 => ?_) (fun h312 => ?_)
                      · refine sg_iincN (pc := 32) (a := 5) (b := 6) hC dX6_sourceToBlame_32 rfl (nI_1 _) (by decide) ?_
                        show sg_W X M 0 0 35 [some (.ref ca), some (.int (nI w)), some (.ref b), some (.int (nI 6))] []
                        refine sg_goto (pc := 35) 2 hC dX6_sourceToBlame_35 (by decide) ?_
                        refine sg_iload_n (pc := 2) (x := nI 6) hC dX6_sourceToBlame_2 rfl ?_
                        refine sg_bipush (pc := 3) (nI 6) hC dX6_sourceToBlame_3 (by decide) ?_
                        refine sg_icmpN_ge (pc := 5) (a := 6) (b := 6) 38 hC dX6_sourceToBlame_5 (by decide) (by decide) (by decide) (fun _ => ?_) (fun h313 => absurd h313 (by decide))
                        refine sg_iconst (pc := 38) (((-1))) hC dX6_sourceToBlame_38 (by decide) ?_
                        have e9 : k_blm N w t = none := by rw [k_blm]; simp only [if_neg h2, if_pos h4, if_pos h162, if_pos h164, if_pos h242, if_pos h244, if_pos h282, if_pos h284, if_pos h302, if_pos h304, if_pos h312]
                        rw [e9] at hk
                        exact sg_ireturn (st := []) (v := md_o none) (pc := 39) hC hR dX6_sourceToBlame_39 hk
                      · refine sg_iload_n (pc := 30) (x := nI 5) hC dX6_sourceToBlame_30 rfl ?_
                        have e9 : k_blm N w t = some 5 := by rw [k_blm]; simp only [if_neg h2, if_pos h4, if_pos h162, if_pos h164, if_pos h242, if_pos h244, if_pos h282, if_pos h284, if_pos h302, if_pos h304, if_neg (ts9 h312)]
                        rw [e9] at hk
                        exact sg_ireturn (st := []) (v := md_o (some 5)) (pc := 31) hC hR dX6_sourceToBlame_31 hk
                  · refine sg_iload_n (pc := 30) (x := nI 4) hC dX6_sourceToBlame_30 rfl ?_
                    have e9 : k_blm N w t = some 4 := by rw [k_blm]; simp only [if_neg h2, if_pos h4, if_pos h162, if_pos h164, if_pos h242, if_pos h244, if_pos h282, if_pos h284, if_neg (ts9 h302)]
                    rw [e9] at hk
                    exact sg_ireturn (st := []) (v := md_o (some 4)) (pc := 31) hC hR dX6_sourceToBlame_31 hk
              · refine sg_iload_n (pc := 30) (x := nI 3) hC dX6_sourceToBlame_30 rfl ?_
                have e9 : k_blm N w t = some 3 := by rw [k_blm]; simp only [if_neg h2, if_pos h4, if_pos h162, if_pos h164, if_pos h242, if_pos h244, if_neg (ts9 h282)]
                rw [e9] at hk
                exact sg_ireturn (st := []) (v := md_o (some 3)) (pc := 31) hC hR dX6_sourceToBlame_31 hk
          · refine sg_iload_n (pc := 30) (x := nI 2) hC dX6_sourceToBlame_30 rfl ?_
            have e9 : k_blm N w t = some 2 := by rw [k_blm]; simp only [if_neg h2, if_pos h4, if_pos h162, if_pos h164, if_neg (ts9 h242)]
            rw [e9] at hk
            exact sg_ireturn (st := []) (v := md_o (some 2)) (pc := 31) hC hR dX6_sourceToBlame_31 hk
      · refine sg_iload_n (pc := 30) (x := nI 1) hC dX6_sourceToBlame_30 rfl ?_
        have e9 : k_blm N w t = some 1 := by rw [k_blm]; simp only [if_neg h2, if_pos h4, if_neg (ts9 h162)]
        rw [e9] at hk
        exact sg_ireturn (st := []) (v := md_o (some 1)) (pc := 31) hC hR dX6_sourceToBlame_31 hk
  · refine sg_aload_n (pc := 17) (v := .ref ca) hC dX6_sourceToBlame_17 rfl rfl ?_
    refine sg_get (pc := 18) (a := ca) (v := .ref so) 2 hC rfl inw_X6 (by decide) tw_195 dX6_sourceToBlame_18 hX rfl ?_
    refine sg_iload_n (pc := 21) (x := nI 0) hC dX6_sourceToBlame_21 rfl ?_
    refine sg_aald8 (pc := 22) (i := nI 0) hC dX6_sourceToBlame_22 hSo (vp_in_nI (by first | omega | decide | exact Nat.lt_of_le_of_lt jshr (by omega) | exact Nat.lt_of_le_of_lt jand1 (by decide)) (by first | omega | decide | exact Nat.lt_of_le_of_lt jshr (by omega) | exact Nat.lt_of_le_of_lt jand1 (by decide))) ?_
    rw [nI_clamp (by first | omega | decide | exact Nat.lt_of_le_of_lt jshr (by omega) | exact Nat.lt_of_le_of_lt jand1 (by decide))]
    obtain ⟨q314, hq315, hs316⟩ := hG 0 (by omega)
    rw [hq315]
    obtain ⟨la317, f318, hc319, -, -⟩ := id hs316
    show sg_W X M 0 0 23 [some (.ref ca), some (.int (nI w)), some (.ref b), some (.int (nI 0))] [.ref q314]
    refine sg_aload_n (pc := 23) (v := .ref b) hC dX6_sourceToBlame_23 rfl rfl ?_
    refine sg_callV (pc := 24) (As := [.ref b]) (rest := []) (mc := 0) (ms := 0) hC tw_965 tw_966 tw_967 tw_70 tw_968 yd_X5_isGranted (by decide) (ci := 8) rfl dX6_sourceToBlame_24 hc319 rfl (Nat.le_of_ble_eq_true rfl) (by first | omega | decide | exact Nat.lt_of_le_of_lt jshr (by omega) | exact Nat.lt_of_le_of_lt jand1 (by decide)) (by first | omega | decide | exact Nat.lt_of_le_of_lt jshr (by omega) | exact Nat.lt_of_le_of_lt jand1 (by decide)) ?_
    refine c_granted htr hW (by omega) hs316 hB ?_
    show sg_W X M 0 0 27 [some (.ref ca), some (.int (nI w)), some (.ref b), some (.int (nI 0))] [.int (md_b ((isg (gl N 0) t)))]
    refine sg_ifB_ne (pc := 27) (b := (isg (gl N 0) t)) 32 hC dX6_sourceToBlame_27 (by decide) (fun h320 => ?_) (fun h320 => ?_)
    · refine sg_iincN (pc := 32) (a := 0) (b := 1) hC dX6_sourceToBlame_32 rfl (nI_1 _) (by decide) ?_
      show sg_W X M 0 0 35 [some (.ref ca), some (.int (nI w)), some (.ref b), some (.int (nI 1))] []
      refine sg_goto (pc := 35) 2 hC dX6_sourceToBlame_35 (by decide) ?_
      refine sg_iload_n (pc := 2) (x := nI 1) hC dX6_sourceToBlame_2 rfl ?_
      refine sg_bipush (pc := 3) (nI 6) hC dX6_sourceToBlame_3 (by decide) ?_
      refine sg_icmpN_ge (pc := 5) (a := 1) (b := 6) 38 hC dX6_sourceToBlame_5 (by decide) (by decide) (by decide) (fun h321 => absurd h321 (by decide)) (fun _ => ?_)
      refine sg_iload_n (pc := 8) (x := nI w) hC dX6_sourceToBlame_8 rfl ?_
      refine sg_iload_n (pc := 9) (x := nI 1) hC dX6_sourceToBlame_9 rfl ?_
      refine sg_ishrN (pc := 10) (a := w) (b := 1) hC dX6_sourceToBlame_10 (by first | omega | decide | exact Nat.lt_of_le_of_lt jshr (by omega) | exact Nat.lt_of_le_of_lt jand1 (by decide)) (by first | omega | decide | exact Nat.lt_of_le_of_lt jshr (by omega) | exact Nat.lt_of_le_of_lt jand1 (by decide)) ?_
      refine sg_iconst (pc := 11) (nI 1) hC dX6_sourceToBlame_11 (by decide) ?_
      refine sg_iandN (pc := 12) (a := w >>> 1) (b := 1) hC dX6_sourceToBlame_12 ?_
      refine sg_iconst (pc := 13) (nI 1) hC dX6_sourceToBlame_13 (by decide) ?_
      refine sg_icmpN_ne (pc := 14) (a := (w >>> 1) &&& 1) (b := 1) 32 hC dX6_sourceToBlame_14 (by decide) (by first | omega | decide | exact Nat.lt_of_le_of_lt jshr (by omega) | exact Nat.lt_of_le_of_lt jand1 (by decide)) (by first | omega | decide | exact Nat.lt_of_le_of_lt jshr (by omega) | exact Nat.lt_of_le_of_lt jand1 (by decide)) (fun h322 => ?_) (fun h322 => ?_)
      · refine sg_iincN (pc := 32) (a := 1) (b := 2) hC dX6_sourceToBlame_32 rfl (nI_1 _) (by decide) ?_
        show sg_W X M 0 0 35 [some (.ref ca), some (.int (nI w)), some (.ref b), some (.int (nI 2))] []
        refine sg_goto (pc := 35) 2 hC dX6_sourceToBlame_35 (by decide) ?_
        refine sg_iload_n (pc := 2) (x := nI 2) hC dX6_sourceToBlame_2 rfl ?_
        refine sg_bipush (pc := 3) (nI 6) hC dX6_sourceToBlame_3 (by decide) ?_
        refine sg_icmpN_ge (pc := 5) (a := 2) (b := 6) 38 hC dX6_sourceToBlame_5 (by decide) (by decide) (by decide) (fun h323 => absurd h323 (by decide)) (fun _ => ?_)
        refine sg_iload_n (pc := 8) (x := nI w) hC dX6_sourceToBlame_8 rfl ?_
        refine sg_iload_n (pc := 9) (x := nI 2) hC dX6_sourceToBlame_9 rfl ?_
        refine sg_ishrN (pc := 10) (a := w) (b := 2) hC dX6_sourceToBlame_10 (by first | omega | decide | exact Nat.lt_of_le_of_lt jshr (by omega) | exact Nat.lt_of_le_of_lt jand1 (by decide)) (by first | omega | decide | exact Nat.lt_of_le_of_lt jshr (by omega) | exact Nat.lt_of_le_of_lt jand1 (by decide)) ?_
        refine sg_iconst (pc := 11) (nI 1) hC dX6_sourceToBlame_11 (by decide) ?_
        refine sg_iandN (pc := 12) (a := w >>> 2) (b := 1) hC dX6_sourceToBlame_12 ?_
        refine sg_iconst (pc := 13) (nI 1) hC dX6_sourceToBlame_13 (by decide) ?_
        refine sg_icmpN_ne (pc := 14) (a := (w >>> 2) &&& 1) (b := 1) 32 hC dX6_sourceToBlame_14 (by decide) (by first | omega | decide | exact Nat.lt_of_le_of_lt jshr (by omega) | exact Nat.lt_of_le_of_lt jand1 (by decide)) (by first | omega | decide | exact Nat.lt_of_le_of_lt jshr (by omega) | exact Nat.lt_of_le_of_lt jand1 (by decide)) (fun h324 => ?_) (fun h324 => ?_)
        · refine sg_iincN (pc := 32) (a := 2) (b := 3) hC dX6_sourceToBlame_32 rfl (nI_1 _) (by decide) ?_
          show sg_W X M 0 0 35 [some (.ref ca), some (.int (nI w)), some (.ref b), some (.int (nI 3))] []
          refine sg_goto (pc := 35) 2 hC dX6_sourceToBlame_35 (by decide) ?_
          refine sg_iload_n (pc := 2) (x := nI 3) hC dX6_sourceToBlame_2 rfl ?_
          refine sg_bipush (pc := 3) (nI 6) hC dX6_sourceToBlame_3 (by decide) ?_
          refine sg_icmpN_ge (pc := 5) (a := 3) (b := 6) 38 hC dX6_sourceToBlame_5 (by decide) (by decide) (by decide) (fun h325 => absurd h325 (by decide)) (fun _ => ?_)
          refine sg_iload_n (pc := 8) (x := nI w) hC dX6_sourceToBlame_8 rfl ?_
          refine sg_iload_n (pc := 9) (x := nI 3) hC dX6_sourceToBlame_9 rfl ?_
          refine sg_ishrN (pc := 10) (a := w) (b := 3) hC dX6_sourceToBlame_10 (by first | omega | decide | exact Nat.lt_of_le_of_lt jshr (by omega) | exact Nat.lt_of_le_of_lt jand1 (by decide)) (by first | omega | decide | exact Nat.lt_of_le_of_lt jshr (by omega) | exact Nat.lt_of_le_of_lt jand1 (by decide)) ?_
          refine sg_iconst (pc := 11) (nI 1) hC dX6_sourceToBlame_11 (by decide) ?_
          refine sg_iandN (pc := 12) (a := w >>> 3) (b := 1) hC dX6_sourceToBlame_12 ?_
          refine sg_iconst (pc := 13) (nI 1) hC dX6_sourceToBlame_13 (by decide) ?_
          refine sg_icmpN_ne (pc := 14) (a := (w >>> 3) &&& 1) (b := 1) 32 hC dX6_sourceToBlame_14 (by decide) (by first | omega | decide | exact Nat.lt_of_le_of_lt jshr (by omega) | exact Nat.lt_of_le_of_lt jand1 (by decide)) (by first | omega | decide | exact Nat.lt_of_le_of_lt jshr (by omega) | exact Nat.lt_of_le_of_lt jand1 (by decide)) (fun h326 => ?_) (fun h326 => ?_)
          · refine sg_iincN (pc := 32) (a := 3) (b := 4) hC dX6_sourceToBlame_32 rfl (nI_1 _) (by decide) ?_
            show sg_W X M 0 0 35 [some (.ref ca), some (.int (nI w)), some (.ref b), some (.int (nI 4))] []
            refine sg_goto (pc := 35) 2 hC dX6_sourceToBlame_35 (by decide) ?_
            refine sg_iload_n (pc := 2) (x := nI 4) hC dX6_sourceToBlame_2 rfl ?_
            refine sg_bipush (pc := 3) (nI 6) hC dX6_sourceToBlame_3 (by decide) ?_
            refine sg_icmpN_ge (pc := 5) (a := 4) (b := 6) 38 hC dX6_sourceToBlame_5 (by decide) (by decide) (by decide) (fun h327 => absurd h327 (by decide)) (fun _ => ?_)
            refine sg_iload_n (pc := 8) (x := nI w) hC dX6_sourceToBlame_8 rfl ?_
            refine sg_iload_n (pc := 9) (x := nI 4) hC dX6_sourceToBlame_9 rfl ?_
            refine sg_ishrN (pc := 10) (a := w) (b := 4) hC dX6_sourceToBlame_10 (by first | omega | decide | exact Nat.lt_of_le_of_lt jshr (by omega) | exact Nat.lt_of_le_of_lt jand1 (by decide)) (by first | omega | decide | exact Nat.lt_of_le_of_lt jshr (by omega) | exact Nat.lt_of_le_of_lt jand1 (by decide)) ?_
            refine sg_iconst (pc := 11) (nI 1) hC dX6_sourceToBlame_11 (by decide) ?_
            refine sg_iandN (pc := 12) (a := w >>> 4) (b := 1) hC dX6_sourceToBlame_12 ?_
            refine sg_iconst (pc := 13) (nI 1) hC dX6_sourceToBlame_13 (by decide) ?_
            refine sg_icmpN_ne (pc := 14) (a := (w >>> 4) &&& 1) (b := 1) 32 hC dX6_sourceToBlame_14 (by decide) (by first | omega | decide | exact Nat.lt_of_le_of_lt jshr (by omega) | exact Nat.lt_of_le_of_lt jand1 (by decide)) (by first | omega | decide | exact Nat.lt_of_le_of_lt jshr (by omega) | exact Nat.lt_of_le_of_lt jand1 (by decide)) (fun h328 => ?_) (fun h328 => ?_)
            · refine sg_iincN (pc := 32) (a := 4) (b := 5) hC dX6_sourceToBlame_32 rfl (nI_1 _) (by decide) ?_
              show sg_W X M 0 0 35 [some (.ref ca), some (.int (nI w)), some (.ref b), some (.int (nI 5))] []
              refine sg_goto (pc := 35) 2 hC dX6_sourceToBlame_35 (by decide) ?_
              refine sg_iload_n (pc := 2) (x := nI 5) hC dX6_sourceToBlame_2 rfl ?_
              refine sg_bipush (pc := 3) (nI 6) hC dX6_sourceToBlame_3 (by decide) ?_
              refine sg_icmpN_ge (pc := 5) (a := 5) (b := 6) 38 hC dX6_sourceToBlame_5 (by decide) (by decide) (by decide) (fun h329 => absurd h329 (by decide)) (fun _ => ?_)
              refine sg_iload_n (pc := 8) (x := nI w) hC dX6_sourceToBlame_8 rfl ?_
              refine sg_iload_n (pc := 9) (x := nI 5) hC dX6_sourceToBlame_9 rfl ?_
              refine sg_ishrN (pc := 10) (a := w) (b := 5) hC dX6_sourceToBlame_10 (by first | omega | decide | exact Nat.lt_of_le_of_lt jshr (by omega) | exact Nat.lt_of_le_of_lt jand1 (by decide)) (by first | omega | decide | exact Nat.lt_of_le_of_lt jshr (by omega) | exact Nat.lt_of_le_of_lt jand1 (by decide)) ?_
              refine sg_iconst (pc := 11) (nI 1) hC dX6_sourceToBlame_11 (by decide) ?_
              refine sg_iandN (pc := 12) (a := w >>> 5) (b := 1) hC dX6_sourceToBlame_12 ?_
              refine sg_iconst (pc := 13) (nI 1) hC dX6_sourceToBlame_13 (by decide) ?_
              refine sg_icmpN_ne (pc := 14) (a := (w >>> 5) &&& 1) (b := 1) 32 hC dX6_sourceToBlame_14 (by decide) (by first | omega | decide | exact Nat.lt_of_le_of_lt jshr (by omega) | exact Nat.lt_of_le_of_lt jand1 (by decide)) (by first | omega | decide | exact Nat.lt_of_le_of_lt jshr (by omega) | exact Nat.lt_of_le_of_lt jand1 (by decide)) (fun h330 => ?_) (fun h330 => ?_)
              · refine sg_iincN (pc := 32) (a := 5) (b := 6) hC dX6_sourceToBlame_32 rfl (nI_1 _) (by decide) ?_
                show sg_W X M 0 0 35 [some (.ref ca), some (.int (nI w)), some (.ref b), some (.int (nI 6))] []
                refine sg_goto (pc := 35) 2 hC dX6_sourceToBlame_35 (by decide) ?_
                refine sg_iload_n (pc := 2) (x := nI 6) hC dX6_sourceToBlame_2 rfl ?_
                refine sg_bipush (pc := 3) (nI 6) hC dX6_sourceToBlame_3 (by decide) ?_
                refine sg_icmpN_ge (pc := 5) (a := 6) (b := 6) 38 hC dX6_sourceToBlame_5 (by decide) (by decide) (by decide) (fun _ => ?_) (fun h331 => absurd h331 (by decide))
                refine sg_iconst (pc := 38) (((-1))) hC dX6_sourceToBlame_38 (by decide) ?_
                have e9 : k_blm N w t = none := by rw [k_blm]; simp only [if_pos h2, if_pos h320, if_neg h322, if_neg h324, if_neg h326, if_neg h328, if_neg h330]
                rw [e9] at hk
                exact sg_ireturn (st := []) (v := md_o none) (pc := 39) hC hR dX6_sourceToBlame_39 hk
              · refine sg_aload_n (pc := 17) (v := .ref ca) hC dX6_sourceToBlame_17 rfl rfl ?_
                refine sg_get (pc := 18) (a := ca) (v := .ref so) 2 hC rfl inw_X6 (by decide) tw_195 dX6_sourceToBlame_18 hX rfl ?_
                refine sg_iload_n (pc := 21) (x := nI 5) hC dX6_sourceToBlame_21 rfl ?_
                refine sg_aald8 (pc := 22) (i := nI 5) hC dX6_sourceToBlame_22 hSo (vp_in_nI (by first | omega | decide | exact Nat.lt_of_le_of_lt jshr (by omega) | exact Nat.lt_of_le_of_lt jand1 (by decide)) (by first | omega | decide | exact Nat.lt_of_le_of_lt jshr (by omega) | exact Nat.lt_of_le_of_lt jand1 (by decide))) ?_
                rw [nI_clamp (by first | omega | decide | exact Nat.lt_of_le_of_lt jshr (by omega) | exact Nat.lt_of_le_of_lt jand1 (by decide))]
                obtain ⟨q332, hq333, hs334⟩ := hG 5 (by omega)
                rw [hq333]
                obtain ⟨la335, f336, hc337, -, -⟩ := id hs334
                show sg_W X M 0 0 23 [some (.ref ca), some (.int (nI w)), some (.ref b), some (.int (nI 5))] [.ref q332]
                refine sg_aload_n (pc := 23) (v := .ref b) hC dX6_sourceToBlame_23 rfl rfl ?_
                refine sg_callV (pc := 24) (As := [.ref b]) (rest := []) (mc := 0) (ms := 0) hC tw_965 tw_966 tw_967 tw_70 tw_968 yd_X5_isGranted (by decide) (ci := 8) rfl dX6_sourceToBlame_24 hc337 rfl (Nat.le_of_ble_eq_true rfl) (by first | omega | decide | exact Nat.lt_of_le_of_lt jshr (by omega) | exact Nat.lt_of_le_of_lt jand1 (by decide)) (by first | omega | decide | exact Nat.lt_of_le_of_lt jshr (by omega) | exact Nat.lt_of_le_of_lt jand1 (by decide)) ?_
                refine c_granted htr hW (by omega) hs334 hB ?_
                show sg_W X M 0 0 27 [some (.ref ca), some (.int (nI w)), some (.ref b), some (.int (nI 5))] [.int (md_b ((isg (gl N 5) t)))]
                refine sg_ifB_ne (pc := 27) (b := (isg (gl N 5) t)) 32 hC dX6_sourceToBlame_27 (by decide) (fun h338 => ?_) (fun h338 => ?_)
                · refine sg_iincN (pc := 32) (a := 5) (b := 6) hC dX6_sourceToBlame_32 rfl (nI_1 _) (by decide) ?_
                  show sg_W X M 0 0 35 [some (.ref ca), some (.int (nI w)), some (.ref b), some (.int (nI 6))] []
                  refine sg_goto (pc := 35) 2 hC dX6_sourceToBlame_35 (by decide) ?_
                  refine sg_iload_n (pc := 2) (x := nI 6) hC dX6_sourceToBlame_2 rfl ?_
                  refine sg_bipush (pc := 3) (nI 6) hC dX6_sourceToBlame_3 (by decide) ?_
                  refine sg_icmpN_ge (pc := 5) (a := 6) (b := 6) 38 hC dX6_sourceToBlame_5 (by decide) (by decide) (by decide) (fun _ => ?_) (fun h339 => absurd h339 (by decide))
                  refine sg_iconst (pc := 38) (((-1))) hC dX6_sourceToBlame_38 (by decide) ?_
                  have e9 : k_blm N w t = none := by rw [k_blm]; simp only [if_pos h2, if_pos h320, if_neg h322, if_neg h324, if_neg h326, if_neg h328, if_pos h330, if_pos h338]
                  rw [e9] at hk
                  exact sg_ireturn (st := []) (v := md_o none) (pc := 39) hC hR dX6_sourceToBlame_39 hk
                · refine sg_iload_n (pc := 30) (x := nI 5) hC dX6_sourceToBlame_30 rfl ?_
                  have e9 : k_blm N w t = some 5 := by rw [k_blm]; simp only [if_pos h2, if_pos h320, if_neg h322, if_neg h324, if_neg h326, if_neg h328, if_pos h330, if_neg (ts9 h338)]
                  rw [e9] at hk
                  exact sg_ireturn (st := []) (v := md_o (some 5)) (pc := 31) hC hR dX6_sourceToBlame_31 hk
            · refine sg_aload_n (pc := 17) (v := .ref ca) hC dX6_sourceToBlame_17 rfl rfl ?_
              refine sg_get (pc := 18) (a := ca) (v := .ref so) 2 hC rfl inw_X6 (by decide) tw_195 dX6_sourceToBlame_18 hX rfl ?_
              refine sg_iload_n (pc := 21) (x := nI 4) hC dX6_sourceToBlame_21 rfl ?_
              refine sg_aald8 (pc := 22) (i := nI 4) hC dX6_sourceToBlame_22 hSo (vp_in_nI (by first | omega | decide | exact Nat.lt_of_le_of_lt jshr (by omega) | exact Nat.lt_of_le_of_lt jand1 (by decide)) (by first | omega | decide | exact Nat.lt_of_le_of_lt jshr (by omega) | exact Nat.lt_of_le_of_lt jand1 (by decide))) ?_
              rw [nI_clamp (by first | omega | decide | exact Nat.lt_of_le_of_lt jshr (by omega) | exact Nat.lt_of_le_of_lt jand1 (by decide))]
              obtain ⟨q340, hq341, hs342⟩ := hG 4 (by omega)
              rw [hq341]
              obtain ⟨la343, f344, hc345, -, -⟩ := id hs342
              show sg_W X M 0 0 23 [some (.ref ca), some (.int (nI w)), some (.ref b), some (.int (nI 4))] [.ref q340]
              refine sg_aload_n (pc := 23) (v := .ref b) hC dX6_sourceToBlame_23 rfl rfl ?_
              refine sg_callV (pc := 24) (As := [.ref b]) (rest := []) (mc := 0) (ms := 0) hC tw_965 tw_966 tw_967 tw_70 tw_968 yd_X5_isGranted (by decide) (ci := 8) rfl dX6_sourceToBlame_24 hc345 rfl (Nat.le_of_ble_eq_true rfl) (by first | omega | decide | exact Nat.lt_of_le_of_lt jshr (by omega) | exact Nat.lt_of_le_of_lt jand1 (by decide)) (by first | omega | decide | exact Nat.lt_of_le_of_lt jshr (by omega) | exact Nat.lt_of_le_of_lt jand1 (by decide)) ?_
              refine c_granted htr hW (by omega) hs342 hB ?_
              show sg_W X M 0 0 27 [some (.ref ca), some (.int (nI w)), some (.ref b), some (.int (nI 4))] [.int (md_b ((isg (gl N 4) t)))]
              refine sg_ifB_ne (pc := 27) (b := (isg (gl N 4) t)) 32 hC dX6_sourceToBlame_27 (by decide) (fun h346 => ?_) (fun h346 => ?_)
              · refine sg_iincN (pc := 32) (a := 4) (b := 5) hC dX6_sourceToBlame_32 rfl (nI_1 _) (by decide) ?_
                show sg_W X M 0 0 35 [some (.ref ca), some (.int (nI w)), some (.ref b), some (.int (nI 5))] []
                refine sg_goto (pc := 35) 2 hC dX6_sourceToBlame_35 (by decide) ?_
                refine sg_iload_n (pc := 2) (x := nI 5) hC dX6_sourceToBlame_2 rfl ?_
                refine sg_bipush (pc := 3) (nI 6) hC dX6_sourceToBlame_3 (by decide) ?_
                refine sg_icmpN_ge (pc := 5) (a := 5) (b := 6) 38 hC dX6_sourceToBlame_5 (by decide) (by decide) (by decide) (fun h347 => absurd h347 (by decide)) (fun _ => ?_)
                refine sg_iload_n (pc := 8) (x := nI w) hC dX6_sourceToBlame_8 rfl ?_
                refine sg_iload_n (pc := 9) (x := nI 5) hC dX6_sourceToBlame_9 rfl ?_
                refine sg_ishrN (pc := 10) (a := w) (b := 5) hC dX6_sourceToBlame_10 (by first | omega | decide | exact Nat.lt_of_le_of_lt jshr (by omega) | exact Nat.lt_of_le_of_lt jand1 (by decide)) (by first | omega | decide | exact Nat.lt_of_le_of_lt jshr (by omega) | exact Nat.lt_of_le_of_lt jand1 (by decide)) ?_
                refine sg_iconst (pc := 11) (nI 1) hC dX6_sourceToBlame_11 (by decide) ?_
                refine sg_iandN (pc := 12) (a := w >>> 5) (b := 1) hC dX6_sourceToBlame_12 ?_
                refine sg_iconst (pc := 13) (nI 1) hC dX6_sourceToBlame_13 (by decide) ?_
                refine sg_icmpN_ne (pc := 14) (a := (w >>> 5) &&& 1) (b := 1) 32 hC dX6_sourceToBlame_14 (by decide) (by first | omega | decide | exact Nat.lt_of_le_of_lt jshr (by omega) | exact Nat.lt_of_le_of_lt jand1 (by decide)) (by first | omega | decide | exact Nat.lt_of_le_of_lt jshr (by omega) | exact Nat.lt_of_le_of_lt jand1 (by decide)) (fun h348 => ?_) (fun h348 => ?_)
                · refine sg_iincN (pc := 32) (a := 5) (b := 6) hC dX6_sourceToBlame_32 rfl (nI_1 _) (by decide) ?_
                  show sg_W X M 0 0 35 [some (.ref ca), some (.int (nI w)), some (.ref b), some (.int (nI 6))] []
                  refine sg_goto (pc := 35) 2 hC dX6_sourceToBlame_35 (by decide) ?_
                  refine sg_iload_n (pc := 2) (x := nI 6) hC dX6_sourceToBlame_2 rfl ?_
                  refine sg_bipush (pc := 3) (nI 6) hC dX6_sourceToBlame_3 (by decide) ?_
                  refine sg_icmpN_ge (pc := 5) (a := 6) (b := 6) 38 hC dX6_sourceToBlame_5 (by decide) (by decide) (by decide) (fun _ => ?_) (fun h349 => absurd h349 (by decide))
                  refine sg_iconst (pc := 38) (((-1))) hC dX6_sourceToBlame_38 (by decide) ?_
                  have e9 : k_blm N w t = none := by rw [k_blm]; simp only [if_pos h2, if_pos h320, if_neg h322, if_neg h324, if_neg h326, if_pos h328, if_pos h346, if_neg h348]
                  rw [e9] at hk
                  exact sg_ireturn (st := []) (v := md_o none) (pc := 39) hC hR dX6_sourceToBlame_39 hk
                · refine sg_aload_n (pc := 17) (v := .ref ca) hC dX6_sourceToBlame_17 rfl rfl ?_
                  refine sg_get (pc := 18) (a := ca) (v := .ref so) 2 hC rfl inw_X6 (by decide) tw_195 dX6_sourceToBlame_18 hX rfl ?_
                  refine sg_iload_n (pc := 21) (x := nI 5) hC dX6_sourceToBlame_21 rfl ?_
                  refine sg_aald8 (pc := 22) (i := nI 5) hC dX6_sourceToBlame_22 hSo (vp_in_nI (by first | omega | decide | exact Nat.lt_of_le_of_lt jshr (by omega) | exact Nat.lt_of_le_of_lt jand1 (by decide)) (by first | omega | decide | exact Nat.lt_of_le_of_lt jshr (by omega) | exact Nat.lt_of_le_of_lt jand1 (by decide))) ?_
                  rw [nI_clamp (by first | omega | decide | exact Nat.lt_of_le_of_lt jshr (by omega) | exact Nat.lt_of_le_of_lt jand1 (by decide))]
                  obtain ⟨q350, hq351, hs352⟩ := hG 5 (by omega)
                  rw [hq351]
                  obtain ⟨la353, f354, hc355, -, -⟩ := id hs352
                  show sg_W X M 0 0 23 [some (.ref ca), some (.int (nI w)), some (.ref b), some (.int (nI 5))] [.ref q350]
                  refine sg_aload_n (pc := 23) (v := .ref b) hC dX6_sourceToBlame_23 rfl rfl ?_
                  refine sg_callV (pc := 24) (As := [.ref b]) (rest := []) (mc := 0) (ms := 0) hC tw_965 tw_966 tw_967 tw_70 tw_968 yd_X5_isGranted (by decide) (ci := 8) rfl dX6_sourceToBlame_24 hc355 rfl (Nat.le_of_ble_eq_true rfl) (by first | omega | decide | exact Nat.lt_of_le_of_lt jshr (by omega) | exact Nat.lt_of_le_of_lt jand1 (by decide)) (by first | omega | decide | exact Nat.lt_of_le_of_lt jshr (by omega) | exact Nat.lt_of_le_of_lt jand1 (by decide)) ?_
                  refine c_granted htr hW (by omega) hs352 hB ?_
                  show sg_W X M 0 0 27 [some (.ref ca), some (.int (nI w)), some (.ref b), some (.int (nI 5))] [.int (md_b ((isg (gl N 5) t)))]
                  refine sg_ifB_ne (pc := 27) (b := (isg (gl N 5) t)) 32 hC dX6_sourceToBlame_27 (by decide) (fun h356 => ?_) (fun h356 => ?_)
                  · refine sg_iincN (pc := 32) (a := 5) (b := 6) hC dX6_sourceToBlame_32 rfl (nI_1 _) (by decide) ?_
                    show sg_W X M 0 0 35 [some (.ref ca), some (.int (nI w)), some (.ref b), some (.int (nI 6))] []
                    refine sg_goto (pc := 35) 2 hC dX6_sourceToBlame_35 (by decide) ?_
                    refine sg_iload_n (pc := 2) (x := nI 6) hC dX6_sourceToBlame_2 rfl ?_
                    refine sg_bipush (pc := 3) (nI 6) hC dX6_sourceToBlame_3 (by decide) ?_
                    refine sg_icmpN_ge (pc := 5) (a := 6) (b := 6) 38 hC dX6_sourceToBlame_5 (by decide) (by decide) (by decide) (fun _ => ?_) (fun h357 => absurd h357 (by decide))
                    refine sg_iconst (pc := 38) (((-1))) hC dX6_sourceToBlame_38 (by decide) ?_
                    have e9 : k_blm N w t = none := by rw [k_blm]; simp only [if_pos h2, if_pos h320, if_neg h322, if_neg h324, if_neg h326, if_pos h328, if_pos h346, if_pos h348, if_pos h356]
                    rw [e9] at hk
                    exact sg_ireturn (st := []) (v := md_o none) (pc := 39) hC hR dX6_sourceToBlame_39 hk
                  · refine sg_iload_n (pc := 30) (x := nI 5) hC dX6_sourceToBlame_30 rfl ?_
                    have e9 : k_blm N w t = some 5 := by rw [k_blm]; simp only [if_pos h2, if_pos h320, if_neg h322, if_neg h324, if_neg h326, if_pos h328, if_pos h346, if_pos h348, if_neg (ts9 h356)]
                    rw [e9] at hk
                    exact sg_ireturn (st := []) (v := md_o (some 5)) (pc := 31) hC hR dX6_sourceToBlame_31 hk
              · refine sg_iload_n (pc := 30) (x := nI 4) hC dX6_sourceToBlame_30 rfl ?_
                have e9 : k_blm N w t = some 4 := by rw [k_blm]; simp only [if_pos h2, if_pos h320, if_neg h322, if_neg h324, if_neg h326, if_pos h328, if_neg (ts9 h346)]
                rw [e9] at hk
                exact sg_ireturn (st := []) (v := md_o (some 4)) (pc := 31) hC hR dX6_sourceToBlame_31 hk
          · refine sg_aload_n (pc := 17) (v := .ref ca) hC dX6_sourceToBlame_17 rfl rfl ?_
            refine sg_get (pc := 18) (a := ca) (v := .ref so) 2 hC rfl inw_X6 (by decide) tw_195 dX6_sourceToBlame_18 hX rfl ?_
            refine sg_iload_n (pc := 21) (x := nI 3) hC dX6_sourceToBlame_21 rfl ?_
            refine sg_aald8 (pc := 22) (i := nI 3) hC dX6_sourceToBlame_22 hSo (vp_in_nI (by first | omega | decide | exact Nat.lt_of_le_of_lt jshr (by omega) | exact Nat.lt_of_le_of_lt jand1 (by decide)) (by first | omega | decide | exact Nat.lt_of_le_of_lt jshr (by omega) | exact Nat.lt_of_le_of_lt jand1 (by decide))) ?_
            rw [nI_clamp (by first | omega | decide | exact Nat.lt_of_le_of_lt jshr (by omega) | exact Nat.lt_of_le_of_lt jand1 (by decide))]
            obtain ⟨q358, hq359, hs360⟩ := hG 3 (by omega)
            rw [hq359]
            obtain ⟨la361, f362, hc363, -, -⟩ := id hs360
            show sg_W X M 0 0 23 [some (.ref ca), some (.int (nI w)), some (.ref b), some (.int (nI 3))] [.ref q358]
            refine sg_aload_n (pc := 23) (v := .ref b) hC dX6_sourceToBlame_23 rfl rfl ?_
            refine sg_callV (pc := 24) (As := [.ref b]) (rest := []) (mc := 0) (ms := 0) hC tw_965 tw_966 tw_967 tw_70 tw_968 yd_X5_isGranted (by decide) (ci := 8) rfl dX6_sourceToBlame_24 hc363 rfl (Nat.le_of_ble_eq_true rfl) (by first | omega | decide | exact Nat.lt_of_le_of_lt jshr (by omega) | exact Nat.lt_of_le_of_lt jand1 (by decide)) (by first | omega | decide | exact Nat.lt_of_le_of_lt jshr (by omega) | exact Nat.lt_of_le_of_lt jand1 (by decide)) ?_
            refine c_granted htr hW (by omega) hs360 hB ?_
            show sg_W X M 0 0 27 [some (.ref ca), some (.int (nI w)), some (.ref b), some (.int (nI 3))] [.int (md_b ((isg (gl N 3) t)))]
            refine sg_ifB_ne (pc := 27) (b := (isg (gl N 3) t)) 32 hC dX6_sourceToBlame_27 (by decide) (fun h364 => ?_) (fun h364 => ?_)
            · refine sg_iincN (pc := 32) (a := 3) (b := 4) hC dX6_sourceToBlame_32 rfl (nI_1 _) (by decide) ?_
              show sg_W X M 0 0 35 [some (.ref ca), some (.int (nI w)), some (.ref b), some (.int (nI 4))] []
              refine sg_goto (pc := 35) 2 hC dX6_sourceToBlame_35 (by decide) ?_
              refine sg_iload_n (pc := 2) (x := nI 4) hC dX6_sourceToBlame_2 rfl ?_
              refine sg_bipush (pc := 3) (nI 6) hC dX6_sourceToBlame_3 (by decide) ?_
              refine sg_icmpN_ge (pc := 5) (a := 4) (b := 6) 38 hC dX6_sourceToBlame_5 (by decide) (by decide) (by decide) (fun h365 => absurd h365 (by decide)) (fun _ => ?_)
              refine sg_iload_n (pc := 8) (x := nI w) hC dX6_sourceToBlame_8 rfl ?_
              refine sg_iload_n (pc := 9) (x := nI 4) hC dX6_sourceToBlame_9 rfl ?_
              refine sg_ishrN (pc := 10) (a := w) (b := 4) hC dX6_sourceToBlame_10 (by first | omega | decide | exact Nat.lt_of_le_of_lt jshr (by omega) | exact Nat.lt_of_le_of_lt jand1 (by decide)) (by first | omega | decide | exact Nat.lt_of_le_of_lt jshr (by omega) | exact Nat.lt_of_le_of_lt jand1 (by decide)) ?_
              refine sg_iconst (pc := 11) (nI 1) hC dX6_sourceToBlame_11 (by decide) ?_
              refine sg_iandN (pc := 12) (a := w >>> 4) (b := 1) hC dX6_sourceToBlame_12 ?_
              refine sg_iconst (pc := 13) (nI 1) hC dX6_sourceToBlame_13 (by decide) ?_
              refine sg_icmpN_ne (pc := 14) (a := (w >>> 4) &&& 1) (b := 1) 32 hC dX6_sourceToBlame_14 (by decide) (by first | omega | decide | exact Nat.lt_of_le_of_lt jshr (by omega) | exact Nat.lt_of_le_of_lt jand1 (by decide)) (by first | omega | decide | exact Nat.lt_of_le_of_lt jshr (by omega) | exact Nat.lt_of_le_of_lt jand1 (by decide)) (fun h366 => ?_) (fun h366 => ?_)
              · refine sg_iincN (pc := 32) (a := 4) (b := 5) hC dX6_sourceToBlame_32 rfl (nI_1 _) (by decide) ?_
                show sg_W X M 0 0 35 [some (.ref ca), some (.int (nI w)), some (.ref b), some (.int (nI 5))] []
                refine sg_goto (pc := 35) 2 hC dX6_sourceToBlame_35 (by decide) ?_
                refine sg_iload_n (pc := 2) (x := nI 5) hC dX6_sourceToBlame_2 rfl ?_
                refine sg_bipush (pc := 3) (nI 6) hC dX6_sourceToBlame_3 (by decide) ?_
                refine sg_icmpN_ge (pc := 5) (a := 5) (b := 6) 38 hC dX6_sourceToBlame_5 (by decide) (by decide) (by decide) (fun h367 => absurd h367 (by decide)) (fun _ => ?_)
                refine sg_iload_n (pc := 8) (x := nI w) hC dX6_sourceToBlame_8 rfl ?_
                refine sg_iload_n (pc := 9) (x := nI 5) hC dX6_sourceToBlame_9 rfl ?_
                refine sg_ishrN (pc := 10) (a := w) (b := 5) hC dX6_sourceToBlame_10 (by first | omega | decide | exact Nat.lt_of_le_of_lt jshr (by omega) | exact Nat.lt_of_le_of_lt jand1 (by decide)) (by first | omega | decide | exact Nat.lt_of_le_of_lt jshr (by omega) | exact Nat.lt_of_le_of_lt jand1 (by decide)) ?_
                refine sg_iconst (pc := 11) (nI 1) hC dX6_sourceToBlame_11 (by decide) ?_
                refine sg_iandN (pc := 12) (a := w >>> 5) (b := 1) hC dX6_sourceToBlame_12 ?_
                refine sg_iconst (pc := 13) (nI 1) hC dX6_sourceToBlame_13 (by decide) ?_
                refine sg_icmpN_ne (pc := 14) (a := (w >>> 5) &&& 1) (b := 1) 32 hC dX6_sourceToBlame_14 (by decide) (by first | omega | decide | exact Nat.lt_of_le_of_lt jshr (by omega) | exact Nat.lt_of_le_of_lt jand1 (by decide)) (by first | omega | decide | exact Nat.lt_of_le_of_lt jshr (by omega) | exact Nat.lt_of_le_of_lt jand1 (by decide)) (fun h368 => ?_) (fun h368 => ?_)
                · refine sg_iincN (pc := 32) (a := 5) (b := 6) hC dX6_sourceToBlame_32 rfl (nI_1 _) (by decide) ?_
                  show sg_W X M 0 0 35 [some (.ref ca), some (.int (nI w)), some (.ref b), some (.int (nI 6))] []
                  refine sg_goto (pc := 35) 2 hC dX6_sourceToBlame_35 (by decide) ?_
                  refine sg_iload_n (pc := 2) (x := nI 6) hC dX6_sourceToBlame_2 rfl ?_
                  refine sg_bipush (pc := 3) (nI 6) hC dX6_sourceToBlame_3 (by decide) ?_
                  refine sg_icmpN_ge (pc := 5) (a := 6) (b := 6) 38 hC dX6_sourceToBlame_5 (by decide) (by decide) (by decide) (fun _ => ?_) (fun h369 => absurd h369 (by decide))
                  refine sg_iconst (pc := 38) (((-1))) hC dX6_sourceToBlame_38 (by decide) ?_
                  have e9 : k_blm N w t = none := by rw [k_blm]; simp only [if_pos h2, if_pos h320, if_neg h322, if_neg h324, if_pos h326, if_pos h364, if_neg h366, if_neg h368]
                  rw [e9] at hk
                  exact sg_ireturn (st := []) (v := md_o none) (pc := 39) hC hR dX6_sourceToBlame_39 hk
                · refine sg_aload_n (pc := 17) (v := .ref ca) hC dX6_sourceToBlame_17 rfl rfl ?_
                  refine sg_get (pc := 18) (a := ca) (v := .ref so) 2 hC rfl inw_X6 (by decide) tw_195 dX6_sourceToBlame_18 hX rfl ?_
                  refine sg_iload_n (pc := 21) (x := nI 5) hC dX6_sourceToBlame_21 rfl ?_
                  refine sg_aald8 (pc := 22) (i := nI 5) hC dX6_sourceToBlame_22 hSo (vp_in_nI (by first | omega | decide | exact Nat.lt_of_le_of_lt jshr (by omega) | exact Nat.lt_of_le_of_lt jand1 (by decide)) (by first | omega | decide | exact Nat.lt_of_le_of_lt jshr (by omega) | exact Nat.lt_of_le_of_lt jand1 (by decide))) ?_
                  rw [nI_clamp (by first | omega | decide | exact Nat.lt_of_le_of_lt jshr (by omega) | exact Nat.lt_of_le_of_lt jand1 (by decide))]
                  obtain ⟨q370, hq371, hs372⟩ := hG 5 (by omega)
                  rw [hq371]
                  obtain ⟨la373, f374, hc375, -, -⟩ := id hs372
                  show sg_W X M 0 0 23 [some (.ref ca), some (.int (nI w)), some (.ref b), some (.int (nI 5))] [.ref q370]
                  refine sg_aload_n (pc := 23) (v := .ref b) hC dX6_sourceToBlame_23 rfl rfl ?_
                  refine sg_callV (pc := 24) (As := [.ref b]) (rest := []) (mc := 0) (ms := 0) hC tw_965 tw_966 tw_967 tw_70 tw_968 yd_X5_isGranted (by decide) (ci := 8) rfl dX6_sourceToBlame_24 hc375 rfl (Nat.le_of_ble_eq_true rfl) (by first | omega | decide | exact Nat.lt_of_le_of_lt jshr (by omega) | exact Nat.lt_of_le_of_lt jand1 (by decide)) (by first | omega | decide | exact Nat.lt_of_le_of_lt jshr (by omega) | exact Nat.lt_of_le_of_lt jand1 (by decide)) ?_
                  refine c_granted htr hW (by omega) hs372 hB ?_
                  show sg_W X M 0 0 27 [some (.ref ca), some (.int (nI w)), some (.ref b), some (.int (nI 5))] [.int (md_b ((isg (gl N 5) t)))]
                  refine sg_ifB_ne (pc := 27) (b := (isg (gl N 5) t)) 32 hC dX6_sourceToBlame_27 (by decide) (fun h376 => ?_) (fun h376 => ?_)
                  · refine sg_iincN (pc := 32) (a := 5) (b := 6) hC dX6_sourceToBlame_32 rfl (nI_1 _) (by decide) ?_
                    show sg_W X M 0 0 35 [some (.ref ca), some (.int (nI w)), some (.ref b), some (.int (nI 6))] []
                    refine sg_goto (pc := 35) 2 hC dX6_sourceToBlame_35 (by decide) ?_
                    refine sg_iload_n (pc := 2) (x := nI 6) hC dX6_sourceToBlame_2 rfl ?_
                    refine sg_bipush (pc := 3) (nI 6) hC dX6_sourceToBlame_3 (by decide) ?_
                    refine sg_icmpN_ge (pc := 5) (a := 6) (b := 6) 38 hC dX6_sourceToBlame_5 (by decide) (by decide) (by decide) (fun _ => ?_) (fun h377 => absurd h377 (by decide))
                    refine sg_iconst (pc := 38) (((-1))) hC dX6_sourceToBlame_38 (by decide) ?_
                    have e9 : k_blm N w t = none := by rw [k_blm]; simp only [if_pos h2, if_pos h320, if_neg h322, if_neg h324, if_pos h326, if_pos h364, if_neg h366, if_pos h368, if_pos h376]
                    rw [e9] at hk
                    exact sg_ireturn (st := []) (v := md_o none) (pc := 39) hC hR dX6_sourceToBlame_39 hk
                  · refine sg_iload_n (pc := 30) (x := nI 5) hC dX6_sourceToBlame_30 rfl ?_
                    have e9 : k_blm N w t = some 5 := by rw [k_blm]; simp only [if_pos h2, if_pos h320, if_neg h322, if_neg h324, if_pos h326, if_pos h364, if_neg h366, if_pos h368, if_neg (ts9 h376)]
                    rw [e9] at hk
                    exact sg_ireturn (st := []) (v := md_o (some 5)) (pc := 31) hC hR dX6_sourceToBlame_31 hk
              · refine sg_aload_n (pc := 17) (v := .ref ca) hC dX6_sourceToBlame_17 rfl rfl ?_
                refine sg_get (pc := 18) (a := ca) (v := .ref so) 2 hC rfl inw_X6 (by decide) tw_195 dX6_sourceToBlame_18 hX rfl ?_
                refine sg_iload_n (pc := 21) (x := nI 4) hC dX6_sourceToBlame_21 rfl ?_
                refine sg_aald8 (pc := 22) (i := nI 4) hC dX6_sourceToBlame_22 hSo (vp_in_nI (by first | omega | decide | exact Nat.lt_of_le_of_lt jshr (by omega) | exact Nat.lt_of_le_of_lt jand1 (by decide)) (by first | omega | decide | exact Nat.lt_of_le_of_lt jshr (by omega) | exact Nat.lt_of_le_of_lt jand1 (by decide))) ?_
                rw [nI_clamp (by first | omega | decide | exact Nat.lt_of_le_of_lt jshr (by omega) | exact Nat.lt_of_le_of_lt jand1 (by decide))]
                obtain ⟨q378, hq379, hs380⟩ := hG 4 (by omega)
                rw [hq379]
                obtain ⟨la381, f382, hc383, -, -⟩ := id hs380
                show sg_W X M 0 0 23 [some (.ref ca), some (.int (nI w)), some (.ref b), some (.int (nI 4))] [.ref q378]
                refine sg_aload_n (pc := 23) (v := .ref b) hC dX6_sourceToBlame_23 rfl rfl ?_
                refine sg_callV (pc := 24) (As := [.ref b]) (rest := []) (mc := 0) (ms := 0) hC tw_965 tw_966 tw_967 tw_70 tw_968 yd_X5_isGranted (by decide) (ci := 8) rfl dX6_sourceToBlame_24 hc383 rfl (Nat.le_of_ble_eq_true rfl) (by first | omega | decide | exact Nat.lt_of_le_of_lt jshr (by omega) | exact Nat.lt_of_le_of_lt jand1 (by decide)) (by first | omega | decide | exact Nat.lt_of_le_of_lt jshr (by omega) | exact Nat.lt_of_le_of_lt jand1 (by decide)) ?_
                refine c_granted htr hW (by omega) hs380 hB ?_
                show sg_W X M 0 0 27 [some (.ref ca), some (.int (nI w)), some (.ref b), some (.int (nI 4))] [.int (md_b ((isg (gl N 4) t)))]
                refine sg_ifB_ne (pc := 27) (b := (isg (gl N 4) t)) 32 hC dX6_sourceToBlame_27 (by decide) (fun h384 => ?_) (fun h384 => ?_)
                · refine sg_iincN (pc := 32) (a := 4) (b := 5) hC dX6_sourceToBlame_32 rfl (nI_1 _) (by decide) ?_
                  show sg_W X M 0 0 35 [some (.ref ca), some (.int (nI w)), some (.ref b), some (.int (nI 5))] []
                  refine sg_goto (pc := 35) 2 hC dX6_sourceToBlame_35 (by decide) ?_
                  refine sg_iload_n (pc := 2) (x := nI 5) hC dX6_sourceToBlame_2 rfl ?_
                  refine sg_bipush (pc := 3) (nI 6) hC dX6_sourceToBlame_3 (by decide) ?_
                  refine sg_icmpN_ge (pc := 5) (a := 5) (b := 6) 38 hC dX6_sourceToBlame_5 (by decide) (by decide) (by decide) (fun h385 => absurd h385 (by decide)) (fun _ => ?_)
                  refine sg_iload_n (pc := 8) (x := nI w) hC dX6_sourceToBlame_8 rfl ?_
                  refine sg_iload_n (pc := 9) (x := nI 5) hC dX6_sourceToBlame_9 rfl ?_
                  refine sg_ishrN (pc := 10) (a := w) (b := 5) hC dX6_sourceToBlame_10 (by first | omega | decide | exact Nat.lt_of_le_of_lt jshr (by omega) | exact Nat.lt_of_le_of_lt jand1 (by decide)) (by first | omega | decide | exact Nat.lt_of_le_of_lt jshr (by omega) | exact Nat.lt_of_le_of_lt jand1 (by decide)) ?_
                  refine sg_iconst (pc := 11) (nI 1) hC dX6_sourceToBlame_11 (by decide) ?_
                  refine sg_iandN (pc := 12) (a := w >>> 5) (b := 1) hC dX6_sourceToBlame_12 ?_
                  refine sg_iconst (pc := 13) (nI 1) hC dX6_sourceToBlame_13 (by decide) ?_
                  refine sg_icmpN_ne (pc := 14) (a := (w >>> 5) &&& 1) (b := 1) 32 hC dX6_sourceToBlame_14 (by decide) (by first | omega | decide | exact Nat.lt_of_le_of_lt jshr (by omega) | exact Nat.lt_of_le_of_lt jand1 (by decide)) (by first | omega | decide | exact Nat.lt_of_le_of_lt jshr (by omega) | exact Nat.lt_of_le_of_lt jand1 (by decide)) (fun h386 => ?_) (fun h386 => ?_)
                  · refine sg_iincN (pc := 32) (a := 5) (b := 6) hC dX6_sourceToBlame_32 rfl (nI_1 _) (by decide) ?_
                    show sg_W X M 0 0 35 [some (.ref ca), some (.int (nI w)), some (.ref b), some (.int (nI 6))] []
                    refine sg_goto (pc := 35) 2 hC dX6_sourceToBlame_35 (by decide) ?_
                    refine sg_iload_n (pc := 2) (x := nI 6) hC dX6_sourceToBlame_2 rfl ?_
                    refine sg_bipush (pc := 3) (nI 6) hC dX6_sourceToBlame_3 (by decide) ?_
                    refine sg_icmpN_ge (pc := 5) (a := 6) (b := 6) 38 hC dX6_sourceToBlame_5 (by decide) (by decide) (by decide) (fun _ => ?_) (fun h387 => absurd h387 (by decide))
                    refine sg_iconst (pc := 38) (((-1))) hC dX6_sourceToBlame_38 (by decide) ?_
                    have e9 : k_blm N w t = none := by rw [k_blm]; simp only [if_pos h2, if_pos h320, if_neg h322, if_neg h324, if_pos h326, if_pos h364, if_pos h366, if_pos h384, if_neg h386]
                    rw [e9] at hk
                    exact sg_ireturn (st := []) (v := md_o none) (pc := 39) hC hR dX6_sourceToBlame_39 hk
                  · refine sg_aload_n (pc := 17) (v := .ref ca) hC dX6_sourceToBlame_17 rfl rfl ?_
                    refine sg_get (pc := 18) (a := ca) (v := .ref so) 2 hC rfl inw_X6 (by decide) tw_195 dX6_sourceToBlame_18 hX rfl ?_
                    refine sg_iload_n (pc := 21) (x := nI 5) hC dX6_sourceToBlame_21 rfl ?_
                    refine sg_aald8 (pc := 22) (i := nI 5) hC dX6_sourceToBlame_22 hSo (vp_in_nI (by first | omega | decide | exact Nat.lt_of_le_of_lt jshr (by omega) | exact Nat.lt_of_le_of_lt jand1 (by decide)) (by first | omega | decide | exact Nat.lt_of_le_of_lt jshr (by omega) | exact Nat.lt_of_le_of_lt jand1 (by decide))) ?_
                    rw [nI_clamp (by first | omega | decide | exact Nat.lt_of_le_of_lt jshr (by omega) | exact Nat.lt_of_le_of_lt jand1 (by decide))]
                    obtain ⟨q388, hq389, hs390⟩ := hG 5 (by omega)
                    rw [hq389]
                    obtain ⟨la391, f392, hc393, -, -⟩ := id hs390
                    show sg_W X M 0 0 23 [some (.ref ca), some (.int (nI w)), some (.ref b), some (.int (nI 5))] [.ref q388]
                    refine sg_aload_n (pc := 23) (v := .ref b) hC dX6_sourceToBlame_23 rfl rfl ?_
                    refine sg_callV (pc := 24) (As := [.ref b]) (rest := []) (mc := 0) (ms := 0) hC tw_965 tw_966 tw_967 tw_70 tw_968 yd_X5_isGranted (by decide) (ci := 8) rfl dX6_sourceToBlame_24 hc393 rfl (Nat.le_of_ble_eq_true rfl) (by first | omega | decide | exact Nat.lt_of_le_of_lt jshr (by omega) | exact Nat.lt_of_le_of_lt jand1 (by decide)) (by first | omega | decide | exact Nat.lt_of_le_of_lt jshr (by omega) | exact Nat.lt_of_le_of_lt jand1 (by decide)) ?_
                    refine c_granted htr hW (by omega) hs390 hB ?_
                    show sg_W X M 0 0 27 [some (.ref ca), some (.int (nI w)), some (.ref b), some (.int (nI 5))] [.int (md_b ((isg (gl N 5) t)))]
                    refine sg_ifB_ne (pc := 27) (b := (isg (gl N 5) t)) 32 hC dX6_sourceToBlame_27 (by decide) (fun h394 => ?_) (fun h394 => ?_)
                    · refine sg_iincN (pc := 32) (a := 5) (b := 6) hC dX6_sourceToBlame_32 rfl (nI_1 _) (by decide) ?_
                      show sg_W X M 0 0 35 [some (.ref ca), some (.int (nI w)), some (.ref b), some (.int (nI 6))] []
                      refine sg_goto (pc := 35) 2 hC dX6_sourceToBlame_35 (by decide) ?_
                      refine sg_iload_n (pc := 2) (x := nI 6) hC dX6_sourceToBlame_2 rfl ?_
                      refine sg_bipush (pc := 3) (nI 6) hC dX6_sourceToBlame_3 (by decide) ?_
                      refine sg_icmpN_ge (pc := 5) (a := 6) (b := 6) 38 hC dX6_sourceToBlame_5 (by decide) (by decide) (by decide) (fun _ => ?_) (fun h395 => absurd h395 (by decide))
                      refine sg_iconst (pc := 38) (((-1))) hC dX6_sourceToBlame_38 (by decide) ?_
                      have e9 : k_blm N w t = none := by rw [k_blm]; simp only [if_pos h2, if_pos h320, if_neg h322, if_neg h324, if_pos h326, if_pos h364, if_pos h366, if_pos h384, if_pos h386, if_pos h394]
                      rw [e9] at hk
                      exact sg_ireturn (st := []) (v := md_o none) (pc := 39) hC hR dX6_sourceToBlame_39 hk
                    · refine sg_iload_n (pc := 30) (x := nI 5) hC dX6_sourceToBlame_30 rfl ?_
                      have e9 : k_blm N w t = some 5 := by rw [k_blm]; simp only [if_pos h2, if_pos h320, if_neg h322, if_neg h324, if_pos h326, if_pos h364, if_pos h366, if_pos h384, if_pos h386, if_neg (ts9 h394)]
                      rw [e9] at hk
                      exact sg_ireturn (st := []) (v := md_o (some 5)) (pc := 31) hC hR dX6_sourceToBlame_31 hk
                · refine sg_iload_n (pc := 30) (x := nI 4) hC dX6_sourceToBlame_30 rfl ?_
                  have e9 : k_blm N w t = some 4 := by rw [k_blm]; simp only [if_pos h2, if_pos h320, if_neg h322, if_neg h324, if_pos h326, if_pos h364, if_pos h366, if_neg (ts9 h384)]
                  rw [e9] at hk
                  exact sg_ireturn (st := []) (v := md_o (some 4)) (pc := 31) hC hR dX6_sourceToBlame_31 hk
            · refine sg_iload_n (pc := 30) (x := nI 3) hC dX6_sourceToBlame_30 rfl ?_
              have e9 : k_blm N w t = some 3 := by rw [k_blm]; simp only [if_pos h2, if_pos h320, if_neg h322, if_neg h324, if_pos h326, if_neg (ts9 h364)]
              rw [e9] at hk
              exact sg_ireturn (st := []) (v := md_o (some 3)) (pc := 31) hC hR dX6_sourceToBlame_31 hk
        · refine sg_aload_n (pc := 17) (v := .ref ca) hC dX6_sourceToBlame_17 rfl rfl ?_
          refine sg_get (pc := 18) (a := ca) (v := .ref so) 2 hC rfl inw_X6 (by decide) tw_195 dX6_sourceToBlame_18 hX rfl ?_
          refine sg_iload_n (pc := 21) (x := nI 2) hC dX6_sourceToBlame_21 rfl ?_
          refine sg_aald8 (pc := 22) (i := nI 2) hC dX6_sourceToBlame_22 hSo (vp_in_nI (by first | omega | decide | exact Nat.lt_of_le_of_lt jshr (by omega) | exact Nat.lt_of_le_of_lt jand1 (by decide)) (by first | omega | decide | exact Nat.lt_of_le_of_lt jshr (by omega) | exact Nat.lt_of_le_of_lt jand1 (by decide))) ?_
          rw [nI_clamp (by first | omega | decide | exact Nat.lt_of_le_of_lt jshr (by omega) | exact Nat.lt_of_le_of_lt jand1 (by decide))]
          obtain ⟨q396, hq397, hs398⟩ := hG 2 (by omega)
          rw [hq397]
          obtain ⟨la399, f400, hc401, -, -⟩ := id hs398
          show sg_W X M 0 0 23 [some (.ref ca), some (.int (nI w)), some (.ref b), some (.int (nI 2))] [.ref q396]
          refine sg_aload_n (pc := 23) (v := .ref b) hC dX6_sourceToBlame_23 rfl rfl ?_
          refine sg_callV (pc := 24) (As := [.ref b]) (rest := []) (mc := 0) (ms := 0) hC tw_965 tw_966 tw_967 tw_70 tw_968 yd_X5_isGranted (by decide) (ci := 8) rfl dX6_sourceToBlame_24 hc401 rfl (Nat.le_of_ble_eq_true rfl) (by first | omega | decide | exact Nat.lt_of_le_of_lt jshr (by omega) | exact Nat.lt_of_le_of_lt jand1 (by decide)) (by first | omega | decide | exact Nat.lt_of_le_of_lt jshr (by omega) | exact Nat.lt_of_le_of_lt jand1 (by decide)) ?_
          refine c_granted htr hW (by omega) hs398 hB ?_
          show sg_W X M 0 0 27 [some (.ref ca), some (.int (nI w)), some (.ref b), some (.int (nI 2))] [.int (md_b ((isg (gl N 2) t)))]
          refine sg_ifB_ne (pc := 27) (b := (isg (gl N 2) t)) 32 hC dX6_sourceToBlame_27 (by decide) (fun h402 => ?_) (fun h402 => ?_)
          · refine sg_iincN (pc := 32) (a := 2) (b := 3) hC dX6_sourceToBlame_32 rfl (nI_1 _) (by decide) ?_
            show sg_W X M 0 0 35 [some (.ref ca), some (.int (nI w)), some (.ref b), some (.int (nI 3))] []
            refine sg_goto (pc := 35) 2 hC dX6_sourceToBlame_35 (by decide) ?_
            refine sg_iload_n (pc := 2) (x := nI 3) hC dX6_sourceToBlame_2 rfl ?_
            refine sg_bipush (pc := 3) (nI 6) hC dX6_sourceToBlame_3 (by decide) ?_
            refine sg_icmpN_ge (pc := 5) (a := 3) (b := 6) 38 hC dX6_sourceToBlame_5 (by decide) (by decide) (by decide) (fun h403 => absurd h403 (by decide)) (fun _ => ?_)
            refine sg_iload_n (pc := 8) (x := nI w) hC dX6_sourceToBlame_8 rfl ?_
            refine sg_iload_n (pc := 9) (x := nI 3) hC dX6_sourceToBlame_9 rfl ?_
            refine sg_ishrN (pc := 10) (a := w) (b := 3) hC dX6_sourceToBlame_10 (by first | omega | decide | exact Nat.lt_of_le_of_lt jshr (by omega) | exact Nat.lt_of_le_of_lt jand1 (by decide)) (by first | omega | decide | exact Nat.lt_of_le_of_lt jshr (by omega) | exact Nat.lt_of_le_of_lt jand1 (by decide)) ?_
            refine sg_iconst (pc := 11) (nI 1) hC dX6_sourceToBlame_11 (by decide) ?_
            refine sg_iandN (pc := 12) (a := w >>> 3) (b := 1) hC dX6_sourceToBlame_12 ?_
            refine sg_iconst (pc := 13) (nI 1) hC dX6_sourceToBlame_13 (by decide) ?_
            refine sg_icmpN_ne (pc := 14) (a := (w >>> 3) &&& 1) (b := 1) 32 hC dX6_sourceToBlame_14 (by decide) (by first | omega | decide | exact Nat.lt_of_le_of_lt jshr (by omega) | exact Nat.lt_of_le_of_lt jand1 (by decide)) (by first | omega | decide | exact Nat.lt_of_le_of_lt jshr (by omega) | exact Nat.lt_of_le_of_lt jand1 (by decide)) (fun h404 => ?_) (fun h404 => ?_)
            · refine sg_iincN (pc := 32) (a := 3) (b := 4) hC dX6_sourceToBlame_32 rfl (nI_1 _) (by decide) ?_
              show sg_W X M 0 0 35 [some (.ref ca), some (.int (nI w)), some (.ref b), some (.int (nI 4))] []
              refine sg_goto (pc := 35) 2 hC dX6_sourceToBlame_35 (by decide) ?_
              refine sg_iload_n (pc := 2) (x := nI 4) hC dX6_sourceToBlame_2 rfl ?_
              refine sg_bipush (pc := 3) (nI 6) hC dX6_sourceToBlame_3 (by decide) ?_
              refine sg_icmpN_ge (pc := 5) (a := 4) (b := 6) 38 hC dX6_sourceToBlame_5 (by decide) (by decide) (by decide) (fun h405 => absurd h405 (by decide)) (fun _ => ?_)
              refine sg_iload_n (pc := 8) (x := nI w) hC dX6_sourceToBlame_8 rfl ?_
              refine sg_iload_n (pc := 9) (x := nI 4) hC dX6_sourceToBlame_9 rfl ?_
              refine sg_ishrN (pc := 10) (a := w) (b := 4) hC dX6_sourceToBlame_10 (by first | omega | decide | exact Nat.lt_of_le_of_lt jshr (by omega) | exact Nat.lt_of_le_of_lt jand1 (by decide)) (by first | omega | decide | exact Nat.lt_of_le_of_lt jshr (by omega) | exact Nat.lt_of_le_of_lt jand1 (by decide)) ?_
              refine sg_iconst (pc := 11) (nI 1) hC dX6_sourceToBlame_11 (by decide) ?_
              refine sg_iandN (pc := 12) (a := w >>> 4) (b := 1) hC dX6_sourceToBlame_12 ?_
              refine sg_iconst (pc := 13) (nI 1) hC dX6_sourceToBlame_13 (by decide) ?_
              refine sg_icmpN_ne (pc := 14) (a := (w >>> 4) &&& 1) (b := 1) 32 hC dX6_sourceToBlame_14 (by decide) (by first | omega | decide | exact Nat.lt_of_le_of_lt jshr (by omega) | exact Nat.lt_of_le_of_lt jand1 (by decide)) (by first | omega | decide | exact Nat.lt_of_le_of_lt jshr (by omega) | exact Nat.lt_of_le_of_lt jand1 (by decide)) (fun h406 => ?_) (fun h406 => ?_)
              · refine sg_iincN (pc := 32) (a := 4) (b := 5) hC dX6_sourceToBlame_32 rfl (nI_1 _) (by decide) ?_
                show sg_W X M 0 0 35 [some (.ref ca), some (.int (nI w)), some (.ref b), some (.int (nI 5))] []
                refine sg_goto (pc := 35) 2 hC dX6_sourceToBlame_35 (by decide) ?_
                refine sg_iload_n (pc := 2) (x := nI 5) hC dX6_sourceToBlame_2 rfl ?_
                refine sg_bipush (pc := 3) (nI 6) hC dX6_sourceToBlame_3 (by decide) ?_
                refine sg_icmpN_ge (pc := 5) (a := 5) (b := 6) 38 hC dX6_sourceToBlame_5 (by decide) (by decide) (by decide) (fun h407 => absurd h407 (by decide)) (fun _ => ?_)
                refine sg_iload_n (pc := 8) (x := nI w) hC dX6_sourceToBlame_8 rfl ?_
                refine sg_iload_n (pc := 9) (x := nI 5) hC dX6_sourceToBlame_9 rfl ?_
                refine sg_ishrN (pc := 10) (a := w) (b := 5) hC dX6_sourceToBlame_10 (by first | omega | decide | exact Nat.lt_of_le_of_lt jshr (by omega) | exact Nat.lt_of_le_of_lt jand1 (by decide)) (by first | omega | decide | exact Nat.lt_of_le_of_lt jshr (by omega) | exact Nat.lt_of_le_of_lt jand1 (by decide)) ?_
                refine sg_iconst (pc := 11) (nI 1) hC dX6_sourceToBlame_11 (by decide) ?_
                refine sg_iandN (pc := 12) (a := w >>> 5) (b := 1) hC dX6_sourceToBlame_12 ?_
                refine sg_iconst (pc := 13) (nI 1) hC dX6_sourceToBlame_13 (by decide) ?_
                refine sg_icmpN_ne (pc := 14) (a := (w >>> 5) &&& 1) (b := 1) 32 hC dX6_sourceToBlame_14 (by decide) (by first | omega | decide | exact Nat.lt_of_le_of_lt jshr (by omega) | exact Nat.lt_of_le_of_lt jand1 (by decide)) (by first | omega | decide | exact Nat.lt_of_le_of_lt jshr (by omega) | exact Nat.lt_of_le_of_lt jand1 (by decide)) (fun h408 => ?_) (fun h408 => ?_)
                · refine sg_iincN (pc := 32) (a := 5) (b := 6) hC dX6_sourceToBlame_32 rfl (nI_1 _) (by decide) ?_
                  show sg_W X M 0 0 35 [some (.ref ca), some (.int (nI w)), some (.ref b), some (.int (nI 6))] []
                  refine sg_goto (pc := 35) 2 hC dX6_sourceToBlame_35 (by decide) ?_
                  refine sg_iload_n (pc := 2) (x := nI 6) hC dX6_sourceToBlame_2 rfl ?_
                  refine sg_bipush (pc := 3) (nI 6) hC dX6_sourceToBlame_3 (by decide) ?_
                  refine sg_icmpN_ge (pc := 5) (a := 6) (b := 6) 38 hC dX6_sourceToBlame_5 (by decide) (by decide) (by decide) (fun _ => ?_) (fun h409 => absurd h409 (by decide))
                  refine sg_iconst (pc := 38) (((-1))) hC dX6_sourceToBlame_38 (by decide) ?_
                  have e9 : k_blm N w t = none := by rw [k_blm]; simp only [if_pos h2, if_pos h320, if_neg h322, if_pos h324, if_pos h402, if_neg h404, if_neg h406, if_neg h408]
                  rw [e9] at hk
                  exact sg_ireturn (st := []) (v := md_o none) (pc := 39) hC hR dX6_sourceToBlame_39 hk
                · refine sg_aload_n (pc := 17) (v := .ref ca) hC dX6_sourceToBlame_17 rfl rfl ?_
                  refine sg_get (pc := 18) (a := ca) (v := .ref so) 2 hC rfl inw_X6 (by decide) tw_195 dX6_sourceToBlame_18 hX rfl ?_
                  refine sg_iload_n (pc := 21) (x := nI 5) hC dX6_sourceToBlame_21 rfl ?_
                  refine sg_aald8 (pc := 22) (i := nI 5) hC dX6_sourceToBlame_22 hSo (vp_in_nI (by first | omega | decide | exact Nat.lt_of_le_of_lt jshr (by omega) | exact Nat.lt_of_le_of_lt jand1 (by decide)) (by first | omega | decide | exact Nat.lt_of_le_of_lt jshr (by omega) | exact Nat.lt_of_le_of_lt jand1 (by decide))) ?_
                  rw [nI_clamp (by first | omega | decide | exact Nat.lt_of_le_of_lt jshr (by omega) | exact Nat.lt_of_le_of_lt jand1 (by decide))]
                  obtain ⟨q410, hq411, hs412⟩ := hG 5 (by omega)
                  rw [hq411]
                  obtain ⟨la413, f414, hc415, -, -⟩ := id hs412
                  show sg_W X M 0 0 23 [some (.ref ca), some (.int (nI w)), some (.ref b), some (.int (nI 5))] [.ref q410]
                  refine sg_aload_n (pc := 23) (v := .ref b) hC dX6_sourceToBlame_23 rfl rfl ?_
                  refine sg_callV (pc := 24) (As := [.ref b]) (rest := []) (mc := 0) (ms := 0) hC tw_965 tw_966 tw_967 tw_70 tw_968 yd_X5_isGranted (by decide) (ci := 8) rfl dX6_sourceToBlame_24 hc415 rfl (Nat.le_of_ble_eq_true rfl) (by first | omega | decide | exact Nat.lt_of_le_of_lt jshr (by omega) | exact Nat.lt_of_le_of_lt jand1 (by decide)) (by first | omega | decide | exact Nat.lt_of_le_of_lt jshr (by omega) | exact Nat.lt_of_le_of_lt jand1 (by decide)) ?_
                  refine c_granted htr hW (by omega) hs412 hB ?_
                  show sg_W X M 0 0 27 [some (.ref ca), some (.int (nI w)), some (.ref b), some (.int (nI 5))] [.int (md_b ((isg (gl N 5) t)))]
                  refine sg_ifB_ne (pc := 27) (b := (isg (gl N 5) t)) 32 hC dX6_sourceToBlame_27 (by decide) (fun h416 => ?_) (fun h416 => ?_)
                  · refine sg_iincN (pc := 32) (a := 5) (b := 6) hC dX6_sourceToBlame_32 rfl (nI_1 _) (by decide) ?_
                    show sg_W X M 0 0 35 [some (.ref ca), some (.int (nI w)), some (.ref b), some (.int (nI 6))] []
                    refine sg_goto (pc := 35) 2 hC dX6_sourceToBlame_35 (by decide) ?_
                    refine sg_iload_n (pc := 2) (x := nI 6) hC dX6_sourceToBlame_2 rfl ?_
                    refine sg_bipush (pc := 3) (nI 6) hC dX6_sourceToBlame_3 (by decide) ?_
                    refine sg_icmpN_ge (pc := 5) (a := 6) (b := 6) 38 hC dX6_sourceToBlame_5 (by decide) (by decide) (by decide) (fun _ => ?_) (fun h417 => absurd h417 (by decide))
                    refine sg_iconst (pc := 38) (((-1))) hC dX6_sourceToBlame_38 (by decide) ?_
                    have e9 : k_blm N w t = none := by rw [k_blm]; simp only [if_pos h2, if_pos h320, if_neg h322, if_pos h324, if_pos h402, if_neg h404, if_neg h406, if_pos h408, if_pos h416]
                    rw [e9] at hk
                    exact sg_ireturn (st := []) (v := md_o none) (pc := 39) hC hR dX6_sourceToBlame_39 hk
                  · refine sg_iload_n (pc := 30) (x := nI 5) hC dX6_sourceToBlame_30 rfl ?_
                    have e9 : k_blm N w t = some 5 := by rw [k_blm]; simp only [if_pos h2, if_pos h320, if_neg h322, if_pos h324, if_pos h402, if_neg h404, if_neg h406, if_pos h408, if_neg (ts9 h416)]
                    rw [e9] at hk
                    exact sg_ireturn (st := []) (v := md_o (some 5)) (pc := 31) hC hR dX6_sourceToBlame_31 hk
              · refine sg_aload_n (pc := 17) (v := .ref ca) hC dX6_sourceToBlame_17 rfl rfl ?_
                refine sg_get (pc := 18) (a := ca) (v := .ref so) 2 hC rfl inw_X6 (by decide) tw_195 dX6_sourceToBlame_18 hX rfl ?_
                refine sg_iload_n (pc := 21) (x := nI 4) hC dX6_sourceToBlame_21 rfl ?_
                refine sg_aald8 (pc := 22) (i := nI 4) hC dX6_sourceToBlame_22 hSo (vp_in_nI (by first | omega | decide | exact Nat.lt_of_le_of_lt jshr (by omega) | exact Nat.lt_of_le_of_lt jand1 (by decide)) (by first | omega | decide | exact Nat.lt_of_le_of_lt jshr (by omega) | exact Nat.lt_of_le_of_lt jand1 (by decide))) ?_
                rw [nI_clamp (by first | omega | decide | exact Nat.lt_of_le_of_lt jshr (by omega) | exact Nat.lt_of_le_of_lt jand1 (by decide))]
                obtain ⟨q418, hq419, hs420⟩ := hG 4 (by omega)
                rw [hq419]
                obtain ⟨la421, f422, hc423, -, -⟩ := id hs420
                show sg_W X M 0 0 23 [some (.ref ca), some (.int (nI w)), some (.ref b), some (.int (nI 4))] [.ref q418]
                refine sg_aload_n (pc := 23) (v := .ref b) hC dX6_sourceToBlame_23 rfl rfl ?_
                refine sg_callV (pc := 24) (As := [.ref b]) (rest := []) (mc := 0) (ms := 0) hC tw_965 tw_966 tw_967 tw_70 tw_968 yd_X5_isGranted (by decide) (ci := 8) rfl dX6_sourceToBlame_24 hc423 rfl (Nat.le_of_ble_eq_true rfl) (by first | omega | decide | exact Nat.lt_of_le_of_lt jshr (by omega) | exact Nat.lt_of_le_of_lt jand1 (by decide)) (by first | omega | decide | exact Nat.lt_of_le_of_lt jshr (by omega) | exact Nat.lt_of_le_of_lt jand1 (by decide)) ?_
                refine c_granted htr hW (by omega) hs420 hB ?_
                show sg_W X M 0 0 27 [some (.ref ca), some (.int (nI w)), some (.ref b), some (.int (nI 4))] [.int (md_b ((isg (gl N 4) t)))]
                refine sg_ifB_ne (pc := 27) (b := (isg (gl N 4) t)) 32 hC dX6_sourceToBlame_27 (by decide) (fun h424 => ?_) (fun h424 => ?_)
                · refine sg_iincN (pc := 32) (a := 4) (b := 5) hC dX6_sourceToBlame_32 rfl (nI_1 _) (by decide) ?_
                  show sg_W X M 0 0 35 [some (.ref ca), some (.int (nI w)), some (.ref b), some (.int (nI 5))] []
                  refine sg_goto (pc := 35) 2 hC dX6_sourceToBlame_35 (by decide) ?_
                  refine sg_iload_n (pc := 2) (x := nI 5) hC dX6_sourceToBlame_2 rfl ?_
                  refine sg_bipush (pc := 3) (nI 6) hC dX6_sourceToBlame_3 (by decide) ?_
                  refine sg_icmpN_ge (pc := 5) (a := 5) (b := 6) 38 hC dX6_sourceToBlame_5 (by decide) (by decide) (by decide) (fun h425 => absurd h425 (by decide)) (fun _ => ?_)
                  refine sg_iload_n (pc := 8) (x := nI w) hC dX6_sourceToBlame_8 rfl ?_
                  refine sg_iload_n (pc := 9) (x := nI 5) hC dX6_sourceToBlame_9 rfl ?_
                  refine sg_ishrN (pc := 10) (a := w) (b := 5) hC dX6_sourceToBlame_10 (by first | omega | decide | exact Nat.lt_of_le_of_lt jshr (by omega) | exact Nat.lt_of_le_of_lt jand1 (by decide)) (by first | omega | decide | exact Nat.lt_of_le_of_lt jshr (by omega) | exact Nat.lt_of_le_of_lt jand1 (by decide)) ?_
                  refine sg_iconst (pc := 11) (nI 1) hC dX6_sourceToBlame_11 (by decide) ?_
                  refine sg_iandN (pc := 12) (a := w >>> 5) (b := 1) hC dX6_sourceToBlame_12 ?_
                  refine sg_iconst (pc := 13) (nI 1) hC dX6_sourceToBlame_13 (by decide) ?_
                  refine sg_icmpN_ne (pc := 14) (a := (w >>> 5) &&& 1) (b := 1) 32 hC dX6_sourceToBlame_14 (by decide) (by first | omega | decide | exact Nat.lt_of_le_of_lt jshr (by omega) | exact Nat.lt_of_le_of_lt jand1 (by decide)) (by first | omega | decide | exact Nat.lt_of_le_of_lt jshr (by omega) | exact Nat.lt_of_le_of_lt jand1 (by decide)) (fun h426 => ?_) (fun h426 => ?_)
                  · refine sg_iincN (pc := 32) (a := 5) (b := 6) hC dX6_sourceToBlame_32 rfl (nI_1 _) (by decide) ?_
                    show sg_W X M 0 0 35 [some (.ref ca), some (.int (nI w)), some (.ref b), some (.int (nI 6))] []
                    refine sg_goto (pc := 35) 2 hC dX6_sourceToBlame_35 (by decide) ?_
                    refine sg_iload_n (pc := 2) (x := nI 6) hC dX6_sourceToBlame_2 rfl ?_
                    refine sg_bipush (pc := 3) (nI 6) hC dX6_sourceToBlame_3 (by decide) ?_
                    refine sg_icmpN_ge (pc := 5) (a := 6) (b := 6) 38 hC dX6_sourceToBlame_5 (by decide) (by decide) (by decide) (fun _ => ?_) (fun h427 => absurd h427 (by decide))
                    refine sg_iconst (pc := 38) (((-1))) hC dX6_sourceToBlame_38 (by decide) ?_
                    have e9 : k_blm N w t = none := by rw [k_blm]; simp only [if_pos h2, if_pos h320, if_neg h322, if_pos h324, if_pos h402, if_neg h404, if_pos h406, if_pos h424, if_neg h426]
                    rw [e9] at hk
                    exact sg_ireturn (st := []) (v := md_o none) (pc := 39) hC hR dX6_sourceToBlame_39 hk
                  · refine sg_aload_n (pc := 17) (v := .ref ca) hC dX6_sourceToBlame_17 rfl rfl ?_
                    refine sg_get (pc := 18) (a := ca) (v := .ref so) 2 hC rfl inw_X6 (by decide) tw_195 dX6_sourceToBlame_18 hX rfl ?_
                    refine sg_iload_n (pc := 21) (x := nI 5) hC dX6_sourceToBlame_21 rfl ?_
                    refine sg_aald8 (pc := 22) (i := nI 5) hC dX6_sourceToBlame_22 hSo (vp_in_nI (by first | omega | decide | exact Nat.lt_of_le_of_lt jshr (by omega) | exact Nat.lt_of_le_of_lt jand1 (by decide)) (by first | omega | decide | exact Nat.lt_of_le_of_lt jshr (by omega) | exact Nat.lt_of_le_of_lt jand1 (by decide))) ?_
                    rw [nI_clamp (by first | omega | decide | exact Nat.lt_of_le_of_lt jshr (by omega) | exact Nat.lt_of_le_of_lt jand1 (by decide))]
                    obtain ⟨q428, hq429, hs430⟩ := hG 5 (by omega)
                    rw [hq429]
                    obtain ⟨la431, f432, hc433, -, -⟩ := id hs430
                    show sg_W X M 0 0 23 [some (.ref ca), some (.int (nI w)), some (.ref b), some (.int (nI 5))] [.ref q428]
                    refine sg_aload_n (pc := 23) (v := .ref b) hC dX6_sourceToBlame_23 rfl rfl ?_
                    refine sg_callV (pc := 24) (As := [.ref b]) (rest := []) (mc := 0) (ms := 0) hC tw_965 tw_966 tw_967 tw_70 tw_968 yd_X5_isGranted (by decide) (ci := 8) rfl dX6_sourceToBlame_24 hc433 rfl (Nat.le_of_ble_eq_true rfl) (by first | omega | decide | exact Nat.lt_of_le_of_lt jshr (by omega) | exact Nat.lt_of_le_of_lt jand1 (by decide)) (by first | omega | decide | exact Nat.lt_of_le_of_lt jshr (by omega) | exact Nat.lt_of_le_of_lt jand1 (by decide)) ?_
                    refine c_granted htr hW (by omega) hs430 hB ?_
                    show sg_W X M 0 0 27 [some (.ref ca), some (.int (nI w)), some (.ref b), some (.int (nI 5))] [.int (md_b ((isg (gl N 5) t)))]
                    refine sg_ifB_ne (pc := 27) (b := (isg (gl N 5) t)) 32 hC dX6_sourceToBlame_27 (by decide) (fun h434 => ?_) (fun h434 => ?_)
                    · refine sg_iincN (pc := 32) (a := 5) (b := 6) hC dX6_sourceToBlame_32 rfl (nI_1 _) (by decide) ?_
                      show sg_W X M 0 0 35 [some (.ref ca), some (.int (nI w)), some (.ref b), some (.int (nI 6))] []
                      refine sg_goto (pc := 35) 2 hC dX6_sourceToBlame_35 (by decide) ?_
                      refine sg_iload_n (pc := 2) (x := nI 6) hC dX6_sourceToBlame_2 rfl ?_
                      refine sg_bipush (pc := 3) (nI 6) hC dX6_sourceToBlame_3 (by decide) ?_
                      refine sg_icmpN_ge (pc := 5) (a := 6) (b := 6) 38 hC dX6_sourceToBlame_5 (by decide) (by decide) (by decide) (fun _ => ?_) (fun h435 => absurd h435 (by decide))
                      refine sg_iconst (pc := 38) (((-1))) hC dX6_sourceToBlame_38 (by decide) ?_
                      have e9 : k_blm N w t = none := by rw [k_blm]; simp only [if_pos h2, if_pos h320, if_neg h322, if_pos h324, if_pos h402, if_neg h404, if_pos h406, if_pos h424, if_pos h426, if_pos h434]
                      rw [e9] at hk
                      exact sg_ireturn (st := []) (v := md_o none) (pc := 39) hC hR dX6_sourceToBlame_39 hk
                    · refine sg_iload_n (pc := 30) (x := nI 5) hC dX6_sourceToBlame_30 rfl ?_
                      have e9 : k_blm N w t = some 5 := by rw [k_blm]; simp only [if_pos h2, if_pos h320, if_neg h322, if_pos h324, if_pos h402, if_neg h404, if_pos h406, if_pos h424, if_pos h426, if_neg (ts9 h434)]
                      rw [e9] at hk
                      exact sg_ireturn (st := []) (v := md_o (some 5)) (pc := 31) hC hR dX6_sourceToBlame_31 hk
                · refine sg_iload_n (pc := 30) (x := nI 4) hC dX6_sourceToBlame_30 rfl ?_
                  have e9 : k_blm N w t = some 4 := by rw [k_blm]; simp only [if_pos h2, if_pos h320, if_neg h322, if_pos h324, if_pos h402, if_neg h404, if_pos h406, if_neg (ts9 h424)]
                  rw [e9] at hk
                  exact sg_ireturn (st := []) (v := md_o (some 4)) (pc := 31) hC hR dX6_sourceToBlame_31 hk
            · refine sg_aload_n (pc := 17) (v := .ref ca) hC dX6_sourceToBlame_17 rfl rfl ?_
              refine sg_get (pc := 18) (a := ca) (v := .ref so) 2 hC rfl inw_X6 (by decide) tw_195 dX6_sourceToBlame_18 hX rfl ?_
              refine sg_iload_n (pc := 21) (x := nI 3) hC dX6_sourceToBlame_21 rfl ?_
              refine sg_aald8 (pc := 22) (i := nI 3) hC dX6_sourceToBlame_22 hSo (vp_in_nI (by first | omega | decide | exact Nat.lt_of_le_of_lt jshr (by omega) | exact Nat.lt_of_le_of_lt jand1 (by decide)) (by first | omega | decide | exact Nat.lt_of_le_of_lt jshr (by omega) | exact Nat.lt_of_le_of_lt jand1 (by decide))) ?_
              rw [nI_clamp (by first | omega | decide | exact Nat.lt_of_le_of_lt jshr (by omega) | exact Nat.lt_of_le_of_lt jand1 (by decide))]
              obtain ⟨q436, hq437, hs438⟩ := hG 3 (by omega)
              rw [hq437]
              obtain ⟨la439, f440, hc441, -, -⟩ := id hs438
              show sg_W X M 0 0 23 [some (.ref ca), some (.int (nI w)), some (.ref b), some (.int (nI 3))] [.ref q436]
              refine sg_aload_n (pc := 23) (v := .ref b) hC dX6_sourceToBlame_23 rfl rfl ?_
              refine sg_callV (pc := 24) (As := [.ref b]) (rest := []) (mc := 0) (ms := 0) hC tw_965 tw_966 tw_967 tw_70 tw_968 yd_X5_isGranted (by decide) (ci := 8) rfl dX6_sourceToBlame_24 hc441 rfl (Nat.le_of_ble_eq_true rfl) (by first | omega | decide | exact Nat.lt_of_le_of_lt jshr (by omega) | exact Nat.lt_of_le_of_lt jand1 (by decide)) (by first | omega | decide | exact Nat.lt_of_le_of_lt jshr (by omega) | exact Nat.lt_of_le_of_lt jand1 (by decide)) ?_
              refine c_granted htr hW (by omega) hs438 hB ?_
              show sg_W X M 0 0 27 [some (.ref ca), some (.int (nI w)), some (.ref b), some (.int (nI 3))] [.int (md_b ((isg (gl N 3) t)))]
              refine sg_ifB_ne (pc := 27) (b := (isg (gl N 3) t)) 32 hC dX6_sourceToBlame_27 (by decide) (fun h442 => ?_) (fun h442 => ?_)
              · refine sg_iincN (pc := 32) (a := 3) (b := 4) hC dX6_sourceToBlame_32 rfl (nI_1 _) (by decide) ?_
                show sg_W X M 0 0 35 [some (.ref ca), some (.int (nI w)), some (.ref b), some (.int (nI 4))] []
                refine sg_goto (pc := 35) 2 hC dX6_sourceToBlame_35 (by decide) ?_
                refine sg_iload_n (pc := 2) (x := nI 4) hC dX6_sourceToBlame_2 rfl ?_
                refine sg_bipush (pc := 3) (nI 6) hC dX6_sourceToBlame_3 (by decide) ?_
                refine sg_icmpN_ge (pc := 5) (a := 4) (b := 6) 38 hC dX6_sourceToBlame_5 (by decide) (by decide) (by decide) (fun h443 => absurd h443 (by decide)) (fun _ => ?_)
                refine sg_iload_n (pc := 8) (x := nI w) hC dX6_sourceToBlame_8 rfl ?_
                refine sg_iload_n (pc := 9) (x := nI 4) hC dX6_sourceToBlame_9 rfl ?_
                refine sg_ishrN (pc := 10) (a := w) (b := 4) hC dX6_sourceToBlame_10 (by first | omega | decide | exact Nat.lt_of_le_of_lt jshr (by omega) | exact Nat.lt_of_le_of_lt jand1 (by decide)) (by first | omega | decide | exact Nat.lt_of_le_of_lt jshr (by omega) | exact Nat.lt_of_le_of_lt jand1 (by decide)) ?_
                refine sg_iconst (pc := 11) (nI 1) hC dX6_sourceToBlame_11 (by decide) ?_
                refine sg_iandN (pc := 12) (a := w >>> 4) (b := 1) hC dX6_sourceToBlame_12 ?_
                refine sg_iconst (pc := 13) (nI 1) hC dX6_sourceToBlame_13 (by decide) ?_
                refine sg_icmpN_ne (pc := 14) (a := (w >>> 4) &&& 1) (b := 1) 32 hC dX6_sourceToBlame_14 (by decide) (by first | omega | decide | exact Nat.lt_of_le_of_lt jshr (by omega) | exact Nat.lt_of_le_of_lt jand1 (by decide)) (by first | omega | decide | exact Nat.lt_of_le_of_lt jshr (by omega) | exact Nat.lt_of_le_of_lt jand1 (by decide)) (fun h444 => ?_) (fun h444 => ?_)
                · refine sg_iincN (pc := 32) (a := 4) (b := 5) hC dX6_sourceToBlame_32 rfl (nI_1 _) (by decide) ?_
                  show sg_W X M 0 0 35 [some (.ref ca), some (.int (nI w)), some (.ref b), some (.int (nI 5))] []
                  refine sg_goto (pc := 35) 2 hC dX6_sourceToBlame_35 (by decide) ?_
                  refine sg_iload_n (pc := 2) (x := nI 5) hC dX6_sourceToBlame_2 rfl ?_
                  refine sg_bipush (pc := 3) (nI 6) hC dX6_sourceToBlame_3 (by decide) ?_
                  refine sg_icmpN_ge (pc := 5) (a := 5) (b := 6) 38 hC dX6_sourceToBlame_5 (by decide) (by decide) (by decide) (fun h445 => absurd h445 (by decide)) (fun _ => ?_)
                  refine sg_iload_n (pc := 8) (x := nI w) hC dX6_sourceToBlame_8 rfl ?_
                  refine sg_iload_n (pc := 9) (x := nI 5) hC dX6_sourceToBlame_9 rfl ?_
                  refine sg_ishrN (pc := 10) (a := w) (b := 5) hC dX6_sourceToBlame_10 (by first | omega | decide | exact Nat.lt_of_le_of_lt jshr (by omega) | exact Nat.lt_of_le_of_lt jand1 (by decide)) (by first | omega | decide | exact Nat.lt_of_le_of_lt jshr (by omega) | exact Nat.lt_of_le_of_lt jand1 (by decide)) ?_
                  refine sg_iconst (pc := 11) (nI 1) hC dX6_sourceToBlame_11 (by decide) ?_
                  refine sg_iandN (pc := 12) (a := w >>> 5) (b := 1) hC dX6_sourceToBlame_12 ?_
                  refine sg_iconst (pc := 13) (nI 1) hC dX6_sourceToBlame_13 (by decide) ?_
                  refine sg_icmpN_ne (pc := 14) (a := (w >>> 5) &&& 1) (b := 1) 32 hC dX6_sourceToBlame_14 (by decide) (by first | omega | decide | exact Nat.lt_of_le_of_lt jshr (by omega) | exact Nat.lt_of_le_of_lt jand1 (by decide)) (by first | omega | decide | exact Nat.lt_of_le_of_lt jshr (by omega) | exact Nat.lt_of_le_of_lt jand1 (by decide)) (fun h446 => ?_) (fun h446 => ?_)
                  · refine sg_iincN (pc := 32) (a := 5) (b := 6) hC dX6_sourceToBlame_32 rfl (nI_1 _) (by decide) ?_
                    show sg_W X M 0 0 35 [some (.ref ca), some (.int (nI w)), some (.ref b), some (.int (nI 6))] []
                    refine sg_goto (pc := 35) 2 hC dX6_sourceToBlame_35 (by decide) ?_
                    refine sg_iload_n (pc := 2) (x := nI 6) hC dX6_sourceToBlame_2 rfl ?_
                    refine sg_bipush (pc := 3) (nI 6) hC dX6_sourceToBlame_3 (by decide) ?_
                    refine sg_icmpN_ge (pc := 5) (a := 6) (b := 6) 38 hC dX6_sourceToBlame_5 (by decide) (by decide) (by decide) (fun _ => ?_) (fun h447 => absurd h447 (by decide))
                    refine sg_iconst (pc := 38) (((-1))) hC dX6_sourceToBlame_38 (by decide) ?_
                    have e9 : k_blm N w t = none := by rw [k_blm]; simp only [if_pos h2, if_pos h320, if_neg h322, if_pos h324, if_pos h402, if_pos h404, if_pos h442, if_neg h444, if_neg h446]
                    rw [e9] at hk
                    exact sg_ireturn (st := []) (v := md_o none) (pc := 39) hC hR dX6_sourceToBlame_39 hk
                  · refine sg_aload_n (pc := 17) (v := .ref ca) hC dX6_sourceToBlame_17 rfl rfl ?_
                    refine sg_get (pc := 18) (a := ca) (v := .ref so) 2 hC rfl inw_X6 (by decide) tw_195 dX6_sourceToBlame_18 hX rfl ?_
                    refine sg_iload_n (pc := 21) (x := nI 5) hC dX6_sourceToBlame_21 rfl ?_
                    refine sg_aald8 (pc := 22) (i := nI 5) hC dX6_sourceToBlame_22 hSo (vp_in_nI (by first | omega | decide | exact Nat.lt_of_le_of_lt jshr (by omega) | exact Nat.lt_of_le_of_lt jand1 (by decide)) (by first | omega | decide | exact Nat.lt_of_le_of_lt jshr (by omega) | exact Nat.lt_of_le_of_lt jand1 (by decide))) ?_
                    rw [nI_clamp (by first | omega | decide | exact Nat.lt_of_le_of_lt jshr (by omega) | exact Nat.lt_of_le_of_lt jand1 (by decide))]
                    obtain ⟨q448, hq449, hs450⟩ := hG 5 (by omega)
                    rw [hq449]
                    obtain ⟨la451, f452, hc453, -, -⟩ := id hs450
                    show sg_W X M 0 0 23 [some (.ref ca), some (.int (nI w)), some (.ref b), some (.int (nI 5))] [.ref q448]
                    refine sg_aload_n (pc := 23) (v := .ref b) hC dX6_sourceToBlame_23 rfl rfl ?_
                    refine sg_callV (pc := 24) (As := [.ref b]) (rest := []) (mc := 0) (ms := 0) hC tw_965 tw_966 tw_967 tw_70 tw_968 yd_X5_isGranted (by decide) (ci := 8) rfl dX6_sourceToBlame_24 hc453 rfl (Nat.le_of_ble_eq_true rfl) (by first | omega | decide | exact Nat.lt_of_le_of_lt jshr (by omega) | exact Nat.lt_of_le_of_lt jand1 (by decide)) (by first | omega | decide | exact Nat.lt_of_le_of_lt jshr (by omega) | exact Nat.lt_of_le_of_lt jand1 (by decide)) ?_
                    refine c_granted htr hW (by omega) hs450 hB ?_
                    show sg_W X M 0 0 27 [some (.ref ca), some (.int (nI w)), some (.ref b), some (.int (nI 5))] [.int (md_b ((isg (gl N 5) t)))]
                    refine sg_ifB_ne (pc := 27) (b := (isg (gl N 5) t)) 32 hC dX6_sourceToBlame_27 (by decide) (fun h454 => ?_) (fun h454 => ?_)
                    · refine sg_iincN (pc := 32) (a := 5) (b := 6) hC dX6_sourceToBlame_32 rfl (nI_1 _) (by decide) ?_
                      show sg_W X M 0 0 35 [some (.ref ca), some (.int (nI w)), some (.ref b), some (.int (nI 6))] []
                      refine sg_goto (pc := 35) 2 hC dX6_sourceToBlame_35 (by decide) ?_
                      refine sg_iload_n (pc := 2) (x := nI 6) hC dX6_sourceToBlame_2 rfl ?_
                      refine sg_bipush (pc := 3) (nI 6) hC dX6_sourceToBlame_3 (by decide) ?_
                      refine sg_icmpN_ge (pc := 5) (a := 6) (b := 6) 38 hC dX6_sourceToBlame_5 (by decide) (by decide) (by decide) (fun _ => ?_) (fun h455 => absurd h455 (by decide))
                      refine sg_iconst (pc := 38) (((-1))) hC dX6_sourceToBlame_38 (by decide) ?_
                      have e9 : k_blm N w t = none := by rw [k_blm]; simp only [if_pos h2, if_pos h320, if_neg h322, if_pos h324, if_pos h402, if_pos h404, if_pos h442, if_neg h444, if_pos h446, if_pos h454]
                      rw [e9] at hk
                      exact sg_ireturn (st := []) (v := md_o none) (pc := 39) hC hR dX6_sourceToBlame_39 hk
                    · refine sg_iload_n (pc := 30) (x := nI 5) hC dX6_sourceToBlame_30 rfl ?_
                      have e9 : k_blm N w t = some 5 := by rw [k_blm]; simp only [if_pos h2, if_pos h320, if_neg h322, if_pos h324, if_pos h402, if_pos h404, if_pos h442, if_neg h444, if_pos h446, if_neg (ts9 h454)]
                      rw [e9] at hk
                      exact sg_ireturn (st := []) (v := md_o (some 5)) (pc := 31) hC hR dX6_sourceToBlame_31 hk
                · refine sg_aload_n (pc := 17) (v := .ref ca) hC dX6_sourceToBlame_17 rfl rfl ?_
                  refine sg_get (pc := 18) (a := ca) (v := .ref so) 2 hC rfl inw_X6 (by decide) tw_195 dX6_sourceToBlame_18 hX rfl ?_
                  refine sg_iload_n (pc := 21) (x := nI 4) hC dX6_sourceToBlame_21 rfl ?_
                  refine sg_aald8 (pc := 22) (i := nI 4) hC dX6_sourceToBlame_22 hSo (vp_in_nI (by first | omega | decide | exact Nat.lt_of_le_of_lt jshr (by omega) | exact Nat.lt_of_le_of_lt jand1 (by decide)) (by first | omega | decide | exact Nat.lt_of_le_of_lt jshr (by omega) | exact Nat.lt_of_le_of_lt jand1 (by decide))) ?_
                  rw [nI_clamp (by first | omega | decide | exact Nat.lt_of_le_of_lt jshr (by omega) | exact Nat.lt_of_le_of_lt jand1 (by decide))]
                  obtain ⟨q456, hq457, hs458⟩ := hG 4 (by omega)
                  rw [hq457]
                  obtain ⟨la459, f460, hc461, -, -⟩ := id hs458
                  show sg_W X M 0 0 23 [some (.ref ca), some (.int (nI w)), some (.ref b), some (.int (nI 4))] [.ref q456]
                  refine sg_aload_n (pc := 23) (v := .ref b) hC dX6_sourceToBlame_23 rfl rfl ?_
                  refine sg_callV (pc := 24) (As := [.ref b]) (rest := []) (mc := 0) (ms := 0) hC tw_965 tw_966 tw_967 tw_70 tw_968 yd_X5_isGranted (by decide) (ci := 8) rfl dX6_sourceToBlame_24 hc461 rfl (Nat.le_of_ble_eq_true rfl) (by first | omega | decide | exact Nat.lt_of_le_of_lt jshr (by omega) | exact Nat.lt_of_le_of_lt jand1 (by decide)) (by first | omega | decide | exact Nat.lt_of_le_of_lt jshr (by omega) | exact Nat.lt_of_le_of_lt jand1 (by decide)) ?_
                  refine c_granted htr hW (by omega) hs458 hB ?_
                  show sg_W X M 0 0 27 [some (.ref ca), some (.int (nI w)), some (.ref b), some (.int (nI 4))] [.int (md_b ((isg (gl N 4) t)))]
                  refine sg_ifB_ne (pc := 27) (b := (isg (gl N 4) t)) 32 hC dX6_sourceToBlame_27 (by decide) (fun h462 => ?_) (fun h462 => ?_)
                  · refine sg_iincN (pc := 32) (a := 4) (b := 5) hC dX6_sourceToBlame_32 rfl (nI_1 _) (by decide) ?_
                    show sg_W X M 0 0 35 [some (.ref ca), some (.int (nI w)), some (.ref b), some (.int (nI 5))] []
                    refine sg_goto (pc := 35) 2 hC dX6_sourceToBlame_35 (by decide) ?_
                    refine sg_iload_n (pc := 2) (x := nI 5) hC dX6_sourceToBlame_2 rfl ?_
                    refine sg_bipush (pc := 3) (nI 6) hC dX6_sourceToBlame_3 (by decide) ?_
                    refine sg_icmpN_ge (pc := 5) (a := 5) (b := 6) 38 hC dX6_sourceToBlame_5 (by decide) (by decide) (by decide) (fun h463 => absurd h463 (by decide)) (fun _ => ?_)
                    refine sg_iload_n (pc := 8) (x := nI w) hC dX6_sourceToBlame_8 rfl ?_
                    refine sg_iload_n (pc := 9) (x := nI 5) hC dX6_sourceToBlame_9 rfl ?_
                    refine sg_ishrN (pc := 10) (a := w) (b := 5) hC dX6_sourceToBlame_10 (by first | omega | decide | exact Nat.lt_of_le_of_lt jshr (by omega) | exact Nat.lt_of_le_of_lt jand1 (by decide)) (by first | omega | decide | exact Nat.lt_of_le_of_lt jshr (by omega) | exact Nat.lt_of_le_of_lt jand1 (by decide)) ?_
                    refine sg_iconst (pc := 11) (nI 1) hC dX6_sourceToBlame_11 (by decide) ?_
                    refine sg_iandN (pc := 12) (a := w >>> 5) (b := 1) hC dX6_sourceToBlame_12 ?_
                    refine sg_iconst (pc := 13) (nI 1) hC dX6_sourceToBlame_13 (by decide) ?_
                    refine sg_icmpN_ne (pc := 14) (a := (w >>> 5) &&& 1) (b := 1) 32 hC dX6_sourceToBlame_14 (by decide) (by first | omega | decide | exact Nat.lt_of_le_of_lt jshr (by omega) | exact Nat.lt_of_le_of_lt jand1 (by decide)) (by first | omega | decide | exact Nat.lt_of_le_of_lt jshr (by omega) | exact Nat.lt_of_le_of_lt jand1 (by decide)) (fun h464 => ?_) (fun h464 => ?_)
                    · refine sg_iincN (pc := 32) (a := 5) (b := 6) hC dX6_sourceToBlame_32 rfl (nI_1 _) (by decide) ?_
                      show sg_W X M 0 0 35 [some (.ref ca), some (.int (nI w)), some (.ref b), some (.int (nI 6))] []
                      refine sg_goto (pc := 35) 2 hC dX6_sourceToBlame_35 (by decide) ?_
                      refine sg_iload_n (pc := 2) (x := nI 6) hC dX6_sourceToBlame_2 rfl ?_
                      refine sg_bipush (pc := 3) (nI 6) hC dX6_sourceToBlame_3 (by decide) ?_
                      refine sg_icmpN_ge (pc := 5) (a := 6) (b := 6) 38 hC dX6_sourceToBlame_5 (by decide) (by decide) (by decide) (fun _ => ?_) (fun h465 => absurd h465 (by decide))
                      refine sg_iconst (pc := 38) (((-1))) hC dX6_sourceToBlame_38 (by decide) ?_
                      have e9 : k_blm N w t = none := by rw [k_blm]; simp only [if_pos h2, if_pos h320, if_neg h322, if_pos h324, if_pos h402, if_pos h404, if_pos h442, if_pos h444, if_pos h462, if_neg h464]
                      rw [e9] at hk
                      exact sg_ireturn (st := []) (v := md_o none) (pc := 39) hC hR dX6_sourceToBlame_39 hk
                    · refine sg_aload_n (pc := 17) (v := .ref ca) hC dX6_sourceToBlame_17 rfl rfl ?_
                      refine sg_get (pc := 18) (a := ca) (v := .ref so) 2 hC rfl inw_X6 (by decide) tw_195 dX6_sourceToBlame_18 hX rfl ?_
                      refine sg_iload_n (pc := 21) (x := nI 5) hC dX6_sourceToBlame_21 rfl ?_
                      refine sg_aald8 (pc := 22) (i := nI 5) hC dX6_sourceToBlame_22 hSo (vp_in_nI (by first | omega | decide | exact Nat.lt_of_le_of_lt jshr (by omega) | exact Nat.lt_of_le_of_lt jand1 (by decide)) (by first | omega | decide | exact Nat.lt_of_le_of_lt jshr (by omega) | exact Nat.lt_of_le_of_lt jand1 (by decide))) ?_
                      rw [nI_clamp (by first | omega | decide | exact Nat.lt_of_le_of_lt jshr (by omega) | exact Nat.lt_of_le_of_lt jand1 (by decide))]
                      obtain ⟨q466, hq467, hs468⟩ := hG 5 (by omega)
                      rw [hq467]
                      obtain ⟨la469, f470, hc471, -, -⟩ := id hs468
                      show sg_W X M 0 0 23 [some (.ref ca), some (.int (nI w)), some (.ref b), some (.int (nI 5))] [.ref q466]
                      refine sg_aload_n (pc := 23) (v := .ref b) hC dX6_sourceToBlame_23 rfl rfl ?_
                      refine sg_callV (pc := 24) (As := [.ref b]) (rest := []) (mc := 0) (ms := 0) hC tw_965 tw_966 tw_967 tw_70 tw_968 yd_X5_isGranted (by decide) (ci := 8) rfl dX6_sourceToBlame_24 hc471 rfl (Nat.le_of_ble_eq_true rfl) (by first | omega | decide | exact Nat.lt_of_le_of_lt jshr (by omega) | exact Nat.lt_of_le_of_lt jand1 (by decide)) (by first | omega | decide | exact Nat.lt_of_le_of_lt jshr (by omega) | exact Nat.lt_of_le_of_lt jand1 (by decide)) ?_
                      refine c_granted htr hW (by omega) hs468 hB ?_
                      show sg_W X M 0 0 27 [some (.ref ca), some (.int (nI w)), some (.ref b), some (.int (nI 5))] [.int (md_b ((isg (gl N 5) t)))]
                      refine sg_ifB_ne (pc := 27) (b := (isg (gl N 5) t)) 32 hC dX6_sourceToBlame_27 (by decide) (fun h472 => ?_) (fun h472 => ?_)
                      · refine sg_iincN (pc := 32) (a := 5) (b := 6) hC dX6_sourceToBlame_32 rfl (nI_1 _) (by decide) ?_
                        show sg_W X M 0 0 35 [some (.ref ca), some (.int (nI w)), some (.ref b), some (.int (nI 6))] []
                        refine sg_goto (pc := 35) 2 hC dX6_sourceToBlame_35 (by decide) ?_
                        refine sg_iload_n (pc := 2) (x := nI 6) hC dX6_sourceToBlame_2 rfl ?_
                        refine sg_bipush (pc := 3) (nI 6) hC dX6_sourceToBlame_3 (by decide) ?_
                        refine sg_icmpN_ge (pc := 5) (a := 6) (b := 6) 38 hC dX6_sourceToBlame_5 (by decide) (by decide) (by decide) (fun _ => ?_) (fun h473 => absurd h473 (by decide))
                        refine sg_iconst (pc := 38) (((-1))) hC dX6_sourceToBlame_38 (by decide) ?_
                        have e9 : k_blm N w t = none := by rw [k_blm]; simp only [if_pos h2, if_pos h320, if_neg h322, if_pos h324, if_pos h402, if_pos h404, if_pos h442, if_pos h444, if_pos h462, if_pos h464, if_pos h472]
                        rw [e9] at hk
                        exact sg_ireturn (st := []) (v := md_o none) (pc := 39) hC hR dX6_sourceToBlame_39 hk
                      · refine sg_iload_n (pc := 30) (x := nI 5) hC dX6_sourceToBlame_30 rfl ?_
                        have e9 : k_blm N w t = some 5 := by rw [k_blm]; simp only [if_pos h2, if_pos h320, if_neg h322, if_pos h324, if_pos h402, if_pos h404, if_pos h442, if_pos h444, if_pos h462, if_pos h464, if_neg (ts9 h472)]
                        rw [e9] at hk
                        exact sg_ireturn (st := []) (v := md_o (some 5)) (pc := 31) hC hR dX6_sourceToBlame_31 hk
                  · refine sg_iload_n (pc := 30) (x := nI 4) hC dX6_sourceToBlame_30 rfl ?_
                    have e9 : k_blm N w t = some 4 := by rw [k_blm]; simp only [if_pos h2, if_pos h320, if_neg h322, if_pos h324, if_pos h402, if_pos h404, if_pos h442, if_pos h444, if_neg (ts9 h462)]
                    rw [e9] at hk
                    exact sg_ireturn (st := []) (v := md_o (some 4)) (pc := 31) hC hR dX6_sourceToBlame_31 hk
              · refine sg_iload_n (pc := 30) (x := nI 3) hC dX6_sourceToBlame_30 rfl ?_
                have e9 : k_blm N w t = some 3 := by rw [k_blm]; simp only [if_pos h2, if_pos h320, if_neg h322, if_pos h324, if_pos h402, if_pos h404, if_neg (ts9 h442)]
                rw [e9] at hk
                exact sg_ireturn (st := []) (v := md_o (some 3)) (pc := 31) hC hR dX6_sourceToBlame_31 hk
          · refine sg_iload_n (pc := 30) (x := nI 2) hC dX6_sourceToBlame_30 rfl ?_
            have e9 : k_blm N w t = some 2 := by rw [k_blm]; simp only [if_pos h2, if_pos h320, if_neg h322, if_pos h324, if_neg (ts9 h402)]
            rw [e9] at hk
            exact sg_ireturn (st := []) (v := md_o (some 2)) (pc := 31) hC hR dX6_sourceToBlame_31 hk
      · refine sg_aload_n (pc := 17) (v := .ref ca) hC dX6_sourceToBlame_17 rfl rfl ?_
        refine sg_get (pc := 18) (a := ca) (v := .ref so) 2 hC rfl inw_X6 (by decide) tw_195 dX6_sourceToBlame_18 hX rfl ?_
        refine sg_iload_n (pc := 21) (x := nI 1) hC dX6_sourceToBlame_21 rfl ?_
        refine sg_aald8 (pc := 22) (i := nI 1) hC dX6_sourceToBlame_22 hSo (vp_in_nI (by first | omega | decide | exact Nat.lt_of_le_of_lt jshr (by omega) | exact Nat.lt_of_le_of_lt jand1 (by decide)) (by first | omega | decide | exact Nat.lt_of_le_of_lt jshr (by omega) | exact Nat.lt_of_le_of_lt jand1 (by decide))) ?_
        rw [nI_clamp (by first | omega | decide | exact Nat.lt_of_le_of_lt jshr (by omega) | exact Nat.lt_of_le_of_lt jand1 (by decide))]
        obtain ⟨q474, hq475, hs476⟩ := hG 1 (by omega)
        rw [hq475]
        obtain ⟨la477, f478, hc479, -, -⟩ := id hs476
        show sg_W X M 0 0 23 [some (.ref ca), some (.int (nI w)), some (.ref b), some (.int (nI 1))] [.ref q474]
        refine sg_aload_n (pc := 23) (v := .ref b) hC dX6_sourceToBlame_23 rfl rfl ?_
        refine sg_callV (pc := 24) (As := [.ref b]) (rest := []) (mc := 0) (ms := 0) hC tw_965 tw_966 tw_967 tw_70 tw_968 yd_X5_isGranted (by decide) (ci := 8) rfl dX6_sourceToBlame_24 hc479 rfl (Nat.le_of_ble_eq_true rfl) (by first | omega | decide | exact Nat.lt_of_le_of_lt jshr (by omega) | exact Nat.lt_of_le_of_lt jand1 (by decide)) (by first | omega | decide | exact Nat.lt_of_le_of_lt jshr (by omega) | exact Nat.lt_of_le_of_lt jand1 (by decide)) ?_
        refine c_granted htr hW (by omega) hs476 hB ?_
        show sg_W X M 0 0 27 [some (.ref ca), some (.int (nI w)), some (.ref b), some (.int (nI 1))] [.int (md_b ((isg (gl N 1) t)))]
        refine sg_ifB_ne (pc := 27) (b := (isg (gl N 1) t)) 32 hC dX6_sourceToBlame_27 (by decide) (fun h480 => ?_) (fun h480 => ?_)
        · refine sg_iincN (pc := 32) (a := 1) (b := 2) hC dX6_sourceToBlame_32 rfl (nI_1 _) (by decide) ?_
          show sg_W X M 0 0 35 [some (.ref ca), some (.int (nI w)), some (.ref b), some (.int (nI 2))] []
          refine sg_goto (pc := 35) 2 hC dX6_sourceToBlame_35 (by decide) ?_
          refine sg_iload_n (pc := 2) (x := nI 2) hC dX6_sourceToBlame_2 rfl ?_
          refine sg_bipush (pc := 3) (nI 6) hC dX6_sourceToBlame_3 (by decide) ?_
          refine sg_icmpN_ge (pc := 5) (a := 2) (b := 6) 38 hC dX6_sourceToBlame_5 (by decide) (by decide) (by decide) (fun h481 => absurd h481 (by decide)) (fun _ => ?_)
          refine sg_iload_n (pc := 8) (x := nI w) hC dX6_sourceToBlame_8 rfl ?_
          refine sg_iload_n (pc := 9) (x := nI 2) hC dX6_sourceToBlame_9 rfl ?_
          refine sg_ishrN (pc := 10) (a := w) (b := 2) hC dX6_sourceToBlame_10 (by first | omega | decide | exact Nat.lt_of_le_of_lt jshr (by omega) | exact Nat.lt_of_le_of_lt jand1 (by decide)) (by first | omega | decide | exact Nat.lt_of_le_of_lt jshr (by omega) | exact Nat.lt_of_le_of_lt jand1 (by decide)) ?_
          refine sg_iconst (pc := 11) (nI 1) hC dX6_sourceToBlame_11 (by decide) ?_
          refine sg_iandN (pc := 12) (a := w >>> 2) (b := 1) hC dX6_sourceToBlame_12 ?_
          refine sg_iconst (pc := 13) (nI 1) hC dX6_sourceToBlame_13 (by decide) ?_
          refine sg_icmpN_ne (pc := 14) (a := (w >>> 2) &&& 1) (b := 1) 32 hC dX6_sourceToBlame_14 (by decide) (by first | omega | decide | exact Nat.lt_of_le_of_lt jshr (by omega) | exact Nat.lt_of_le_of_lt jand1 (by decide)) (by first | omega | decide | exact Nat.lt_of_le_of_lt jshr (by omega) | exact Nat.lt_of_le_of_lt jand1 (by decide)) (fun h482 => ?_) (fun h482 => ?_)
          · refine sg_iincN (pc := 32) (a := 2) (b := 3) hC dX6_sourceToBlame_32 rfl (nI_1 _) (by decide) ?_
            show sg_W X M 0 0 35 [some (.ref ca), some (.int (nI w)), some (.ref b), some (.int (nI 3))] []
            refine sg_goto (pc := 35) 2 hC dX6_sourceToBlame_35 (by decide) ?_
            refine sg_iload_n (pc := 2) (x := nI 3) hC dX6_sourceToBlame_2 rfl ?_
            refine sg_bipush (pc := 3) (nI 6) hC dX6_sourceToBlame_3 (by decide) ?_
            refine sg_icmpN_ge (pc := 5) (a := 3) (b := 6) 38 hC dX6_sourceToBlame_5 (by decide) (by decide) (by decide) (fun h483 => absurd h483 (by decide)) (fun _ => ?_)
            refine sg_iload_n (pc := 8) (x := nI w) hC dX6_sourceToBlame_8 rfl ?_
            refine sg_iload_n (pc := 9) (x := nI 3) hC dX6_sourceToBlame_9 rfl ?_
            refine sg_ishrN (pc := 10) (a := w) (b := 3) hC dX6_sourceToBlame_10 (by first | omega | decide | exact Nat.lt_of_le_of_lt jshr (by omega) | exact Nat.lt_of_le_of_lt jand1 (by decide)) (by first | omega | decide | exact Nat.lt_of_le_of_lt jshr (by omega) | exact Nat.lt_of_le_of_lt jand1 (by decide)) ?_
            refine sg_iconst (pc := 11) (nI 1) hC dX6_sourceToBlame_11 (by decide) ?_
            refine sg_iandN (pc := 12) (a := w >>> 3) (b := 1) hC dX6_sourceToBlame_12 ?_
            refine sg_iconst (pc := 13) (nI 1) hC dX6_sourceToBlame_13 (by decide) ?_
            refine sg_icmpN_ne (pc := 14) (a := (w >>> 3) &&& 1) (b := 1) 32 hC dX6_sourceToBlame_14 (by decide) (by first | omega | decide | exact Nat.lt_of_le_of_lt jshr (by omega) | exact Nat.lt_of_le_of_lt jand1 (by decide)) (by first | omega | decide | exact Nat.lt_of_le_of_lt jshr (by omega) | exact Nat.lt_of_le_of_lt jand1 (by decide)) (fun h484 => ?_) (fun h484 => ?_)
            · refine sg_iincN (pc := 32) (a := 3) (b := 4) hC dX6_sourceToBlame_32 rfl (nI_1 _) (by decide) ?_
              show sg_W X M 0 0 35 [some (.ref ca), some (.int (nI w)), some (.ref b), some (.int (nI 4))] []
              refine sg_goto (pc := 35) 2 hC dX6_sourceToBlame_35 (by decide) ?_
              refine sg_iload_n (pc := 2) (x := nI 4) hC dX6_sourceToBlame_2 rfl ?_
              refine sg_bipush (pc := 3) (nI 6) hC dX6_sourceToBlame_3 (by decide) ?_
              refine sg_icmpN_ge (pc := 5) (a := 4) (b := 6) 38 hC dX6_sourceToBlame_5 (by decide) (by decide) (by decide) (fun h485 => absurd h485 (by decide)) (fun _ => ?_)
              refine sg_iload_n (pc := 8) (x := nI w) hC dX6_sourceToBlame_8 rfl ?_
              refine sg_iload_n (pc := 9) (x := nI 4) hC dX6_sourceToBlame_9 rfl ?_
              refine sg_ishrN (pc := 10) (a := w) (b := 4) hC dX6_sourceToBlame_10 (by first | omega | decide | exact Nat.lt_of_le_of_lt jshr (by omega) | exact Nat.lt_of_le_of_lt jand1 (by decide)) (by first | omega | decide | exact Nat.lt_of_le_of_lt jshr (by omega) | exact Nat.lt_of_le_of_lt jand1 (by decide)) ?_
              refine sg_iconst (pc := 11) (nI 1) hC dX6_sourceToBlame_11 (by decide) ?_
              refine sg_iandN (pc := 12) (a := w >>> 4) (b := 1) hC dX6_sourceToBlame_12 ?_
              refine sg_iconst (pc := 13) (nI 1) hC dX6_sourceToBlame_13 (by decide) ?_
              refine sg_icmpN_ne (pc := 14) (a := (w >>> 4) &&& 1) (b := 1) 32 hC dX6_sourceToBlame_14 (by decide) (by first | omega | decide | exact Nat.lt_of_le_of_lt jshr (by omega) | exact Nat.lt_of_le_of_lt jand1 (by decide)) (by first | omega | decide | exact Nat.lt_of_le_of_lt jshr (by omega) | exact Nat.lt_of_le_of_lt jand1 (by decide)) (fun h486 => ?_) (fun h486 => ?_)
              · refine sg_iincN (pc := 32) (a := 4) (b := 5) hC dX6_sourceToBlame_32 rfl (nI_1 _) (by decide) ?_
                show sg_W X M 0 0 35 [some (.ref ca), some (.int (nI w)), some (.ref b), some (.int (nI 5))] []
                refine sg_goto (pc := 35) 2 hC dX6_sourceToBlame_35 (by decide) ?_
                refine sg_iload_n (pc := 2) (x := nI 5) hC dX6_sourceToBlame_2 rfl ?_
                refine sg_bipush (pc := 3) (nI 6) hC dX6_sourceToBlame_3 (by decide) ?_
                refine sg_icmpN_ge (pc := 5) (a := 5) (b := 6) 38 hC dX6_sourceToBlame_5 (by decide) (by decide) (by decide) (fun h487 => absurd h487 (by decide)) (fun _ => ?_)
                refine sg_iload_n (pc := 8) (x := nI w) hC dX6_sourceToBlame_8 rfl ?_
                refine sg_iload_n (pc := 9) (x := nI 5) hC dX6_sourceToBlame_9 rfl ?_
                refine sg_ishrN (pc := 10) (a := w) (b := 5) hC dX6_sourceToBlame_10 (by first | omega | decide | exact Nat.lt_of_le_of_lt jshr (by omega) | exact Nat.lt_of_le_of_lt jand1 (by decide)) (by first | omega | decide | exact Nat.lt_of_le_of_lt jshr (by omega) | exact Nat.lt_of_le_of_lt jand1 (by decide)) ?_
                refine sg_iconst (pc := 11) (nI 1) hC dX6_sourceToBlame_11 (by decide) ?_
                refine sg_iandN (pc := 12) (a := w >>> 5) (b := 1) hC dX6_sourceToBlame_12 ?_
                refine sg_iconst (pc := 13) (nI 1) hC dX6_sourceToBlame_13 (by decide) ?_
                refine sg_icmpN_ne (pc := 14) (a := (w >>> 5) &&& 1) (b := 1) 32 hC dX6_sourceToBlame_14 (by decide) (by first | omega | decide | exact Nat.lt_of_le_of_lt jshr (by omega) | exact Nat.lt_of_le_of_lt jand1 (by decide)) (by first | omega | decide | exact Nat.lt_of_le_of_lt jshr (by omega) | exact Nat.lt_of_le_of_lt jand1 (by decide)) (fun h488 => ?_) (fun h488 => ?_)
                · refine sg_iincN (pc := 32) (a := 5) (b := 6) hC dX6_sourceToBlame_32 rfl (nI_1 _) (by decide) ?_
                  show sg_W X M 0 0 35 [some (.ref ca), some (.int (nI w)), some (.ref b), some (.int (nI 6))] []
                  refine sg_goto (pc := 35) 2 hC dX6_sourceToBlame_35 (by decide) ?_
                  refine sg_iload_n (pc := 2) (x := nI 6) hC dX6_sourceToBlame_2 rfl ?_
                  refine sg_bipush (pc := 3) (nI 6) hC dX6_sourceToBlame_3 (by decide) ?_
                  refine sg_icmpN_ge (pc := 5) (a := 6) (b := 6) 38 hC dX6_sourceToBlame_5 (by decide) (by decide) (by decide) (fun _ => ?_) (fun h489 => absurd h489 (by decide))
                  refine sg_iconst (pc := 38) (((-1))) hC dX6_sourceToBlame_38 (by decide) ?_
                  have e9 : k_blm N w t = none := by rw [k_blm]; simp only [if_pos h2, if_pos h320, if_pos h322, if_pos h480, if_neg h482, if_neg h484, if_neg h486, if_neg h488]
                  rw [e9] at hk
                  exact sg_ireturn (st := []) (v := md_o none) (pc := 39) hC hR dX6_sourceToBlame_39 hk
                · refine sg_aload_n (pc := 17) (v := .ref ca) hC dX6_sourceToBlame_17 rfl rfl ?_
                  refine sg_get (pc := 18) (a := ca) (v := .ref so) 2 hC rfl inw_X6 (by decide) tw_195 dX6_sourceToBlame_18 hX rfl ?_
                  refine sg_iload_n (pc := 21) (x := nI 5) hC dX6_sourceToBlame_21 rfl ?_
                  refine sg_aald8 (pc := 22) (i := nI 5) hC dX6_sourceToBlame_22 hSo (vp_in_nI (by first | omega | decide | exact Nat.lt_of_le_of_lt jshr (by omega) | exact Nat.lt_of_le_of_lt jand1 (by decide)) (by first | omega | decide | exact Nat.lt_of_le_of_lt jshr (by omega) | exact Nat.lt_of_le_of_lt jand1 (by decide))) ?_
                  rw [nI_clamp (by first | omega | decide | exact Nat.lt_of_le_of_lt jshr (by omega) | exact Nat.lt_of_le_of_lt jand1 (by decide))]
                  obtain ⟨q490, hq491, hs492⟩ := hG 5 (by omega)
                  rw [hq491]
                  obtain ⟨la493, f494, hc495, -, -⟩ := id hs492
                  show sg_W X M 0 0 23 [some (.ref ca), some (.int (nI w)), some (.ref b), some (.int (nI 5))] [.ref q490]
                  refine sg_aload_n (pc := 23) (v := .ref b) hC dX6_sourceToBlame_23 rfl rfl ?_
                  refine sg_callV (pc := 24) (As := [.ref b]) (rest := []) (mc := 0) (ms := 0) hC tw_965 tw_966 tw_967 tw_70 tw_968 yd_X5_isGranted (by decide) (ci := 8) rfl dX6_sourceToBlame_24 hc495 rfl (Nat.le_of_ble_eq_true rfl) (by first | omega | decide | exact Nat.lt_of_le_of_lt jshr (by omega) | exact Nat.lt_of_le_of_lt jand1 (by decide)) (by first | omega | decide | exact Nat.lt_of_le_of_lt jshr (by omega) | exact Nat.lt_of_le_of_lt jand1 (by decide)) ?_
                  refine c_granted htr hW (by omega) hs492 hB ?_
                  show sg_W X M 0 0 27 [some (.ref ca), some (.int (nI w)), some (.ref b), some (.int (nI 5))] [.int (md_b ((isg (gl N 5) t)))]
                  refine sg_ifB_ne (pc := 27) (b := (isg (gl N 5) t)) 32 hC dX6_sourceToBlame_27 (by decide) (fun h496 => ?_) (fun h496 => ?_)
                  · refine sg_iincN (pc := 32) (a := 5) (b := 6) hC dX6_sourceToBlame_32 rfl (nI_1 _) (by decide) ?_
                    show sg_W X M 0 0 35 [some (.ref ca), some (.int (nI w)), some (.ref b), some (.int (nI 6))] []
                    refine sg_goto (pc := 35) 2 hC dX6_sourceToBlame_35 (by decide) ?_
                    refine sg_iload_n (pc := 2) (x := nI 6) hC dX6_sourceToBlame_2 rfl ?_
                    refine sg_bipush (pc := 3) (nI 6) hC dX6_sourceToBlame_3 (by decide) ?_
                    refine sg_icmpN_ge (pc := 5) (a := 6) (b := 6) 38 hC dX6_sourceToBlame_5 (by decide) (by decide) (by decide) (fun _ => ?_) (fun h497 => absurd h497 (by decide))
                    refine sg_iconst (pc := 38) (((-1))) hC dX6_sourceToBlame_38 (by decide) ?_
                    have e9 : k_blm N w t = none := by rw [k_blm]; simp only [if_pos h2, if_pos h320, if_pos h322, if_pos h480, if_neg h482, if_neg h484, if_neg h486, if_pos h488, if_pos h496]
                    rw [e9] at hk
                    exact sg_ireturn (st := []) (v := md_o none) (pc := 39) hC hR dX6_sourceToBlame_39 hk
                  · refine sg_iload_n (pc := 30) (x := nI 5) hC dX6_sourceToBlame_30 rfl ?_
                    have e9 : k_blm N w t = some 5 := by rw [k_blm]; simp only [if_pos h2, if_pos h320, if_pos h322, if_pos h480, if_neg h482, if_neg h484, if_neg h486, if_pos h488, if_neg (ts9 h496)]
                    rw [e9] at hk
                    exact sg_ireturn (st := []) (v := md_o (some 5)) (pc := 31) hC hR dX6_sourceToBlame_31 hk
              · refine sg_aload_n (pc := 17) (v := .ref ca) hC dX6_sourceToBlame_17 rfl rfl ?_
                refine sg_get (pc := 18) (a := ca) (v := .ref so) 2 hC rfl inw_X6 (by decide) tw_195 dX6_sourceToBlame_18 hX rfl ?_
                refine sg_iload_n (pc := 21) (x := nI 4) hC dX6_sourceToBlame_21 rfl ?_
                refine sg_aald8 (pc := 22) (i := nI 4) hC dX6_sourceToBlame_22 hSo (vp_in_nI (by first | omega | decide | exact Nat.lt_of_le_of_lt jshr (by omega) | exact Nat.lt_of_le_of_lt jand1 (by decide)) (by first | omega | decide | exact Nat.lt_of_le_of_lt jshr (by omega) | exact Nat.lt_of_le_of_lt jand1 (by decide))) ?_
                rw [nI_clamp (by first | omega | decide | exact Nat.lt_of_le_of_lt jshr (by omega) | exact Nat.lt_of_le_of_lt jand1 (by decide))]
                obtain ⟨q498, hq499, hs500⟩ := hG 4 (by omega)
                rw [hq499]
                obtain ⟨la501, f502, hc503, -, -⟩ := id hs500
                show sg_W X M 0 0 23 [some (.ref ca), some (.int (nI w)), some (.ref b), some (.int (nI 4))] [.ref q498]
                refine sg_aload_n (pc := 23) (v := .ref b) hC dX6_sourceToBlame_23 rfl rfl ?_
                refine sg_callV (pc := 24) (As := [.ref b]) (rest := []) (mc := 0) (ms := 0) hC tw_965 tw_966 tw_967 tw_70 tw_968 yd_X5_isGranted (by decide) (ci := 8) rfl dX6_sourceToBlame_24 hc503 rfl (Nat.le_of_ble_eq_true rfl) (by first | omega | decide | exact Nat.lt_of_le_of_lt jshr (by omega) | exact Nat.lt_of_le_of_lt jand1 (by decide)) (by first | omega | decide | exact Nat.lt_of_le_of_lt jshr (by omega) | exact Nat.lt_of_le_of_lt jand1 (by decide)) ?_
                refine c_granted htr hW (by omega) hs500 hB ?_
                show sg_W X M 0 0 27 [some (.ref ca), some (.int (nI w)), some (.ref b), some (.int (nI 4))] [.int (md_b ((isg (gl N 4) t)))]
                refine sg_ifB_ne (pc := 27) (b := (isg (gl N 4) t)) 32 hC dX6_sourceToBlame_27 (by decide) (fun h504 => ?_) (fun h504 => ?_)
                · refine sg_iincN (pc := 32) (a := 4) (b := 5) hC dX6_sourceToBlame_32 rfl (nI_1 _) (by decide) ?_
                  show sg_W X M 0 0 35 [some (.ref ca), some (.int (nI w)), some (.ref b), some (.int (nI 5))] []
                  refine sg_goto (pc := 35) 2 hC dX6_sourceToBlame_35 (by decide) ?_
                  refine sg_iload_n (pc := 2) (x := nI 5) hC dX6_sourceToBlame_2 rfl ?_
                  refine sg_bipush (pc := 3) (nI 6) hC dX6_sourceToBlame_3 (by decide) ?_
                  refine sg_icmpN_ge (pc := 5) (a := 5) (b := 6) 38 hC dX6_sourceToBlame_5 (by decide) (by decide) (by decide) (fun h505 => absurd h505 (by decide)) (fun _ => ?_)
                  refine sg_iload_n (pc := 8) (x := nI w) hC dX6_sourceToBlame_8 rfl ?_
                  refine sg_iload_n (pc := 9) (x := nI 5) hC dX6_sourceToBlame_9 rfl ?_
                  refine sg_ishrN (pc := 10) (a := w) (b := 5) hC dX6_sourceToBlame_10 (by first | omega | decide | exact Nat.lt_of_le_of_lt jshr (by omega) | exact Nat.lt_of_le_of_lt jand1 (by decide)) (by first | omega | decide | exact Nat.lt_of_le_of_lt jshr (by omega) | exact Nat.lt_of_le_of_lt jand1 (by decide)) ?_
                  refine sg_iconst (pc := 11) (nI 1) hC dX6_sourceToBlame_11 (by decide) ?_
                  refine sg_iandN (pc := 12) (a := w >>> 5) (b := 1) hC dX6_sourceToBlame_12 ?_
                  refine sg_iconst (pc := 13) (nI 1) hC dX6_sourceToBlame_13 (by decide) ?_
                  refine sg_icmpN_ne (pc := 14) (a := (w >>> 5) &&& 1) (b := 1) 32 hC dX6_sourceToBlame_14 (by decide) (by first | omega | decide | exact Nat.lt_of_le_of_lt jshr (by omega) | exact Nat.lt_of_le_of_lt jand1 (by decide)) (by first | omega | decide | exact Nat.lt_of_le_of_lt jshr (by omega) | exact Nat.lt_of_le_of_lt jand1 (by decide)) (fun h506 => ?_) (fun h506 => ?_)
                  · refine sg_iincN (pc := 32) (a := 5) (b := 6) hC dX6_sourceToBlame_32 rfl (nI_1 _) (by decide) ?_
                    show sg_W X M 0 0 35 [some (.ref ca), some (.int (nI w)), some (.ref b), some (.int (nI 6))] []
                    refine sg_goto (pc := 35) 2 hC dX6_sourceToBlame_35 (by decide) ?_
                    refine sg_iload_n (pc := 2) (x := nI 6) hC dX6_sourceToBlame_2 rfl ?_
                    refine sg_bipush (pc := 3) (nI 6) hC dX6_sourceToBlame_3 (by decide) ?_
                    refine sg_icmpN_ge (pc := 5) (a := 6) (b := 6) 38 hC dX6_sourceToBlame_5 (by decide) (by decide) (by decide) (fun _ => ?_) (fun h507 => absurd h507 (by decide))
                    refine sg_iconst (pc := 38) (((-1))) hC dX6_sourceToBlame_38 (by decide) ?_
                    have e9 : k_blm N w t = none := by rw [k_blm]; simp only [if_pos h2, if_pos h320, if_pos h322, if_pos h480, if_neg h482, if_neg h484, if_pos h486, if_pos h504, if_neg h506]
                    rw [e9] at hk
                    exact sg_ireturn (st := []) (v := md_o none) (pc := 39) hC hR dX6_sourceToBlame_39 hk
                  · refine sg_aload_n (pc := 17) (v := .ref ca) hC dX6_sourceToBlame_17 rfl rfl ?_
                    refine sg_get (pc := 18) (a := ca) (v := .ref so) 2 hC rfl inw_X6 (by decide) tw_195 dX6_sourceToBlame_18 hX rfl ?_
                    refine sg_iload_n (pc := 21) (x := nI 5) hC dX6_sourceToBlame_21 rfl ?_
                    refine sg_aald8 (pc := 22) (i := nI 5) hC dX6_sourceToBlame_22 hSo (vp_in_nI (by first | omega | decide | exact Nat.lt_of_le_of_lt jshr (by omega) | exact Nat.lt_of_le_of_lt jand1 (by decide)) (by first | omega | decide | exact Nat.lt_of_le_of_lt jshr (by omega) | exact Nat.lt_of_le_of_lt jand1 (by decide))) ?_
                    rw [nI_clamp (by first | omega | decide | exact Nat.lt_of_le_of_lt jshr (by omega) | exact Nat.lt_of_le_of_lt jand1 (by decide))]
                    obtain ⟨q508, hq509, hs510⟩ := hG 5 (by omega)
                    rw [hq509]
                    obtain ⟨la511, f512, hc513, -, -⟩ := id hs510
                    show sg_W X M 0 0 23 [some (.ref ca), some (.int (nI w)), some (.ref b), some (.int (nI 5))] [.ref q508]
                    refine sg_aload_n (pc := 23) (v := .ref b) hC dX6_sourceToBlame_23 rfl rfl ?_
                    refine sg_callV (pc := 24) (As := [.ref b]) (rest := []) (mc := 0) (ms := 0) hC tw_965 tw_966 tw_967 tw_70 tw_968 yd_X5_isGranted (by decide) (ci := 8) rfl dX6_sourceToBlame_24 hc513 rfl (Nat.le_of_ble_eq_true rfl) (by first | omega | decide | exact Nat.lt_of_le_of_lt jshr (by omega) | exact Nat.lt_of_le_of_lt jand1 (by decide)) (by first | omega | decide | exact Nat.lt_of_le_of_lt jshr (by omega) | exact Nat.lt_of_le_of_lt jand1 (by decide)) ?_
                    refine c_granted htr hW (by omega) hs510 hB ?_
                    show sg_W X M 0 0 27 [some (.ref ca), some (.int (nI w)), some (.ref b), some (.int (nI 5))] [.int (md_b ((isg (gl N 5) t)))]
                    refine sg_ifB_ne (pc := 27) (b := (isg (gl N 5) t)) 32 hC dX6_sourceToBlame_27 (by decide) (fun h514 => ?_) (fun h514 => ?_)
                    · refine sg_iincN (pc := 32) (a := 5) (b := 6) hC dX6_sourceToBlame_32 rfl (nI_1 _) (by decide) ?_
                      show sg_W X M 0 0 35 [some (.ref ca), some (.int (nI w)), some (.ref b), some (.int (nI 6))] []
                      refine sg_goto (pc := 35) 2 hC dX6_sourceToBlame_35 (by decide) ?_
                      refine sg_iload_n (pc := 2) (x := nI 6) hC dX6_sourceToBlame_2 rfl ?_
                      refine sg_bipush (pc := 3) (nI 6) hC dX6_sourceToBlame_3 (by decide) ?_
                      refine sg_icmpN_ge (pc := 5) (a := 6) (b := 6) 38 hC dX6_sourceToBlame_5 (by decide) (by decide) (by decide) (fun _ => ?_) (fun h515 => absurd h515 (by decide))
                      refine sg_iconst (pc := 38) (((-1))) hC dX6_sourceToBlame_38 (by decide) ?_
                      have e9 : k_blm N w t = none := by rw [k_blm]; simp only [if_pos h2, if_pos h320, if_pos h322, if_pos h480, if_neg h482, if_neg h484, if_pos h486, if_pos h504, if_pos h506, if_pos h514]
                      rw [e9] at hk
                      exact sg_ireturn (st := []) (v := md_o none) (pc := 39) hC hR dX6_sourceToBlame_39 hk
                    · refine sg_iload_n (pc := 30) (x := nI 5) hC dX6_sourceToBlame_30 rfl ?_
                      have e9 : k_blm N w t = some 5 := by rw [k_blm]; simp only [if_pos h2, if_pos h320, if_pos h322, if_pos h480, if_neg h482, if_neg h484, if_pos h486, if_pos h504, if_pos h506, if_neg (ts9 h514)]
                      rw [e9] at hk
                      exact sg_ireturn (st := []) (v := md_o (some 5)) (pc := 31) hC hR dX6_sourceToBlame_31 hk
                · refine sg_iload_n (pc := 30) (x := nI 4) hC dX6_sourceToBlame_30 rfl ?_
                  have e9 : k_blm N w t = some 4 := by rw [k_blm]; simp only [if_pos h2, if_pos h320, if_pos h322, if_pos h480, if_neg h482, if_neg h484, if_pos h486, if_neg (ts9 h504)]
                  rw [e9] at hk
                  exact sg_ireturn (st := []) (v := md_o (some 4)) (pc := 31) hC hR dX6_sourceToBlame_31 hk
            · refine sg_aload_n (pc := 17) (v := .ref ca) hC dX6_sourceToBlame_17 rfl rfl ?_
              refine sg_get (pc := 18) (a := ca) (v := .ref so) 2 hC rfl inw_X6 (by decide) tw_195 dX6_sourceToBlame_18 hX rfl ?_
              refine sg_iload_n (pc := 21) (x := nI 3) hC dX6_sourceToBlame_21 rfl ?_
              refine sg_aald8 (pc := 22) (i := nI 3) hC dX6_sourceToBlame_22 hSo (vp_in_nI (by first | omega | decide | exact Nat.lt_of_le_of_lt jshr (by omega) | exact Nat.lt_of_le_of_lt jand1 (by decide)) (by first | omega | decide | exact Nat.lt_of_le_of_lt jshr (by omega) | exact Nat.lt_of_le_of_lt jand1 (by decide))) ?_
              rw [nI_clamp (by first | omega | decide | exact Nat.lt_of_le_of_lt jshr (by omega) | exact Nat.lt_of_le_of_lt jand1 (by decide))]
              obtain ⟨q516, hq517, hs518⟩ := hG 3 (by omega)
              rw [hq517]
              obtain ⟨la519, f520, hc521, -, -⟩ := id hs518
              show sg_W X M 0 0 23 [some (.ref ca), some (.int (nI w)), some (.ref b), some (.int (nI 3))] [.ref q516]
              refine sg_aload_n (pc := 23) (v := .ref b) hC dX6_sourceToBlame_23 rfl rfl ?_
              refine sg_callV (pc := 24) (As := [.ref b]) (rest := []) (mc := 0) (ms := 0) hC tw_965 tw_966 tw_967 tw_70 tw_968 yd_X5_isGranted (by decide) (ci := 8) rfl dX6_sourceToBlame_24 hc521 rfl (Nat.le_of_ble_eq_true rfl) (by first | omega | decide | exact Nat.lt_of_le_of_lt jshr (by omega) | exact Nat.lt_of_le_of_lt jand1 (by decide)) (by first | omega | decide | exact Nat.lt_of_le_of_lt jshr (by omega) | exact Nat.lt_of_le_of_lt jand1 (by decide)) ?_
              refine c_granted htr hW (by omega) hs518 hB ?_
              show sg_W X M 0 0 27 [some (.ref ca), some (.int (nI w)), some (.ref b), some (.int (nI 3))] [.int (md_b ((isg (gl N 3) t)))]
              refine sg_ifB_ne (pc := 27) (b := (isg (gl N 3) t)) 32 hC dX6_sourceToBlame_27 (by decide) (fun h522 => ?_) (fun h522 => ?_)
              · refine sg_iincN (pc := 32) (a := 3) (b := 4) hC dX6_sourceToBlame_32 rfl (nI_1 _) (by decide) ?_
                show sg_W X M 0 0 35 [some (.ref ca), some (.int (nI w)), some (.ref b), some (.int (nI 4))] []
                refine sg_goto (pc := 35) 2 hC dX6_sourceToBlame_35 (by decide) ?_
                refine sg_iload_n (pc := 2) (x := nI 4) hC dX6_sourceToBlame_2 rfl ?_
                refine sg_bipush (pc := 3) (nI 6) hC dX6_sourceToBlame_3 (by decide) ?_
                refine sg_icmpN_ge (pc := 5) (a := 4) (b := 6) 38 hC dX6_sourceToBlame_5 (by decide) (by decide) (by decide) (fun h523 => absurd h523 (by decide)) (fun _ => ?_)
                refine sg_iload_n (pc := 8) (x := nI w) hC dX6_sourceToBlame_8 rfl ?_
                refine sg_iload_n (pc := 9) (x := nI 4) hC dX6_sourceToBlame_9 rfl ?_
                refine sg_ishrN (pc := 10) (a := w) (b := 4) hC dX6_sourceToBlame_10 (by first | omega | decide | exact Nat.lt_of_le_of_lt jshr (by omega) | exact Nat.lt_of_le_of_lt jand1 (by decide)) (by first | omega | decide | exact Nat.lt_of_le_of_lt jshr (by omega) | exact Nat.lt_of_le_of_lt jand1 (by decide)) ?_
                refine sg_iconst (pc := 11) (nI 1) hC dX6_sourceToBlame_11 (by decide) ?_
                refine sg_iandN (pc := 12) (a := w >>> 4) (b := 1) hC dX6_sourceToBlame_12 ?_
                refine sg_iconst (pc := 13) (nI 1) hC dX6_sourceToBlame_13 (by decide) ?_
                refine sg_icmpN_ne (pc := 14) (a := (w >>> 4) &&& 1) (b := 1) 32 hC dX6_sourceToBlame_14 (by decide) (by first | omega | decide | exact Nat.lt_of_le_of_lt jshr (by omega) | exact Nat.lt_of_le_of_lt jand1 (by decide)) (by first | omega | decide | exact Nat.lt_of_le_of_lt jshr (by omega) | exact Nat.lt_of_le_of_lt jand1 (by decide)) (fun h524 => ?_) (fun h524 => ?_)
                · refine sg_iincN (pc := 32) (a := 4) (b := 5) hC dX6_sourceToBlame_32 rfl (nI_1 _) (by decide) ?_
                  show sg_W X M 0 0 35 [some (.ref ca), some (.int (nI w)), some (.ref b), some (.int (nI 5))] []
                  refine sg_goto (pc := 35) 2 hC dX6_sourceToBlame_35 (by decide) ?_
                  refine sg_iload_n (pc := 2) (x := nI 5) hC dX6_sourceToBlame_2 rfl ?_
                  refine sg_bipush (pc := 3) (nI 6) hC dX6_sourceToBlame_3 (by decide) ?_
                  refine sg_icmpN_ge (pc := 5) (a := 5) (b := 6) 38 hC dX6_sourceToBlame_5 (by decide) (by decide) (by decide) (fun h525 => absurd h525 (by decide)) (fun _ => ?_)
                  refine sg_iload_n (pc := 8) (x := nI w) hC dX6_sourceToBlame_8 rfl ?_
                  refine sg_iload_n (pc := 9) (x := nI 5) hC dX6_sourceToBlame_9 rfl ?_
                  refine sg_ishrN (pc := 10) (a := w) (b := 5) hC dX6_sourceToBlame_10 (by first | omega | decide | exact Nat.lt_of_le_of_lt jshr (by omega) | exact Nat.lt_of_le_of_lt jand1 (by decide)) (by first | omega | decide | exact Nat.lt_of_le_of_lt jshr (by omega) | exact Nat.lt_of_le_of_lt jand1 (by decide)) ?_
                  refine sg_iconst (pc := 11) (nI 1) hC dX6_sourceToBlame_11 (by decide) ?_
                  refine sg_iandN (pc := 12) (a := w >>> 5) (b := 1) hC dX6_sourceToBlame_12 ?_
                  refine sg_iconst (pc := 13) (nI 1) hC dX6_sourceToBlame_13 (by decide) ?_
                  refine sg_icmpN_ne (pc := 14) (a := (w >>> 5) &&& 1) (b := 1) 32 hC dX6_sourceToBlame_14 (by decide) (by first | omega | decide | exact Nat.lt_of_le_of_lt jshr (by omega) | exact Nat.lt_of_le_of_lt jand1 (by decide)) (by first | omega | decide | exact Nat.lt_of_le_of_lt jshr (by omega) | exact Nat.lt_of_le_of_lt jand1 (by decide)) (fun h526 => ?_) (fun h526 => ?_)
                  · refine sg_iincN (pc := 32) (a := 5) (b := 6) hC dX6_sourceToBlame_32 rfl (nI_1 _) (by decide) ?_
                    show sg_W X M 0 0 35 [some (.ref ca), some (.int (nI w)), some (.ref b), some (.int (nI 6))] []
                    refine sg_goto (pc := 35) 2 hC dX6_sourceToBlame_35 (by decide) ?_
                    refine sg_iload_n (pc := 2) (x := nI 6) hC dX6_sourceToBlame_2 rfl ?_
                    refine sg_bipush (pc := 3) (nI 6) hC dX6_sourceToBlame_3 (by decide) ?_
                    refine sg_icmpN_ge (pc := 5) (a := 6) (b := 6) 38 hC dX6_sourceToBlame_5 (by decide) (by decide) (by decide) (fun _ => ?_) (fun h527 => absurd h527 (by decide))
                    refine sg_iconst (pc := 38) (((-1))) hC dX6_sourceToBlame_38 (by decide) ?_
                    have e9 : k_blm N w t = none := by rw [k_blm]; simp only [if_pos h2, if_pos h320, if_pos h322, if_pos h480, if_neg h482, if_pos h484, if_pos h522, if_neg h524, if_neg h526]
                    rw [e9] at hk
                    exact sg_ireturn (st := []) (v := md_o none) (pc := 39) hC hR dX6_sourceToBlame_39 hk
                  · refine sg_aload_n (pc := 17) (v := .ref ca) hC dX6_sourceToBlame_17 rfl rfl ?_
                    refine sg_get (pc := 18) (a := ca) (v := .ref so) 2 hC rfl inw_X6 (by decide) tw_195 dX6_sourceToBlame_18 hX rfl ?_
                    refine sg_iload_n (pc := 21) (x := nI 5) hC dX6_sourceToBlame_21 rfl ?_
                    refine sg_aald8 (pc := 22) (i := nI 5) hC dX6_sourceToBlame_22 hSo (vp_in_nI (by first | omega | decide | exact Nat.lt_of_le_of_lt jshr (by omega) | exact Nat.lt_of_le_of_lt jand1 (by decide)) (by first | omega | decide | exact Nat.lt_of_le_of_lt jshr (by omega) | exact Nat.lt_of_le_of_lt jand1 (by decide))) ?_
                    rw [nI_clamp (by first | omega | decide | exact Nat.lt_of_le_of_lt jshr (by omega) | exact Nat.lt_of_le_of_lt jand1 (by decide))]
                    obtain ⟨q528, hq529, hs530⟩ := hG 5 (by omega)
                    rw [hq529]
                    obtain ⟨la531, f532, hc533, -, -⟩ := id hs530
                    show sg_W X M 0 0 23 [some (.ref ca), some (.int (nI w)), some (.ref b), some (.int (nI 5))] [.ref q528]
                    refine sg_aload_n (pc := 23) (v := .ref b) hC dX6_sourceToBlame_23 rfl rfl ?_
                    refine sg_callV (pc := 24) (As := [.ref b]) (rest := []) (mc := 0) (ms := 0) hC tw_965 tw_966 tw_967 tw_70 tw_968 yd_X5_isGranted (by decide) (ci := 8) rfl dX6_sourceToBlame_24 hc533 rfl (Nat.le_of_ble_eq_true rfl) (by first | omega | decide | exact Nat.lt_of_le_of_lt jshr (by omega) | exact Nat.lt_of_le_of_lt jand1 (by decide)) (by first | omega | decide | exact Nat.lt_of_le_of_lt jshr (by omega) | exact Nat.lt_of_le_of_lt jand1 (by decide)) ?_
                    refine c_granted htr hW (by omega) hs530 hB ?_
                    show sg_W X M 0 0 27 [some (.ref ca), some (.int (nI w)), some (.ref b), some (.int (nI 5))] [.int (md_b ((isg (gl N 5) t)))]
                    refine sg_ifB_ne (pc := 27) (b := (isg (gl N 5) t)) 32 hC dX6_sourceToBlame_27 (by decide) (fun h534 => ?_) (fun h534 => ?_)
                    · refine sg_iincN (pc := 32) (a := 5) (b := 6) hC dX6_sourceToBlame_32 rfl (nI_1 _) (by decide) ?_
                      show sg_W X M 0 0 35 [some (.ref ca), some (.int (nI w)), some (.ref b), some (.int (nI 6))] []
                      refine sg_goto (pc := 35) 2 hC dX6_sourceToBlame_35 (by decide) ?_
                      refine sg_iload_n (pc := 2) (x := nI 6) hC dX6_sourceToBlame_2 rfl ?_
                      refine sg_bipush (pc := 3) (nI 6) hC dX6_sourceToBlame_3 (by decide) ?_
                      refine sg_icmpN_ge (pc := 5) (a := 6) (b := 6) 38 hC dX6_sourceToBlame_5 (by decide) (by decide) (by decide) (fun _ => ?_) (fun h535 => absurd h535 (by decide))
                      refine sg_iconst (pc := 38) (((-1))) hC dX6_sourceToBlame_38 (by decide) ?_
                      have e9 : k_blm N w t = none := by rw [k_blm]; simp only [if_pos h2, if_pos h320, if_pos h322, if_pos h480, if_neg h482, if_pos h484, if_pos h522, if_neg h524, if_pos h526, if_pos h534]
                      rw [e9] at hk
                      exact sg_ireturn (st := []) (v := md_o none) (pc := 39) hC hR dX6_sourceToBlame_39 hk
                    · refine sg_iload_n (pc := 30) (x := nI 5) hC dX6_sourceToBlame_30 rfl ?_
                      have e9 : k_blm N w t = some 5 := by rw [k_blm]; simp only [if_pos h2, if_pos h320, if_pos h322, if_pos h480, if_neg h482, if_pos h484, if_pos h522, if_neg h524, if_pos h526, if_neg (ts9 h534)]
                      rw [e9] at hk
                      exact sg_ireturn (st := []) (v := md_o (some 5)) (pc := 31) hC hR dX6_sourceToBlame_31 hk
                · refine sg_aload_n (pc := 17) (v := .ref ca) hC dX6_sourceToBlame_17 rfl rfl ?_
                  refine sg_get (pc := 18) (a := ca) (v := .ref so) 2 hC rfl inw_X6 (by decide) tw_195 dX6_sourceToBlame_18 hX rfl ?_
                  refine sg_iload_n (pc := 21) (x := nI 4) hC dX6_sourceToBlame_21 rfl ?_
                  refine sg_aald8 (pc := 22) (i := nI 4) hC dX6_sourceToBlame_22 hSo (vp_in_nI (by first | omega | decide | exact Nat.lt_of_le_of_lt jshr (by omega) | exact Nat.lt_of_le_of_lt jand1 (by decide)) (by first | omega | decide | exact Nat.lt_of_le_of_lt jshr (by omega) | exact Nat.lt_of_le_of_lt jand1 (by decide))) ?_
                  rw [nI_clamp (by first | omega | decide | exact Nat.lt_of_le_of_lt jshr (by omega) | exact Nat.lt_of_le_of_lt jand1 (by decide))]
                  obtain ⟨q536, hq537, hs538⟩ := hG 4 (by omega)
                  rw [hq537]
                  obtain ⟨la539, f540, hc541, -, -⟩ := id hs538
                  show sg_W X M 0 0 23 [some (.ref ca), some (.int (nI w)), some (.ref b), some (.int (nI 4))] [.ref q536]
                  refine sg_aload_n (pc := 23) (v := .ref b) hC dX6_sourceToBlame_23 rfl rfl ?_
                  refine sg_callV (pc := 24) (As := [.ref b]) (rest := []) (mc := 0) (ms := 0) hC tw_965 tw_966 tw_967 tw_70 tw_968 yd_X5_isGranted (by decide) (ci := 8) rfl dX6_sourceToBlame_24 hc541 rfl (Nat.le_of_ble_eq_true rfl) (by first | omega | decide | exact Nat.lt_of_le_of_lt jshr (by omega) | exact Nat.lt_of_le_of_lt jand1 (by decide)) (by first | omega | decide | exact Nat.lt_of_le_of_lt jshr (by omega) | exact Nat.lt_of_le_of_lt jand1 (by decide)) ?_
                  refine c_granted htr hW (by omega) hs538 hB ?_
                  show sg_W X M 0 0 27 [some (.ref ca), some (.int (nI w)), some (.ref b), some (.int (nI 4))] [.int (md_b ((isg (gl N 4) t)))]
                  refine sg_ifB_ne (pc := 27) (b := (isg (gl N 4) t)) 32 hC dX6_sourceToBlame_27 (by decide) (fun h542 => ?_) (fun h542 => ?_)
                  · refine sg_iincN (pc := 32) (a := 4) (b := 5) hC dX6_sourceToBlame_32 rfl (nI_1 _) (by decide) ?_
                    show sg_W X M 0 0 35 [some (.ref ca), some (.int (nI w)), some (.ref b), some (.int (nI 5))] []
                    refine sg_goto (pc := 35) 2 hC dX6_sourceToBlame_35 (by decide) ?_
                    refine sg_iload_n (pc := 2) (x := nI 5) hC dX6_sourceToBlame_2 rfl ?_
                    refine sg_bipush (pc := 3) (nI 6) hC dX6_sourceToBlame_3 (by decide) ?_
                    refine sg_icmpN_ge (pc := 5) (a := 5) (b := 6) 38 hC dX6_sourceToBlame_5 (by decide) (by decide) (by decide) (fun h543 => absurd h543 (by decide)) (fun _ => ?_)
                    refine sg_iload_n (pc := 8) (x := nI w) hC dX6_sourceToBlame_8 rfl ?_
                    refine sg_iload_n (pc := 9) (x := nI 5) hC dX6_sourceToBlame_9 rfl ?_
                    refine sg_ishrN (pc := 10) (a := w) (b := 5) hC dX6_sourceToBlame_10 (by first | omega | decide | exact Nat.lt_of_le_of_lt jshr (by omega) | exact Nat.lt_of_le_of_lt jand1 (by decide)) (by first | omega | decide | exact Nat.lt_of_le_of_lt jshr (by omega) | exact Nat.lt_of_le_of_lt jand1 (by decide)) ?_
                    refine sg_iconst (pc := 11) (nI 1) hC dX6_sourceToBlame_11 (by decide) ?_
                    refine sg_iandN (pc := 12) (a := w >>> 5) (b := 1) hC dX6_sourceToBlame_12 ?_
                    refine sg_iconst (pc := 13) (nI 1) hC dX6_sourceToBlame_13 (by decide) ?_
                    refine sg_icmpN_ne (pc := 14) (a := (w >>> 5) &&& 1) (b := 1) 32 hC dX6_sourceToBlame_14 (by decide) (by first | omega | decide | exact Nat.lt_of_le_of_lt jshr (by omega) | exact Nat.lt_of_le_of_lt jand1 (by decide)) (by first | omega | decide | exact Nat.lt_of_le_of_lt jshr (by omega) | exact Nat.lt_of_le_of_lt jand1 (by decide)) (fun h544 => ?_) (fun h544 => ?_)
                    · refine sg_iincN (pc := 32) (a := 5) (b := 6) hC dX6_sourceToBlame_32 rfl (nI_1 _) (by decide) ?_
                      show sg_W X M 0 0 35 [some (.ref ca), some (.int (nI w)), some (.ref b), some (.int (nI 6))] []
                      refine sg_goto (pc := 35) 2 hC dX6_sourceToBlame_35 (by decide) ?_
                      refine sg_iload_n (pc := 2) (x := nI 6) hC dX6_sourceToBlame_2 rfl ?_
                      refine sg_bipush (pc := 3) (nI 6) hC dX6_sourceToBlame_3 (by decide) ?_
                      refine sg_icmpN_ge (pc := 5) (a := 6) (b := 6) 38 hC dX6_sourceToBlame_5 (by decide) (by decide) (by decide) (fun _ => ?_) (fun h545 => absurd h545 (by decide))
                      refine sg_iconst (pc := 38) (((-1))) hC dX6_sourceToBlame_38 (by decide) ?_
                      have e9 : k_blm N w t = none := by rw [k_blm]; simp only [if_pos h2, if_pos h320, if_pos h322, if_pos h480, if_neg h482, if_pos h484, if_pos h522, if_pos h524, if_pos h542, if_neg h544]
                      rw [e9] at hk
                      exact sg_ireturn (st := []) (v := md_o none) (pc := 39) hC hR dX6_sourceToBlame_39 hk
                    · refine sg_aload_n (pc := 17) (v := .ref ca) hC dX6_sourceToBlame_17 rfl rfl ?_
                      refine sg_get (pc := 18) (a := ca) (v := .ref so) 2 hC rfl inw_X6 (by decide) tw_195 dX6_sourceToBlame_18 hX rfl ?_
                      refine sg_iload_n (pc := 21) (x := nI 5) hC dX6_sourceToBlame_21 rfl ?_
                      refine sg_aald8 (pc := 22) (i := nI 5) hC dX6_sourceToBlame_22 hSo (vp_in_nI (by first | omega | decide | exact Nat.lt_of_le_of_lt jshr (by omega) | exact Nat.lt_of_le_of_lt jand1 (by decide)) (by first | omega | decide | exact Nat.lt_of_le_of_lt jshr (by omega) | exact Nat.lt_of_le_of_lt jand1 (by decide))) ?_
                      rw [nI_clamp (by first | omega | decide | exact Nat.lt_of_le_of_lt jshr (by omega) | exact Nat.lt_of_le_of_lt jand1 (by decide))]
                      obtain ⟨q546, hq547, hs548⟩ := hG 5 (by omega)
                      rw [hq547]
                      obtain ⟨la549, f550, hc551, -, -⟩ := id hs548
                      show sg_W X M 0 0 23 [some (.ref ca), some (.int (nI w)), some (.ref b), some (.int (nI 5))] [.ref q546]
                      refine sg_aload_n (pc := 23) (v := .ref b) hC dX6_sourceToBlame_23 rfl rfl ?_
                      refine sg_callV (pc := 24) (As := [.ref b]) (rest := []) (mc := 0) (ms := 0) hC tw_965 tw_966 tw_967 tw_70 tw_968 yd_X5_isGranted (by decide) (ci := 8) rfl dX6_sourceToBlame_24 hc551 rfl (Nat.le_of_ble_eq_true rfl) (by first | omega | decide | exact Nat.lt_of_le_of_lt jshr (by omega) | exact Nat.lt_of_le_of_lt jand1 (by decide)) (by first | omega | decide | exact Nat.lt_of_le_of_lt jshr (by omega) | exact Nat.lt_of_le_of_lt jand1 (by decide)) ?_
                      refine c_granted htr hW (by omega) hs548 hB ?_
                      show sg_W X M 0 0 27 [some (.ref ca), some (.int (nI w)), some (.ref b), some (.int (nI 5))] [.int (md_b ((isg (gl N 5) t)))]
                      refine sg_ifB_ne (pc := 27) (b := (isg (gl N 5) t)) 32 hC dX6_sourceToBlame_27 (by decide) (fun h552 => ?_) (fun h552 => ?_)
                      · refine sg_iincN (pc := 32) (a := 5) (b := 6) hC dX6_sourceToBlame_32 rfl (nI_1 _) (by decide) ?_
                        show sg_W X M 0 0 35 [some (.ref ca), some (.int (nI w)), some (.ref b), some (.int (nI 6))] []
                        refine sg_goto (pc := 35) 2 hC dX6_sourceToBlame_35 (by decide) ?_
                        refine sg_iload_n (pc := 2) (x := nI 6) hC dX6_sourceToBlame_2 rfl ?_
                        refine sg_bipush (pc := 3) (nI 6) hC dX6_sourceToBlame_3 (by decide) ?_
                        refine sg_icmpN_ge (pc := 5) (a := 6) (b := 6) 38 hC dX6_sourceToBlame_5 (by decide) (by decide) (by decide) (fun _ => ?_) (fun h553 => absurd h553 (by decide))
                        refine sg_iconst (pc := 38) (((-1))) hC dX6_sourceToBlame_38 (by decide) ?_
                        have e9 : k_blm N w t = none := by rw [k_blm]; simp only [if_pos h2, if_pos h320, if_pos h322, if_pos h480, if_neg h482, if_pos h484, if_pos h522, if_pos h524, if_pos h542, if_pos h544, if_pos h552]
                        rw [e9] at hk
                        exact sg_ireturn (st := []) (v := md_o none) (pc := 39) hC hR dX6_sourceToBlame_39 hk
                      · refine sg_iload_n (pc := 30) (x := nI 5) hC dX6_sourceToBlame_30 rfl ?_
                        have e9 : k_blm N w t = some 5 := by rw [k_blm]; simp only [if_pos h2, if_pos h320, if_pos h322, if_pos h480, if_neg h482, if_pos h484, if_pos h522, if_pos h524, if_pos h542, if_pos h544, if_neg (ts9 h552)]
                        rw [e9] at hk
                        exact sg_ireturn (st := []) (v := md_o (some 5)) (pc := 31) hC hR dX6_sourceToBlame_31 hk
                  · refine sg_iload_n (pc := 30) (x := nI 4) hC dX6_sourceToBlame_30 rfl ?_
                    have e9 : k_blm N w t = some 4 := by rw [k_blm]; simp only [if_pos h2, if_pos h320, if_pos h322, if_pos h480, if_neg h482, if_pos h484, if_pos h522, if_pos h524, if_neg (ts9 h542)]
                    rw [e9] at hk
                    exact sg_ireturn (st := []) (v := md_o (some 4)) (pc := 31) hC hR dX6_sourceToBlame_31 hk
              · refine sg_iload_n (pc := 30) (x := nI 3) hC dX6_sourceToBlame_30 rfl ?_
                have e9 : k_blm N w t = some 3 := by rw [k_blm]; simp only [if_pos h2, if_pos h320, if_pos h322, if_pos h480, if_neg h482, if_pos h484, if_neg (ts9 h522)]
                rw [e9] at hk
                exact sg_ireturn (st := []) (v := md_o (some 3)) (pc := 31) hC hR dX6_sourceToBlame_31 hk
          · refine sg_aload_n (pc := 17) (v := .ref ca) hC dX6_sourceToBlame_17 rfl rfl ?_
            refine sg_get (pc := 18) (a := ca) (v := .ref so) 2 hC rfl inw_X6 (by decide) tw_195 dX6_sourceToBlame_18 hX rfl ?_
            refine sg_iload_n (pc := 21) (x := nI 2) hC dX6_sourceToBlame_21 rfl ?_
            refine sg_aald8 (pc := 22) (i := nI 2) hC dX6_sourceToBlame_22 hSo (vp_in_nI (by first | omega | decide | exact Nat.lt_of_le_of_lt jshr (by omega) | exact Nat.lt_of_le_of_lt jand1 (by decide)) (by first | omega | decide | exact Nat.lt_of_le_of_lt jshr (by omega) | exact Nat.lt_of_le_of_lt jand1 (by decide))) ?_
            rw [nI_clamp (by first | omega | decide | exact Nat.lt_of_le_of_lt jshr (by omega) | exact Nat.lt_of_le_of_lt jand1 (by decide))]
            obtain ⟨q554, hq555, hs556⟩ := hG 2 (by omega)
            rw [hq555]
            obtain ⟨la557, f558, hc559, -, -⟩ := id hs556
            show sg_W X M 0 0 23 [some (.ref ca), some (.int (nI w)), some (.ref b), some (.int (nI 2))] [.ref q554]
            refine sg_aload_n (pc := 23) (v := .ref b) hC dX6_sourceToBlame_23 rfl rfl ?_
            refine sg_callV (pc := 24) (As := [.ref b]) (rest := []) (mc := 0) (ms := 0) hC tw_965 tw_966 tw_967 tw_70 tw_968 yd_X5_isGranted (by decide) (ci := 8) rfl dX6_sourceToBlame_24 hc559 rfl (Nat.le_of_ble_eq_true rfl) (by first | omega | decide | exact Nat.lt_of_le_of_lt jshr (by omega) | exact Nat.lt_of_le_of_lt jand1 (by decide)) (by first | omega | decide | exact Nat.lt_of_le_of_lt jshr (by omega) | exact Nat.lt_of_le_of_lt jand1 (by decide)) ?_
            refine c_granted htr hW (by omega) hs556 hB ?_
            show sg_W X M 0 0 27 [some (.ref ca), some (.int (nI w)), some (.ref b), some (.int (nI 2))] [.int (md_b ((isg (gl N 2) t)))]
            refine sg_ifB_ne (pc := 27) (b := (isg (gl N 2) t)) 32 hC dX6_sourceToBlame_27 (by decide) (fun h560 => ?_) (fun h560 => ?_)
            · refine sg_iincN (pc := 32) (a := 2) (b := 3) hC dX6_sourceToBlame_32 rfl (nI_1 _) (by decide) ?_
              show sg_W X M 0 0 35 [some (.ref ca), some (.int (nI w)), some (.ref b), some (.int (nI 3))] []
              refine sg_goto (pc := 35) 2 hC dX6_sourceToBlame_35 (by decide) ?_
              refine sg_iload_n (pc := 2) (x := nI 3) hC dX6_sourceToBlame_2 rfl ?_
              refine sg_bipush (pc := 3) (nI 6) hC dX6_sourceToBlame_3 (by decide) ?_
              refine sg_icmpN_ge (pc := 5) (a := 3) (b := 6) 38 hC dX6_sourceToBlame_5 (by decide) (by decide) (by decide) (fun h561 => absurd h561 (by decide)) (fun _ => ?_)
              refine sg_iload_n (pc := 8) (x := nI w) hC dX6_sourceToBlame_8 rfl ?_
              refine sg_iload_n (pc := 9) (x := nI 3) hC dX6_sourceToBlame_9 rfl ?_
              refine sg_ishrN (pc := 10) (a := w) (b := 3) hC dX6_sourceToBlame_10 (by first | omega | decide | exact Nat.lt_of_le_of_lt jshr (by omega) | exact Nat.lt_of_le_of_lt jand1 (by decide)) (by first | omega | decide | exact Nat.lt_of_le_of_lt jshr (by omega) | exact Nat.lt_of_le_of_lt jand1 (by decide)) ?_
              refine sg_iconst (pc := 11) (nI 1) hC dX6_sourceToBlame_11 (by decide) ?_
              refine sg_iandN (pc := 12) (a := w >>> 3) (b := 1) hC dX6_sourceToBlame_12 ?_
              refine sg_iconst (pc := 13) (nI 1) hC dX6_sourceToBlame_13 (by decide) ?_
              refine sg_icmpN_ne (pc := 14) (a := (w >>> 3) &&& 1) (b := 1) 32 hC dX6_sourceToBlame_14 (by decide) (by first | omega | decide | exact Nat.lt_of_le_of_lt jshr (by omega) | exact Nat.lt_of_le_of_lt jand1 (by decide)) (by first | omega | decide | exact Nat.lt_of_le_of_lt jshr (by omega) | exact Nat.lt_of_le_of_lt jand1 (by decide)) (fun h562 => ?_) (fun h562 => ?_)
              · refine sg_iincN (pc := 32) (a := 3) (b := 4) hC dX6_sourceToBlame_32 rfl (nI_1 _) (by decide) ?_
                show sg_W X M 0 0 35 [some (.ref ca), some (.int (nI w)), some (.ref b), some (.int (nI 4))] []
                refine sg_goto (pc := 35) 2 hC dX6_sourceToBlame_35 (by decide) ?_
                refine sg_iload_n (pc := 2) (x := nI 4) hC dX6_sourceToBlame_2 rfl ?_
                refine sg_bipush (pc := 3) (nI 6) hC dX6_sourceToBlame_3 (by decide) ?_
                refine sg_icmpN_ge (pc := 5) (a := 4) (b := 6) 38 hC dX6_sourceToBlame_5 (by decide) (by decide) (by decide) (fun h563 => absurd h563 (by decide)) (fun _ => ?_)
                refine sg_iload_n (pc := 8) (x := nI w) hC dX6_sourceToBlame_8 rfl ?_
                refine sg_iload_n (pc := 9) (x := nI 4) hC dX6_sourceToBlame_9 rfl ?_
                refine sg_ishrN (pc := 10) (a := w) (b := 4) hC dX6_sourceToBlame_10 (by first | omega | decide | exact Nat.lt_of_le_of_lt jshr (by omega) | exact Nat.lt_of_le_of_lt jand1 (by decide)) (by first | omega | decide | exact Nat.lt_of_le_of_lt jshr (by omega) | exact Nat.lt_of_le_of_lt jand1 (by decide)) ?_
                refine sg_iconst (pc := 11) (nI 1) hC dX6_sourceToBlame_11 (by decide) ?_
                refine sg_iandN (pc := 12) (a := w >>> 4) (b := 1) hC dX6_sourceToBlame_12 ?_
                refine sg_iconst (pc := 13) (nI 1) hC dX6_sourceToBlame_13 (by decide) ?_
                refine sg_icmpN_ne (pc := 14) (a := (w >>> 4) &&& 1) (b := 1) 32 hC dX6_sourceToBlame_14 (by decide) (by first | omega | decide | exact Nat.lt_of_le_of_lt jshr (by omega) | exact Nat.lt_of_le_of_lt jand1 (by decide)) (by first | omega | decide | exact Nat.lt_of_le_of_lt jshr (by omega) | exact Nat.lt_of_le_of_lt jand1 (by decide)) (fun h564 => ?_) (fun h564 => ?_)
                · refine sg_iincN (pc := 32) (a := 4) (b := 5) hC dX6_sourceToBlame_32 rfl (nI_1 _) (by decide) ?_
                  show sg_W X M 0 0 35 [some (.ref ca), some (.int (nI w)), some (.ref b), some (.int (nI 5))] []
                  refine sg_goto (pc := 35) 2 hC dX6_sourceToBlame_35 (by decide) ?_
                  refine sg_iload_n (pc := 2) (x := nI 5) hC dX6_sourceToBlame_2 rfl ?_
                  refine sg_bipush (pc := 3) (nI 6) hC dX6_sourceToBlame_3 (by decide) ?_
                  refine sg_icmpN_ge (pc := 5) (a := 5) (b := 6) 38 hC dX6_sourceToBlame_5 (by decide) (by decide) (by decide) (fun h565 => absurd h565 (by decide)) (fun _ => ?_)
                  refine sg_iload_n (pc := 8) (x := nI w) hC dX6_sourceToBlame_8 rfl ?_
                  refine sg_iload_n (pc := 9) (x := nI 5) hC dX6_sourceToBlame_9 rfl ?_
                  refine sg_ishrN (pc := 10) (a := w) (b := 5) hC dX6_sourceToBlame_10 (by first | omega | decide | exact Nat.lt_of_le_of_lt jshr (by omega) | exact Nat.lt_of_le_of_lt jand1 (by decide)) (by first | omega | decide | exact Nat.lt_of_le_of_lt jshr (by omega) | exact Nat.lt_of_le_of_lt jand1 (by decide)) ?_
                  refine sg_iconst (pc := 11) (nI 1) hC dX6_sourceToBlame_11 (by decide) ?_
                  refine sg_iandN (pc := 12) (a := w >>> 5) (b := 1) hC dX6_sourceToBlame_12 ?_
                  refine sg_iconst (pc := 13) (nI 1) hC dX6_sourceToBlame_13 (by decide) ?_
                  refine sg_icmpN_ne (pc := 14) (a := (w >>> 5) &&& 1) (b := 1) 32 hC dX6_sourceToBlame_14 (by decide) (by first | omega | decide | exact Nat.lt_of_le_of_lt jshr (by omega) | exact Nat.lt_of_le_of_lt jand1 (by decide)) (by first | omega | decide | exact Nat.lt_of_le_of_lt jshr (by omega) | exact Nat.lt_of_le_of_lt jand1 (by decide)) (fun h566 => ?_) (fun h566 => ?_)
                  · refine sg_iincN (pc := 32) (a := 5) (b := 6) hC dX6_sourceToBlame_32 rfl (nI_1 _) (by decide) ?_
                    show sg_W X M 0 0 35 [some (.ref ca), some (.int (nI w)), some (.ref b), some (.int (nI 6))] []
                    refine sg_goto (pc := 35) 2 hC dX6_sourceToBlame_35 (by decide) ?_
                    refine sg_iload_n (pc := 2) (x := nI 6) hC dX6_sourceToBlame_2 rfl ?_
                    refine sg_bipush (pc := 3) (nI 6) hC dX6_sourceToBlame_3 (by decide) ?_
                    refine sg_icmpN_ge (pc := 5) (a := 6) (b := 6) 38 hC dX6_sourceToBlame_5 (by decide) (by decide) (by decide) (fun _ => ?_) (fun h567 => absurd h567 (by decide))
                    refine sg_iconst (pc := 38) (((-1))) hC dX6_sourceToBlame_38 (by decide) ?_
                    have e9 : k_blm N w t = none := by rw [k_blm]; simp only [if_pos h2, if_pos h320, if_pos h322, if_pos h480, if_pos h482, if_pos h560, if_neg h562, if_neg h564, if_neg h566]
                    rw [e9] at hk
                    exact sg_ireturn (st := []) (v := md_o none) (pc := 39) hC hR dX6_sourceToBlame_39 hk
                  · refine sg_aload_n (pc := 17) (v := .ref ca) hC dX6_sourceToBlame_17 rfl rfl ?_
                    refine sg_get (pc := 18) (a := ca) (v := .ref so) 2 hC rfl inw_X6 (by decide) tw_195 dX6_sourceToBlame_18 hX rfl ?_
                    refine sg_iload_n (pc := 21) (x := nI 5) hC dX6_sourceToBlame_21 rfl ?_
                    refine sg_aald8 (pc := 22) (i := nI 5) hC dX6_sourceToBlame_22 hSo (vp_in_nI (by first | omega | decide | exact Nat.lt_of_le_of_lt jshr (by omega) | exact Nat.lt_of_le_of_lt jand1 (by decide)) (by first | omega | decide | exact Nat.lt_of_le_of_lt jshr (by omega) | exact Nat.lt_of_le_of_lt jand1 (by decide))) ?_
                    rw [nI_clamp (by first | omega | decide | exact Nat.lt_of_le_of_lt jshr (by omega) | exact Nat.lt_of_le_of_lt jand1 (by decide))]
                    obtain ⟨q568, hq569, hs570⟩ := hG 5 (by omega)
                    rw [hq569]
                    obtain ⟨la571, f572, hc573, -, -⟩ := id hs570
                    show sg_W X M 0 0 23 [some (.ref ca), some (.int (nI w)), some (.ref b), some (.int (nI 5))] [.ref q568]
                    refine sg_aload_n (pc := 23) (v := .ref b) hC dX6_sourceToBlame_23 rfl rfl ?_
                    refine sg_callV (pc := 24) (As := [.ref b]) (rest := []) (mc := 0) (ms := 0) hC tw_965 tw_966 tw_967 tw_70 tw_968 yd_X5_isGranted (by decide) (ci := 8) rfl dX6_sourceToBlame_24 hc573 rfl (Nat.le_of_ble_eq_true rfl) (by first | omega | decide | exact Nat.lt_of_le_of_lt jshr (by omega) | exact Nat.lt_of_le_of_lt jand1 (by decide)) (by first | omega | decide | exact Nat.lt_of_le_of_lt jshr (by omega) | exact Nat.lt_of_le_of_lt jand1 (by decide)) ?_
                    refine c_granted htr hW (by omega) hs570 hB ?_
                    show sg_W X M 0 0 27 [some (.ref ca), some (.int (nI w)), some (.ref b), some (.int (nI 5))] [.int (md_b ((isg (gl N 5) t)))]
                    refine sg_ifB_ne (pc := 27) (b := (isg (gl N 5) t)) 32 hC dX6_sourceToBlame_27 (by decide) (fun h574 => ?_) (fun h574 => ?_)
                    · refine sg_iincN (pc := 32) (a := 5) (b := 6) hC dX6_sourceToBlame_32 rfl (nI_1 _) (by decide) ?_
                      show sg_W X M 0 0 35 [some (.ref ca), some (.int (nI w)), some (.ref b), some (.int (nI 6))] []
                      refine sg_goto (pc := 35) 2 hC dX6_sourceToBlame_35 (by decide) ?_
                      refine sg_iload_n (pc := 2) (x := nI 6) hC dX6_sourceToBlame_2 rfl ?_
                      refine sg_bipush (pc := 3) (nI 6) hC dX6_sourceToBlame_3 (by decide) ?_
                      refine sg_icmpN_ge (pc := 5) (a := 6) (b := 6) 38 hC dX6_sourceToBlame_5 (by decide) (by decide) (by decide) (fun _ => ?_) (fun h575 => absurd h575 (by decide))
                      refine sg_iconst (pc := 38) (((-1))) hC dX6_sourceToBlame_38 (by decide) ?_
                      have e9 : k_blm N w t = none := by rw [k_blm]; simp only [if_pos h2, if_pos h320, if_pos h322, if_pos h480, if_pos h482, if_pos h560, if_neg h562, if_neg h564, if_pos h566, if_pos h574]
                      rw [e9] at hk
                      exact sg_ireturn (st := []) (v := md_o none) (pc := 39) hC hR dX6_sourceToBlame_39 hk
                    · refine sg_iload_n (pc := 30) (x := nI 5) hC dX6_sourceToBlame_30 rfl ?_
                      have e9 : k_blm N w t = some 5 := by rw [k_blm]; simp only [if_pos h2, if_pos h320, if_pos h322, if_pos h480, if_pos h482, if_pos h560, if_neg h562, if_neg h564, if_pos h566, if_neg (ts9 h574)]
                      rw [e9] at hk
                      exact sg_ireturn (st := []) (v := md_o (some 5)) (pc := 31) hC hR dX6_sourceToBlame_31 hk
                · refine sg_aload_n (pc := 17) (v := .ref ca) hC dX6_sourceToBlame_17 rfl rfl ?_
                  refine sg_get (pc := 18) (a := ca) (v := .ref so) 2 hC rfl inw_X6 (by decide) tw_195 dX6_sourceToBlame_18 hX rfl ?_
                  refine sg_iload_n (pc := 21) (x := nI 4) hC dX6_sourceToBlame_21 rfl ?_
                  refine sg_aald8 (pc := 22) (i := nI 4) hC dX6_sourceToBlame_22 hSo (vp_in_nI (by first | omega | decide | exact Nat.lt_of_le_of_lt jshr (by omega) | exact Nat.lt_of_le_of_lt jand1 (by decide)) (by first | omega | decide | exact Nat.lt_of_le_of_lt jshr (by omega) | exact Nat.lt_of_le_of_lt jand1 (by decide))) ?_
                  rw [nI_clamp (by first | omega | decide | exact Nat.lt_of_le_of_lt jshr (by omega) | exact Nat.lt_of_le_of_lt jand1 (by decide))]
                  obtain ⟨q576, hq577, hs578⟩ := hG 4 (by omega)
                  rw [hq577]
                  obtain ⟨la579, f580, hc581, -, -⟩ := id hs578
                  show sg_W X M 0 0 23 [some (.ref ca), some (.int (nI w)), some (.ref b), some (.int (nI 4))] [.ref q576]
                  refine sg_aload_n (pc := 23) (v := .ref b) hC dX6_sourceToBlame_23 rfl rfl ?_
                  refine sg_callV (pc := 24) (As := [.ref b]) (rest := []) (mc := 0) (ms := 0) hC tw_965 tw_966 tw_967 tw_70 tw_968 yd_X5_isGranted (by decide) (ci := 8) rfl dX6_sourceToBlame_24 hc581 rfl (Nat.le_of_ble_eq_true rfl) (by first | omega | decide | exact Nat.lt_of_le_of_lt jshr (by omega) | exact Nat.lt_of_le_of_lt jand1 (by decide)) (by first | omega | decide | exact Nat.lt_of_le_of_lt jshr (by omega) | exact Nat.lt_of_le_of_lt jand1 (by decide)) ?_
                  refine c_granted htr hW (by omega) hs578 hB ?_
                  show sg_W X M 0 0 27 [some (.ref ca), some (.int (nI w)), some (.ref b), some (.int (nI 4))] [.int (md_b ((isg (gl N 4) t)))]
                  refine sg_ifB_ne (pc := 27) (b := (isg (gl N 4) t)) 32 hC dX6_sourceToBlame_27 (by decide) (fun h582 => ?_) (fun h582 => ?_)
                  · refine sg_iincN (pc := 32) (a := 4) (b := 5) hC dX6_sourceToBlame_32 rfl (nI_1 _) (by decide) ?_
                    show sg_W X M 0 0 35 [some (.ref ca), some (.int (nI w)), some (.ref b), some (.int (nI 5))] []
                    refine sg_goto (pc := 35) 2 hC dX6_sourceToBlame_35 (by decide) ?_
                    refine sg_iload_n (pc := 2) (x := nI 5) hC dX6_sourceToBlame_2 rfl ?_
                    refine sg_bipush (pc := 3) (nI 6) hC dX6_sourceToBlame_3 (by decide) ?_
                    refine sg_icmpN_ge (pc := 5) (a := 5) (b := 6) 38 hC dX6_sourceToBlame_5 (by decide) (by decide) (by decide) (fun h583 => absurd h583 (by decide)) (fun _ => ?_)
                    refine sg_iload_n (pc := 8) (x := nI w) hC dX6_sourceToBlame_8 rfl ?_
                    refine sg_iload_n (pc := 9) (x := nI 5) hC dX6_sourceToBlame_9 rfl ?_
                    refine sg_ishrN (pc := 10) (a := w) (b := 5) hC dX6_sourceToBlame_10 (by first | omega | decide | exact Nat.lt_of_le_of_lt jshr (by omega) | exact Nat.lt_of_le_of_lt jand1 (by decide)) (by first | omega | decide | exact Nat.lt_of_le_of_lt jshr (by omega) | exact Nat.lt_of_le_of_lt jand1 (by decide)) ?_
                    refine sg_iconst (pc := 11) (nI 1) hC dX6_sourceToBlame_11 (by decide) ?_
                    refine sg_iandN (pc := 12) (a := w >>> 5) (b := 1) hC dX6_sourceToBlame_12 ?_
                    refine sg_iconst (pc := 13) (nI 1) hC dX6_sourceToBlame_13 (by decide) ?_
                    refine sg_icmpN_ne (pc := 14) (a := (w >>> 5) &&& 1) (b := 1) 32 hC dX6_sourceToBlame_14 (by decide) (by first | omega | decide | exact Nat.lt_of_le_of_lt jshr (by omega) | exact Nat.lt_of_le_of_lt jand1 (by decide)) (by first | omega | decide | exact Nat.lt_of_le_of_lt jshr (by omega) | exact Nat.lt_of_le_of_lt jand1 (by decide)) (fun h584 => ?_) (fun h584 => ?_)
                    · refine sg_iincN (pc := 32) (a := 5) (b := 6) hC dX6_sourceToBlame_32 rfl (nI_1 _) (by decide) ?_
                      show sg_W X M 0 0 35 [some (.ref ca), some (.int (nI w)), some (.ref b), some (.int (nI 6))] []
                      refine sg_goto (pc := 35) 2 hC dX6_sourceToBlame_35 (by decide) ?_
                      refine sg_iload_n (pc := 2) (x := nI 6) hC dX6_sourceToBlame_2 rfl ?_
                      refine sg_bipush (pc := 3) (nI 6) hC dX6_sourceToBlame_3 (by decide) ?_
                      refine sg_icmpN_ge (pc := 5) (a := 6) (b := 6) 38 hC dX6_sourceToBlame_5 (by decide) (by decide) (by decide) (fun _ => ?_) (fun h585 => absurd h585 (by decide))
                      refine sg_iconst (pc := 38) (((-1))) hC dX6_sourceToBlame_38 (by decide) ?_
                      have e9 : k_blm N w t = none := by rw [k_blm]; simp only [if_pos h2, if_pos h320, if_pos h322, if_pos h480, if_pos h482, if_pos h560, if_neg h562, if_pos h564, if_pos h582, if_neg h584]
                      rw [e9] at hk
                      exact sg_ireturn (st := []) (v := md_o none) (pc := 39) hC hR dX6_sourceToBlame_39 hk
                    · refine sg_aload_n (pc := 17) (v := .ref ca) hC dX6_sourceToBlame_17 rfl rfl ?_
                      refine sg_get (pc := 18) (a := ca) (v := .ref so) 2 hC rfl inw_X6 (by decide) tw_195 dX6_sourceToBlame_18 hX rfl ?_
                      refine sg_iload_n (pc := 21) (x := nI 5) hC dX6_sourceToBlame_21 rfl ?_
                      refine sg_aald8 (pc := 22) (i := nI 5) hC dX6_sourceToBlame_22 hSo (vp_in_nI (by first | omega | decide | exact Nat.lt_of_le_of_lt jshr (by omega) | exact Nat.lt_of_le_of_lt jand1 (by decide)) (by first | omega | decide | exact Nat.lt_of_le_of_lt jshr (by omega) | exact Nat.lt_of_le_of_lt jand1 (by decide))) ?_
                      rw [nI_clamp (by first | omega | decide | exact Nat.lt_of_le_of_lt jshr (by omega) | exact Nat.lt_of_le_of_lt jand1 (by decide))]
                      obtain ⟨q586, hq587, hs588⟩ := hG 5 (by omega)
                      rw [hq587]
                      obtain ⟨la589, f590, hc591, -, -⟩ := id hs588
                      show sg_W X M 0 0 23 [some (.ref ca), some (.int (nI w)), some (.ref b), some (.int (nI 5))] [.ref q586]
                      refine sg_aload_n (pc := 23) (v := .ref b) hC dX6_sourceToBlame_23 rfl rfl ?_
                      refine sg_callV (pc := 24) (As := [.ref b]) (rest := []) (mc := 0) (ms := 0) hC tw_965 tw_966 tw_967 tw_70 tw_968 yd_X5_isGranted (by decide) (ci := 8) rfl dX6_sourceToBlame_24 hc591 rfl (Nat.le_of_ble_eq_true rfl) (by first | omega | decide | exact Nat.lt_of_le_of_lt jshr (by omega) | exact Nat.lt_of_le_of_lt jand1 (by decide)) (by first | omega | decide | exact Nat.lt_of_le_of_lt jshr (by omega) | exact Nat.lt_of_le_of_lt jand1 (by decide)) ?_
                      refine c_granted htr hW (by omega) hs588 hB ?_
                      show sg_W X M 0 0 27 [some (.ref ca), some (.int (nI w)), some (.ref b), some (.int (nI 5))] [.int (md_b ((isg (gl N 5) t)))]
                      refine sg_ifB_ne (pc := 27) (b := (isg (gl N 5) t)) 32 hC dX6_sourceToBlame_27 (by decide) (fun h592 => ?_) (fun h592 => ?_)
                      · refine sg_iincN (pc := 32) (a := 5) (b := 6) hC dX6_sourceToBlame_32 rfl (nI_1 _) (by decide) ?_
                        show sg_W X M 0 0 35 [some (.ref ca), some (.int (nI w)), some (.ref b), some (.int (nI 6))] []
                        refine sg_goto (pc := 35) 2 hC dX6_sourceToBlame_35 (by decide) ?_
                        refine sg_iload_n (pc := 2) (x := nI 6) hC dX6_sourceToBlame_2 rfl ?_
                        refine sg_bipush (pc := 3) (nI 6) hC dX6_sourceToBlame_3 (by decide) ?_
                        refine sg_icmpN_ge (pc := 5) (a := 6) (b := 6) 38 hC dX6_sourceToBlame_5 (by decide) (by decide) (by decide) (fun _ => ?_) (fun h593 => absurd h593 (by decide))
                        refine sg_iconst (pc := 38) (((-1))) hC dX6_sourceToBlame_38 (by decide) ?_
                        have e9 : k_blm N w t = none := by rw [k_blm]; simp only [if_pos h2, if_pos h320, if_pos h322, if_pos h480, if_pos h482, if_pos h560, if_neg h562, if_pos h564, if_pos h582, if_pos h584, if_pos h592]
                        rw [e9] at hk
                        exact sg_ireturn (st := []) (v := md_o none) (pc := 39) hC hR dX6_sourceToBlame_39 hk
                      · refine sg_iload_n (pc := 30) (x := nI 5) hC dX6_sourceToBlame_30 rfl ?_
                        have e9 : k_blm N w t = some 5 := by rw [k_blm]; simp only [if_pos h2, if_pos h320, if_pos h322, if_pos h480, if_pos h482, if_pos h560, if_neg h562, if_pos h564, if_pos h582, if_pos h584, if_neg (ts9 h592)]
                        rw [e9] at hk
                        exact sg_ireturn (st := []) (v := md_o (some 5)) (pc := 31) hC hR dX6_sourceToBlame_31 hk
                  · refine sg_iload_n (pc := 30) (x := nI 4) hC dX6_sourceToBlame_30 rfl ?_
                    have e9 : k_blm N w t = some 4 := by rw [k_blm]; simp only [if_pos h2, if_pos h320, if_pos h322, if_pos h480, if_pos h482, if_pos h560, if_neg h562, if_pos h564, if_neg (ts9 h582)]
                    rw [e9] at hk
                    exact sg_ireturn (st := []) (v := md_o (some 4)) (pc := 31) hC hR dX6_sourceToBlame_31 hk
              · refine sg_aload_n (pc := 17) (v := .ref ca) hC dX6_sourceToBlame_17 rfl rfl ?_
                refine sg_get (pc := 18) (a := ca) (v := .ref so) 2 hC rfl inw_X6 (by decide) tw_195 dX6_sourceToBlame_18 hX rfl ?_
                refine sg_iload_n (pc := 21) (x := nI 3) hC dX6_sourceToBlame_21 rfl ?_
                refine sg_aald8 (pc := 22) (i := nI 3) hC dX6_sourceToBlame_22 hSo (vp_in_nI (by first | omega | decide | exact Nat.lt_of_le_of_lt jshr (by omega) | exact Nat.lt_of_le_of_lt jand1 (by decide)) (by first | omega | decide | exact Nat.lt_of_le_of_lt jshr (by omega) | exact Nat.lt_of_le_of_lt jand1 (by decide))) ?_
                rw [nI_clamp (by first | omega | decide | exact Nat.lt_of_le_of_lt jshr (by omega) | exact Nat.lt_of_le_of_lt jand1 (by decide))]
                obtain ⟨q594, hq595, hs596⟩ := hG 3 (by omega)
                rw [hq595]
                obtain ⟨la597, f598, hc599, -, -⟩ := id hs596
                show sg_W X M 0 0 23 [some (.ref ca), some (.int (nI w)), some (.ref b), some (.int (nI 3))] [.ref q594]
                refine sg_aload_n (pc := 23) (v := .ref b) hC dX6_sourceToBlame_23 rfl rfl ?_
                refine sg_callV (pc := 24) (As := [.ref b]) (rest := []) (mc := 0) (ms := 0) hC tw_965 tw_966 tw_967 tw_70 tw_968 yd_X5_isGranted (by decide) (ci := 8) rfl dX6_sourceToBlame_24 hc599 rfl (Nat.le_of_ble_eq_true rfl) (by first | omega | decide | exact Nat.lt_of_le_of_lt jshr (by omega) | exact Nat.lt_of_le_of_lt jand1 (by decide)) (by first | omega | decide | exact Nat.lt_of_le_of_lt jshr (by omega) | exact Nat.lt_of_le_of_lt jand1 (by decide)) ?_
                refine c_granted htr hW (by omega) hs596 hB ?_
                show sg_W X M 0 0 27 [some (.ref ca), some (.int (nI w)), some (.ref b), some (.int (nI 3))] [.int (md_b ((isg (gl N 3) t)))]
                refine sg_ifB_ne (pc := 27) (b := (isg (gl N 3) t)) 32 hC dX6_sourceToBlame_27 (by decide) (fun h600 => ?_) (fun h600 => ?_)
                · refine sg_iincN (pc := 32) (a := 3) (b := 4) hC dX6_sourceToBlame_32 rfl (nI_1 _) (by decide) ?_
                  show sg_W X M 0 0 35 [some (.ref ca), some (.int (nI w)), some (.ref b), some (.int (nI 4))] []
                  refine sg_goto (pc := 35) 2 hC dX6_sourceToBlame_35 (by decide) ?_
                  refine sg_iload_n (pc := 2) (x := nI 4) hC dX6_sourceToBlame_2 rfl ?_
                  refine sg_bipush (pc := 3) (nI 6) hC dX6_sourceToBlame_3 (by decide) ?_
                  refine sg_icmpN_ge (pc := 5) (a := 4) (b := 6) 38 hC dX6_sourceToBlame_5 (by decide) (by decide) (by decide) (fun h601 => absurd h601 (by decide)) (fun _ => ?_)
                  refine sg_iload_n (pc := 8) (x := nI w) hC dX6_sourceToBlame_8 rfl ?_
                  refine sg_iload_n (pc := 9) (x := nI 4) hC dX6_sourceToBlame_9 rfl ?_
                  refine sg_ishrN (pc := 10) (a := w) (b := 4) hC dX6_sourceToBlame_10 (by first | omega | decide | exact Nat.lt_of_le_of_lt jshr (by omega) | exact Nat.lt_of_le_of_lt jand1 (by decide)) (by first | omega | decide | exact Nat.lt_of_le_of_lt jshr (by omega) | exact Nat.lt_of_le_of_lt jand1 (by decide)) ?_
                  refine sg_iconst (pc := 11) (nI 1) hC dX6_sourceToBlame_11 (by decide) ?_
                  refine sg_iandN (pc := 12) (a := w >>> 4) (b := 1) hC dX6_sourceToBlame_12 ?_
                  refine sg_iconst (pc := 13) (nI 1) hC dX6_sourceToBlame_13 (by decide) ?_
                  refine sg_icmpN_ne (pc := 14) (a := (w >>> 4) &&& 1) (b := 1) 32 hC dX6_sourceToBlame_14 (by decide) (by first | omega | decide | exact Nat.lt_of_le_of_lt jshr (by omega) | exact Nat.lt_of_le_of_lt jand1 (by decide)) (by first | omega | decide | exact Nat.lt_of_le_of_lt jshr (by omega) | exact Nat.lt_of_le_of_lt jand1 (by decide)) (fun h602 => ?_) (fun h602 => ?_)
                  · refine sg_iincN (pc := 32) (a := 4) (b := 5) hC dX6_sourceToBlame_32 rfl (nI_1 _) (by decide) ?_
                    show sg_W X M 0 0 35 [some (.ref ca), some (.int (nI w)), some (.ref b), some (.int (nI 5))] []
                    refine sg_goto (pc := 35) 2 hC dX6_sourceToBlame_35 (by decide) ?_
                    refine sg_iload_n (pc := 2) (x := nI 5) hC dX6_sourceToBlame_2 rfl ?_
                    refine sg_bipush (pc := 3) (nI 6) hC dX6_sourceToBlame_3 (by decide) ?_
                    refine sg_icmpN_ge (pc := 5) (a := 5) (b := 6) 38 hC dX6_sourceToBlame_5 (by decide) (by decide) (by decide) (fun h603 => absurd h603 (by decide)) (fun _ => ?_)
                    refine sg_iload_n (pc := 8) (x := nI w) hC dX6_sourceToBlame_8 rfl ?_
                    refine sg_iload_n (pc := 9) (x := nI 5) hC dX6_sourceToBlame_9 rfl ?_
                    refine sg_ishrN (pc := 10) (a := w) (b := 5) hC dX6_sourceToBlame_10 (by first | omega | decide | exact Nat.lt_of_le_of_lt jshr (by omega) | exact Nat.lt_of_le_of_lt jand1 (by decide)) (by first | omega | decide | exact Nat.lt_of_le_of_lt jshr (by omega) | exact Nat.lt_of_le_of_lt jand1 (by decide)) ?_
                    refine sg_iconst (pc := 11) (nI 1) hC dX6_sourceToBlame_11 (by decide) ?_
                    refine sg_iandN (pc := 12) (a := w >>> 5) (b := 1) hC dX6_sourceToBlame_12 ?_
                    refine sg_iconst (pc := 13) (nI 1) hC dX6_sourceToBlame_13 (by decide) ?_
                    refine sg_icmpN_ne (pc := 14) (a := (w >>> 5) &&& 1) (b := 1) 32 hC dX6_sourceToBlame_14 (by decide) (by first | omega | decide | exact Nat.lt_of_le_of_lt jshr (by omega) | exact Nat.lt_of_le_of_lt jand1 (by decide)) (by first | omega | decide | exact Nat.lt_of_le_of_lt jshr (by omega) | exact Nat.lt_of_le_of_lt jand1 (by decide)) (fun h604 => ?_) (fun h604 => ?_)
                    · refine sg_iincN (pc := 32) (a := 5) (b := 6) hC dX6_sourceToBlame_32 rfl (nI_1 _) (by decide) ?_
                      show sg_W X M 0 0 35 [some (.ref ca), some (.int (nI w)), some (.ref b), some (.int (nI 6))] []
                      refine sg_goto (pc := 35) 2 hC dX6_sourceToBlame_35 (by decide) ?_
                      refine sg_iload_n (pc := 2) (x := nI 6) hC dX6_sourceToBlame_2 rfl ?_
                      refine sg_bipush (pc := 3) (nI 6) hC dX6_sourceToBlame_3 (by decide) ?_
                      refine sg_icmpN_ge (pc := 5) (a := 6) (b := 6) 38 hC dX6_sourceToBlame_5 (by decide) (by decide) (by decide) (fun _ => ?_) (fun h605 => absurd h605 (by decide))
                      refine sg_iconst (pc := 38) (((-1))) hC dX6_sourceToBlame_38 (by decide) ?_
                      have e9 : k_blm N w t = none := by rw [k_blm]; simp only [if_pos h2, if_pos h320, if_pos h322, if_pos h480, if_pos h482, if_pos h560, if_pos h562, if_pos h600, if_neg h602, if_neg h604]
                      rw [e9] at hk
                      exact sg_ireturn (st := []) (v := md_o none) (pc := 39) hC hR dX6_sourceToBlame_39 hk
                    · refine sg_aload_n (pc := 17) (v := .ref ca) hC dX6_sourceToBlame_17 rfl rfl ?_
                      refine sg_get (pc := 18) (a := ca) (v := .ref so) 2 hC rfl inw_X6 (by decide) tw_195 dX6_sourceToBlame_18 hX rfl ?_
                      refine sg_iload_n (pc := 21) (x := nI 5) hC dX6_sourceToBlame_21 rfl ?_
                      refine sg_aald8 (pc := 22) (i := nI 5) hC dX6_sourceToBlame_22 hSo (vp_in_nI (by first | omega | decide | exact Nat.lt_of_le_of_lt jshr (by omega) | exact Nat.lt_of_le_of_lt jand1 (by decide)) (by first | omega | decide | exact Nat.lt_of_le_of_lt jshr (by omega) | exact Nat.lt_of_le_of_lt jand1 (by decide))) ?_
                      rw [nI_clamp (by first | omega | decide | exact Nat.lt_of_le_of_lt jshr (by omega) | exact Nat.lt_of_le_of_lt jand1 (by decide))]
                      obtain ⟨q606, hq607, hs608⟩ := hG 5 (by omega)
                      rw [hq607]
                      obtain ⟨la609, f610, hc611, -, -⟩ := id hs608
                      show sg_W X M 0 0 23 [some (.ref ca), some (.int (nI w)), some (.ref b), some (.int (nI 5))] [.ref q606]
                      refine sg_aload_n (pc := 23) (v := .ref b) hC dX6_sourceToBlame_23 rfl rfl ?_
                      refine sg_callV (pc := 24) (As := [.ref b]) (rest := []) (mc := 0) (ms := 0) hC tw_965 tw_966 tw_967 tw_70 tw_968 yd_X5_isGranted (by decide) (ci := 8) rfl dX6_sourceToBlame_24 hc611 rfl (Nat.le_of_ble_eq_true rfl) (by first | omega | decide | exact Nat.lt_of_le_of_lt jshr (by omega) | exact Nat.lt_of_le_of_lt jand1 (by decide)) (by first | omega | decide | exact Nat.lt_of_le_of_lt jshr (by omega) | exact Nat.lt_of_le_of_lt jand1 (by decide)) ?_
                      refine c_granted htr hW (by omega) hs608 hB ?_
                      show sg_W X M 0 0 27 [some (.ref ca), some (.int (nI w)), some (.ref b), some (.int (nI 5))] [.int (md_b ((isg (gl N 5) t)))]
                      refine sg_ifB_ne (pc := 27) (b := (isg (gl N 5) t)) 32 hC dX6_sourceToBlame_27 (by decide) (fun h612 => ?_) (fun h612 => ?_)
                      · refine sg_iincN (pc := 32) (a := 5) (b := 6) hC dX6_sourceToBlame_32 rfl (nI_1 _) (by decide) ?_
                        show sg_W X M 0 0 35 [some (.ref ca), some (.int (nI w)), some (.ref b), some (.int (nI 6))] []
                        refine sg_goto (pc := 35) 2 hC dX6_sourceToBlame_35 (by decide) ?_
                        refine sg_iload_n (pc := 2) (x := nI 6) hC dX6_sourceToBlame_2 rfl ?_
                        refine sg_bipush (pc := 3) (nI 6) hC dX6_sourceToBlame_3 (by decide) ?_
                        refine sg_icmpN_ge (pc := 5) (a := 6) (b := 6) 38 hC dX6_sourceToBlame_5 (by decide) (by decide) (by decide) (fun _ => ?_) (fun h613 => absurd h613 (by decide))
                        refine sg_iconst (pc := 38) (((-1))) hC dX6_sourceToBlame_38 (by decide) ?_
                        have e9 : k_blm N w t = none := by rw [k_blm]; simp only [if_pos h2, if_pos h320, if_pos h322, if_pos h480, if_pos h482, if_pos h560, if_pos h562, if_pos h600, if_neg h602, if_pos h604, if_pos h612]
                        rw [e9] at hk
                        exact sg_ireturn (st := []) (v := md_o none) (pc := 39) hC hR dX6_sourceToBlame_39 hk
                      · refine sg_iload_n (pc := 30) (x := nI 5) hC dX6_sourceToBlame_30 rfl ?_
                        have e9 : k_blm N w t = some 5 := by rw [k_blm]; simp only [if_pos h2, if_pos h320, if_pos h322, if_pos h480, if_pos h482, if_pos h560, if_pos h562, if_pos h600, if_neg h602, if_pos h604, if_neg (ts9 h612)]
                        rw [e9] at hk
                        exact sg_ireturn (st := []) (v := md_o (some 5)) (pc := 31) hC hR dX6_sourceToBlame_31 hk
                  · refine sg_aload_n (pc := 17) (v := .ref ca) hC dX6_sourceToBlame_17 rfl rfl ?_
                    refine sg_get (pc := 18) (a := ca) (v := .ref so) 2 hC rfl inw_X6 (by decide) tw_195 dX6_sourceToBlame_18 hX rfl ?_
                    refine sg_iload_n (pc := 21) (x := nI 4) hC dX6_sourceToBlame_21 rfl ?_
                    refine sg_aald8 (pc := 22) (i := nI 4) hC dX6_sourceToBlame_22 hSo (vp_in_nI (by first | omega | decide | exact Nat.lt_of_le_of_lt jshr (by omega) | exact Nat.lt_of_le_of_lt jand1 (by decide)) (by first | omega | decide | exact Nat.lt_of_le_of_lt jshr (by omega) | exact Nat.lt_of_le_of_lt jand1 (by decide))) ?_
                    rw [nI_clamp (by first | omega | decide | exact Nat.lt_of_le_of_lt jshr (by omega) | exact Nat.lt_of_le_of_lt jand1 (by decide))]
                    obtain ⟨q614, hq615, hs616⟩ := hG 4 (by omega)
                    rw [hq615]
                    obtain ⟨la617, f618, hc619, -, -⟩ := id hs616
                    show sg_W X M 0 0 23 [some (.ref ca), some (.int (nI w)), some (.ref b), some (.int (nI 4))] [.ref q614]
                    refine sg_aload_n (pc := 23) (v := .ref b) hC dX6_sourceToBlame_23 rfl rfl ?_
                    refine sg_callV (pc := 24) (As := [.ref b]) (rest := []) (mc := 0) (ms := 0) hC tw_965 tw_966 tw_967 tw_70 tw_968 yd_X5_isGranted (by decide) (ci := 8) rfl dX6_sourceToBlame_24 hc619 rfl (Nat.le_of_ble_eq_true rfl) (by first | omega | decide | exact Nat.lt_of_le_of_lt jshr (by omega) | exact Nat.lt_of_le_of_lt jand1 (by decide)) (by first | omega | decide | exact Nat.lt_of_le_of_lt jshr (by omega) | exact Nat.lt_of_le_of_lt jand1 (by decide)) ?_
                    refine c_granted htr hW (by omega) hs616 hB ?_
                    show sg_W X M 0 0 27 [some (.ref ca), some (.int (nI w)), some (.ref b), some (.int (nI 4))] [.int (md_b ((isg (gl N 4) t)))]
                    refine sg_ifB_ne (pc := 27) (b := (isg (gl N 4) t)) 32 hC dX6_sourceToBlame_27 (by decide) (fun h620 => ?_) (fun h620 => ?_)
                    · refine sg_iincN (pc := 32) (a := 4) (b := 5) hC dX6_sourceToBlame_32 rfl (nI_1 _) (by decide) ?_
                      show sg_W X M 0 0 35 [some (.ref ca), some (.int (nI w)), some (.ref b), some (.int (nI 5))] []
                      refine sg_goto (pc := 35) 2 hC dX6_sourceToBlame_35 (by decide) ?_
                      refine sg_iload_n (pc := 2) (x := nI 5) hC dX6_sourceToBlame_2 rfl ?_
                      refine sg_bipush (pc := 3) (nI 6) hC dX6_sourceToBlame_3 (by decide) ?_
                      refine sg_icmpN_ge (pc := 5) (a := 5) (b := 6) 38 hC dX6_sourceToBlame_5 (by decide) (by decide) (by decide) (fun h621 => absurd h621 (by decide)) (fun _ => ?_)
                      refine sg_iload_n (pc := 8) (x := nI w) hC dX6_sourceToBlame_8 rfl ?_
                      refine sg_iload_n (pc := 9) (x := nI 5) hC dX6_sourceToBlame_9 rfl ?_
                      refine sg_ishrN (pc := 10) (a := w) (b := 5) hC dX6_sourceToBlame_10 (by first | omega | decide | exact Nat.lt_of_le_of_lt jshr (by omega) | exact Nat.lt_of_le_of_lt jand1 (by decide)) (by first | omega | decide | exact Nat.lt_of_le_of_lt jshr (by omega) | exact Nat.lt_of_le_of_lt jand1 (by decide)) ?_
                      refine sg_iconst (pc := 11) (nI 1) hC dX6_sourceToBlame_11 (by decide) ?_
                      refine sg_iandN (pc := 12) (a := w >>> 5) (b := 1) hC dX6_sourceToBlame_12 ?_
                      refine sg_iconst (pc := 13) (nI 1) hC dX6_sourceToBlame_13 (by decide) ?_
                      refine sg_icmpN_ne (pc := 14) (a := (w >>> 5) &&& 1) (b := 1) 32 hC dX6_sourceToBlame_14 (by decide) (by first | omega | decide | exact Nat.lt_of_le_of_lt jshr (by omega) | exact Nat.lt_of_le_of_lt jand1 (by decide)) (by first | omega | decide | exact Nat.lt_of_le_of_lt jshr (by omega) | exact Nat.lt_of_le_of_lt jand1 (by decide)) (fun h622 => ?_) (fun h622 => ?_)
                      · refine sg_iincN (pc := 32) (a := 5) (b := 6) hC dX6_sourceToBlame_32 rfl (nI_1 _) (by decide) ?_
                        show sg_W X M 0 0 35 [some (.ref ca), some (.int (nI w)), some (.ref b), some (.int (nI 6))] []
                        refine sg_goto (pc := 35) 2 hC dX6_sourceToBlame_35 (by decide) ?_
                        refine sg_iload_n (pc := 2) (x := nI 6) hC dX6_sourceToBlame_2 rfl ?_
                        refine sg_bipush (pc := 3) (nI 6) hC dX6_sourceToBlame_3 (by decide) ?_
                        refine sg_icmpN_ge (pc := 5) (a := 6) (b := 6) 38 hC dX6_sourceToBlame_5 (by decide) (by decide) (by decide) (fun _ => ?_) (fun h623 => absurd h623 (by decide))
                        refine sg_iconst (pc := 38) (((-1))) hC dX6_sourceToBlame_38 (by decide) ?_
                        have e9 : k_blm N w t = none := by rw [k_blm]; simp only [if_pos h2, if_pos h320, if_pos h322, if_pos h480, if_pos h482, if_pos h560, if_pos h562, if_pos h600, if_pos h602, if_pos h620, if_neg h622]
                        rw [e9] at hk
                        exact sg_ireturn (st := []) (v := md_o none) (pc := 39) hC hR dX6_sourceToBlame_39 hk
                      · refine sg_aload_n (pc := 17) (v := .ref ca) hC dX6_sourceToBlame_17 rfl rfl ?_
                        refine sg_get (pc := 18) (a := ca) (v := .ref so) 2 hC rfl inw_X6 (by decide) tw_195 dX6_sourceToBlame_18 hX rfl ?_
                        refine sg_iload_n (pc := 21) (x := nI 5) hC dX6_sourceToBlame_21 rfl ?_
                        refine sg_aald8 (pc := 22) (i := nI 5) hC dX6_sourceToBlame_22 hSo (vp_in_nI (by first | omega | decide | exact Nat.lt_of_le_of_lt jshr (by omega) | exact Nat.lt_of_le_of_lt jand1 (by decide)) (by first | omega | decide | exact Nat.lt_of_le_of_lt jshr (by omega) | exact Nat.lt_of_le_of_lt jand1 (by decide))) ?_
                        rw [nI_clamp (by first | omega | decide | exact Nat.lt_of_le_of_lt jshr (by omega) | exact Nat.lt_of_le_of_lt jand1 (by decide))]
                        obtain ⟨q624, hq625, hs626⟩ := hG 5 (by omega)
                        rw [hq625]
                        obtain ⟨la627, f628, hc629, -, -⟩ := id hs626
                        show sg_W X M 0 0 23 [some (.ref ca), some (.int (nI w)), some (.ref b), some (.int (nI 5))] [.ref q624]
                        refine sg_aload_n (pc := 23) (v := .ref b) hC dX6_sourceToBlame_23 rfl rfl ?_
                        refine sg_callV (pc := 24) (As := [.ref b]) (rest := []) (mc := 0) (ms := 0) hC tw_965 tw_966 tw_967 tw_70 tw_968 yd_X5_isGranted (by decide) (ci := 8) rfl dX6_sourceToBlame_24 hc629 rfl (Nat.le_of_ble_eq_true rfl) (by first | omega | decide | exact Nat.lt_of_le_of_lt jshr (by omega) | exact Nat.lt_of_le_of_lt jand1 (by decide)) (by first | omega | decide | exact Nat.lt_of_le_of_lt jshr (by omega) | exact Nat.lt_of_le_of_lt jand1 (by decide)) ?_
                        refine c_granted htr hW (by omega) hs626 hB ?_
                        show sg_W X M 0 0 27 [some (.ref ca), some (.int (nI w)), some (.ref b), some (.int (nI 5))] [.int (md_b ((isg (gl N 5) t)))]
                        refine sg_ifB_ne (pc := 27) (b := (isg (gl N 5) t)) 32 hC dX6_sourceToBlame_27 (by decide) (fun h630 => ?_) (fun h630 => ?_)
                        · refine sg_iincN (pc := 32) (a := 5) (b := 6) hC dX6_sourceToBlame_32 rfl (nI_1 _) (by decide) ?_
                          show sg_W X M 0 0 35 [some (.ref ca), some (.int (nI w)), some (.ref b), some (.int (nI 6))] []
                          refine sg_goto (pc := 35) 2 hC dX6_sourceToBlame_35 (by decide) ?_
                          refine sg_iload_n (pc := 2) (x := nI 6) hC dX6_sourceToBlame_2 rfl ?_
                          refine sg_bipush (pc := 3) (nI 6) hC dX6_sourceToBlame_3 (by decide) ?_
                          refine sg_icmpN_ge (pc := 5) (a := 6) (b := 6) 38 hC dX6_sourceToBlame_5 (by decide) (by decide) (by decide) (fun _ => ?_) (fun h631 => absurd h631 (by decide))
                          refine sg_iconst (pc := 38) (((-1))) hC dX6_sourceToBlame_38 (by decide) ?_
                          have e9 : k_blm N w t = none := by rw [k_blm]; simp only [if_pos h2, if_pos h320, if_pos h322, if_pos h480, if_pos h482, if_pos h560, if_pos h562, if_pos h600, if_pos h602, if_pos h620, if_pos h622, if_pos h630]
                          rw [e9] at hk
                          exact sg_ireturn (st := []) (v := md_o none) (pc := 39) hC hR dX6_sourceToBlame_39 hk
                        · refine sg_iload_n (pc := 30) (x := nI 5) hC dX6_sourceToBlame_30 rfl ?_
                          have e9 : k_blm N w t = some 5 := by rw [k_blm]; simp only [if_pos h2, if_pos h320, if_pos h322, if_pos h480, if_pos h482, if_pos h560, if_pos h562, if_pos h600, if_pos h602, if_pos h620, if_pos h622, if_neg (ts9 h630)]
                          rw [e9] at hk
                          exact sg_ireturn (st := []) (v := md_o (some 5)) (pc := 31) hC hR dX6_sourceToBlame_31 hk
                    · refine sg_iload_n (pc := 30) (x := nI 4) hC dX6_sourceToBlame_30 rfl ?_
                      have e9 : k_blm N w t = some 4 := by rw [k_blm]; simp only [if_pos h2, if_pos h320, if_pos h322, if_pos h480, if_pos h482, if_pos h560, if_pos h562, if_pos h600, if_pos h602, if_neg (ts9 h620)]
                      rw [e9] at hk
                      exact sg_ireturn (st := []) (v := md_o (some 4)) (pc := 31) hC hR dX6_sourceToBlame_31 hk
                · refine sg_iload_n (pc := 30) (x := nI 3) hC dX6_sourceToBlame_30 rfl ?_
                  have e9 : k_blm N w t = some 3 := by rw [k_blm]; simp only [if_pos h2, if_pos h320, if_pos h322, if_pos h480, if_pos h482, if_pos h560, if_pos h562, if_neg (ts9 h600)]
                  rw [e9] at hk
                  exact sg_ireturn (st := []) (v := md_o (some 3)) (pc := 31) hC hR dX6_sourceToBlame_31 hk
            · refine sg_iload_n (pc := 30) (x := nI 2) hC dX6_sourceToBlame_30 rfl ?_
              have e9 : k_blm N w t = some 2 := by rw [k_blm]; simp only [if_pos h2, if_pos h320, if_pos h322, if_pos h480, if_pos h482, if_neg (ts9 h560)]
              rw [e9] at hk
              exact sg_ireturn (st := []) (v := md_o (some 2)) (pc := 31) hC hR dX6_sourceToBlame_31 hk
        · refine sg_iload_n (pc := 30) (x := nI 1) hC dX6_sourceToBlame_30 rfl ?_
          have e9 : k_blm N w t = some 1 := by rw [k_blm]; simp only [if_pos h2, if_pos h320, if_pos h322, if_neg (ts9 h480)]
          rw [e9] at hk
          exact sg_ireturn (st := []) (v := md_o (some 1)) (pc := 31) hC hR dX6_sourceToBlame_31 hk
    · refine sg_iload_n (pc := 30) (x := nI 0) hC dX6_sourceToBlame_30 rfl ?_
      have e9 : k_blm N w t = some 0 := by rw [k_blm]; simp only [if_pos h2, if_neg (ts9 h320)]
      rw [e9] at hk
      exact sg_ireturn (st := []) (v := md_o (some 0)) (pc := 31) hC hR dX6_sourceToBlame_31 hk

theorem k_blm_eq {N : Nat → Nat → Nat} {w : Nat} {t : RQ} : k_blm N w t = blm (gl N) w t 7 0 := by
  have hb : ∀ k, (w >>> k) &&& 1 = 0 ∨ (w >>> k) &&& 1 = 1 := by
    intro k
    have h := Nat.and_le_right (n := w >>> k) (m := 1)
    omega
  have h0 : w >>> 0 = w := rfl
  unfold k_blm
  simp only [blm]
  rw [h0]
  have b0 := hb 0
  have b1 := hb 1
  have b2 := hb 2
  have b3 := hb 3
  have b4 := hb 4
  have b5 := hb 5
  rw [h0] at b0
  grind
