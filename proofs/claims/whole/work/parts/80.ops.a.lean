theorem cf_rf {M : sg_M} : sf cf M M := sf.rf
theorem set00 {N : Nat → Nat → Nat} {c : Nat} : md_set N 0 0 c 0 0 = c := by simp [md_set, va_up]
theorem isThr0 {N : Nat → Nat → Nat} {c : Nat} {v : Int32} : md_isThread (md_set N 0 0 c) v = md_isThread N v := rfl
theorem isSlot0 {N : Nat → Nat → Nat} {c : Nat} {v : Int32} : md_isSlot (md_set N 0 0 c) v = md_isSlot N v := rfl
theorem isCtx0 {N : Nat → Nat → Nat} {c : Nat} {v : Int32} : md_isContext (md_set N 0 0 c) v = md_isContext N v := rfl
theorem ms00 {N N' : Nat → Nat → Nat} (h : ms N N') : N' 0 0 = N 0 0 := h 0 0 (by omega)

set_option maxHeartbeats 400000 in
set_option maxRecDepth 100000 in
theorem c_takesIn {l : Launch} {G : sg_G} {d : Nat} {M : sg_M} {kr : Option Value → sg_M → Prop} {kx : String → sg_M → Prop} (htr : l.stackTraces = false) {ca pb sl so th cx nt : Nat} {N : Nat → Nat → Nat} {p : Int32} {q : Int32}  (hJ : cl_r G M ca pb sl so th cx nt N) (hW : WN N) (hk : ∀ M', cl_r G M' ca pb sl so th cx nt (md_takesIn N p q).2 → sf cf M M' → (md_takesIn N p q).2 0 0 = 0 → kr (some (.int (md_b (md_takesIn N p q).1))) M') (hx1 : ∀ M', cl_r G M' ca pb sl so th cx nt (md_takesIn N p q).2 → sf cf M M' → (md_takesIn N p q).2 0 0 = 1 → kx "java/util/NoSuchElementException" M') : sg_Met l G yX6_takesIn cX6_takesIn 3 (some .boolean) (d + 8) 2 12 [.ref ca, .int p, .int q] M kr kx := by
  refine sg_enter [some (.ref ca), some (.int p), some (.int q)] (by decide) htr (Nat.le_of_ble_eq_true rfl) rfl ?_
  intro X hC hR
  have hC : sg_C X l G cX6_takesIn RX6 3 (d + 8) := hC
  obtain ⟨hX, hPd, ⟨gs, hSl, hGs⟩, ⟨go, hSo, hGo⟩, ⟨gt, hTh, hGt⟩, ⟨gc, hCx, hGc⟩, hNt⟩ := id hJ
  refine sg_aload_n (pc := 0) (v := .ref ca) hC dX6_takesIn_0 rfl rfl ?_
  refine sg_iload_n (pc := 1) (x := p) hC dX6_takesIn_1 rfl ?_
  refine sg_callV (pc := 2) (As := [.int p]) (rest := []) (mc := 1) (ms := 6) hC tw_824 tw_826 tw_16 tw_62 tw_827 yd_X6_permissionIn (by decide) (ci := 9) rfl dX6_takesIn_2 hX rfl (Nat.le_of_ble_eq_true rfl) (by first | omega | decide) (by first | omega | decide) ?_
  refine c_permIn htr hX hSl hGs ?_ (fun hxf6 => sg_prop hC hR (by rw [show md_takesIn N p q = (false, md_set N 0 0 1) from by unfold md_takesIn; rw [if_neg (ts9 (show md_isSlot N p = false from hxf6))] <;> rfl] at hx1; exact hx1 M (hJ.cg hW ag.set0) cf_rf (by simp [md_set, va_up])))
  intro q1 h02 h83 h34 hq5
  obtain ⟨q7, hq8, hp9⟩ := (hGs _ h83).2 h34
  rw [hq5] at hq8
  cases hq8
  have hs10 : md_isSlot N p = true := isSlot_t (N := N) h02 h83 h34
  show sg_W X M 1 6 5 [some (.ref ca), some (.int p), some (.int q)] [.ref q1]
  refine sg_aload_n (pc := 5) (v := .ref ca) hC dX6_takesIn_5 rfl rfl ?_
  refine sg_iload_n (pc := 6) (x := q) hC dX6_takesIn_6 rfl ?_
  refine sg_callV (pc := 7) (As := [.int q]) (rest := [.ref q1]) (mc := 1) (ms := 6) hC tw_824 tw_826 tw_16 tw_62 tw_827 yd_X6_permissionIn (by decide) (ci := 9) rfl dX6_takesIn_7 hX rfl (Nat.le_of_ble_eq_true rfl) (by first | omega | decide) (by first | omega | decide) ?_
  refine c_permIn htr hX hSl hGs ?_ (fun hxf16 => sg_prop hC hR (by rw [show md_takesIn N p q = (false, md_set N 0 0 1) from by unfold md_takesIn; rw [if_pos hs10, if_neg (ts9 (show md_isSlot N q = false from hxf16))] <;> rfl] at hx1; exact hx1 M (hJ.cg hW ag.set0) cf_rf (by simp [md_set, va_up])))
  intro q11 h012 h813 h314 hq15
  obtain ⟨q17, hq18, hp19⟩ := (hGs _ h813).2 h314
  rw [hq15] at hq18
  cases hq18
  have hs20 : md_isSlot N q = true := isSlot_t (N := N) h012 h813 h314
  show sg_W X M 0 0 10 [some (.ref ca), some (.int p), some (.int q)] [.ref q11, .ref q1]
  obtain ⟨_, hx21⟩ := hp9.x
  refine sg_callV (pc := 10) (As := [.ref q11]) (rest := []) (mc := 0) (ms := 0) hC tw_837 tw_838 tw_839 tw_87 tw_840 yd_X3_includes (by decide) (ci := 6) rfl dX6_takesIn_10 hx21 rfl (Nat.le_of_ble_eq_true rfl) (by first | omega | decide) (by first | omega | decide) ?_
  refine c_incl htr hp9 hp19 ?_
  show sg_W X M 0 0 13 [some (.ref ca), some (.int p), some (.int q)] [.int (md_b ((k_incl (rq N p.toNatClampNeg) (rq N q.toNatClampNeg))))]
  have e8 : k_incl (rq N p.toNatClampNeg) (rq N q.toNatClampNeg) = md_takes (md_set N 0 0 0) p.toNatClampNeg q.toNatClampNeg := by
    rw [k_incl_eq hp9.w hp19.w]
    exact (md_takes_inc (N := N) (fun r => hW 4 r) hp9.w hp19.w).symm
  rw [e8]
  have e9 : md_takesIn N p q = (md_takes (md_set N 0 0 0) p.toNatClampNeg q.toNatClampNeg, (md_set N 0 0 0)) := by unfold md_takesIn; rw [if_pos hs10, if_pos hs20]; cases md_takes (md_set N 0 0 0) p.toNatClampNeg q.toNatClampNeg <;> rfl
  rw [e9] at hk
  exact sg_zreturn (st := []) (v := md_b (md_takes (md_set N 0 0 0) p.toNatClampNeg q.toNatClampNeg)) (pc := 13) (ty := .boolean) hC hR (md_narb _) dX6_takesIn_13 (hk M (hJ.cg hW ag.set0) cf_rf (by simp [md_set, va_up]))

set_option maxHeartbeats 400000 in
set_option maxRecDepth 100000 in
theorem c_may {l : Launch} {G : sg_G} {d : Nat} {M : sg_M} {kr : Option Value → sg_M → Prop} {kx : String → sg_M → Prop} (htr : l.stackTraces = false) {ca pb sl so th cx nt : Nat} {N : Nat → Nat → Nat} {u : Int32} {v : Int32}  (hJ : cl_r G M ca pb sl so th cx nt N) (hW : WN N) (hk : ∀ M', cl_r G M' ca pb sl so th cx nt (md_may N u v).2 → sf cf M M' → (md_may N u v).2 0 0 = 0 → kr (some (.int (md_b (md_may N u v).1))) M') (hx1 : ∀ M', cl_r G M' ca pb sl so th cx nt (md_may N u v).2 → sf cf M M' → (md_may N u v).2 0 0 = 1 → kx "java/util/NoSuchElementException" M') : sg_Met l G yX6_may cX6_may 3 (some .boolean) (d + 8) 2 12 [.ref ca, .int u, .int v] M kr kx := by
  refine sg_enter [some (.ref ca), some (.int u), some (.int v)] (by decide) htr (Nat.le_of_ble_eq_true rfl) rfl ?_
  intro X hC hR
  have hC : sg_C X l G cX6_may RX6 3 (d + 8) := hC
  obtain ⟨hX, hPd, ⟨gs, hSl, hGs⟩, ⟨go, hSo, hGo⟩, ⟨gt, hTh, hGt⟩, ⟨gc, hCx, hGc⟩, hNt⟩ := id hJ
  refine sg_aload_n (pc := 0) (v := .ref ca) hC dX6_may_0 rfl rfl ?_
  refine sg_iload_n (pc := 1) (x := u) hC dX6_may_1 rfl ?_
  refine sg_callV (pc := 2) (As := [.int u]) (rest := []) (mc := 1) (ms := 6) hC tw_863 tw_865 tw_19 tw_62 tw_866 yd_X6_sourceOf (by decide) (ci := 9) rfl dX6_may_2 hX rfl (Nat.le_of_ble_eq_true rfl) (by first | omega | decide) (by first | omega | decide) ?_
  refine c_srcOf htr hX hSo hGo ?_ (fun hxf5 => sg_prop hC hR (by rw [show md_may N u v = (false, md_set N 0 0 1) from by unfold md_may; rw [if_neg (ts9 hxf5)] <;> rfl] at hx1; exact hx1 M (hJ.cg hW ag.set0) cf_rf (by simp [md_set, va_up])))
  intro q1 h02 h83 hq4
  obtain ⟨q6, hq7, hp8⟩ := hGo _ h83
  rw [hq4] at hq7
  cases hq7
  have hs9 : md_in u (nI 0) (nI 5) = true := in_t h02 (by omega) (by decide)
  obtain ⟨la10, f11, hc12, hl13, hfp14⟩ := id hp8
  show sg_W X M 1 6 5 [some (.ref ca), some (.int u), some (.int v)] [.ref q1]
  refine sg_aload_n (pc := 5) (v := .ref ca) hC dX6_may_5 rfl rfl ?_
  refine sg_iload_n (pc := 6) (x := v) hC dX6_may_6 rfl ?_
  refine sg_callV (pc := 7) (As := [.int v]) (rest := [.ref q1]) (mc := 1) (ms := 6) hC tw_824 tw_826 tw_16 tw_62 tw_827 yd_X6_permissionIn (by decide) (ci := 9) rfl dX6_may_7 hX rfl (Nat.le_of_ble_eq_true rfl) (by first | omega | decide) (by first | omega | decide) ?_
  refine c_permIn htr hX hSl hGs ?_ (fun hxf20 => sg_prop hC hR (by rw [show md_may N u v = (false, md_set N 0 0 1) from by unfold md_may; rw [if_pos hs9, if_neg (ts9 (show md_isSlot N v = false from hxf20))] <;> rfl] at hx1; exact hx1 M (hJ.cg hW ag.set0) cf_rf (by simp [md_set, va_up])))
  intro q15 h016 h817 h318 hq19
  obtain ⟨q21, hq22, hp23⟩ := (hGs _ h817).2 h318
  rw [hq19] at hq22
  cases hq22
  have hs24 : md_isSlot N v = true := isSlot_t (N := N) h016 h817 h318
  show sg_W X M 0 0 10 [some (.ref ca), some (.int u), some (.int v)] [.ref q15, .ref q1]
  refine sg_callV (pc := 10) (As := [.ref q15]) (rest := []) (mc := 0) (ms := 0) hC tw_965 tw_966 tw_967 tw_70 tw_968 yd_X5_isGranted (by decide) (ci := 8) rfl dX6_may_10 hc12 rfl (Nat.le_of_ble_eq_true rfl) (by first | omega | decide) (by first | omega | decide) ?_
  refine c_granted htr hW h83 hp8 hp23 ?_
  show sg_W X M 0 0 13 [some (.ref ca), some (.int u), some (.int v)] [.int (md_b ((isg (gl N u.toNatClampNeg) (rq N v.toNatClampNeg))))]
  have e8 : isg (gl N u.toNatClampNeg) (rq N v.toNatClampNeg) = (md_mayDo (md_set N 0 0 0) u.toNatClampNeg v.toNatClampNeg).1 :=
    (md_mayDo_isg (N := (md_set N 0 0 0)) (fun r => hW 4 r) h83 (hW 12 _) (fun j hj => by obtain ⟨p9, -, p8⟩ := hfp14 j hj; exact p8.w) (by omega) hp23.w).symm
  rw [e8]
  have e9 : md_may N u v = ((md_mayDo (md_set N 0 0 0) u.toNatClampNeg v.toNatClampNeg).1, (md_mayDo (md_set N 0 0 0) u.toNatClampNeg v.toNatClampNeg).2) := by unfold md_may; rw [if_pos hs9, if_pos hs24]; cases (md_mayDo (md_set N 0 0 0) u.toNatClampNeg v.toNatClampNeg).1 <;> rfl
  rw [e9] at hk
  exact sg_zreturn (st := []) (v := md_b ((md_mayDo (md_set N 0 0 0) u.toNatClampNeg v.toNatClampNeg).1)) (pc := 13) (ty := .boolean) hC hR (md_narb _) dX6_may_13 (hk M (hJ.cg hW (ag.set0.tr (ag.ms (ms.mayDo _ _ _)))) cf_rf ((ms00 (ms.mayDo _ _ _)).trans set00))

set_option maxHeartbeats 400000 in
set_option maxRecDepth 100000 in
theorem c_permON {l : Launch} {G : sg_G} {d : Nat} {M : sg_M} {kr : Option Value → sg_M → Prop} {kx : String → sg_M → Prop} (htr : l.stackTraces = false) {ca pb sl so th cx nt : Nat} {N : Nat → Nat → Nat} {gs : Nat → Option Nat} {v : Int32} (hX : M ca = some (1, .inr (9, [.ref pb, .ref sl, .ref so, .ref th, .ref cx, .ref nt]))) (hSl : M sl = some (4, .inl (.object RX3, 8, .inr (.inr (.inr (.inr gs)))))) (hG : gpm M gs N) (hk0 : v = -1 → kr (some .null) M) (hk : ∀ a, v ≠ -1 → ¬ v < 0 → v.toNatClampNeg < 8 → N 3 v.toNatClampNeg ≠ 0 → gs v.toNatClampNeg = some a → kr (some (.ref a)) M) (hx : v ≠ -1 → md_isSlot N v = false → kx "java/util/NoSuchElementException" M) : sg_Met l G yX6_permissionOrNothing cX6_permissionOrNothing 2 (some (.object "StackGuard$Permission")) (d + 8) 1 6 [.ref ca, .int v] M kr kx := by
  refine sg_enter [some (.ref ca), some (.int v)] (by decide) htr (Nat.le_of_ble_eq_true rfl) rfl ?_
  intro X hC hR
  have hC : sg_C X l G cX6_permissionOrNothing RX6 2 (d + 8) := hC
  refine sg_iload_n (pc := 0) (x := v) hC dX6_permissionOrNothing_0 rfl ?_
  refine sg_iconst (pc := 1) (((-1))) hC dX6_permissionOrNothing_1 (by decide) ?_
  refine sg_icmp_ne (pc := 2) (x := v) (y := ((-1))) 9 hC dX6_permissionOrNothing_2 (by decide) (fun h1 => ?_) (fun h1 => ?_)
  · have hne : v ≠ -1 := h1
    refine sg_aload_n (pc := 9) (v := .ref ca) hC dX6_permissionOrNothing_9 rfl rfl ?_
    refine sg_iload_n (pc := 10) (x := v) hC dX6_permissionOrNothing_10 rfl ?_
    refine sg_callV (pc := 11) (As := [.int v]) (rest := []) (mc := 1) (ms := 6) hC tw_824 tw_826 tw_16 tw_62 tw_827 yd_X6_permissionIn (by decide) (ci := 9) rfl dX6_permissionOrNothing_11 hX rfl (Nat.le_of_ble_eq_true rfl) (by first | omega | decide) (by first | omega | decide) ?_
    refine c_permIn htr hX hSl hG ?_ (fun hxf7 => sg_prop hC hR (hx hne hxf7))
    intro q2 h03 h84 h35 hq6
    show sg_W X M 0 0 14 [some (.ref ca), some (.int v)] [.ref q2]
    exact sg_areturn (st := []) (v := .ref q2) (pc := 14) hC hR (Or.inl ⟨_, rfl⟩) (Or.inr ⟨_, rfl⟩) dX6_permissionOrNothing_14 (hk _ hne h03 h84 h35 hq6)
  · have hne := h1
    refine sg_null (pc := 5) hC dX6_permissionOrNothing_5 ?_
    refine sg_goto (pc := 6) 14 hC dX6_permissionOrNothing_6 (by decide) ?_
    exact sg_areturn (st := []) (v := .null) (pc := 14) hC hR (Or.inl ⟨_, rfl⟩) (Or.inl rfl) dX6_permissionOrNothing_14 (hk0 hne)

set_option maxHeartbeats 400000 in
set_option maxRecDepth 100000 in
theorem c_walk_ {l : Launch} {G : sg_G} {d : Nat} {M : sg_M} {kr : Option Value → sg_M → Prop} {kx : String → sg_M → Prop} (htr : l.stackTraces = false) {ca pb sl so th cx nt : Nat} {N : Nat → Nat → Nat} {u : Int32} {v : Int32}  (hJ : cl_r G M ca pb sl so th cx nt N) (hW : WN N) (hk : ∀ M', cl_r G M' ca pb sl so th cx nt (md_walk N u v).2 → sf cf M M' → (md_walk N u v).2 0 0 = 0 → kr (some (.int (nI (md_walk N u v).1))) M') (hx1 : ∀ M', cl_r G M' ca pb sl so th cx nt (md_walk N u v).2 → sf cf M M' → (md_walk N u v).2 0 0 = 1 → kx "java/util/NoSuchElementException" M') : sg_Met l G yX6_walk cX6_walk 3 (some .int) (d + 9) 2 12 [.ref ca, .int u, .int v] M kr kx := by
  refine sg_enter [some (.ref ca), some (.int u), some (.int v)] (by decide) htr (Nat.le_of_ble_eq_true rfl) rfl ?_
  intro X hC hR
  have hC : sg_C X l G cX6_walk RX6 3 (d + 9) := hC
  obtain ⟨hX, hPd, ⟨gs, hSl, hGs⟩, ⟨go, hSo, hGo⟩, ⟨gt, hTh, hGt⟩, ⟨gc, hCx, hGc⟩, hNt⟩ := id hJ
  refine sg_aload_n (pc := 0) (v := .ref ca) hC dX6_walk_0 rfl rfl ?_
  refine sg_iload_n (pc := 1) (x := u) hC dX6_walk_1 rfl ?_
  refine sg_callV (pc := 2) (As := [.int u]) (rest := []) (mc := 1) (ms := 6) hC tw_988 tw_990 tw_24 tw_62 tw_991 yd_X6_stackOf (by decide) (ci := 9) rfl dX6_walk_2 hX rfl (Nat.le_of_ble_eq_true rfl) (by first | omega | decide) (by first | omega | decide) ?_
  refine c_stkOf htr hX hTh hGt ?_ (fun hxf6 => sg_prop hC hR (by rw [show md_walk N u v = (0, (md_set (md_set N 0 0 0) 0 0 1)) from by unfold md_walk; rw [if_neg (ts9 (show md_isThread (md_set N 0 0 0) u = false from hxf6))] <;> rfl] at hx1; exact hx1 M (hJ.cg hW (ag.set0.tr ag.set0)) cf_rf (by simp [md_set, va_up])))
  intro q1 h02 h83 h34 hq5
  obtain ⟨q7, hq8, hp9⟩ := (hGt _ h83).2 h34
  rw [hq5] at hq8
  cases hq8
  have hs10 : md_isThread (md_set N 0 0 0) u = true := isThr_t (N := (md_set N 0 0 0)) h02 h83 h34
  obtain ⟨la11, f12, hc13, hl14, hfp15⟩ := id hp9
  show sg_W X M 1 6 5 [some (.ref ca), some (.int u), some (.int v)] [.ref q1]
  refine sg_aload_n (pc := 5) (v := .ref ca) hC dX6_walk_5 rfl rfl ?_
  refine sg_iload_n (pc := 6) (x := v) hC dX6_walk_6 rfl ?_
  refine sg_callV (pc := 7) (As := [.int v]) (rest := [.ref q1]) (mc := 1) (ms := 6) hC tw_1037 tw_1039 tw_26 tw_62 tw_1040 yd_X6_permissionOrNothing (by decide) (ci := 9) rfl dX6_walk_7 hX rfl (Nat.le_of_ble_eq_true rfl) (by first | omega | decide) (by first | omega | decide) ?_
  refine c_permON htr hX hSl hGs (fun hn26 => ?_) ?_ (fun hn27 hxf21 => sg_prop hC hR (by rw [show md_walk N u v = (0, (md_set (md_set N 0 0 0) 0 0 1)) from by unfold md_walk; rw [if_pos hs10, if_neg hn27, if_neg (ts9 (show md_isSlot (md_set N 0 0 0) v = false from hxf21))] <;> rfl] at hx1; exact hx1 M (hJ.cg hW (ag.set0.tr ag.set0)) cf_rf (by simp [md_set, va_up])))
  · show sg_W X M 0 0 10 [some (.ref ca), some (.int u), some (.int v)] [.null, .ref q1]
    refine sg_callV (pc := 10) (As := [.null]) (rest := []) (mc := 0) (ms := 0) hC tw_1056 tw_1057 tw_1058 tw_71 tw_1059 yd_X0_sourcesWalked (by decide) (ci := 3) rfl dX6_walk_10 hc13 rfl (Nat.le_of_ble_eq_true rfl) (by first | omega | decide) (by first | omega | decide) ?_
    refine c_walked (oa := none) (q := none) (N := (md_set N 0 0 0)) htr (hW.set (i := 0) (j := 0) (v := 0) (Nat.zero_le _)) (hp9.cg rfl rfl (fun k hk => ⟨rfl, rfl, fun _ => ⟨rfl, rfl⟩⟩)) (Or.inl ⟨rfl, rfl⟩) ?_
    show sg_W X M 0 0 13 [some (.ref ca), some (.int u), some (.int v)] [.int (nI (md_walked (md_set N 0 0 0) u.toNatClampNeg none))]
    have e9 : md_walk N u v = (md_walked (md_set N 0 0 0) u.toNatClampNeg none, (md_set N 0 0 0)) := by unfold md_walk; rw [if_pos hs10, if_pos hn26] <;> rfl
    rw [e9] at hk
    exact sg_ireturn (st := []) (v := nI (md_walked (md_set N 0 0 0) u.toNatClampNeg none)) (pc := 13) hC hR dX6_walk_13 (hk M (hJ.cg hW ag.set0) cf_rf (by simp [md_set, va_up]))
  · intro q16 hn27 h017 h818 h319 hq20
    obtain ⟨q22, hq23, hp24⟩ := (hGs _ h818).2 h319
    rw [hq20] at hq23
    cases hq23
    have hs25 : md_isSlot (md_set N 0 0 0) v = true := isSlot_t (N := (md_set N 0 0 0)) h017 h818 h319
    show sg_W X M 0 0 10 [some (.ref ca), some (.int u), some (.int v)] [.ref q16, .ref q1]
    refine sg_callV (pc := 10) (As := [.ref q16]) (rest := []) (mc := 0) (ms := 0) hC tw_1056 tw_1057 tw_1058 tw_71 tw_1059 yd_X0_sourcesWalked (by decide) (ci := 3) rfl dX6_walk_10 hc13 rfl (Nat.le_of_ble_eq_true rfl) (by first | omega | decide) (by first | omega | decide) ?_
    refine c_walked (oa := some q16) (q := some v.toNatClampNeg) (N := (md_set N 0 0 0)) htr (hW.set (i := 0) (j := 0) (v := 0) (Nat.zero_le _)) (hp9.cg rfl rfl (fun k hk => ⟨rfl, rfl, fun _ => ⟨rfl, rfl⟩⟩)) (Or.inr ⟨_, _, rfl, rfl, hp24⟩) ?_
    show sg_W X M 0 0 13 [some (.ref ca), some (.int u), some (.int v)] [.int (nI (md_walked (md_set N 0 0 0) u.toNatClampNeg (some v.toNatClampNeg)))]
    have e9 : md_walk N u v = (md_walked (md_set N 0 0 0) u.toNatClampNeg (some v.toNatClampNeg), (md_set N 0 0 0)) := by unfold md_walk; rw [if_pos hs10, if_neg hn27, if_pos hs25] <;> rfl
    rw [e9] at hk
    exact sg_ireturn (st := []) (v := nI (md_walked (md_set N 0 0 0) u.toNatClampNeg (some v.toNatClampNeg))) (pc := 13) hC hR dX6_walk_13 (hk M (hJ.cg hW ag.set0) cf_rf (by simp [md_set, va_up]))

theorem in_pt {v : Int32} {n : Nat} (h0 : ¬ v < 0) (h : v.toNatClampNeg < n) (hn : n < 2 ^ 31) : md_in v (nI 0) (md_p n) = true := by
  rw [md_p_pos (by omega)]
  exact in_t h0 (by omega) (by omega)
theorem in_pf {v : Int32} {n : Nat} (h : v < 0 ∨ n ≤ v.toNatClampNeg) (hn : n < 2 ^ 31) : md_in v (nI 0) (md_p n) = false := by
  by_cases h0 : v < 0
  · unfold md_in
    rw [if_pos (show v < nI 0 from h0)]
  · by_cases hz : n = 0
    · subst hz
      unfold md_in
      have e := md_nat h0
      rw [if_neg (show ¬ v < nI 0 from h0), if_pos]
      rw [e.1]
      have h9 : (md_p 0).toInt = -1 := by decide
      rw [Int32.lt_iff_toInt_lt, h9, nI_toInt e.2]
      omega
    · rw [md_p_pos hz]
      exact in_f (Or.inr (by have := h.resolve_left h0; omega)) (by omega)

set_option maxHeartbeats 400000 in
set_option maxRecDepth 100000 in
theorem c_note_ {l : Launch} {G : sg_G} {d : Nat} {M : sg_M} {kr : Option Value → sg_M → Prop} {kx : String → sg_M → Prop} (htr : l.stackTraces = false) {ca pb sl so th cx nt : Nat} {N : Nat → Nat → Nat} {i : Int32} {w : Int32}  (hJ : cl_r G M ca pb sl so th cx nt N) (hW : WN N) (hk : ∀ M', cl_r G M' ca pb sl so th cx nt (md_note N i w).2 → sf cf M M' → (md_note N i w).2 0 0 = 0 → kr (some (.int (nI (md_note N i w).1))) M') (hx1 : ∀ M', cl_r G M' ca pb sl so th cx nt (md_note N i w).2 → sf cf M M' → (md_note N i w).2 0 0 = 1 → kx "java/lang/IllegalArgumentException" M') : sg_Met l G yX6_note cX6_note 4 (some .int) (d + 7) 1 6 [.ref ca, .int i, .int w] M kr kx := by
  refine sg_enter [some (.ref ca), some (.int i), some (.int w), none] (by decide) htr (Nat.le_of_ble_eq_true rfl) rfl ?_
  intro X hC hR
  have hC : sg_C X l G cX6_note RX6 4 (d + 7) := hC
  obtain ⟨hX, hPd, ⟨gs, hSl, hGs⟩, ⟨go, hSo, hGo⟩, ⟨gt, hTh, hGt⟩, ⟨gc, hCx, hGc⟩, hNt⟩ := id hJ
  obtain ⟨fn, hLn, hFn⟩ := id hNt
  have h21 : N 21 0 ≤ 7 := hW 21 0
  refine sg_iload_n (pc := 0) (x := i) hC dX6_note_0 rfl ?_
  refine sg_if_lt (pc := 1) (x := i) 24 hC dX6_note_1 (by decide) (fun h1 => ?_) (fun h1 => ?_)
  · exact sg_throw (pc := 24) (st := []) hC hR (by decide) tw_940 tw_84 th_IAE_121_g th_IAE_121_b th_IAE_119_121_o dX6_note_24 dX6_note_27 dX6_note_28 dX6_note_31 (by decide) (by first | omega | decide) (by first | omega | decide) (by rw [show md_note N i w = (0, (md_set (md_set N 0 0 0) 0 0 1)) from by unfold md_note; rw [if_neg (ts9 (in_pf (by first | (left; assumption) | (right; omega)) (by omega)))] <;> rfl] at hx1; exact hx1 M (hJ.cg hW (ag.set0.tr ag.set0)) cf_rf (by simp [md_set, va_up]))
  · obtain ⟨hs2, hs3⟩ := md_nat h1
    rw [hs2]
    show sg_W X M 1 6 4 [some (.ref ca), some (.int (nI i.toNatClampNeg)), some (.int w), none] []
    refine sg_iload_n (pc := 4) (x := nI i.toNatClampNeg) hC dX6_note_4 rfl ?_
    refine sg_aload_n (pc := 5) (v := .ref ca) hC dX6_note_5 rfl rfl ?_
    refine sg_get (pc := 6) (a := ca) (v := .ref nt) 5 hC rfl inw_X6 (by decide) tw_198 dX6_note_6 hX rfl ?_
    obtain ⟨_, _, _, _, _, hx4, -⟩ := id hLn
    refine sg_callV (pc := 9) (As := []) (rest := [.int (nI i.toNatClampNeg)]) (mc := 0) (ms := 0) hC tw_867 tw_868 tw_869 tw_69 tw_870 yd_Jx4a65c_size_8abf5 (by decide) (ci := 2) rfl dX6_note_9 hx4 rfl (Nat.le_of_ble_eq_true rfl) (by first | omega | decide) (by first | omega | decide) ?_
    refine c_alSize htr hLn ?_
    show sg_W X M 1 6 12 [some (.ref ca), some (.int (nI i.toNatClampNeg)), some (.int w), none] [.int (nI (N 21 0)), .int (nI i.toNatClampNeg)]
    refine sg_icmpN_ge (pc := 12) (a := i.toNatClampNeg) (b := N 21 0) 24 hC dX6_note_12 (by decide) (by first | omega | decide) (by first | omega | decide) (fun h5 => ?_) (fun h5 => ?_)
    · exact sg_throw (pc := 24) (st := []) hC hR (by decide) tw_940 tw_84 th_IAE_121_g th_IAE_121_b th_IAE_119_121_o dX6_note_24 dX6_note_27 dX6_note_28 dX6_note_31 (by decide) (by first | omega | decide) (by first | omega | decide) (by rw [show md_note N i w = (0, (md_set (md_set N 0 0 0) 0 0 1)) from by unfold md_note; rw [if_neg (ts9 (in_pf (by first | (left; assumption) | (right; omega)) (by omega)))] <;> rfl] at hx1; exact hx1 M (hJ.cg hW (ag.set0.tr ag.set0)) cf_rf (by simp [md_set, va_up]))
    · refine sg_iload_n (pc := 15) (x := w) hC dX6_note_15 rfl ?_
      refine sg_if_lt (pc := 16) (x := w) 24 hC dX6_note_16 (by decide) (fun h6 => ?_) (fun h6 => ?_)
      · exact sg_throw (pc := 24) (st := []) hC hR (by decide) tw_940 tw_84 th_IAE_121_g th_IAE_121_b th_IAE_119_121_o dX6_note_24 dX6_note_27 dX6_note_28 dX6_note_31 (by decide) (by first | omega | decide) (by first | omega | decide) (by rw [show md_note N i w = (0, (md_set (md_set N 0 0 0) 0 0 1)) from by unfold md_note; rw [if_pos (in_pt (by assumption) (by omega) (by omega)), if_neg (ts9 (in_f (by first | (left; assumption) | (right; omega)) (by decide)))] <;> rfl] at hx1; exact hx1 M (hJ.cg hW (ag.set0.tr ag.set0)) cf_rf (by simp [md_set, va_up]))
      · obtain ⟨hs7, hs8⟩ := md_nat h6
        rw [hs7]
        show sg_W X M 1 6 19 [some (.ref ca), some (.int (nI i.toNatClampNeg)), some (.int (nI w.toNatClampNeg)), none] []
        refine sg_iload_n (pc := 19) (x := nI w.toNatClampNeg) hC dX6_note_19 rfl ?_
        refine sg_iconst (pc := 20) (nI 1) hC dX6_note_20 (by decide) ?_
        refine sg_icmpN_le (pc := 21) (a := w.toNatClampNeg) (b := 1) 32 hC dX6_note_21 (by decide) (by first | omega | decide) (by first | omega | decide) (fun h9 => ?_) (fun h9 => ?_)
        · refine sg_aload_n (pc := 32) (v := .ref ca) hC dX6_note_32 rfl rfl ?_
          refine sg_get (pc := 33) (a := ca) (v := .ref nt) 5 hC rfl inw_X6 (by decide) tw_198 dX6_note_33 hX rfl ?_
          refine sg_iload_n (pc := 36) (x := nI i.toNatClampNeg) hC dX6_note_36 rfl ?_
          obtain ⟨_, _, _, _, _, hx10, -⟩ := id hLn
          refine sg_callV (pc := 37) (As := [.int (nI i.toNatClampNeg)]) (rest := []) (mc := 0) (ms := 0) hC tw_1021 tw_971 tw_972 tw_69 tw_973 yd_Jx4a65c_get_915e3 (by decide) (ci := 2) rfl dX6_note_37 hx10 rfl (Nat.le_of_ble_eq_true rfl) (by first | omega | decide) (by first | omega | decide) ?_
          obtain ⟨q11, hq12, hc13⟩ := hFn i.toNatClampNeg (by omega)
          refine c_alGet htr hLn (by omega) hq12 ?_
          show sg_W X M 1 6 40 [some (.ref ca), some (.int (nI i.toNatClampNeg)), some (.int (nI w.toNatClampNeg)), none] [.ref q11]
          refine sg_castC (pc := 40) (ci := 5) hC rfl (by simp [sg_wk]) tw_1123 dX6_note_40 hc13 ?_
          refine sg_astore_n (pc := 43) (v := .ref q11) hC dX6_note_43 (by decide) rfl ?_
          show sg_W X M 1 6 44 [some (.ref ca), some (.int (nI i.toNatClampNeg)), some (.int (nI w.toNatClampNeg)), some (.ref q11)] []
          refine sg_iload_n (pc := 44) (x := nI w.toNatClampNeg) hC dX6_note_44 rfl ?_
          refine sg_ifN_ne (pc := 45) (a := w.toNatClampNeg) 55 hC dX6_note_45 (by decide) (by first | omega | decide) (fun h14 => ?_) (fun h14 => ?_)
          · refine sg_aload_n (pc := 55) (v := .ref q11) hC dX6_note_55 rfl rfl ?_
            refine sg_get (pc := 56) (a := q11) (v := .int (nI (N 22 (2 * i.toNatClampNeg + 1)))) 1 hC rfl inw_X2 (by decide) tw_1132 dX6_note_56 hc13 rfl ?_
            have hw9 : w.toNatClampNeg = 1 := by omega
            have e9 : md_note N i w = (N 22 (2 * i.toNatClampNeg + 1), (md_set N 0 0 0)) := by unfold md_note; rw [if_pos (in_pt (by assumption) (by omega) (by omega)), if_pos (in_t (by assumption) (by omega) (by decide)), hw9] <;> rfl
            rw [e9] at hk
            exact sg_ireturn (st := []) (v := nI (N 22 (2 * i.toNatClampNeg + 1))) (pc := 59) hC hR dX6_note_59 (hk M (hJ.cg hW ag.set0) cf_rf (by simp [md_set, va_up]))
          · refine sg_aload_n (pc := 48) (v := .ref q11) hC dX6_note_48 rfl rfl ?_
            refine sg_get (pc := 49) (a := q11) (v := .int (nI (N 22 (2 * i.toNatClampNeg)))) 0 hC rfl inw_X2 (by decide) tw_1130 dX6_note_49 hc13 rfl ?_
            refine sg_goto (pc := 52) 59 hC dX6_note_52 (by decide) ?_
            have hw9 : w.toNatClampNeg = 0 := by omega
            have e9 : md_note N i w = (N 22 (2 * i.toNatClampNeg), (md_set N 0 0 0)) := by unfold md_note; rw [if_pos (in_pt (by assumption) (by omega) (by omega)), if_pos (in_t (by assumption) (by omega) (by decide)), hw9] <;> rfl
            rw [e9] at hk
            exact sg_ireturn (st := []) (v := nI (N 22 (2 * i.toNatClampNeg))) (pc := 59) hC hR dX6_note_59 (hk M (hJ.cg hW ag.set0) cf_rf (by simp [md_set, va_up]))
        · exact sg_throw (pc := 24) (st := []) hC hR (by decide) tw_940 tw_84 th_IAE_121_g th_IAE_121_b th_IAE_119_121_o dX6_note_24 dX6_note_27 dX6_note_28 dX6_note_31 (by decide) (by first | omega | decide) (by first | omega | decide) (by rw [show md_note N i w = (0, (md_set (md_set N 0 0 0) 0 0 1)) from by unfold md_note; rw [if_pos (in_pt (by assumption) (by omega) (by omega)), if_neg (ts9 (in_f (by first | (left; assumption) | (right; omega)) (by decide)))] <;> rfl] at hx1; exact hx1 M (hJ.cg hW (ag.set0.tr ag.set0)) cf_rf (by simp [md_set, va_up]))

set_option maxHeartbeats 400000 in
set_option maxRecDepth 100000 in
theorem c_idle_ {l : Launch} {G : sg_G} {d : Nat} {M : sg_M} {kr : Option Value → sg_M → Prop} {kx : String → sg_M → Prop} (htr : l.stackTraces = false) {ca pb sl so th cx nt : Nat} {N : Nat → Nat → Nat} {u : Int32}  (hJ : cl_r G M ca pb sl so th cx nt N) (hW : WN N) (hk : ∀ M', cl_r G M' ca pb sl so th cx nt (md_idle N u).2 → sf cf M M' → (md_idle N u).2 0 0 = 0 → kr (some (.float (md_idle N u).1)) M') (hx1 : ∀ M', cl_r G M' ca pb sl so th cx nt (md_idle N u).2 → sf cf M M' → (md_idle N u).2 0 0 = 1 → kx "java/util/NoSuchElementException" M') : sg_Met l G yX6_idle cX6_idle 2 (some .float) (d + 9) 1 6 [.ref ca, .int u] M kr kx := by
  refine sg_enter [some (.ref ca), some (.int u)] (by decide) htr (Nat.le_of_ble_eq_true rfl) rfl ?_
  intro X hC hR
  have hC : sg_C X l G cX6_idle RX6 2 (d + 9) := hC
  obtain ⟨hX, hPd, ⟨gs, hSl, hGs⟩, ⟨go, hSo, hGo⟩, ⟨gt, hTh, hGt⟩, ⟨gc, hCx, hGc⟩, hNt⟩ := id hJ
  refine sg_aload_n (pc := 0) (v := .ref ca) hC dX6_idle_0 rfl rfl ?_
  refine sg_iload_n (pc := 1) (x := u) hC dX6_idle_1 rfl ?_
  refine sg_callV (pc := 2) (As := [.int u]) (rest := []) (mc := 1) (ms := 6) hC tw_863 tw_865 tw_19 tw_62 tw_866 yd_X6_sourceOf (by decide) (ci := 9) rfl dX6_idle_2 hX rfl (Nat.le_of_ble_eq_true rfl) (by first | omega | decide) (by first | omega | decide) ?_
  refine c_srcOf htr hX hSo hGo ?_ (fun hxf5 => sg_prop hC hR (by rw [show md_idle N u = (FP.i2f (nI 0), (md_set (md_set N 0 0 0) 0 0 1)) from by unfold md_idle; rw [if_neg (ts9 hxf5)] <;> rfl] at hx1; exact hx1 M (hJ.cg hW (ag.set0.tr ag.set0)) cf_rf (by simp [md_set, va_up])))
  intro q1 h02 h83 hq4
  obtain ⟨q6, hq7, hp8⟩ := hGo _ h83
  rw [hq4] at hq7
  cases hq7
  have hs9 : md_in u (nI 0) (nI 5) = true := in_t h02 (by omega) (by decide)
  obtain ⟨la10, f11, hc12, hl13, hfp14⟩ := id hp8
  show sg_W X M 0 0 5 [some (.ref ca), some (.int u)] [.ref q1]
  refine sg_callV (pc := 5) (As := []) (rest := []) (mc := 0) (ms := 0) hC tw_1171 tw_1172 tw_1173 tw_70 tw_1174 yd_X5_idlePart (by decide) (ci := 8) rfl dX6_idle_5 hc12 rfl (Nat.le_of_ble_eq_true rfl) (by first | omega | decide) (by first | omega | decide) ?_
  refine c_idl (g := fun j => rq N (8 + 6 * u.toNatClampNeg + j)) htr hc12 hl13 hfp14 (hW 12 _) ?_
  show sg_W X M 0 0 8 [some (.ref ca), some (.int u)] [.float (k_idl (fun j => rq N (8 + 6 * u.toNatClampNeg + j)) (N 12 u.toNatClampNeg))]
  have hq9 : ∀ j, j < N 12 u.toNatClampNeg → wq (rq N (8 + 6 * u.toNatClampNeg + j)) := fun j hj => by obtain ⟨p9, -, p8⟩ := hfp14 j hj; exact p8.w
  have h12 : N 12 u.toNatClampNeg ≤ 6 := hW 12 _
  have e9 : md_idle N u = (k_idl (fun j => rq N (8 + 6 * u.toNatClampNeg + j)) (N 12 u.toNatClampNeg), (md_set N 0 0 0)) := by
    unfold md_idle
    rw [if_pos hs9]
    by_cases hz : N 12 u.toNatClampNeg = 0
    · rw [if_pos (by omega), if_pos hz, hz]; rfl
    · rw [if_neg (by omega), md_idle_eq (N := (md_set N 0 0 0)) (s := u.toNatClampNeg) (n := N 12 u.toNatClampNeg) rfl (by omega) h12 (fun r => hW 4 r) hq9, k_idl_eq hq9 (by omega)]; rfl
  rw [e9] at hk
  exact sg_freturn (st := []) (v := k_idl (fun j => rq N (8 + 6 * u.toNatClampNeg + j)) (N 12 u.toNatClampNeg)) (pc := 8) hC hR dX6_idle_8 (hk M (hJ.cg hW ag.set0) cf_rf (by simp [md_set, va_up]))

set_option maxHeartbeats 400000 in
set_option maxRecDepth 100000 in
theorem c_written_ {l : Launch} {G : sg_G} {d : Nat} {M : sg_M} {kr : Option Value → sg_M → Prop} {kx : String → sg_M → Prop} (htr : l.stackTraces = false) {ca pb sl so th cx nt : Nat} {N : Nat → Nat → Nat} {u : Int32} {v : Int32}  (hJ : cl_r G M ca pb sl so th cx nt N) (hW : WN N) (hk : ∀ M', cl_r G M' ca pb sl so th cx nt (md_written N u v).2 → sf cf M M' → (md_written N u v).2 0 0 = 0 → kr (some (.int (md_o (md_written N u v).1))) M') (hx1 : ∀ M', cl_r G M' ca pb sl so th cx nt (md_written N u v).2 → sf cf M M' → (md_written N u v).2 0 0 = 1 → kx "java/util/NoSuchElementException" M') : sg_Met l G yX6_written cX6_written 4 (some .int) (d + 8) 1 6 [.ref ca, .int u, .int v] M kr kx := by
  refine sg_enter [some (.ref ca), some (.int u), some (.int v), none] (by decide) htr (Nat.le_of_ble_eq_true rfl) rfl ?_
  intro X hC hR
  have hC : sg_C X l G cX6_written RX6 4 (d + 8) := hC
  obtain ⟨hX, hPd, ⟨gs, hSl, hGs⟩, ⟨go, hSo, hGo⟩, ⟨gt, hTh, hGt⟩, ⟨gc, hCx, hGc⟩, hNt⟩ := id hJ
  refine sg_aload_n (pc := 0) (v := .ref ca) hC dX6_written_0 rfl rfl ?_
  refine sg_iload_n (pc := 1) (x := u) hC dX6_written_1 rfl ?_
  refine sg_callV (pc := 2) (As := [.int u]) (rest := []) (mc := 1) (ms := 6) hC tw_824 tw_826 tw_16 tw_62 tw_827 yd_X6_permissionIn (by decide) (ci := 9) rfl dX6_written_2 hX rfl (Nat.le_of_ble_eq_true rfl) (by first | omega | decide | (have h9 := hch9 _ (by assumption); omega)) (by first | omega | decide | (have h9 := hch9 _ (by assumption); omega)) ?_
  refine c_permIn htr hX hSl hGs ?_ (fun hxf6 => sg_prop hC hR (by rw [show md_written N u v = (some 0, (md_set (md_set N 0 0 0) 0 0 1)) from by unfold md_written; rw [if_neg (ts9 (show md_isSlot (md_set N 0 0 0) u = false from hxf6))] <;> rfl] at hx1; exact hx1 M (hJ.cg hW (ag.set0.tr ag.set0)) cf_rf (by simp [md_set, va_up])))
  intro q1 h02 h83 h34 hq5
  obtain ⟨q7, hq8, hp9⟩ := (hGs _ h83).2 h34
  rw [hq5] at hq8
  cases hq8
  have hs10 : md_isSlot (md_set N 0 0 0) u = true := isSlot_t (N := (md_set N 0 0 0)) h02 h83 h34
  show sg_W X M 0 0 5 [some (.ref ca), some (.int u), some (.int v), none] [.ref q1]
  obtain ⟨t11, l12, hc13, ht14, -, -⟩ := id hp9
  have hle9 := ht14.le
  have hch9 := ht14.ch
  obtain ⟨hw1, hw2, hw3⟩ := write_ok (N := (md_set N 0 0 0)) (p := u.toNatClampNeg) (hW 4 _) hp9.w
  refine sg_get (pc := 5) (a := q1) (v := .ref t11) 1 hC rfl inw_X3 (by decide) tw_801 dX6_written_5 hc13 rfl ?_
  refine sg_astore_n (pc := 8) (v := .ref t11) hC dX6_written_8 (by decide) rfl ?_
  show sg_W X M 0 0 9 [some (.ref ca), some (.int u), some (.int v), some (.ref t11)] []
  refine sg_iload_n (pc := 9) (x := v) hC dX6_written_9 rfl ?_
  refine sg_if_lt (pc := 10) (x := v) 29 hC dX6_written_10 (by decide) (fun h15 => ?_) (fun h15 => ?_)
  · refine sg_iconst (pc := 29) (((-1))) hC dX6_written_29 (by decide) ?_
    have hw2 : (md_write (md_set N 0 0 0) u.toNatClampNeg) 10 0 = (dt (rq N u.toNatClampNeg)).length := hw2
    have hag : ag N (md_write (md_set N 0 0 0) u.toNatClampNeg) := ag.set0.tr (fun i j c => by rw [hw1 i (by omega) (by omega)])
    have h00 : (md_write (md_set N 0 0 0) u.toNatClampNeg) 0 0 = 0 := by rw [hw1 0 (by decide) (by decide)]; simp [md_set, va_up]
    have e9 : md_written N u v = (none, (md_write (md_set N 0 0 0) u.toNatClampNeg)) := by unfold md_written; rw [if_pos hs10, if_neg (ts9 (in_pf (by rw [hw2]; first | (left; assumption) | (right; omega)) (by rw [hw2]; omega)))]
    rw [e9] at hk
    exact sg_ireturn (st := []) (v := (-1)) (pc := 30) hC hR dX6_written_30 (hk M (hJ.cg hW hag) cf_rf h00)
  · obtain ⟨hs16, hs17⟩ := md_nat h15
    rw [hs16]
    show sg_W X M 0 0 13 [some (.ref ca), some (.int u), some (.int (nI v.toNatClampNeg)), some (.ref t11)] []
    refine sg_iload_n (pc := 13) (x := nI v.toNatClampNeg) hC dX6_written_13 rfl ?_
    refine sg_aload_n (pc := 14) (v := .ref t11) hC dX6_written_14 rfl rfl ?_
    obtain ⟨_, _, _, _, hx19, -⟩ := id ht14
    refine sg_callV (pc := 15) (As := []) (rest := [.int (nI v.toNatClampNeg)]) (mc := 0) (ms := 0) hC tw_828 tw_482 tw_483 tw_65 tw_484 yd_J0_length_8abf5 (by decide) (ci := 0) rfl dX6_written_15 hx19 rfl (Nat.le_of_ble_eq_true rfl) (by first | omega | decide | (have h9 := hch9 _ (by assumption); omega)) (by first | omega | decide | (have h9 := hch9 _ (by assumption); omega)) ?_
    refine c_slen htr ht14 ?_
    show sg_W X M 0 0 18 [some (.ref ca), some (.int u), some (.int (nI v.toNatClampNeg)), some (.ref t11)] [.int (nI ((dt (rq N u.toNatClampNeg)).length)), .int (nI v.toNatClampNeg)]
    refine sg_icmpN_ge (pc := 18) (a := v.toNatClampNeg) (b := (dt (rq N u.toNatClampNeg)).length) 29 hC dX6_written_18 (by decide) (by first | omega | decide | (have h9 := hch9 _ (by assumption); omega)) (by first | omega | decide | (have h9 := hch9 _ (by assumption); omega)) (fun h20 => ?_) (fun h20 => ?_)
    · refine sg_iconst (pc := 29) (((-1))) hC dX6_written_29 (by decide) ?_
      have hw2 : (md_write (md_set N 0 0 0) u.toNatClampNeg) 10 0 = (dt (rq N u.toNatClampNeg)).length := hw2
      have hag : ag N (md_write (md_set N 0 0 0) u.toNatClampNeg) := ag.set0.tr (fun i j c => by rw [hw1 i (by omega) (by omega)])
      have h00 : (md_write (md_set N 0 0 0) u.toNatClampNeg) 0 0 = 0 := by rw [hw1 0 (by decide) (by decide)]; simp [md_set, va_up]
      have e9 : md_written N u v = (none, (md_write (md_set N 0 0 0) u.toNatClampNeg)) := by unfold md_written; rw [if_pos hs10, if_neg (ts9 (in_pf (by rw [hw2]; first | (left; assumption) | (right; omega)) (by rw [hw2]; omega)))]
      rw [e9] at hk
      exact sg_ireturn (st := []) (v := (-1)) (pc := 30) hC hR dX6_written_30 (hk M (hJ.cg hW hag) cf_rf h00)
    · refine sg_aload_n (pc := 21) (v := .ref t11) hC dX6_written_21 rfl rfl ?_
      refine sg_iload_n (pc := 22) (x := nI v.toNatClampNeg) hC dX6_written_22 rfl ?_
      obtain ⟨_, _, _, _, hx22, -⟩ := id ht14
      refine sg_callV (pc := 23) (As := [.int (nI v.toNatClampNeg)]) (rest := []) (mc := 0) (ms := 0) hC tw_829 tw_612 tw_613 tw_65 tw_614 yd_J0_charAt_5068e (by decide) (ci := 0) rfl dX6_written_23 hx22 rfl (Nat.le_of_ble_eq_true rfl) (by first | omega | decide | (have h9 := hch9 _ (by assumption); omega)) (by first | omega | decide | (have h9 := hch9 _ (by assumption); omega)) ?_
      refine c_charAt htr ht14 (by first | omega | decide | (have h9 := hch9 _ (by assumption); omega)) ?_
      show sg_W X M 0 0 26 [some (.ref ca), some (.int u), some (.int (nI v.toNatClampNeg)), some (.ref t11)] [.int (nI ((dt (rq N u.toNatClampNeg)).getD v.toNatClampNeg 0))]
      refine sg_goto (pc := 26) 30 hC dX6_written_26 (by decide) ?_
      have hw2 : (md_write (md_set N 0 0 0) u.toNatClampNeg) 10 0 = (dt (rq N u.toNatClampNeg)).length := hw2
      have hag : ag N (md_write (md_set N 0 0 0) u.toNatClampNeg) := ag.set0.tr (fun i j c => by rw [hw1 i (by omega) (by omega)])
      have h00 : (md_write (md_set N 0 0 0) u.toNatClampNeg) 0 0 = 0 := by rw [hw1 0 (by decide) (by decide)]; simp [md_set, va_up]
      have e9 : md_written N u v = (some ((dt (rq N u.toNatClampNeg)).getD v.toNatClampNeg 0), (md_write (md_set N 0 0 0) u.toNatClampNeg)) := by unfold md_written; rw [if_pos hs10, if_pos (in_pt (by assumption) (by rw [hw2]; omega) (by rw [hw2]; omega)), hw3 _ (by omega)] <;> rfl
      rw [e9] at hk
      exact sg_ireturn (st := []) (v := nI ((dt (rq N u.toNatClampNeg)).getD v.toNatClampNeg 0)) (pc := 30) hC hR dX6_written_30 (hk M (hJ.cg hW hag) cf_rf h00)
