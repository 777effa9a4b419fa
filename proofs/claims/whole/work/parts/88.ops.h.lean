theorem rm7 {x j : Nat} {f : Nat → Option Nat} (hj : j < 7) : (if j = 0 then some x else (if j - 1 < 6 then f (j - 1) else f (j - 1 + 1))) = if j = 0 then some x else f (j - 1) := by
  by_cases h0 : j = 0
  · rw [if_pos h0, if_pos h0]
  · rw [if_neg h0, if_neg h0, if_pos (by omega)]
theorem noteDown_ok {N : Nat → Nat → Nat} {t s : Nat} (h21 : N 21 0 ≤ 7) : md_noteDown N t s 21 0 = (if 7 ≤ N 21 0 then 7 else N 21 0 + 1) ∧ (∀ j, j < 7 → md_noteDown N t s 22 (2 * j) = (if j = 0 then t else N 22 (2 * (j - 1))) ∧ md_noteDown N t s 22 (2 * j + 1) = (if j = 0 then s else N 22 (2 * (j - 1) + 1))) ∧ ∀ i j, i ≠ 21 → i ≠ 22 → md_noteDown N t s i j = N i j := by
  refine ⟨?_, fun j hj => ?_, fun i j a b => ?_⟩
  · unfold md_noteDown
    split <;> simp [md_set, va_up]
  · have h9 : j = 0 ∨ j = 1 ∨ j = 2 ∨ j = 3 ∨ j = 4 ∨ j = 5 ∨ j = 6 := by omega
    unfold md_noteDown
    rcases h9 with rfl | rfl | rfl | rfl | rfl | rfl | rfl <;> split <;> simp [md_set, va_up]
  · unfold md_noteDown
    split <;> simp [md_set, va_up, a, b]

set_option maxHeartbeats 400000 in
set_option maxRecDepth 100000 in
theorem c_remember {l : Launch} {G : sg_G} {d : Nat} {M : sg_M} {kr : Option Value → sg_M → Prop} {kx : String → sg_M → Prop} (htr : l.stackTraces = false) {ca pb sl so th cx nt : Nat} {N : Nat → Nat → Nat} {x n : Nat} {f : Nat → Option Nat} {vs : List Value} (hX : M ca = some (1, .inr (9, [.ref pb, .ref sl, .ref so, .ref th, .ref cx, .ref nt]))) (hL : al_r G 8 9 M nt n f) (hn : n ≤ 7) (hE : ∀ j, j < n → ∃ y, f j = some y ∧ ∃ vs, M y = some (73, .inr (5, vs))) (hY : M x = some (73, .inr (5, vs))) (hk : ∀ M' f', al_r G 8 9 M' nt (if 7 ≤ n then 7 else n + 1) f' → (∀ j, j < (if 7 ≤ n then 7 else n + 1) → f' j = if j = 0 then some x else f (j - 1)) → sf (pk [8, 9]) M M' → kr none M') : sg_Met l G yX6_remember cX6_remember 2 none (d + 4) 1 10 [.ref ca, .ref x] M kr kx := by
  refine sg_enter [some (.ref ca), some (.ref x)] (by decide) htr (Nat.le_of_ble_eq_true rfl) rfl ?_
  intro X hC hR
  have hC : sg_C X l G cX6_remember RX6 2 (d + 4) := hC
  have hE9 : ∀ j, j < n → ∃ y, f j = some y ∧ True := fun j hj => by obtain ⟨y, h, -⟩ := hE j hj; exact ⟨y, h, trivial⟩
  have hf : sf (pk [8, 9]) M M := sf.rf
  refine sg_aload_n (pc := 0) (v := .ref ca) hC dX6_remember_0 rfl rfl ?_
  refine sg_get (pc := 1) (a := ca) (v := .ref nt) 5 hC rfl inw_X6 (by decide) tw_198 dX6_remember_1 hX rfl ?_
  obtain ⟨_, _, _, _, _, hx1, -⟩ := id hL
  refine sg_callV (pc := 4) (As := []) (rest := []) (mc := 0) (ms := 0) hC tw_867 tw_868 tw_869 tw_69 tw_870 yd_Jx4a65c_size_8abf5 (by decide) (ci := 2) rfl dX6_remember_4 hx1 rfl (Nat.le_of_ble_eq_true rfl) (by first | omega | decide) (by first | omega | decide) ?_
  refine c_alSize htr hL ?_
  show sg_W X M 1 10 7 [some (.ref ca), some (.ref x)] [.int (nI n)]
  refine sg_bipush (pc := 7) (nI 7) hC dX6_remember_7 (by decide) ?_
  refine sg_icmpN_lt (pc := 9) (a := n) (b := 7) 22 hC dX6_remember_9 (by decide) (by first | omega | decide) (by first | omega | decide) (fun h2 => ?_) (fun h2 => ?_)
  · refine sg_aload_n (pc := 22) (v := .ref ca) hC dX6_remember_22 rfl rfl ?_
    refine sg_get (pc := 23) (a := ca) (v := .ref nt) 5 hC rfl inw_X6 (by decide) tw_198 dX6_remember_23 hX rfl ?_
    refine sg_iconst (pc := 26) (nI 0) hC dX6_remember_26 (by decide) ?_
    refine sg_aload_n (pc := 27) (v := .ref x) hC dX6_remember_27 rfl rfl ?_
    obtain ⟨_, _, _, _, _, hx3, -⟩ := id hL
    refine sg_callV (pc := 28) (As := [.int (nI 0), .ref x]) (rest := []) (mc := 1) (ms := 10) hC tw_1142 tw_1143 tw_1144 tw_69 tw_1145 yd_Jx4a65c_add_7a177 (by decide) (ci := 2) rfl dX6_remember_28 hx3 rfl (Nat.le_of_ble_eq_true rfl) (by first | omega | decide) (by first | omega | decide) ?_
    refine c_alAdd0 htr hL (by omega) (by omega) (by omega) (by omega) hY sg_El5 (by omega) (by omega) (by omega) (fun j hj y hy => by obtain ⟨y9, h9, vs9, h8⟩ := hE j hj; rw [hy] at h9; cases h9; exact ⟨73, 5, vs9, h8, by decide, sg_El5, by decide, by decide⟩) (fun M4 hs5 hfa6 => ?_)
    have hX : M4 ca = some (1, .inr (9, [.ref pb, .ref sl, .ref so, .ref th, .ref cx, .ref nt])) := hfa6.p hX (by first | decide | (simp; done) | (simp; omega))
    have hY : M4 x = some (73, .inr (5, vs)) := hfa6.p hY (by first | decide | (simp; done) | (simp; omega))
    have hf : sf (pk [8, 9]) M M4 := hf.tr hfa6 (fun a t h => by first | exact h | (simp [pk] at h; done) | (simp [pk] at h ⊢; omega) | (simp [pk] at h ⊢; done))
    show sg_W X M4 0 0 31 [some (.ref ca), some (.ref x)] []
    exact sg_vreturn (st := []) (pc := 31) hC hR dX6_remember_31 (hk _ _ (by rw [if_neg (by omega)]; exact hs5) (fun j hj => rfl) hf)
  · refine sg_aload_n (pc := 12) (v := .ref ca) hC dX6_remember_12 rfl rfl ?_
    refine sg_get (pc := 13) (a := ca) (v := .ref nt) 5 hC rfl inw_X6 (by decide) tw_198 dX6_remember_13 hX rfl ?_
    refine sg_bipush (pc := 16) (nI 6) hC dX6_remember_16 (by decide) ?_
    obtain ⟨_, _, _, _, _, hx7, -⟩ := id hL
    refine sg_callV (pc := 18) (As := [.int (nI 6)]) (rest := []) (mc := 0) (ms := 0) hC tw_945 tw_946 tw_947 tw_69 tw_948 yd_Jx4a65c_remove_915e3 (by decide) (ci := 2) rfl dX6_remember_18 hx7 rfl (Nat.le_of_ble_eq_true rfl) (by first | omega | decide) (by first | omega | decide) ?_
    obtain ⟨q11, hq12, hp13⟩ := hE9 6 (by omega)
    refine c_alRem htr hL (by omega) (by omega) (by omega) (fun j hj y hy => by obtain ⟨y9, h9, vs9, h8⟩ := hE j hj; rw [hy] at h9; cases h9; exact ⟨73, 5, vs9, h8, by decide, sg_El5, by decide, by decide⟩) (by omega) hq12 (fun M8 hs9 hfa10 => ?_)
    have hX : M8 ca = some (1, .inr (9, [.ref pb, .ref sl, .ref so, .ref th, .ref cx, .ref nt])) := hfa10.p hX (by first | decide | (simp; done) | (simp; omega))
    have hY : M8 x = some (73, .inr (5, vs)) := hfa10.p hY (by first | decide | (simp; done) | (simp; omega))
    have hf : sf (pk [8, 9]) M M8 := hf.tr hfa10 (fun a t h => by first | exact h | (simp [pk] at h; done) | (simp [pk] at h ⊢; omega) | (simp [pk] at h ⊢; done))
    show sg_W X M8 1 10 21 [some (.ref ca), some (.ref x)] [.ref q11]
    refine sg_pop (pc := 21) hC dX6_remember_21 rfl ?_
    refine sg_aload_n (pc := 22) (v := .ref ca) hC dX6_remember_22 rfl rfl ?_
    refine sg_get (pc := 23) (a := ca) (v := .ref nt) 5 hC rfl inw_X6 (by decide) tw_198 dX6_remember_23 hX rfl ?_
    refine sg_iconst (pc := 26) (nI 0) hC dX6_remember_26 (by decide) ?_
    refine sg_aload_n (pc := 27) (v := .ref x) hC dX6_remember_27 rfl rfl ?_
    obtain ⟨_, _, _, _, _, hx14, -⟩ := id hs9
    refine sg_callV (pc := 28) (As := [.int (nI 0), .ref x]) (rest := []) (mc := 1) (ms := 10) hC tw_1142 tw_1143 tw_1144 tw_69 tw_1145 yd_Jx4a65c_add_7a177 (by decide) (ci := 2) rfl dX6_remember_28 hx14 rfl (Nat.le_of_ble_eq_true rfl) (by first | omega | decide) (by first | omega | decide) ?_
    refine c_alAdd0 htr hs9 (by omega) (by omega) (by omega) (by omega) hY sg_El5 (by omega) (by omega) (by omega) (fun j hj y hy => by obtain ⟨y9, h9, vs9, h8⟩ := hE (if j < 6 then j else j + 1) (by split <;> omega); rw [show (if j < 6 then f j else f (j + 1)) = f (if j < 6 then j else j + 1) from by split <;> rfl, h9] at hy; cases hy; exact ⟨73, 5, vs9, hfa10.p h8 (by decide), by decide, sg_El5, by decide, by decide⟩) (fun M15 hs16 hfa17 => ?_)
    have hX : M15 ca = some (1, .inr (9, [.ref pb, .ref sl, .ref so, .ref th, .ref cx, .ref nt])) := hfa17.p hX (by first | decide | (simp; done) | (simp; omega))
    have hY : M15 x = some (73, .inr (5, vs)) := hfa17.p hY (by first | decide | (simp; done) | (simp; omega))
    have hf : sf (pk [8, 9]) M M15 := hf.tr hfa17 (fun a t h => by first | exact h | (simp [pk] at h; done) | (simp [pk] at h ⊢; omega) | (simp [pk] at h ⊢; done))
    show sg_W X M15 0 0 31 [some (.ref ca), some (.ref x)] []
    exact sg_vreturn (st := []) (pc := 31) hC hR dX6_remember_31 (hk _ _ (by rw [if_pos (by omega)]; exact (show 7 = n - 1 + 1 by omega) ▸ hs16) (fun j hj => by rw [if_pos (show 7 ≤ n by omega)] at hj; exact rm7 hj) hf)

set_option maxHeartbeats 400000 in
set_option maxRecDepth 100000 in
theorem c_check_ {l : Launch} {G : sg_G} {d : Nat} {M : sg_M} {kr : Option Value → sg_M → Prop} {kx : String → sg_M → Prop} (htr : l.stackTraces = false) {ca pb sl so th cx nt : Nat} {N : Nat → Nat → Nat} {u : Int32} {v : Int32}  (hJ : cl_r G M ca pb sl so th cx nt N) (hW : WN N) (hk : ∀ M', cl_r G M' ca pb sl so th cx nt (md_check N u v).2 → sf cf M M' → (md_check N u v).2 0 0 = 0 → kr (some (.int (nI (md_check N u v).1))) M') (hx1 : ∀ M', cl_r G M' ca pb sl so th cx nt (md_check N u v).2 → sf cf M M' → (md_check N u v).2 0 0 = 1 → kx "java/util/NoSuchElementException" M') (hx2 : ∀ M', cl_r G M' ca pb sl so th cx nt (md_check N u v).2 → sf cf M M' → (md_check N u v).2 0 0 = 2 → kx "java/lang/IllegalStateException" M') : sg_Met l G yX6_check cX6_check 7 (some .int) (d + 9) 5 30 [.ref ca, .int u, .int v] M kr kx := by
  refine sg_enter [some (.ref ca), some (.int u), some (.int v), none, none, none, none] (by decide) htr (Nat.le_of_ble_eq_true rfl) rfl ?_
  intro X hC hR
  have hC : sg_C X l G cX6_check RX6 7 (d + 9) := hC
  obtain ⟨hX, hPd, hCsl, hCso, hCth0, hCcx, hCnt⟩ := id hJ
  have hCth : ct G M th N := ⟨hCth0, hW⟩
  obtain ⟨gs, hSl, hGs⟩ := id hCsl
  obtain ⟨go, hSo, hGo⟩ := id hCso
  obtain ⟨gt, hTh, hGt⟩ := id hCth0
  obtain ⟨fn, hLn, hFn⟩ := id hCnt
  have h217 : N 21 0 ≤ 7 := hW 21 0
  have hf : sf cf M M := sf.rf
  have hfe : sf (pk []) M M := sf.rf
  refine sg_aload_n (pc := 0) (v := .ref ca) hC dX6_check_0 rfl rfl ?_
  refine sg_iload_n (pc := 1) (x := u) hC dX6_check_1 rfl ?_
  refine sg_callV (pc := 2) (As := [.int u]) (rest := []) (mc := 1) (ms := 6) hC tw_988 tw_990 tw_24 tw_62 tw_991 yd_X6_stackOf (by decide) (ci := 9) rfl dX6_check_2 hX rfl (Nat.le_of_ble_eq_true rfl) (by first | omega | decide) (by first | omega | decide) ?_
  refine c_stkOf htr hX hTh hGt ?_ (fun hxf6 => sg_prop hC hR (by rw [show md_check N u v = (0, (md_set (md_set N 0 0 0) 0 0 1)) from by unfold md_check; rw [if_neg (ts9 (show md_isThread (md_set N 0 0 0) u = false from hxf6))] <;> rfl] at hx1; exact hx1 M (hJ.cg hW (ag.set0.tr ag.set0)) cf_rf (by simp [md_set, va_up])))
  intro q1 h02 h83 h34 hq5
  obtain ⟨q7, hq8, hp9⟩ := (hGt _ h83).2 h34
  rw [hq5] at hq8
  cases hq8
  have hs10 : md_isThread (md_set N 0 0 0) u = true := isThr_t (N := (md_set N 0 0 0)) h02 h83 h34
  obtain ⟨la11, f12, hc13, hl14, hfp15⟩ := id hp9
  show sg_W X M 4 24 5 [some (.ref ca), some (.int u), some (.int v), none, none, none, none] [.ref q1]
  refine sg_astore_n (pc := 5) (v := .ref q1) hC dX6_check_5 (by decide) rfl ?_
  show sg_W X M 4 24 6 [some (.ref ca), some (.int u), some (.int v), some (.ref q1), none, none, none] []
  refine sg_aload_n (pc := 6) (v := .ref ca) hC dX6_check_6 rfl rfl ?_
  refine sg_iload_n (pc := 7) (x := v) hC dX6_check_7 rfl ?_
  refine sg_callV (pc := 8) (As := [.int v]) (rest := []) (mc := 1) (ms := 6) hC tw_824 tw_826 tw_16 tw_62 tw_827 yd_X6_permissionIn (by decide) (ci := 9) rfl dX6_check_8 hX rfl (Nat.le_of_ble_eq_true rfl) (by first | omega | decide) (by first | omega | decide) ?_
  refine c_permIn htr hX hSl hGs ?_ (fun hxf21 => sg_prop hC hR (by rw [show md_check N u v = (0, (md_set (md_set N 0 0 0) 0 0 1)) from by unfold md_check; rw [if_pos hs10, if_neg (ts9 (show md_isSlot (md_set N 0 0 0) v = false from hxf21))] <;> rfl] at hx1; exact hx1 M (hJ.cg hW (ag.set0.tr ag.set0)) cf_rf (by simp [md_set, va_up])))
  intro q16 h017 h818 h319 hq20
  obtain ⟨q22, hq23, hp24⟩ := (hGs _ h818).2 h319
  rw [hq20] at hq23
  cases hq23
  have hs25 : md_isSlot (md_set N 0 0 0) v = true := isSlot_t (N := (md_set N 0 0 0)) h017 h818 h319
  show sg_W X M 3 18 11 [some (.ref ca), some (.int u), some (.int v), some (.ref q1), none, none, none] [.ref q16]
  refine sg_astore (pc := 11) (v := .ref q16) hC dX6_check_11 (by decide) rfl ?_
  show sg_W X M 3 18 13 [some (.ref ca), some (.int u), some (.int v), some (.ref q1), some (.ref q16), none, none] []
  have hpw : wq (rq (md_set N 0 0 0) v.toNatClampNeg) := hp24.w
  refine sg_aload_n (pc := 13) (v := .ref q1) hC dX6_check_13 rfl rfl ?_
  refine sg_aload (pc := 14) (v := .ref q16) hC dX6_check_14 rfl rfl ?_
  refine sg_callV (pc := 16) (As := [.ref q16]) (rest := []) (mc := 0) (ms := 0) hC tw_1056 tw_1057 tw_1058 tw_71 tw_1059 yd_X0_sourcesWalked (by decide) (ci := 3) rfl dX6_check_16 hc13 rfl (Nat.le_of_ble_eq_true rfl) (by first | omega | decide) (by first | omega | decide) ?_
  refine c_walked (oa := some q16) (q := some v.toNatClampNeg) (N := (md_set N 0 0 0)) htr (hW.set (i := 0) (j := 0) (v := 0) (Nat.zero_le _)) (hp9.cg rfl rfl (fun k hk => ⟨rfl, rfl, fun _ => ⟨rfl, rfl⟩⟩)) (Or.inr ⟨_, _, rfl, rfl, hp24⟩) ?_
  show sg_W X M 3 18 19 [some (.ref ca), some (.int u), some (.int v), some (.ref q1), some (.ref q16), none, none] [.int (nI (md_walked (md_set N 0 0 0) u.toNatClampNeg (some v.toNatClampNeg)))]
  refine sg_istore (pc := 19) (x := nI (md_walked (md_set N 0 0 0) u.toNatClampNeg (some v.toNatClampNeg))) hC dX6_check_19 (by decide) ?_
  show sg_W X M 3 18 21 [some (.ref ca), some (.int u), some (.int v), some (.ref q1), some (.ref q16), some (.int (nI (md_walked (md_set N 0 0 0) u.toNatClampNeg (some v.toNatClampNeg)))), none] []
  refine sg_aload_n (pc := 21) (v := .ref ca) hC dX6_check_21 rfl rfl ?_
  refine sg_iload (pc := 22) (x := nI (md_walked (md_set N 0 0 0) u.toNatClampNeg (some v.toNatClampNeg))) hC dX6_check_22 rfl ?_
  refine sg_aload (pc := 24) (v := .ref q16) hC dX6_check_24 rfl rfl ?_
  refine sg_callV (pc := 26) (As := [.int (nI (md_walked (md_set N 0 0 0) u.toNatClampNeg (some v.toNatClampNeg))), .ref q16]) (rest := []) (mc := 0) (ms := 0) hC tw_1119 tw_1121 tw_29 tw_62 tw_1122 yd_X6_sourceToBlame (by decide) (ci := 9) rfl dX6_check_26 hX rfl (Nat.le_of_ble_eq_true rfl) (by first | omega | decide) (by first | omega | decide) ?_
  refine c_blm (N := (md_set N 0 0 0)) htr (hW.set (i := 0) (j := 0) (v := 0) (Nat.zero_le _)) hX hSo (gso.z hGo) hp24 (Nat.lt_trans (walked_lt (hW.set (i := 0) (j := 0) (v := 0) (Nat.zero_le _))) (by decide)) ?_
  show sg_W X M 3 18 29 [some (.ref ca), some (.int u), some (.int v), some (.ref q1), some (.ref q16), some (.int (nI (md_walked (md_set N 0 0 0) u.toNatClampNeg (some v.toNatClampNeg)))), none] [.int (md_o (k_blm (md_set N 0 0 0) (md_walked (md_set N 0 0 0) u.toNatClampNeg (some v.toNatClampNeg)) (rq N v.toNatClampNeg)))]
  refine sg_istore (pc := 29) (x := md_o (k_blm (md_set N 0 0 0) (md_walked (md_set N 0 0 0) u.toNatClampNeg (some v.toNatClampNeg)) (rq N v.toNatClampNeg))) hC dX6_check_29 (by decide) ?_
  show sg_W X M 3 18 31 [some (.ref ca), some (.int u), some (.int v), some (.ref q1), some (.ref q16), some (.int (nI (md_walked (md_set N 0 0 0) u.toNatClampNeg (some v.toNatClampNeg)))), some (.int (md_o (k_blm (md_set N 0 0 0) (md_walked (md_set N 0 0 0) u.toNatClampNeg (some v.toNatClampNeg)) (rq N v.toNatClampNeg))))] []
  refine sg_iload (pc := 31) (x := md_o (k_blm (md_set N 0 0 0) (md_walked (md_set N 0 0 0) u.toNatClampNeg (some v.toNatClampNeg)) (rq N v.toNatClampNeg))) hC dX6_check_31 rfl ?_
  refine sg_iconst (pc := 33) (((-1))) hC dX6_check_33 (by decide) ?_
  obtain h26 | ⟨c27, h26⟩ := jo_cases (k_blm (md_set N 0 0 0) (md_walked (md_set N 0 0 0) u.toNatClampNeg (some v.toNatClampNeg)) (rq N v.toNatClampNeg))
  · rw [show md_o (k_blm (md_set N 0 0 0) (md_walked (md_set N 0 0 0) u.toNatClampNeg (some v.toNatClampNeg)) (rq N v.toNatClampNeg)) = ((-1)) from by rw [h26]; rfl]
    refine sg_icmp_eq (pc := 34) (x := ((-1))) (y := -1) 59 hC dX6_check_34 (by decide) (fun _ => ?_) (fun h9 => absurd rfl h9)
    show sg_W X M 3 18 59 [some (.ref ca), some (.int u), some (.int v), some (.ref q1), some (.ref q16), some (.int (nI (md_walked (md_set N 0 0 0) u.toNatClampNeg (some v.toNatClampNeg)))), some (.int ((-1)))] []
    refine sg_iload (pc := 59) (x := nI (md_walked (md_set N 0 0 0) u.toNatClampNeg (some v.toNatClampNeg))) hC dX6_check_59 rfl ?_
    refine sg_callS (pc := 61) (As := [.int (nI (md_walked (md_set N 0 0 0) u.toNatClampNeg (some v.toNatClampNeg)))]) (rest := []) (mc := 0) (ms := 0) hC tw_1088 tw_1089 tw_85 tw_1090 yd_J6_bitCount_0f7a4 (by decide) dX6_check_61 rfl (Nat.le_of_ble_eq_true rfl) (by first | omega | decide) (by first | omega | decide) ?_
    refine c_bitCount htr  ?_
    show sg_W X M 3 18 64 [some (.ref ca), some (.int u), some (.int v), some (.ref q1), some (.ref q16), some (.int (nI (md_walked (md_set N 0 0 0) u.toNatClampNeg (some v.toNatClampNeg)))), some (.int ((-1)))] [.int (jbc (nI (md_walked (md_set N 0 0 0) u.toNatClampNeg (some v.toNatClampNeg))))]
    obtain ⟨b1, b2⟩ := md_blame_eq (N := (md_set N 0 0 0)) (w := md_walked (md_set N 0 0 0) u.toNatClampNeg (some v.toNatClampNeg)) (q := v.toNatClampNeg) (fun r => hW 4 r) (fun r => hW 12 r) (gso.w (gso.z hGo)) (by omega) hpw
    rw [← k_blm_eq] at b1
    have b1 := b1.trans h26
    have e9 : md_check N u v = (md_many (md_walked (md_set N 0 0 0) u.toNatClampNeg (some v.toNatClampNeg)), (md_blame (md_set N 0 0 0) (md_walked (md_set N 0 0 0) u.toNatClampNeg (some v.toNatClampNeg)) v.toNatClampNeg).2) := by unfold md_check; rw [if_pos hs10, if_pos hs25, b1]
    rw [e9] at hk
    rw [jbc_many (walked_lt (hW.set (i := 0) (j := 0) (v := 0) (Nat.zero_le _)))]
    exact sg_ireturn (st := []) (v := nI (md_many (md_walked (md_set N 0 0 0) u.toNatClampNeg (some v.toNatClampNeg)))) (pc := 64) hC hR dX6_check_64 (hk M (hJ.cg hW (ag.set0.tr (ag.ms b2))) cf_rf ((ms00 b2).trans (by simp [md_set, va_up])))
  · rw [show md_o (k_blm (md_set N 0 0 0) (md_walked (md_set N 0 0 0) u.toNatClampNeg (some v.toNatClampNeg)) (rq N v.toNatClampNeg)) = nI c27 from by rw [h26]; rfl]
    have hc8 := blm_lt _ _ _ (k_blm_eq ▸ h26)
    refine sg_icmp_eq (pc := 34) (x := nI c27) (y := -1) 59 hC dX6_check_34 (by decide) (fun h9 => absurd h9 (jn_ne (by omega))) (fun _ => ?_)
    show sg_W X M 3 18 37 [some (.ref ca), some (.int u), some (.int v), some (.ref q1), some (.ref q16), some (.int (nI (md_walked (md_set N 0 0 0) u.toNatClampNeg (some v.toNatClampNeg)))), some (.int (nI c27))] []
    refine sg_aload_n (pc := 37) (v := .ref ca) hC dX6_check_37 rfl rfl ?_
    refine sg_new (pc := 38) (ci := 5) (73) [.int (nI 0), .int (nI 0)] hC rfl inw_X2 tyX2 tyX2_ok tw_1123 tw_1124 tw_91 (by intro j hj; have h9 : j = 0 ∨ j = 1 := (by omega); rcases h9 with rfl | rfl <;> rfl) dX6_check_38 (by first | omega | decide) (by first | omega | decide) (by first | omega | decide) (fun q28 hq29 => ?_)
    refine sg_nm (fun M30 hw31 => ?_)
    have ne32 : ca ≠ q28 := sg_fresh hX hq29
    have hX : M30 ca = some (1, .inr (9, [.ref pb, .ref sl, .ref so, .ref th, .ref cx, .ref nt])) := hw31.n hX ne32
    have ne33 : sl ≠ q28 := sg_fresh hSl hq29
    have hSl : M30 sl = some (4, .inl (.object RX3, 8, .inr (.inr (.inr (.inr gs))))) := hw31.n hSl ne33
    have ne34 : so ≠ q28 := sg_fresh hSo hq29
    have hSo : M30 so = some (5, .inl (.object RX5, 6, .inr (.inr (.inr (.inr go))))) := hw31.n hSo ne34
    have ne35 : th ≠ q28 := sg_fresh hTh hq29
    have hTh : M30 th = some (6, .inl (.object RX0, 4, .inr (.inr (.inr (.inr gt))))) := hw31.n hTh ne35
    have ne36 : q1 ≠ q28 := sg_fresh hc13 hq29
    have hc13 : M30 q1 = some (40 + u.toNatClampNeg, .inr (3, [.ref la11, .int (nI (N 14 u.toNatClampNeg))])) := hw31.n hc13 ne36
    have hPd : sb_r 2 3 M30 pb (padl N) := hPd.nw hw31 hq29
    have hCsl : cl_slot M30 sl N := hCsl.nw hw31 hq29
    have hCso : cl_src G M30 so N := hCso.nw hw31 hq29
    have hCth : ct G M30 th N := hCth.nw hw31 hq29
    have hCcx : cl_ctx M30 cx N := hCcx.nw hw31 hq29
    have hLn : al_r G 8 9 M30 nt (N 21 0) fn := hLn.nw hw31 hq29
    have hl14 : al_r G (50 + u.toNatClampNeg) (60 + u.toNatClampNeg) M30 la11 (N 15 u.toNatClampNeg) f12 := hl14.nw hw31 hq29
    have hp24 : pm_r M30 q16 (rq N v.toNatClampNeg) := hp24.nw hw31 hq29
    have hn37 : M q28 = none := hf.fr hq29
    have hf : sf cf M M30 := hf.nw hw31 hn37
    have hn38 : M q28 = none := hfe.fr hq29
    have hfe : sf (pk []) M M30 := hfe.nw hw31 hn38
    have hF39 : M30 q28 = some (73, .inr (5, [.int (nI 0), .int (nI 0)])) := hw31.1
    show sg_W X M30 2 16 41 [some (.ref ca), some (.int u), some (.int v), some (.ref q1), some (.ref q16), some (.int (nI (md_walked (md_set N 0 0 0) u.toNatClampNeg (some v.toNatClampNeg)))), some (.int (nI c27))] [.ref q28, .ref ca]
    refine sg_dup (pc := 41) hC dX6_check_41 rfl ?_
    have hnv40 : u = nI u.toNatClampNeg := (md_nat (by assumption)).1
    refine sg_loc (L' := [some (.ref ca), some (.int (nI u.toNatClampNeg)), some (.int v), some (.ref q1), some (.ref q16), some (.int (nI (md_walked (md_set N 0 0 0) u.toNatClampNeg (some v.toNatClampNeg)))), some (.int (nI c27))]) ⟨rfl, hv_l hnv40, rfl, rfl, rfl, rfl, rfl, trivial⟩ ?_
    show sg_W X M30 2 16 42 [some (.ref ca), some (.int (nI u.toNatClampNeg)), some (.int v), some (.ref q1), some (.ref q16), some (.int (nI (md_walked (md_set N 0 0 0) u.toNatClampNeg (some v.toNatClampNeg)))), some (.int (nI c27))] [.ref q28, .ref q28, .ref ca]
    refine sg_iload_n (pc := 42) (x := nI u.toNatClampNeg) hC dX6_check_42 rfl ?_
    refine sg_iload (pc := 43) (x := nI c27) hC dX6_check_43 rfl ?_
    refine sg_callI (pc := 45) (b := q28) (As := [.int (nI u.toNatClampNeg), .int (nI c27)]) (rest := [.ref q28, .ref ca]) (mc := 0) (ms := 0) hC tw_1125 tw_1126 tw_91 tw_1127 rfl yd_X2_init (by decide) dX6_check_45 rfl (Nat.le_of_ble_eq_true rfl) (by first | omega | decide) (by first | omega | decide) ?_
    refine c_noInit htr hF39 (by omega) (fun M41 hw42 => ?_)
    have hX : M41 ca = some (1, .inr (9, [.ref pb, .ref sl, .ref so, .ref th, .ref cx, .ref nt])) := hw42.n hX ne32
    have hSl : M41 sl = some (4, .inl (.object RX3, 8, .inr (.inr (.inr (.inr gs))))) := hw42.n hSl ne33
    have hSo : M41 so = some (5, .inl (.object RX5, 6, .inr (.inr (.inr (.inr go))))) := hw42.n hSo ne34
    have hTh : M41 th = some (6, .inl (.object RX0, 4, .inr (.inr (.inr (.inr gt))))) := hw42.n hTh ne35
    have hc13 : M41 q1 = some (40 + u.toNatClampNeg, .inr (3, [.ref la11, .int (nI (N 14 u.toNatClampNeg))])) := hw42.n hc13 ne36
    have hPd : sb_r 2 3 M41 pb (padl N) := hPd.st hw42 hF39 (by first | omega | decide) (by first | omega | decide)
    have hCsl : cl_slot M41 sl N := hCsl.st hw42 hF39 (by first | omega | decide)
    have hCso : cl_src G M41 so N := hCso.st hw42 hF39 (by first | omega | decide)
    have hCth : ct G M41 th N := hCth.st hw42 hF39 (by first | omega | decide)
    have hCcx : cl_ctx M41 cx N := hCcx.st hw42 hF39 (by first | omega | decide)
    have hLn : al_r G 8 9 M41 nt (N 21 0) fn := hLn.st hw42 hF39 (by first | omega | decide) (by first | omega | decide) (by first | omega | decide)
    have hl14 : al_r G (50 + u.toNatClampNeg) (60 + u.toNatClampNeg) M41 la11 (N 15 u.toNatClampNeg) f12 := hl14.st hw42 hF39 (by first | omega | decide) (by first | omega | decide) (by first | omega | decide)
    have hp24 : pm_r M41 q16 (rq N v.toNatClampNeg) := hp24.st hw42 hF39 (by first | omega | decide) (by first | omega | decide) (by first | omega | decide)
    have hf : sf cf M M41 := hf.nw hw42 hn37
    have hfe : sf (pk []) M M41 := hfe.nw hw42 hn38
    have hF39 : M41 q28 = some (73, .inr (5, [.int (nI u.toNatClampNeg), .int (nI c27)])) := hw42.1
    show sg_W X M41 2 16 48 [some (.ref ca), some (.int (nI u.toNatClampNeg)), some (.int v), some (.ref q1), some (.ref q16), some (.int (nI (md_walked (md_set N 0 0 0) u.toNatClampNeg (some v.toNatClampNeg)))), some (.int (nI c27))] [.ref q28, .ref ca]
    refine sg_callV (pc := 48) (As := [.ref q28]) (rest := []) (mc := 1) (ms := 10) hC tw_1138 tw_1140 tw_30 tw_62 tw_1141 yd_X6_remember (by decide) (ci := 9) rfl dX6_check_48 hX rfl (Nat.le_of_ble_eq_true rfl) (by first | omega | decide) (by first | omega | decide) ?_
    have hfn : sf (pk []) M M41 := hfe
    refine c_remember (N := N) (f := fn) htr hX hLn h217 (fun j hj => by obtain ⟨y9, h9, h8⟩ := hFn j hj; exact ⟨y9, h9, _, hfn.p h8 (by decide)⟩) hF39 (fun M43 fr44 hs45 hg46 hfa47 => ?_)
    have hX : M43 ca = some (1, .inr (9, [.ref pb, .ref sl, .ref so, .ref th, .ref cx, .ref nt])) := hfa47.p hX (by first | decide | (simp; done) | (simp; omega))
    have hSl : M43 sl = some (4, .inl (.object RX3, 8, .inr (.inr (.inr (.inr gs))))) := hfa47.p hSl (by first | decide | (simp; done) | (simp; omega))
    have hSo : M43 so = some (5, .inl (.object RX5, 6, .inr (.inr (.inr (.inr go))))) := hfa47.p hSo (by first | decide | (simp; done) | (simp; omega))
    have hTh : M43 th = some (6, .inl (.object RX0, 4, .inr (.inr (.inr (.inr gt))))) := hfa47.p hTh (by first | decide | (simp; done) | (simp; omega))
    have hc13 : M43 q1 = some (40 + u.toNatClampNeg, .inr (3, [.ref la11, .int (nI (N 14 u.toNatClampNeg))])) := hfa47.p hc13 (by first | decide | (simp; done) | (simp; omega))
    have hF39 : M43 q28 = some (73, .inr (5, [.int (nI u.toNatClampNeg), .int (nI c27)])) := hfa47.p hF39 (by first | decide | (simp; done) | (simp; omega))
    have hPd : sb_r 2 3 M43 pb (padl N) := hPd.p hfa47 (by first | decide | (simp; done) | (simp; omega)) (by first | decide | (simp; done) | (simp; omega))
    have hCsl : cl_slot M43 sl N := hCsl.p hfa47 (by first | decide | (simp; done) | (simp; omega))
    have hCso : cl_src G M43 so N := hCso.p hfa47 (by first | decide | (simp; done) | (simp; omega))
    have hCth : ct G M43 th N := hCth.p hfa47 (by first | decide | (simp; done) | (simp; omega))
    have hCcx : cl_ctx M43 cx N := hCcx.p hfa47 (by first | decide | (simp; done) | (simp; omega))
    have hl14 : al_r G (50 + u.toNatClampNeg) (60 + u.toNatClampNeg) M43 la11 (N 15 u.toNatClampNeg) f12 := hl14.p hfa47 (by first | decide | (simp; done) | (simp; omega)) (by first | decide | (simp; done) | (simp; omega)) (by first | decide | (simp; done) | (simp; omega))
    have hp24 : pm_r M43 q16 (rq N v.toNatClampNeg) := hp24.p hfa47 (by first | decide | (simp; done) | (simp; omega)) (by first | decide | (simp; done) | (simp; omega)) (by first | decide | (simp; done) | (simp; omega))
    have hf : sf cf M M43 := hf.tr hfa47 (fun a t h => by first | (simp [pk] at h; done) | (simp [pk] at h; simp only [cf, cm]; omega))
    show sg_W X M43 1 6 51 [some (.ref ca), some (.int (nI u.toNatClampNeg)), some (.int v), some (.ref q1), some (.ref q16), some (.int (nI (md_walked (md_set N 0 0 0) u.toNatClampNeg (some v.toNatClampNeg)))), some (.int (nI c27))] []
    exact sg_throw (pc := 51) (st := []) hC hR (by decide) tw_871 tw_88 th_ISE_114_g th_ISE_114_b th_ISE_112_114_o dX6_check_51 dX6_check_54 dX6_check_55 dX6_check_58 (by decide) (by first | omega | decide) (by first | omega | decide) (by
      obtain ⟨b1, b2⟩ := md_blame_eq (N := (md_set N 0 0 0)) (w := md_walked (md_set N 0 0 0) u.toNatClampNeg (some v.toNatClampNeg)) (q := v.toNatClampNeg) (fun r => hW 4 r) (fun r => hW 12 r) (gso.w (gso.z hGo)) (by omega) hpw
      rw [← k_blm_eq] at b1
      have b1 := b1.trans h26
      have e9 : md_check N u v = (0, (md_set (md_noteDown (md_blame (md_set N 0 0 0) (md_walked (md_set N 0 0 0) u.toNatClampNeg (some v.toNatClampNeg)) v.toNatClampNeg).2 u.toNatClampNeg c27) 0 0 2)) := by unfold md_check; rw [if_pos hs10, if_pos hs25, b1]; rfl
      rw [e9] at hx2
      have hag : ag N (md_blame (md_set N 0 0 0) (md_walked (md_set N 0 0 0) u.toNatClampNeg (some v.toNatClampNeg)) v.toNatClampNeg).2 := ag.set0.tr (ag.ms b2)
      have e21 : (md_blame (md_set N 0 0 0) (md_walked (md_set N 0 0 0) u.toNatClampNeg (some v.toNatClampNeg)) v.toNatClampNeg).2 21 0 = N 21 0 := hag 21 0 (by omega)
      have e22 : ∀ j, (md_blame (md_set N 0 0 0) (md_walked (md_set N 0 0 0) u.toNatClampNeg (some v.toNatClampNeg)) v.toNatClampNeg).2 22 j = N 22 j := fun j => hag 22 j (by omega)
      obtain ⟨n1, n2, n3⟩ := noteDown_ok (N := (md_blame (md_set N 0 0 0) (md_walked (md_set N 0 0 0) u.toNatClampNeg (some v.toNatClampNeg)) v.toNatClampNeg).2) (t := u.toNatClampNeg) (s := c27) (by rw [e21]; exact h217)
      rw [e21] at n1
      have ho : ∀ i9 j9, i9 ≠ 21 ∧ i9 ≠ 22 → ¬ i9 = 0 → (md_set (md_noteDown (md_blame (md_set N 0 0 0) (md_walked (md_set N 0 0 0) u.toNatClampNeg (some v.toNatClampNeg)) v.toNatClampNeg).2 u.toNatClampNeg c27) 0 0 2) i9 j9 = (md_blame (md_set N 0 0 0) (md_walked (md_set N 0 0 0) u.toNatClampNeg (some v.toNatClampNeg)) v.toNatClampNeg).2 i9 j9 := fun i9 j9 a9 c9 => by rw [mset_ne (by omega), n3 i9 j9 a9.1 a9.2]
      have ho2 : ∀ i9 j9, ¬ (3 ≤ i9 ∧ i9 ≤ 11) ∧ i9 ≠ 21 ∧ i9 ≠ 22 → ¬ i9 = 0 → (md_set (md_noteDown (md_blame (md_set N 0 0 0) (md_walked (md_set N 0 0 0) u.toNatClampNeg (some v.toNatClampNeg)) v.toNatClampNeg).2 u.toNatClampNeg c27) 0 0 2) i9 j9 = N i9 j9 := fun i9 j9 a9 c9 => by rw [ho i9 j9 a9.2 c9, hag i9 j9 (by omega)]
      have hq : ∀ p, p < 84 → rq (md_set (md_noteDown (md_blame (md_set N 0 0 0) (md_walked (md_set N 0 0 0) u.toNatClampNeg (some v.toNatClampNeg)) v.toNatClampNeg).2 u.toNatClampNeg c27) 0 0 2) p = rq N p := fun p hp => by rw [rq_sne (by omega), show rq (md_noteDown (md_blame (md_set N 0 0 0) (md_walked (md_set N 0 0 0) u.toNatClampNeg (some v.toNatClampNeg)) v.toNatClampNeg).2 u.toNatClampNeg c27) p = rq (md_blame (md_set N 0 0 0) (md_walked (md_set N 0 0 0) u.toNatClampNeg (some v.toNatClampNeg)) v.toNatClampNeg).2 p from (by unfold rq; simp only [n3 3 _ (by decide) (by decide), n3 4 _ (by decide) (by decide), n3 5 _ (by decide) (by decide), n3 6 _ (by decide) (by decide), n3 7 _ (by decide) (by decide), n3 8 _ (by decide) (by decide), n3 9 _ (by decide) (by decide)]), hag.rqe hp]
      have hall : ∀ s9, N 12 s9 ≤ 6 := fun s9 => hW 12 s9
      have hall2 : ∀ s9, N 15 s9 ≤ 10 := fun s9 => hW 15 s9
      have h21 : (md_set (md_noteDown (md_blame (md_set N 0 0 0) (md_walked (md_set N 0 0 0) u.toNatClampNeg (some v.toNatClampNeg)) v.toNatClampNeg).2 u.toNatClampNeg c27) 0 0 2) 21 0 = (if 7 ≤ N 21 0 then 7 else N 21 0 + 1) := by rw [mset_ne (by omega)]; exact n1
      have hCnt9 : cl_note G M43 nt (md_set (md_noteDown (md_blame (md_set N 0 0 0) (md_walked (md_set N 0 0 0) u.toNatClampNeg (some v.toNatClampNeg)) v.toNatClampNeg).2 u.toNatClampNeg c27) 0 0 2) := ⟨fr44, by rw [h21]; exact hs45, fun j hj => by
        rw [h21] at hj
        have hj7 : j < 7 := by split at hj <;> omega
        have n4 := n2 j hj7
        rw [mset_ne (by omega), mset_ne (by omega), n4.1, n4.2, hg46 j hj]
        by_cases h0 : j = 0
        · rw [if_pos h0, if_pos h0, if_pos h0]; exact ⟨q28, rfl, hF39⟩
        · rw [if_neg h0, if_neg h0, if_neg h0, e22, e22]
          obtain ⟨y9, y1, y2⟩ := hFn (j - 1) (by split at hj <;> omega)
          exact ⟨y9, y1, hfa47.p (hfn.p y2 (by decide)) (by decide)⟩⟩
      exact hx2 _ ⟨hX, by rw [padl.cg (ho2 1 0 (by omega) (by omega)) (fun j _ => ho2 2 j (by omega) (by omega))]; exact hPd, hCsl.cg (fun i9 hi9 => hq i9 (by omega)), hCso.cg (fun s9 hs9 => ⟨ho2 12 s9 (by omega) (by omega), fun j hj => by have := hall s9; exact hq _ (by omega)⟩), (hCth).1.cg (fun t ht => ⟨ho2 13 t (by omega) (by omega), ho2 14 t (by omega) (by omega), ho2 15 t (by omega) (by omega)⟩) (fun t k ht hk => by have := hall2 t; exact ⟨ho2 16 _ (by omega) (by omega), ho2 17 _ (by omega) (by omega), fun _ => ⟨ho2 18 _ (by omega) (by omega), hq _ (by omega)⟩⟩), hCcx.cg (fun j _ => ⟨ho2 19 j (by omega) (by omega), ho2 20 j (by omega) (by omega)⟩), hCnt9⟩ hf (show (md_set (md_noteDown (md_blame (md_set N 0 0 0) (md_walked (md_set N 0 0 0) u.toNatClampNeg (some v.toNatClampNeg)) v.toNatClampNeg).2 u.toNatClampNeg c27) 0 0 2) 0 0 = 2 from mset_eq))
