theorem rq_s3n {N : Nat → Nat → Nat} {j v p : Nat} (h : p ≠ j) : rq (md_set N 3 j v) p = rq N p := by
  unfold rq
  rw [mset_ne (by omega), mset_ne (by omega), mset_ne (by omega), mset_ne (by omega), mset_ne (by omega), mset_ne (by omega), mset_ne (by omega), mset_ne (by omega), mset_ne (by omega)]

set_option maxHeartbeats 400000 in
set_option maxRecDepth 100000 in
theorem c_guard_ {l : Launch} {G : sg_G} {d : Nat} {M : sg_M} {kr : Option Value → sg_M → Prop} {kx : String → sg_M → Prop} (htr : l.stackTraces = false) {ca pb sl so th cx nt : Nat} {N : Nat → Nat → Nat} {u : Int32} {c : Int32} {v : Int32}  (hJ : cl_r G M ca pb sl so th cx nt N) (hW : WN N) (hk : ∀ M', cl_r G M' ca pb sl so th cx nt (md_guard N u c v) → sf cf M M' → (md_guard N u c v) 0 0 = 0 → kr none M') (hx1 : ∀ M', cl_r G M' ca pb sl so th cx nt (md_guard N u c v) → sf cf M M' → (md_guard N u c v) 0 0 = 1 → kx "java/util/NoSuchElementException" M') (hx2 : ∀ M', cl_r G M' ca pb sl so th cx nt (md_guard N u c v) → sf cf M M' → (md_guard N u c v) 0 0 = 2 → kx "java/lang/IllegalStateException" M') : sg_Met l G yX6_guard cX6_guard 7 none (d + 9) 4 24 [.ref ca, .int u, .int c, .int v] M kr kx := by
  refine sg_enter [some (.ref ca), some (.int u), some (.int c), some (.int v), none, none, none] (by decide) htr (Nat.le_of_ble_eq_true rfl) rfl ?_
  intro X hC hR
  have hC : sg_C X l G cX6_guard RX6 7 (d + 9) := hC
  obtain ⟨hX, hPd, hCsl, hCso, hCth0, hCcx, hCnt⟩ := id hJ
  have hCth : ct G M th N := ⟨hCth0, hW⟩
  obtain ⟨gs, hSl, hGs⟩ := id hCsl
  obtain ⟨gt, hTh, hGt⟩ := id hCth0
  obtain ⟨gc, hCx, hGc⟩ := id hCcx
  have h1510 : N 15 u.toNatClampNeg ≤ 10 := hW 15 _
  have hf : sf cf M M := sf.rf
  refine sg_aload_n (pc := 0) (v := .ref ca) hC dX6_guard_0 rfl rfl ?_
  refine sg_iload_n (pc := 1) (x := u) hC dX6_guard_1 rfl ?_
  refine sg_callV (pc := 2) (As := [.int u]) (rest := []) (mc := 1) (ms := 6) hC tw_988 tw_990 tw_24 tw_62 tw_991 yd_X6_stackOf (by decide) (ci := 9) rfl dX6_guard_2 hX rfl (Nat.le_of_ble_eq_true rfl) (by first | omega | decide | (split <;> omega)) (by first | omega | decide | (split <;> omega)) ?_
  refine c_stkOf htr hX hTh hGt ?_ (fun hxf6 => sg_prop hC hR (by rw [show md_guard N u c v = (md_set (md_set N 0 0 0) 0 0 1) from by unfold md_guard; rw [if_neg (ts9 (show md_isThread (md_set N 0 0 0) u = false from hxf6))] <;> rfl] at hx1; exact hx1 M (hJ.cg hW (ag.set0.tr ag.set0)) cf_rf (by simp [md_set, va_up])))
  intro q1 h02 h83 h34 hq5
  obtain ⟨q7, hq8, hp9⟩ := (hGt _ h83).2 h34
  rw [hq5] at hq8
  cases hq8
  have hs10 : md_isThread (md_set N 0 0 0) u = true := isThr_t (N := (md_set N 0 0 0)) h02 h83 h34
  obtain ⟨la11, f12, hc13, hl14, hfp15⟩ := id hp9
  show sg_W X M 3 18 5 [some (.ref ca), some (.int u), some (.int c), some (.int v), none, none, none] [.ref q1]
  refine sg_get (pc := 5) (a := q1) (v := .ref la11) 0 hC rfl inw_X0 (by decide) tw_186 dX6_guard_5 hc13 rfl ?_
  refine sg_astore (pc := 8) (v := .ref la11) hC dX6_guard_8 (by decide) rfl ?_
  show sg_W X M 3 18 10 [some (.ref ca), some (.int u), some (.int c), some (.int v), some (.ref la11), none, none] []
  refine sg_iload_n (pc := 10) (x := c) hC dX6_guard_10 rfl ?_
  refine sg_iconst (pc := 11) (((-1))) hC dX6_guard_11 (by decide) ?_
  refine sg_icmp_ne (pc := 12) (x := c) (y := ((-1))) 19 hC dX6_guard_12 (by decide) (fun h16 => ?_) (fun h16 => ?_)
  · refine sg_aload_n (pc := 19) (v := .ref ca) hC dX6_guard_19 rfl rfl ?_
    refine sg_iload_n (pc := 20) (x := c) hC dX6_guard_20 rfl ?_
    refine sg_callV (pc := 21) (As := [.int c]) (rest := []) (mc := 1) (ms := 6) hC tw_1033 tw_1035 tw_25 tw_62 tw_1036 yd_X6_sourcesIn (by decide) (ci := 9) rfl dX6_guard_21 hX rfl (Nat.le_of_ble_eq_true rfl) (by first | omega | decide | (split <;> omega)) (by first | omega | decide | (split <;> omega)) ?_
    refine c_srcsIn htr hW hX hCx hGc ?_ (fun hxf20 => sg_prop hC hR (by rw [show md_guard N u c v = (md_set (md_set N 0 0 0) 0 0 1) from by unfold md_guard; rw [if_pos hs10, if_neg h16, if_neg (ts9 (show md_isContext (md_set N 0 0 0) c = false from hxf20))] <;> rfl] at hx1; exact hx1 M (hJ.cg hW (ag.set0.tr ag.set0)) cf_rf (by simp [md_set, va_up])))
    intro h017 h818 h319
    have hs21 : md_isContext (md_set N 0 0 0) c = true := isCtx_t (N := (md_set N 0 0 0)) h017 h818 h319
    show sg_W X M 2 12 24 [some (.ref ca), some (.int u), some (.int c), some (.int v), some (.ref la11), none, none] [.int (nI (N 20 c.toNatClampNeg))]
    refine sg_istore (pc := 24) (x := nI (N 20 c.toNatClampNeg)) hC dX6_guard_24 (by decide) ?_
    show sg_W X M 2 12 26 [some (.ref ca), some (.int u), some (.int c), some (.int v), some (.ref la11), some (.int (nI (N 20 c.toNatClampNeg))), none] []
    refine sg_aload_n (pc := 26) (v := .ref ca) hC dX6_guard_26 rfl rfl ?_
    refine sg_iload_n (pc := 27) (x := v) hC dX6_guard_27 rfl ?_
    refine sg_callV (pc := 28) (As := [.int v]) (rest := []) (mc := 1) (ms := 6) hC tw_1037 tw_1039 tw_26 tw_62 tw_1040 yd_X6_permissionOrNothing (by decide) (ci := 9) rfl dX6_guard_28 hX rfl (Nat.le_of_ble_eq_true rfl) (by first | omega | decide | (split <;> omega)) (by first | omega | decide | (split <;> omega)) ?_
    refine c_permON htr hX hSl hGs (fun hn32 => ?_) ?_ (fun hn33 hxf27 => sg_prop hC hR (by rw [show md_guard N u c v = (md_set (md_set N 0 0 0) 0 0 1) from by unfold md_guard; rw [if_pos hs10, if_neg h16, if_pos hs21, if_neg hn33, if_neg (ts9 (show md_isSlot (md_set N 0 0 0) v = false from hxf27))] <;> rfl] at hx1; exact hx1 M (hJ.cg hW (ag.set0.tr ag.set0)) cf_rf (by simp [md_set, va_up])))
    · show sg_W X M 1 6 31 [some (.ref ca), some (.int u), some (.int c), some (.int v), some (.ref la11), some (.int (nI (N 20 c.toNatClampNeg))), none] [.null]
      refine sg_astore (pc := 31) (v := .null) hC dX6_guard_31 (by decide) rfl ?_
      show sg_W X M 1 6 33 [some (.ref ca), some (.int u), some (.int c), some (.int v), some (.ref la11), some (.int (nI (N 20 c.toNatClampNeg))), some (.null)] []
      refine sg_aload (pc := 33) (v := .ref la11) hC dX6_guard_33 rfl rfl ?_
      obtain ⟨_, _, _, _, _, hx34, -⟩ := id hl14
      refine sg_callV (pc := 35) (As := []) (rest := []) (mc := 0) (ms := 0) hC tw_1041 tw_1042 tw_1043 tw_69 tw_1044 yd_Jx4a65c_isEmpty_aae02 (by decide) (ci := 2) rfl dX6_guard_35 hx34 rfl (Nat.le_of_ble_eq_true rfl) (by first | omega | decide | (split <;> omega)) (by first | omega | decide | (split <;> omega)) ?_
      refine c_alEmpty htr hl14 ?_
      show sg_W X M 1 6 38 [some (.ref ca), some (.int u), some (.int c), some (.int v), some (.ref la11), some (.int (nI (N 20 c.toNatClampNeg))), some (.null)] [.int (nI ((if N 15 u.toNatClampNeg = 0 then 1 else 0)))]
      refine sg_ifN_eq (pc := 38) (a := (if N 15 u.toNatClampNeg = 0 then 1 else 0)) 49 hC dX6_guard_38 (by decide) (by first | omega | decide | (split <;> omega)) (fun h35 => ?_) (fun h35 => ?_)
      · have hnz : ¬ N 15 u.toNatClampNeg = 0 := fun e => by rw [if_pos e] at h35; omega
        refine sg_aload (pc := 49) (v := .ref la11) hC dX6_guard_49 rfl rfl ?_
        refine sg_aload (pc := 51) (v := .ref la11) hC dX6_guard_51 rfl rfl ?_
        obtain ⟨_, _, _, _, _, hx36, -⟩ := id hl14
        refine sg_callV (pc := 53) (As := []) (rest := [.ref la11]) (mc := 0) (ms := 0) hC tw_867 tw_868 tw_869 tw_69 tw_870 yd_Jx4a65c_size_8abf5 (by decide) (ci := 2) rfl dX6_guard_53 hx36 rfl (Nat.le_of_ble_eq_true rfl) (by first | omega | decide | (split <;> omega)) (by first | omega | decide | (split <;> omega)) ?_
        refine c_alSize htr hl14 ?_
        show sg_W X M 1 6 56 [some (.ref ca), some (.int u), some (.int c), some (.int v), some (.ref la11), some (.int (nI (N 20 c.toNatClampNeg))), some (.null)] [.int (nI (N 15 u.toNatClampNeg)), .ref la11]
        refine sg_iconst (pc := 56) (nI 1) hC dX6_guard_56 (by decide) ?_
        refine sg_isubN (pc := 57) (a := N 15 u.toNatClampNeg) (b := 1) hC dX6_guard_57 (by first | omega | decide | (split <;> omega)) ?_
        obtain ⟨_, _, _, _, _, hx37, -⟩ := id hl14
        refine sg_callV (pc := 58) (As := [.int (nI ((N 15 u.toNatClampNeg) - 1))]) (rest := []) (mc := 0) (ms := 0) hC tw_1021 tw_971 tw_972 tw_69 tw_973 yd_Jx4a65c_get_915e3 (by decide) (ci := 2) rfl dX6_guard_58 hx37 rfl (Nat.le_of_ble_eq_true rfl) (by first | omega | decide | (split <;> omega)) (by first | omega | decide | (split <;> omega)) ?_
        obtain ⟨q38, hq39, hp40⟩ := hfp15 ((N 15 u.toNatClampNeg) - 1) (by omega)
        obtain ⟨re41, li42, hc43, hg44⟩ := id hp40
        refine c_alGet htr hl14 (by omega) hq39 ?_
        show sg_W X M 1 6 61 [some (.ref ca), some (.int u), some (.int c), some (.int v), some (.ref la11), some (.int (nI (N 20 c.toNatClampNeg))), some (.null)] [.ref q38]
        refine sg_castC (pc := 61) (ci := 4) hC rfl (by simp [sg_wk]) tw_992 dX6_guard_61 hc43 ?_
        refine sg_iload (pc := 64) (x := nI (N 20 c.toNatClampNeg)) hC dX6_guard_64 rfl ?_
        refine sg_aload (pc := 66) (v := .null) hC dX6_guard_66 rfl rfl ?_
        refine sg_callV (pc := 68) (As := [.int (nI (N 20 c.toNatClampNeg)), .null]) (rest := []) (mc := 0) (ms := 0) hC tw_1045 tw_1046 tw_1047 tw_90 tw_1048 yd_X1_becomeGuard (by decide) (ci := 4) rfl dX6_guard_68 hc43 rfl (Nat.le_of_ble_eq_true rfl) (by first | omega | decide | (split <;> omega)) (by first | omega | decide | (split <;> omega)) ?_
        have hc43d := hc43
        refine c_frGuard (nr := N 20 c.toNatClampNeg) (nl := none) htr hc43 (by omega) (fun M45 hw46 => ?_)
        have hX : M45 ca = some (1, .inr (9, [.ref pb, .ref sl, .ref so, .ref th, .ref cx, .ref nt])) := hw46.n hX (sg_net hX hc43 (by first | omega | decide | (split <;> omega)))
        have hSl : M45 sl = some (4, .inl (.object RX3, 8, .inr (.inr (.inr (.inr gs))))) := hw46.n hSl (sg_net hSl hc43 (by first | omega | decide | (split <;> omega)))
        have hTh : M45 th = some (6, .inl (.object RX0, 4, .inr (.inr (.inr (.inr gt))))) := hw46.n hTh (sg_net hTh hc43 (by first | omega | decide | (split <;> omega)))
        have hCx : M45 cx = some (7, .inl (.int, 8, .inl gc)) := hw46.n hCx (sg_net hCx hc43 (by first | omega | decide | (split <;> omega)))
        have hc13 : M45 q1 = some (40 + u.toNatClampNeg, .inr (3, [.ref la11, .int (nI (N 14 u.toNatClampNeg))])) := hw46.n hc13 (sg_net hc13 hc43 (by first | omega | decide | (split <;> omega)))
        have hPd : sb_r 2 3 M45 pb (padl N) := hPd.st hw46 hc43 (by first | omega | decide | (split <;> omega)) (by first | omega | decide | (split <;> omega))
        have hCsl : cl_slot M45 sl N := hCsl.st hw46 hc43 (by first | omega | decide | (split <;> omega))
        have hCso : cl_src G M45 so N := hCso.st hw46 hc43 (by first | omega | decide | (split <;> omega))
        have hCcx : cl_ctx M45 cx N := hCcx.st hw46 hc43 (by first | omega | decide | (split <;> omega))
        have hCnt : cl_note G M45 nt N := hCnt.st hw46 hc43 (by first | omega | decide | (split <;> omega))
        have hl14 : al_r G (50 + u.toNatClampNeg) (60 + u.toNatClampNeg) M45 la11 (N 15 u.toNatClampNeg) f12 := hl14.st hw46 hc43 (by first | omega | decide | (split <;> omega)) (by first | omega | decide | (split <;> omega)) (by first | omega | decide | (split <;> omega))
        have hf : sf cf M M45 := hf.st hw46 hc43 (by first | (simp [cf, cm]; done) | (simp only [cf, cm]; omega))
        have hc43 : M45 q38 = some (200 + 10 * u.toNatClampNeg + ((N 15 u.toNatClampNeg) - 1), .inr (4, [.int (nI (N 16 (10 * u.toNatClampNeg + ((N 15 u.toNatClampNeg) - 1)))), .int (nI (N 20 c.toNatClampNeg)), .int (nI 1), .null])) := hw46.1
        show sg_W X M45 1 6 71 [some (.ref ca), some (.int u), some (.int c), some (.int v), some (.ref la11), some (.int (nI (N 20 c.toNatClampNeg))), some (.null)] []
        have ef : ((10 * u.toNatClampNeg) + (N 15 u.toNatClampNeg)) - 1 = (10 * u.toNatClampNeg + (N 15 u.toNatClampNeg - 1)) := by omega
        have e9 : md_guard N u c v = (md_set (md_set (md_set (md_set N 0 0 0) 17 (10 * u.toNatClampNeg + (N 15 u.toNatClampNeg - 1)) 1) 18 (10 * u.toNatClampNeg + (N 15 u.toNatClampNeg - 1)) (N 20 c.toNatClampNeg)) 3 (44 + (10 * u.toNatClampNeg + (N 15 u.toNatClampNeg - 1))) 0) := by unfold md_guard; rw [if_pos hs10, if_neg h16, if_pos hs21, if_pos hn32, if_neg hnz, if_pos (Nat.zero_le _), ef]
        rw [e9] at hk
        have hq : ∀ p, p ≠ 44 + (10 * u.toNatClampNeg + (N 15 u.toNatClampNeg - 1)) → rq (md_set (md_set (md_set (md_set N 0 0 0) 17 (10 * u.toNatClampNeg + (N 15 u.toNatClampNeg - 1)) 1) 18 (10 * u.toNatClampNeg + (N 15 u.toNatClampNeg - 1)) (N 20 c.toNatClampNeg)) 3 (44 + (10 * u.toNatClampNeg + (N 15 u.toNatClampNeg - 1))) 0) p = rq N p := fun p hp => by rw [rq_s3n hp, rq_sne (by omega), rq_sne (by omega), rq_sne (by omega)]
        have ho : ∀ i9 j9, ¬ (3 ≤ i9 ∧ i9 ≤ 9) ∧ ¬ (i9 = 17 ∧ j9 = (10 * u.toNatClampNeg + (N 15 u.toNatClampNeg - 1))) ∧ ¬ (i9 = 18 ∧ j9 = (10 * u.toNatClampNeg + (N 15 u.toNatClampNeg - 1))) → ¬ i9 = 0 → (md_set (md_set (md_set (md_set N 0 0 0) 17 (10 * u.toNatClampNeg + (N 15 u.toNatClampNeg - 1)) 1) 18 (10 * u.toNatClampNeg + (N 15 u.toNatClampNeg - 1)) (N 20 c.toNatClampNeg)) 3 (44 + (10 * u.toNatClampNeg + (N 15 u.toNatClampNeg - 1))) 0) i9 j9 = N i9 j9 := fun i9 j9 a9 c9 => by rw [mset_ne (by omega), mset_ne a9.2.2, mset_ne a9.2.1, mset_ne (by omega)]
        have h17 : (md_set (md_set (md_set (md_set N 0 0 0) 17 (10 * u.toNatClampNeg + (N 15 u.toNatClampNeg - 1)) 1) 18 (10 * u.toNatClampNeg + (N 15 u.toNatClampNeg - 1)) (N 20 c.toNatClampNeg)) 3 (44 + (10 * u.toNatClampNeg + (N 15 u.toNatClampNeg - 1))) 0) 17 (10 * u.toNatClampNeg + (N 15 u.toNatClampNeg - 1)) = 1 := by rw [mset_ne (by omega), mset_ne (by omega), mset_eq]
        have h18 : (md_set (md_set (md_set (md_set N 0 0 0) 17 (10 * u.toNatClampNeg + (N 15 u.toNatClampNeg - 1)) 1) 18 (10 * u.toNatClampNeg + (N 15 u.toNatClampNeg - 1)) (N 20 c.toNatClampNeg)) 3 (44 + (10 * u.toNatClampNeg + (N 15 u.toNatClampNeg - 1))) 0) 18 (10 * u.toNatClampNeg + (N 15 u.toNatClampNeg - 1)) = N 20 c.toNatClampNeg := by rw [mset_ne (by omega), mset_eq]
        have hall : ∀ s9, N 12 s9 ≤ 6 := fun s9 => hW 12 s9
        have hall2 : ∀ s9, N 15 s9 ≤ 10 := fun s9 => hW 15 s9
        have hlim : ((md_set (md_set (md_set (md_set N 0 0 0) 17 (10 * u.toNatClampNeg + (N 15 u.toNatClampNeg - 1)) 1) 18 (10 * u.toNatClampNeg + (N 15 u.toNatClampNeg - 1)) (N 20 c.toNatClampNeg)) 3 (44 + (10 * u.toNatClampNeg + (N 15 u.toNatClampNeg - 1))) 0) 3 (44 + (10 * u.toNatClampNeg + (N 15 u.toNatClampNeg - 1))) = 0 → (none : Option Nat) = none) ∧ ((md_set (md_set (md_set (md_set N 0 0 0) 17 (10 * u.toNatClampNeg + (N 15 u.toNatClampNeg - 1)) 1) 18 (10 * u.toNatClampNeg + (N 15 u.toNatClampNeg - 1)) (N 20 c.toNatClampNeg)) 3 (44 + (10 * u.toNatClampNeg + (N 15 u.toNatClampNeg - 1))) 0) 3 (44 + (10 * u.toNatClampNeg + (N 15 u.toNatClampNeg - 1))) ≠ 0 → ∃ q9, (none : Option Nat) = some q9 ∧ pm_r M45 q9 (rq (md_set (md_set (md_set (md_set N 0 0 0) 17 (10 * u.toNatClampNeg + (N 15 u.toNatClampNeg - 1)) 1) 18 (10 * u.toNatClampNeg + (N 15 u.toNatClampNeg - 1)) (N 20 c.toNatClampNeg)) 3 (44 + (10 * u.toNatClampNeg + (N 15 u.toNatClampNeg - 1))) 0) (44 + (10 * u.toNatClampNeg + (N 15 u.toNatClampNeg - 1))))) := ⟨fun _ => rfl, fun e => absurd mset_eq e⟩
        have hcs : cs_r G M45 u.toNatClampNeg q1 (md_set (md_set (md_set (md_set N 0 0 0) 17 (10 * u.toNatClampNeg + (N 15 u.toNatClampNeg - 1)) 1) 18 (10 * u.toNatClampNeg + (N 15 u.toNatClampNeg - 1)) (N 20 c.toNatClampNeg)) 3 (44 + (10 * u.toNatClampNeg + (N 15 u.toNatClampNeg - 1))) 0) := ⟨la11, _, by rw [ho 14 _ (by omega) (by omega)]; exact hc13, by rw [ho 15 _ (by omega) (by omega)]; exact hl14, fun k hk => by
          rw [ho 15 _ (by omega) (by omega)] at hk
          by_cases hk2 : k = N 15 u.toNatClampNeg - 1
          · rw [hk2]
            refine ⟨q38, hq39, _, none, ?_, fun _ => ⟨congrArg nI h18.symm, hlim.1, hlim.2⟩⟩
            rw [ho 16 _ (by omega) (by omega), h17]
            exact hc43
          · obtain ⟨p9, p8, p7⟩ := hfp15 k (by omega)
            exact ⟨p9, p8, (p7.p (sf_st hw46 hc43d) (by simp; omega)).cg (ho 16 _ (by omega) (by omega)) (ho 17 _ (by omega) (by omega)) (fun _ => ⟨ho 18 _ (by omega) (by omega), hq _ (by omega)⟩)⟩⟩
        have hCth9 : cl_thr G M45 th (md_set (md_set (md_set (md_set N 0 0 0) 17 (10 * u.toNatClampNeg + (N 15 u.toNatClampNeg - 1)) 1) 18 (10 * u.toNatClampNeg + (N 15 u.toNatClampNeg - 1)) (N 20 c.toNatClampNeg)) 3 (44 + (10 * u.toNatClampNeg + (N 15 u.toNatClampNeg - 1))) 0) := ⟨gt, hTh, fun t9 ht9 => by
          rw [ho 13 t9 (by omega) (by omega)]
          refine ⟨(hGt t9 ht9).1, fun e => ?_⟩
          by_cases he : t9 = u.toNatClampNeg
          · rw [he]; exact ⟨q1, hq5, hcs⟩
          · obtain ⟨a9, q1, q2⟩ := (hGt t9 ht9).2 e
            have h9 := hall2 t9
            exact ⟨a9, q1, (q2.p (sf_st hw46 hc43d) h9 (by simp; omega)).cg (ho 14 _ (by omega) (by omega)) (ho 15 _ (by omega) (by omega)) (fun k hk => ⟨ho 16 _ (by omega) (by omega), ho 17 _ (by omega) (by omega), fun _ => ⟨ho 18 _ (by omega) (by omega), hq _ (by omega)⟩⟩)⟩⟩
        exact sg_vreturn (st := []) (pc := 71) hC hR dX6_guard_71 (hk _ ⟨hX, by rw [padl.cg (ho 1 0 (by omega) (by omega)) (fun j _ => ho 2 j (by omega) (by omega))]; exact hPd, hCsl.cg (fun i9 hi9 => hq i9 (by omega)), hCso.cg (fun s9 hs9 => ⟨ho 12 s9 (by omega) (by omega), fun j hj => by have := hall s9; exact hq _ (by omega)⟩), hCth9, hCcx.cg (fun j _ => ⟨ho 19 j (by omega) (by omega), ho 20 j (by omega) (by omega)⟩), hCnt.cg (ho 21 0 (by omega) (by omega)) (fun j _ => ho 22 j (by omega) (by omega))⟩ hf (by show (md_set (md_set (md_set (md_set N 0 0 0) 17 (10 * u.toNatClampNeg + (N 15 u.toNatClampNeg - 1)) 1) 18 (10 * u.toNatClampNeg + (N 15 u.toNatClampNeg - 1)) (N 20 c.toNatClampNeg)) 3 (44 + (10 * u.toNatClampNeg + (N 15 u.toNatClampNeg - 1))) 0) 0 0 = 0; rw [mset_ne (by omega), mset_ne (by omega), mset_ne (by omega), mset_eq]))
      · have hnz : N 15 u.toNatClampNeg = 0 := Decidable.byContradiction (fun e => by rw [if_neg e] at h35; exact h35 rfl)
        exact sg_throw (pc := 41) (st := []) hC hR (by decide) tw_871 tw_88 th_ISE_114_g th_ISE_114_b th_ISE_112_114_o dX6_guard_41 dX6_guard_44 dX6_guard_45 dX6_guard_48 (by decide) (by first | omega | decide | (split <;> omega)) (by first | omega | decide | (split <;> omega)) (by rw [show md_guard N u c v = (md_set (md_set N 0 0 0) 0 0 2) from by unfold md_guard; rw [if_pos hs10, if_neg h16, if_pos hs21, if_pos hn32, if_pos (show N 15 u.toNatClampNeg = 0 by omega)] <;> rfl] at hx2; exact hx2 M (hJ.cg hW (ag.set0.tr ag.set0)) cf_rf (by simp [md_set, va_up]))
    · intro q22 hn33 h023 h824 h325 hq26
      obtain ⟨q28, hq29, hp30⟩ := (hGs _ h824).2 h325
      rw [hq26] at hq29
      cases hq29
      have hs31 : md_isSlot (md_set N 0 0 0) v = true := isSlot_t (N := (md_set N 0 0 0)) h023 h824 h325
      show sg_W X M 1 6 31 [some (.ref ca), some (.int u), some (.int c), some (.int v), some (.ref la11), some (.int (nI (N 20 c.toNatClampNeg))), none] [.ref q22]
      refine sg_astore (pc := 31) (v := .ref q22) hC dX6_guard_31 (by decide) rfl ?_
      show sg_W X M 1 6 33 [some (.ref ca), some (.int u), some (.int c), some (.int v), some (.ref la11), some (.int (nI (N 20 c.toNatClampNeg))), some (.ref q22)] []
      refine sg_aload (pc := 33) (v := .ref la11) hC dX6_guard_33 rfl rfl ?_
      obtain ⟨_, _, _, _, _, hx47, -⟩ := id hl14
      refine sg_callV (pc := 35) (As := []) (rest := []) (mc := 0) (ms := 0) hC tw_1041 tw_1042 tw_1043 tw_69 tw_1044 yd_Jx4a65c_isEmpty_aae02 (by decide) (ci := 2) rfl dX6_guard_35 hx47 rfl (Nat.le_of_ble_eq_true rfl) (by first | omega | decide | (split <;> omega)) (by first | omega | decide | (split <;> omega)) ?_
      refine c_alEmpty htr hl14 ?_
      show sg_W X M 1 6 38 [some (.ref ca), some (.int u), some (.int c), some (.int v), some (.ref la11), some (.int (nI (N 20 c.toNatClampNeg))), some (.ref q22)] [.int (nI ((if N 15 u.toNatClampNeg = 0 then 1 else 0)))]
      refine sg_ifN_eq (pc := 38) (a := (if N 15 u.toNatClampNeg = 0 then 1 else 0)) 49 hC dX6_guard_38 (by decide) (by first | omega | decide | (split <;> omega)) (fun h48 => ?_) (fun h48 => ?_)
      · have hnz : ¬ N 15 u.toNatClampNeg = 0 := fun e => by rw [if_pos e] at h48; omega
        refine sg_aload (pc := 49) (v := .ref la11) hC dX6_guard_49 rfl rfl ?_
        refine sg_aload (pc := 51) (v := .ref la11) hC dX6_guard_51 rfl rfl ?_
        obtain ⟨_, _, _, _, _, hx49, -⟩ := id hl14
        refine sg_callV (pc := 53) (As := []) (rest := [.ref la11]) (mc := 0) (ms := 0) hC tw_867 tw_868 tw_869 tw_69 tw_870 yd_Jx4a65c_size_8abf5 (by decide) (ci := 2) rfl dX6_guard_53 hx49 rfl (Nat.le_of_ble_eq_true rfl) (by first | omega | decide | (split <;> omega)) (by first | omega | decide | (split <;> omega)) ?_
        refine c_alSize htr hl14 ?_
        show sg_W X M 1 6 56 [some (.ref ca), some (.int u), some (.int c), some (.int v), some (.ref la11), some (.int (nI (N 20 c.toNatClampNeg))), some (.ref q22)] [.int (nI (N 15 u.toNatClampNeg)), .ref la11]
        refine sg_iconst (pc := 56) (nI 1) hC dX6_guard_56 (by decide) ?_
        refine sg_isubN (pc := 57) (a := N 15 u.toNatClampNeg) (b := 1) hC dX6_guard_57 (by first | omega | decide | (split <;> omega)) ?_
        obtain ⟨_, _, _, _, _, hx50, -⟩ := id hl14
        refine sg_callV (pc := 58) (As := [.int (nI ((N 15 u.toNatClampNeg) - 1))]) (rest := []) (mc := 0) (ms := 0) hC tw_1021 tw_971 tw_972 tw_69 tw_973 yd_Jx4a65c_get_915e3 (by decide) (ci := 2) rfl dX6_guard_58 hx50 rfl (Nat.le_of_ble_eq_true rfl) (by first | omega | decide | (split <;> omega)) (by first | omega | decide | (split <;> omega)) ?_
        obtain ⟨q51, hq52, hp53⟩ := hfp15 ((N 15 u.toNatClampNeg) - 1) (by omega)
        obtain ⟨re54, li55, hc56, hg57⟩ := id hp53
        refine c_alGet htr hl14 (by omega) hq52 ?_
        show sg_W X M 1 6 61 [some (.ref ca), some (.int u), some (.int c), some (.int v), some (.ref la11), some (.int (nI (N 20 c.toNatClampNeg))), some (.ref q22)] [.ref q51]
        refine sg_castC (pc := 61) (ci := 4) hC rfl (by simp [sg_wk]) tw_992 dX6_guard_61 hc56 ?_
        refine sg_iload (pc := 64) (x := nI (N 20 c.toNatClampNeg)) hC dX6_guard_64 rfl ?_
        refine sg_aload (pc := 66) (v := .ref q22) hC dX6_guard_66 rfl rfl ?_
        refine sg_callV (pc := 68) (As := [.int (nI (N 20 c.toNatClampNeg)), .ref q22]) (rest := []) (mc := 0) (ms := 0) hC tw_1045 tw_1046 tw_1047 tw_90 tw_1048 yd_X1_becomeGuard (by decide) (ci := 4) rfl dX6_guard_68 hc56 rfl (Nat.le_of_ble_eq_true rfl) (by first | omega | decide | (split <;> omega)) (by first | omega | decide | (split <;> omega)) ?_
        have hc56d := hc56
        refine c_frGuard (nr := N 20 c.toNatClampNeg) (nl := some q22) htr hc56 (by omega) (fun M58 hw59 => ?_)
        have hX : M58 ca = some (1, .inr (9, [.ref pb, .ref sl, .ref so, .ref th, .ref cx, .ref nt])) := hw59.n hX (sg_net hX hc56 (by first | omega | decide | (split <;> omega)))
        have hSl : M58 sl = some (4, .inl (.object RX3, 8, .inr (.inr (.inr (.inr gs))))) := hw59.n hSl (sg_net hSl hc56 (by first | omega | decide | (split <;> omega)))
        have hTh : M58 th = some (6, .inl (.object RX0, 4, .inr (.inr (.inr (.inr gt))))) := hw59.n hTh (sg_net hTh hc56 (by first | omega | decide | (split <;> omega)))
        have hCx : M58 cx = some (7, .inl (.int, 8, .inl gc)) := hw59.n hCx (sg_net hCx hc56 (by first | omega | decide | (split <;> omega)))
        have hc13 : M58 q1 = some (40 + u.toNatClampNeg, .inr (3, [.ref la11, .int (nI (N 14 u.toNatClampNeg))])) := hw59.n hc13 (sg_net hc13 hc56 (by first | omega | decide | (split <;> omega)))
        have hPd : sb_r 2 3 M58 pb (padl N) := hPd.st hw59 hc56 (by first | omega | decide | (split <;> omega)) (by first | omega | decide | (split <;> omega))
        have hCsl : cl_slot M58 sl N := hCsl.st hw59 hc56 (by first | omega | decide | (split <;> omega))
        have hCso : cl_src G M58 so N := hCso.st hw59 hc56 (by first | omega | decide | (split <;> omega))
        have hCcx : cl_ctx M58 cx N := hCcx.st hw59 hc56 (by first | omega | decide | (split <;> omega))
        have hCnt : cl_note G M58 nt N := hCnt.st hw59 hc56 (by first | omega | decide | (split <;> omega))
        have hl14 : al_r G (50 + u.toNatClampNeg) (60 + u.toNatClampNeg) M58 la11 (N 15 u.toNatClampNeg) f12 := hl14.st hw59 hc56 (by first | omega | decide | (split <;> omega)) (by first | omega | decide | (split <;> omega)) (by first | omega | decide | (split <;> omega))
        have hp30 : pm_r M58 q22 (rq N v.toNatClampNeg) := hp30.st hw59 hc56 (by first | omega | decide | (split <;> omega)) (by first | omega | decide | (split <;> omega)) (by first | omega | decide | (split <;> omega))
        have hf : sf cf M M58 := hf.st hw59 hc56 (by first | (simp [cf, cm]; done) | (simp only [cf, cm]; omega))
        have hc56 : M58 q51 = some (200 + 10 * u.toNatClampNeg + ((N 15 u.toNatClampNeg) - 1), .inr (4, [.int (nI (N 16 (10 * u.toNatClampNeg + ((N 15 u.toNatClampNeg) - 1)))), .int (nI (N 20 c.toNatClampNeg)), .int (nI 1), .ref q22])) := hw59.1
        show sg_W X M58 1 6 71 [some (.ref ca), some (.int u), some (.int c), some (.int v), some (.ref la11), some (.int (nI (N 20 c.toNatClampNeg))), some (.ref q22)] []
        have ef : ((10 * u.toNatClampNeg) + (N 15 u.toNatClampNeg)) - 1 = (10 * u.toNatClampNeg + (N 15 u.toNatClampNeg - 1)) := by omega
        have e9 : md_guard N u c v = (md_copy (md_set (md_set (md_set (md_set N 0 0 0) 17 (10 * u.toNatClampNeg + (N 15 u.toNatClampNeg - 1)) 1) 18 (10 * u.toNatClampNeg + (N 15 u.toNatClampNeg - 1)) (N 20 c.toNatClampNeg)) 3 (44 + (10 * u.toNatClampNeg + (N 15 u.toNatClampNeg - 1))) 0) v.toNatClampNeg (44 + (10 * u.toNatClampNeg + (N 15 u.toNatClampNeg - 1)))) := by unfold md_guard; rw [if_pos hs10, if_neg h16, if_pos hs21, if_neg hn33, if_pos hs31, if_neg hnz, if_pos (Nat.zero_le _), if_neg (Nat.not_lt_zero _), ef]
        rw [e9] at hk
        have hq : ∀ p, p ≠ 44 + (10 * u.toNatClampNeg + (N 15 u.toNatClampNeg - 1)) → rq (md_copy (md_set (md_set (md_set (md_set N 0 0 0) 17 (10 * u.toNatClampNeg + (N 15 u.toNatClampNeg - 1)) 1) 18 (10 * u.toNatClampNeg + (N 15 u.toNatClampNeg - 1)) (N 20 c.toNatClampNeg)) 3 (44 + (10 * u.toNatClampNeg + (N 15 u.toNatClampNeg - 1))) 0) v.toNatClampNeg (44 + (10 * u.toNatClampNeg + (N 15 u.toNatClampNeg - 1)))) p = rq N p := fun p hp => by rw [rq_copy_ne hp, rq_s3n hp, rq_sne (by omega), rq_sne (by omega), rq_sne (by omega)]
        have ho : ∀ i9 j9, ¬ (3 ≤ i9 ∧ i9 ≤ 9) ∧ ¬ (i9 = 17 ∧ j9 = (10 * u.toNatClampNeg + (N 15 u.toNatClampNeg - 1))) ∧ ¬ (i9 = 18 ∧ j9 = (10 * u.toNatClampNeg + (N 15 u.toNatClampNeg - 1))) → ¬ i9 = 0 → (md_copy (md_set (md_set (md_set (md_set N 0 0 0) 17 (10 * u.toNatClampNeg + (N 15 u.toNatClampNeg - 1)) 1) 18 (10 * u.toNatClampNeg + (N 15 u.toNatClampNeg - 1)) (N 20 c.toNatClampNeg)) 3 (44 + (10 * u.toNatClampNeg + (N 15 u.toNatClampNeg - 1))) 0) v.toNatClampNeg (44 + (10 * u.toNatClampNeg + (N 15 u.toNatClampNeg - 1)))) i9 j9 = N i9 j9 := fun i9 j9 a9 c9 => by rw [mc.copy _ _ i9 j9 (by omega), mset_ne (by omega), mset_ne a9.2.2, mset_ne a9.2.1, mset_ne (by omega)]
        have h17 : (md_copy (md_set (md_set (md_set (md_set N 0 0 0) 17 (10 * u.toNatClampNeg + (N 15 u.toNatClampNeg - 1)) 1) 18 (10 * u.toNatClampNeg + (N 15 u.toNatClampNeg - 1)) (N 20 c.toNatClampNeg)) 3 (44 + (10 * u.toNatClampNeg + (N 15 u.toNatClampNeg - 1))) 0) v.toNatClampNeg (44 + (10 * u.toNatClampNeg + (N 15 u.toNatClampNeg - 1)))) 17 (10 * u.toNatClampNeg + (N 15 u.toNatClampNeg - 1)) = 1 := by rw [mc.copy _ _ 17 _ (by omega), mset_ne (by omega), mset_ne (by omega), mset_eq]
        have h18 : (md_copy (md_set (md_set (md_set (md_set N 0 0 0) 17 (10 * u.toNatClampNeg + (N 15 u.toNatClampNeg - 1)) 1) 18 (10 * u.toNatClampNeg + (N 15 u.toNatClampNeg - 1)) (N 20 c.toNatClampNeg)) 3 (44 + (10 * u.toNatClampNeg + (N 15 u.toNatClampNeg - 1))) 0) v.toNatClampNeg (44 + (10 * u.toNatClampNeg + (N 15 u.toNatClampNeg - 1)))) 18 (10 * u.toNatClampNeg + (N 15 u.toNatClampNeg - 1)) = N 20 c.toNatClampNeg := by rw [mc.copy _ _ 18 _ (by omega), mset_ne (by omega), mset_eq]
        have hall : ∀ s9, N 12 s9 ≤ 6 := fun s9 => hW 12 s9
        have hall2 : ∀ s9, N 15 s9 ≤ 10 := fun s9 => hW 15 s9
        have hql : rq (md_copy (md_set (md_set (md_set (md_set N 0 0 0) 17 (10 * u.toNatClampNeg + (N 15 u.toNatClampNeg - 1)) 1) 18 (10 * u.toNatClampNeg + (N 15 u.toNatClampNeg - 1)) (N 20 c.toNatClampNeg)) 3 (44 + (10 * u.toNatClampNeg + (N 15 u.toNatClampNeg - 1))) 0) v.toNatClampNeg (44 + (10 * u.toNatClampNeg + (N 15 u.toNatClampNeg - 1)))) (44 + (10 * u.toNatClampNeg + (N 15 u.toNatClampNeg - 1))) = rq N v.toNatClampNeg := by rw [rq_copy, rq_s3n (by omega), rq_sne (by omega), rq_sne (by omega), rq_sne (by omega)]
        have h3l : (md_copy (md_set (md_set (md_set (md_set N 0 0 0) 17 (10 * u.toNatClampNeg + (N 15 u.toNatClampNeg - 1)) 1) 18 (10 * u.toNatClampNeg + (N 15 u.toNatClampNeg - 1)) (N 20 c.toNatClampNeg)) 3 (44 + (10 * u.toNatClampNeg + (N 15 u.toNatClampNeg - 1))) 0) v.toNatClampNeg (44 + (10 * u.toNatClampNeg + (N 15 u.toNatClampNeg - 1)))) 3 (44 + (10 * u.toNatClampNeg + (N 15 u.toNatClampNeg - 1))) = N 3 v.toNatClampNeg := congrArg Prod.fst hql
        have hlim : ((md_copy (md_set (md_set (md_set (md_set N 0 0 0) 17 (10 * u.toNatClampNeg + (N 15 u.toNatClampNeg - 1)) 1) 18 (10 * u.toNatClampNeg + (N 15 u.toNatClampNeg - 1)) (N 20 c.toNatClampNeg)) 3 (44 + (10 * u.toNatClampNeg + (N 15 u.toNatClampNeg - 1))) 0) v.toNatClampNeg (44 + (10 * u.toNatClampNeg + (N 15 u.toNatClampNeg - 1)))) 3 (44 + (10 * u.toNatClampNeg + (N 15 u.toNatClampNeg - 1))) = 0 → (some q22) = none) ∧ ((md_copy (md_set (md_set (md_set (md_set N 0 0 0) 17 (10 * u.toNatClampNeg + (N 15 u.toNatClampNeg - 1)) 1) 18 (10 * u.toNatClampNeg + (N 15 u.toNatClampNeg - 1)) (N 20 c.toNatClampNeg)) 3 (44 + (10 * u.toNatClampNeg + (N 15 u.toNatClampNeg - 1))) 0) v.toNatClampNeg (44 + (10 * u.toNatClampNeg + (N 15 u.toNatClampNeg - 1)))) 3 (44 + (10 * u.toNatClampNeg + (N 15 u.toNatClampNeg - 1))) ≠ 0 → ∃ q9, (some q22) = some q9 ∧ pm_r M58 q9 (rq (md_copy (md_set (md_set (md_set (md_set N 0 0 0) 17 (10 * u.toNatClampNeg + (N 15 u.toNatClampNeg - 1)) 1) 18 (10 * u.toNatClampNeg + (N 15 u.toNatClampNeg - 1)) (N 20 c.toNatClampNeg)) 3 (44 + (10 * u.toNatClampNeg + (N 15 u.toNatClampNeg - 1))) 0) v.toNatClampNeg (44 + (10 * u.toNatClampNeg + (N 15 u.toNatClampNeg - 1)))) (44 + (10 * u.toNatClampNeg + (N 15 u.toNatClampNeg - 1))))) := ⟨fun e => by rw [h3l] at e; exact absurd e h325, fun _ => ⟨q22, rfl, by rw [hql]; exact hp30⟩⟩
        have hcs : cs_r G M58 u.toNatClampNeg q1 (md_copy (md_set (md_set (md_set (md_set N 0 0 0) 17 (10 * u.toNatClampNeg + (N 15 u.toNatClampNeg - 1)) 1) 18 (10 * u.toNatClampNeg + (N 15 u.toNatClampNeg - 1)) (N 20 c.toNatClampNeg)) 3 (44 + (10 * u.toNatClampNeg + (N 15 u.toNatClampNeg - 1))) 0) v.toNatClampNeg (44 + (10 * u.toNatClampNeg + (N 15 u.toNatClampNeg - 1)))) := ⟨la11, _, by rw [ho 14 _ (by omega) (by omega)]; exact hc13, by rw [ho 15 _ (by omega) (by omega)]; exact hl14, fun k hk => by
          rw [ho 15 _ (by omega) (by omega)] at hk
          by_cases hk2 : k = N 15 u.toNatClampNeg - 1
          · rw [hk2]
            refine ⟨q51, hq52, _, (some q22), ?_, fun _ => ⟨congrArg nI h18.symm, hlim.1, hlim.2⟩⟩
            rw [ho 16 _ (by omega) (by omega), h17]
            exact hc56
          · obtain ⟨p9, p8, p7⟩ := hfp15 k (by omega)
            exact ⟨p9, p8, (p7.p (sf_st hw59 hc56d) (by simp; omega)).cg (ho 16 _ (by omega) (by omega)) (ho 17 _ (by omega) (by omega)) (fun _ => ⟨ho 18 _ (by omega) (by omega), hq _ (by omega)⟩)⟩⟩
        have hCth9 : cl_thr G M58 th (md_copy (md_set (md_set (md_set (md_set N 0 0 0) 17 (10 * u.toNatClampNeg + (N 15 u.toNatClampNeg - 1)) 1) 18 (10 * u.toNatClampNeg + (N 15 u.toNatClampNeg - 1)) (N 20 c.toNatClampNeg)) 3 (44 + (10 * u.toNatClampNeg + (N 15 u.toNatClampNeg - 1))) 0) v.toNatClampNeg (44 + (10 * u.toNatClampNeg + (N 15 u.toNatClampNeg - 1)))) := ⟨gt, hTh, fun t9 ht9 => by
          rw [ho 13 t9 (by omega) (by omega)]
          refine ⟨(hGt t9 ht9).1, fun e => ?_⟩
          by_cases he : t9 = u.toNatClampNeg
          · rw [he]; exact ⟨q1, hq5, hcs⟩
          · obtain ⟨a9, q1, q2⟩ := (hGt t9 ht9).2 e
            have h9 := hall2 t9
            exact ⟨a9, q1, (q2.p (sf_st hw59 hc56d) h9 (by simp; omega)).cg (ho 14 _ (by omega) (by omega)) (ho 15 _ (by omega) (by omega)) (fun k hk => ⟨ho 16 _ (by omega) (by omega), ho 17 _ (by omega) (by omega), fun _ => ⟨ho 18 _ (by omega) (by omega), hq _ (by omega)⟩⟩)⟩⟩
        exact sg_vreturn (st := []) (pc := 71) hC hR dX6_guard_71 (hk _ ⟨hX, by rw [padl.cg (ho 1 0 (by omega) (by omega)) (fun j _ => ho 2 j (by omega) (by omega))]; exact hPd, hCsl.cg (fun i9 hi9 => hq i9 (by omega)), hCso.cg (fun s9 hs9 => ⟨ho 12 s9 (by omega) (by omega), fun j hj => by have := hall s9; exact hq _ (by omega)⟩), hCth9, hCcx.cg (fun j _ => ⟨ho 19 j (by omega) (by omega), ho 20 j (by omega) (by omega)⟩), hCnt.cg (ho 21 0 (by omega) (by omega)) (fun j _ => ho 22 j (by omega) (by omega))⟩ hf (by show (md_copy (md_set (md_set (md_set (md_set N 0 0 0) 17 (10 * u.toNatClampNeg + (N 15 u.toNatClampNeg - 1)) 1) 18 (10 * u.toNatClampNeg + (N 15 u.toNatClampNeg - 1)) (N 20 c.toNatClampNeg)) 3 (44 + (10 * u.toNatClampNeg + (N 15 u.toNatClampNeg - 1))) 0) v.toNatClampNeg (44 + (10 * u.toNatClampNeg + (N 15 u.toNatClampNeg - 1)))) 0 0 = 0; rw [mc.copy _ _ 0 0 (by omega), mset_ne (by omega), mset_ne (by omega), mset_ne (by omega), mset_eq]))
      · have hnz : N 15 u.toNatClampNeg = 0 := Decidable.byContradiction (fun e => by rw [if_neg e] at h48; exact h48 rfl)
        exact sg_throw (pc := 41) (st := []) hC hR (by decide) tw_871 tw_88 th_ISE_114_g th_ISE_114_b th_ISE_112_114_o dX6_guard_41 dX6_guard_44 dX6_guard_45 dX6_guard_48 (by decide) (by first | omega | decide | (split <;> omega)) (by first | omega | decide | (split <;> omega)) (by rw [show md_guard N u c v = (md_set (md_set N 0 0 0) 0 0 2) from by unfold md_guard; rw [if_pos hs10, if_neg h16, if_pos hs21, if_neg hn33, if_pos hs31, if_pos (show N 15 u.toNatClampNeg = 0 by omega)] <;> rfl] at hx2; exact hx2 M (hJ.cg hW (ag.set0.tr ag.set0)) cf_rf (by simp [md_set, va_up]))
  · refine sg_iconst (pc := 15) (nI 0) hC dX6_guard_15 (by decide) ?_
    refine sg_goto (pc := 16) 24 hC dX6_guard_16 (by decide) ?_
    refine sg_istore (pc := 24) (x := nI 0) hC dX6_guard_24 (by decide) ?_
    show sg_W X M 3 18 26 [some (.ref ca), some (.int u), some (.int c), some (.int v), some (.ref la11), some (.int (nI 0)), none] []
    refine sg_aload_n (pc := 26) (v := .ref ca) hC dX6_guard_26 rfl rfl ?_
    refine sg_iload_n (pc := 27) (x := v) hC dX6_guard_27 rfl ?_
    refine sg_callV (pc := 28) (As := [.int v]) (rest := []) (mc := 1) (ms := 6) hC tw_1037 tw_1039 tw_26 tw_62 tw_1040 yd_X6_permissionOrNothing (by decide) (ci := 9) rfl dX6_guard_28 hX rfl (Nat.le_of_ble_eq_true rfl) (by first | omega | decide | (split <;> omega)) (by first | omega | decide | (split <;> omega)) ?_
    refine c_permON htr hX hSl hGs (fun hn70 => ?_) ?_ (fun hn71 hxf65 => sg_prop hC hR (by rw [show md_guard N u c v = (md_set (md_set N 0 0 0) 0 0 1) from by unfold md_guard; rw [if_pos hs10, if_pos h16, if_neg hn71, if_neg (ts9 (show md_isSlot (md_set N 0 0 0) v = false from hxf65))] <;> rfl] at hx1; exact hx1 M (hJ.cg hW (ag.set0.tr ag.set0)) cf_rf (by simp [md_set, va_up])))
    · show sg_W X M 2 12 31 [some (.ref ca), some (.int u), some (.int c), some (.int v), some (.ref la11), some (.int (nI 0)), none] [.null]
      refine sg_astore (pc := 31) (v := .null) hC dX6_guard_31 (by decide) rfl ?_
      show sg_W X M 2 12 33 [some (.ref ca), some (.int u), some (.int c), some (.int v), some (.ref la11), some (.int (nI 0)), some (.null)] []
      refine sg_aload (pc := 33) (v := .ref la11) hC dX6_guard_33 rfl rfl ?_
      obtain ⟨_, _, _, _, _, hx72, -⟩ := id hl14
      refine sg_callV (pc := 35) (As := []) (rest := []) (mc := 0) (ms := 0) hC tw_1041 tw_1042 tw_1043 tw_69 tw_1044 yd_Jx4a65c_isEmpty_aae02 (by decide) (ci := 2) rfl dX6_guard_35 hx72 rfl (Nat.le_of_ble_eq_true rfl) (by first | omega | decide | (split <;> omega)) (by first | omega | decide | (split <;> omega)) ?_
      refine c_alEmpty htr hl14 ?_
      show sg_W X M 2 12 38 [some (.ref ca), some (.int u), some (.int c), some (.int v), some (.ref la11), some (.int (nI 0)), some (.null)] [.int (nI ((if N 15 u.toNatClampNeg = 0 then 1 else 0)))]
      refine sg_ifN_eq (pc := 38) (a := (if N 15 u.toNatClampNeg = 0 then 1 else 0)) 49 hC dX6_guard_38 (by decide) (by first | omega | decide | (split <;> omega)) (fun h73 => ?_) (fun h73 => ?_)
      · have hnz : ¬ N 15 u.toNatClampNeg = 0 := fun e => by rw [if_pos e] at h73; omega
        refine sg_aload (pc := 49) (v := .ref la11) hC dX6_guard_49 rfl rfl ?_
        refine sg_aload (pc := 51) (v := .ref la11) hC dX6_guard_51 rfl rfl ?_
        obtain ⟨_, _, _, _, _, hx74, -⟩ := id hl14
        refine sg_callV (pc := 53) (As := []) (rest := [.ref la11]) (mc := 0) (ms := 0) hC tw_867 tw_868 tw_869 tw_69 tw_870 yd_Jx4a65c_size_8abf5 (by decide) (ci := 2) rfl dX6_guard_53 hx74 rfl (Nat.le_of_ble_eq_true rfl) (by first | omega | decide | (split <;> omega)) (by first | omega | decide | (split <;> omega)) ?_
        refine c_alSize htr hl14 ?_
        show sg_W X M 2 12 56 [some (.ref ca), some (.int u), some (.int c), some (.int v), some (.ref la11), some (.int (nI 0)), some (.null)] [.int (nI (N 15 u.toNatClampNeg)), .ref la11]
        refine sg_iconst (pc := 56) (nI 1) hC dX6_guard_56 (by decide) ?_
        refine sg_isubN (pc := 57) (a := N 15 u.toNatClampNeg) (b := 1) hC dX6_guard_57 (by first | omega | decide | (split <;> omega)) ?_
        obtain ⟨_, _, _, _, _, hx75, -⟩ := id hl14
        refine sg_callV (pc := 58) (As := [.int (nI ((N 15 u.toNatClampNeg) - 1))]) (rest := []) (mc := 0) (ms := 0) hC tw_1021 tw_971 tw_972 tw_69 tw_973 yd_Jx4a65c_get_915e3 (by decide) (ci := 2) rfl dX6_guard_58 hx75 rfl (Nat.le_of_ble_eq_true rfl) (by first | omega | decide | (split <;> omega)) (by first | omega | decide | (split <;> omega)) ?_
        obtain ⟨q76, hq77, hp78⟩ := hfp15 ((N 15 u.toNatClampNeg) - 1) (by omega)
        obtain ⟨re79, li80, hc81, hg82⟩ := id hp78
        refine c_alGet htr hl14 (by omega) hq77 ?_
        show sg_W X M 2 12 61 [some (.ref ca), some (.int u), some (.int c), some (.int v), some (.ref la11), some (.int (nI 0)), some (.null)] [.ref q76]
        refine sg_castC (pc := 61) (ci := 4) hC rfl (by simp [sg_wk]) tw_992 dX6_guard_61 hc81 ?_
        refine sg_iload (pc := 64) (x := nI 0) hC dX6_guard_64 rfl ?_
        refine sg_aload (pc := 66) (v := .null) hC dX6_guard_66 rfl rfl ?_
        refine sg_callV (pc := 68) (As := [.int (nI 0), .null]) (rest := []) (mc := 0) (ms := 0) hC tw_1045 tw_1046 tw_1047 tw_90 tw_1048 yd_X1_becomeGuard (by decide) (ci := 4) rfl dX6_guard_68 hc81 rfl (Nat.le_of_ble_eq_true rfl) (by first | omega | decide | (split <;> omega)) (by first | omega | decide | (split <;> omega)) ?_
        have hc81d := hc81
        refine c_frGuard (nr := 0) (nl := none) htr hc81 (by omega) (fun M83 hw84 => ?_)
        have hX : M83 ca = some (1, .inr (9, [.ref pb, .ref sl, .ref so, .ref th, .ref cx, .ref nt])) := hw84.n hX (sg_net hX hc81 (by first | omega | decide | (split <;> omega)))
        have hSl : M83 sl = some (4, .inl (.object RX3, 8, .inr (.inr (.inr (.inr gs))))) := hw84.n hSl (sg_net hSl hc81 (by first | omega | decide | (split <;> omega)))
        have hTh : M83 th = some (6, .inl (.object RX0, 4, .inr (.inr (.inr (.inr gt))))) := hw84.n hTh (sg_net hTh hc81 (by first | omega | decide | (split <;> omega)))
        have hCx : M83 cx = some (7, .inl (.int, 8, .inl gc)) := hw84.n hCx (sg_net hCx hc81 (by first | omega | decide | (split <;> omega)))
        have hc13 : M83 q1 = some (40 + u.toNatClampNeg, .inr (3, [.ref la11, .int (nI (N 14 u.toNatClampNeg))])) := hw84.n hc13 (sg_net hc13 hc81 (by first | omega | decide | (split <;> omega)))
        have hPd : sb_r 2 3 M83 pb (padl N) := hPd.st hw84 hc81 (by first | omega | decide | (split <;> omega)) (by first | omega | decide | (split <;> omega))
        have hCsl : cl_slot M83 sl N := hCsl.st hw84 hc81 (by first | omega | decide | (split <;> omega))
        have hCso : cl_src G M83 so N := hCso.st hw84 hc81 (by first | omega | decide | (split <;> omega))
        have hCcx : cl_ctx M83 cx N := hCcx.st hw84 hc81 (by first | omega | decide | (split <;> omega))
        have hCnt : cl_note G M83 nt N := hCnt.st hw84 hc81 (by first | omega | decide | (split <;> omega))
        have hl14 : al_r G (50 + u.toNatClampNeg) (60 + u.toNatClampNeg) M83 la11 (N 15 u.toNatClampNeg) f12 := hl14.st hw84 hc81 (by first | omega | decide | (split <;> omega)) (by first | omega | decide | (split <;> omega)) (by first | omega | decide | (split <;> omega))
        have hf : sf cf M M83 := hf.st hw84 hc81 (by first | (simp [cf, cm]; done) | (simp only [cf, cm]; omega))
        have hc81 : M83 q76 = some (200 + 10 * u.toNatClampNeg + ((N 15 u.toNatClampNeg) - 1), .inr (4, [.int (nI (N 16 (10 * u.toNatClampNeg + ((N 15 u.toNatClampNeg) - 1)))), .int (nI 0), .int (nI 1), .null])) := hw84.1
        show sg_W X M83 2 12 71 [some (.ref ca), some (.int u), some (.int c), some (.int v), some (.ref la11), some (.int (nI 0)), some (.null)] []
        have ef : ((10 * u.toNatClampNeg) + (N 15 u.toNatClampNeg)) - 1 = (10 * u.toNatClampNeg + (N 15 u.toNatClampNeg - 1)) := by omega
        have e9 : md_guard N u c v = (md_set (md_set (md_set (md_set N 0 0 0) 17 (10 * u.toNatClampNeg + (N 15 u.toNatClampNeg - 1)) 1) 18 (10 * u.toNatClampNeg + (N 15 u.toNatClampNeg - 1)) (0)) 3 (44 + (10 * u.toNatClampNeg + (N 15 u.toNatClampNeg - 1))) 0) := by unfold md_guard; rw [if_pos hs10, if_pos h16, if_pos hn70, if_neg hnz, ef]
        rw [e9] at hk
        have hq : ∀ p, p ≠ 44 + (10 * u.toNatClampNeg + (N 15 u.toNatClampNeg - 1)) → rq (md_set (md_set (md_set (md_set N 0 0 0) 17 (10 * u.toNatClampNeg + (N 15 u.toNatClampNeg - 1)) 1) 18 (10 * u.toNatClampNeg + (N 15 u.toNatClampNeg - 1)) (0)) 3 (44 + (10 * u.toNatClampNeg + (N 15 u.toNatClampNeg - 1))) 0) p = rq N p := fun p hp => by rw [rq_s3n hp, rq_sne (by omega), rq_sne (by omega), rq_sne (by omega)]
        have ho : ∀ i9 j9, ¬ (3 ≤ i9 ∧ i9 ≤ 9) ∧ ¬ (i9 = 17 ∧ j9 = (10 * u.toNatClampNeg + (N 15 u.toNatClampNeg - 1))) ∧ ¬ (i9 = 18 ∧ j9 = (10 * u.toNatClampNeg + (N 15 u.toNatClampNeg - 1))) → ¬ i9 = 0 → (md_set (md_set (md_set (md_set N 0 0 0) 17 (10 * u.toNatClampNeg + (N 15 u.toNatClampNeg - 1)) 1) 18 (10 * u.toNatClampNeg + (N 15 u.toNatClampNeg - 1)) (0)) 3 (44 + (10 * u.toNatClampNeg + (N 15 u.toNatClampNeg - 1))) 0) i9 j9 = N i9 j9 := fun i9 j9 a9 c9 => by rw [mset_ne (by omega), mset_ne a9.2.2, mset_ne a9.2.1, mset_ne (by omega)]
        have h17 : (md_set (md_set (md_set (md_set N 0 0 0) 17 (10 * u.toNatClampNeg + (N 15 u.toNatClampNeg - 1)) 1) 18 (10 * u.toNatClampNeg + (N 15 u.toNatClampNeg - 1)) (0)) 3 (44 + (10 * u.toNatClampNeg + (N 15 u.toNatClampNeg - 1))) 0) 17 (10 * u.toNatClampNeg + (N 15 u.toNatClampNeg - 1)) = 1 := by rw [mset_ne (by omega), mset_ne (by omega), mset_eq]
        have h18 : (md_set (md_set (md_set (md_set N 0 0 0) 17 (10 * u.toNatClampNeg + (N 15 u.toNatClampNeg - 1)) 1) 18 (10 * u.toNatClampNeg + (N 15 u.toNatClampNeg - 1)) (0)) 3 (44 + (10 * u.toNatClampNeg + (N 15 u.toNatClampNeg - 1))) 0) 18 (10 * u.toNatClampNeg + (N 15 u.toNatClampNeg - 1)) = 0 := by rw [mset_ne (by omega), mset_eq]
        have hall : ∀ s9, N 12 s9 ≤ 6 := fun s9 => hW 12 s9
        have hall2 : ∀ s9, N 15 s9 ≤ 10 := fun s9 => hW 15 s9
        have hlim : ((md_set (md_set (md_set (md_set N 0 0 0) 17 (10 * u.toNatClampNeg + (N 15 u.toNatClampNeg - 1)) 1) 18 (10 * u.toNatClampNeg + (N 15 u.toNatClampNeg - 1)) (0)) 3 (44 + (10 * u.toNatClampNeg + (N 15 u.toNatClampNeg - 1))) 0) 3 (44 + (10 * u.toNatClampNeg + (N 15 u.toNatClampNeg - 1))) = 0 → (none : Option Nat) = none) ∧ ((md_set (md_set (md_set (md_set N 0 0 0) 17 (10 * u.toNatClampNeg + (N 15 u.toNatClampNeg - 1)) 1) 18 (10 * u.toNatClampNeg + (N 15 u.toNatClampNeg - 1)) (0)) 3 (44 + (10 * u.toNatClampNeg + (N 15 u.toNatClampNeg - 1))) 0) 3 (44 + (10 * u.toNatClampNeg + (N 15 u.toNatClampNeg - 1))) ≠ 0 → ∃ q9, (none : Option Nat) = some q9 ∧ pm_r M83 q9 (rq (md_set (md_set (md_set (md_set N 0 0 0) 17 (10 * u.toNatClampNeg + (N 15 u.toNatClampNeg - 1)) 1) 18 (10 * u.toNatClampNeg + (N 15 u.toNatClampNeg - 1)) (0)) 3 (44 + (10 * u.toNatClampNeg + (N 15 u.toNatClampNeg - 1))) 0) (44 + (10 * u.toNatClampNeg + (N 15 u.toNatClampNeg - 1))))) := ⟨fun _ => rfl, fun e => absurd mset_eq e⟩
        have hcs : cs_r G M83 u.toNatClampNeg q1 (md_set (md_set (md_set (md_set N 0 0 0) 17 (10 * u.toNatClampNeg + (N 15 u.toNatClampNeg - 1)) 1) 18 (10 * u.toNatClampNeg + (N 15 u.toNatClampNeg - 1)) (0)) 3 (44 + (10 * u.toNatClampNeg + (N 15 u.toNatClampNeg - 1))) 0) := ⟨la11, _, by rw [ho 14 _ (by omega) (by omega)]; exact hc13, by rw [ho 15 _ (by omega) (by omega)]; exact hl14, fun k hk => by
          rw [ho 15 _ (by omega) (by omega)] at hk
          by_cases hk2 : k = N 15 u.toNatClampNeg - 1
          · rw [hk2]
            refine ⟨q76, hq77, _, none, ?_, fun _ => ⟨congrArg nI h18.symm, hlim.1, hlim.2⟩⟩
            rw [ho 16 _ (by omega) (by omega), h17]
            exact hc81
          · obtain ⟨p9, p8, p7⟩ := hfp15 k (by omega)
            exact ⟨p9, p8, (p7.p (sf_st hw84 hc81d) (by simp; omega)).cg (ho 16 _ (by omega) (by omega)) (ho 17 _ (by omega) (by omega)) (fun _ => ⟨ho 18 _ (by omega) (by omega), hq _ (by omega)⟩)⟩⟩
        have hCth9 : cl_thr G M83 th (md_set (md_set (md_set (md_set N 0 0 0) 17 (10 * u.toNatClampNeg + (N 15 u.toNatClampNeg - 1)) 1) 18 (10 * u.toNatClampNeg + (N 15 u.toNatClampNeg - 1)) (0)) 3 (44 + (10 * u.toNatClampNeg + (N 15 u.toNatClampNeg - 1))) 0) := ⟨gt, hTh, fun t9 ht9 => by
          rw [ho 13 t9 (by omega) (by omega)]
          refine ⟨(hGt t9 ht9).1, fun e => ?_⟩
          by_cases he : t9 = u.toNatClampNeg
          · rw [he]; exact ⟨q1, hq5, hcs⟩
          · obtain ⟨a9, q1, q2⟩ := (hGt t9 ht9).2 e
            have h9 := hall2 t9
            exact ⟨a9, q1, (q2.p (sf_st hw84 hc81d) h9 (by simp; omega)).cg (ho 14 _ (by omega) (by omega)) (ho 15 _ (by omega) (by omega)) (fun k hk => ⟨ho 16 _ (by omega) (by omega), ho 17 _ (by omega) (by omega), fun _ => ⟨ho 18 _ (by omega) (by omega), hq _ (by omega)⟩⟩)⟩⟩
        exact sg_vreturn (st := []) (pc := 71) hC hR dX6_guard_71 (hk _ ⟨hX, by rw [padl.cg (ho 1 0 (by omega) (by omega)) (fun j _ => ho 2 j (by omega) (by omega))]; exact hPd, hCsl.cg (fun i9 hi9 => hq i9 (by omega)), hCso.cg (fun s9 hs9 => ⟨ho 12 s9 (by omega) (by omega), fun j hj => by have := hall s9; exact hq _ (by omega)⟩), hCth9, hCcx.cg (fun j _ => ⟨ho 19 j (by omega) (by omega), ho 20 j (by omega) (by omega)⟩), hCnt.cg (ho 21 0 (by omega) (by omega)) (fun j _ => ho 22 j (by omega) (by omega))⟩ hf (by show (md_set (md_set (md_set (md_set N 0 0 0) 17 (10 * u.toNatClampNeg + (N 15 u.toNatClampNeg - 1)) 1) 18 (10 * u.toNatClampNeg + (N 15 u.toNatClampNeg - 1)) (0)) 3 (44 + (10 * u.toNatClampNeg + (N 15 u.toNatClampNeg - 1))) 0) 0 0 = 0; rw [mset_ne (by omega), mset_ne (by omega), mset_ne (by omega), mset_eq]))
      · have hnz : N 15 u.toNatClampNeg = 0 := Decidable.byContradiction (fun e => by rw [if_neg e] at h73; exact h73 rfl)
        exact sg_throw (pc := 41) (st := []) hC hR (by decide) tw_871 tw_88 th_ISE_114_g th_ISE_114_b th_ISE_112_114_o dX6_guard_41 dX6_guard_44 dX6_guard_45 dX6_guard_48 (by decide) (by first | omega | decide | (split <;> omega)) (by first | omega | decide | (split <;> omega)) (by rw [show md_guard N u c v = (md_set (md_set N 0 0 0) 0 0 2) from by unfold md_guard; rw [if_pos hs10, if_pos h16, if_pos hn70, if_pos (show N 15 u.toNatClampNeg = 0 by omega)] <;> rfl] at hx2; exact hx2 M (hJ.cg hW (ag.set0.tr ag.set0)) cf_rf (by simp [md_set, va_up]))
    · intro q60 hn71 h061 h862 h363 hq64
      obtain ⟨q66, hq67, hp68⟩ := (hGs _ h862).2 h363
      rw [hq64] at hq67
      cases hq67
      have hs69 : md_isSlot (md_set N 0 0 0) v = true := isSlot_t (N := (md_set N 0 0 0)) h061 h862 h363
      show sg_W X M 2 12 31 [some (.ref ca), some (.int u), some (.int c), some (.int v), some (.ref la11), some (.int (nI 0)), none] [.ref q60]
      refine sg_astore (pc := 31) (v := .ref q60) hC dX6_guard_31 (by decide) rfl ?_
      show sg_W X M 2 12 33 [some (.ref ca), some (.int u), some (.int c), some (.int v), some (.ref la11), some (.int (nI 0)), some (.ref q60)] []
      refine sg_aload (pc := 33) (v := .ref la11) hC dX6_guard_33 rfl rfl ?_
      obtain ⟨_, _, _, _, _, hx85, -⟩ := id hl14
      refine sg_callV (pc := 35) (As := []) (rest := []) (mc := 0) (ms := 0) hC tw_1041 tw_1042 tw_1043 tw_69 tw_1044 yd_Jx4a65c_isEmpty_aae02 (by decide) (ci := 2) rfl dX6_guard_35 hx85 rfl (Nat.le_of_ble_eq_true rfl) (by first | omega | decide | (split <;> omega)) (by first | omega | decide | (split <;> omega)) ?_
      refine c_alEmpty htr hl14 ?_
      show sg_W X M 2 12 38 [some (.ref ca), some (.int u), some (.int c), some (.int v), some (.ref la11), some (.int (nI 0)), some (.ref q60)] [.int (nI ((if N 15 u.toNatClampNeg = 0 then 1 else 0)))]
      refine sg_ifN_eq (pc := 38) (a := (if N 15 u.toNatClampNeg = 0 then 1 else 0)) 49 hC dX6_guard_38 (by decide) (by first | omega | decide | (split <;> omega)) (fun h86 => ?_) (fun h86 => ?_)
      · have hnz : ¬ N 15 u.toNatClampNeg = 0 := fun e => by rw [if_pos e] at h86; omega
        refine sg_aload (pc := 49) (v := .ref la11) hC dX6_guard_49 rfl rfl ?_
        refine sg_aload (pc := 51) (v := .ref la11) hC dX6_guard_51 rfl rfl ?_
        obtain ⟨_, _, _, _, _, hx87, -⟩ := id hl14
        refine sg_callV (pc := 53) (As := []) (rest := [.ref la11]) (mc := 0) (ms := 0) hC tw_867 tw_868 tw_869 tw_69 tw_870 yd_Jx4a65c_size_8abf5 (by decide) (ci := 2) rfl dX6_guard_53 hx87 rfl (Nat.le_of_ble_eq_true rfl) (by first | omega | decide | (split <;> omega)) (by first | omega | decide | (split <;> omega)) ?_
        refine c_alSize htr hl14 ?_
        show sg_W X M 2 12 56 [some (.ref ca), some (.int u), some (.int c), some (.int v), some (.ref la11), some (.int (nI 0)), some (.ref q60)] [.int (nI (N 15 u.toNatClampNeg)), .ref la11]
        refine sg_iconst (pc := 56) (nI 1) hC dX6_guard_56 (by decide) ?_
        refine sg_isubN (pc := 57) (a := N 15 u.toNatClampNeg) (b := 1) hC dX6_guard_57 (by first | omega | decide | (split <;> omega)) ?_
        obtain ⟨_, _, _, _, _, hx88, -⟩ := id hl14
        refine sg_callV (pc := 58) (As := [.int (nI ((N 15 u.toNatClampNeg) - 1))]) (rest := []) (mc := 0) (ms := 0) hC tw_1021 tw_971 tw_972 tw_69 tw_973 yd_Jx4a65c_get_915e3 (by decide) (ci := 2) rfl dX6_guard_58 hx88 rfl (Nat.le_of_ble_eq_true rfl) (by first | omega | decide | (split <;> omega)) (by first | omega | decide | (split <;> omega)) ?_
        obtain ⟨q89, hq90, hp91⟩ := hfp15 ((N 15 u.toNatClampNeg) - 1) (by omega)
        obtain ⟨re92, li93, hc94, hg95⟩ := id hp91
        refine c_alGet htr hl14 (by omega) hq90 ?_
        show sg_W X M 2 12 61 [some (.ref ca), some (.int u), some (.int c), some (.int v), some (.ref la11), some (.int (nI 0)), some (.ref q60)] [.ref q89]
        refine sg_castC (pc := 61) (ci := 4) hC rfl (by simp [sg_wk]) tw_992 dX6_guard_61 hc94 ?_
        refine sg_iload (pc := 64) (x := nI 0) hC dX6_guard_64 rfl ?_
        refine sg_aload (pc := 66) (v := .ref q60) hC dX6_guard_66 rfl rfl ?_
        refine sg_callV (pc := 68) (As := [.int (nI 0), .ref q60]) (rest := []) (mc := 0) (ms := 0) hC tw_1045 tw_1046 tw_1047 tw_90 tw_1048 yd_X1_becomeGuard (by decide) (ci := 4) rfl dX6_guard_68 hc94 rfl (Nat.le_of_ble_eq_true rfl) (by first | omega | decide | (split <;> omega)) (by first | omega | decide | (split <;> omega)) ?_
        have hc94d := hc94
        refine c_frGuard (nr := 0) (nl := some q60) htr hc94 (by omega) (fun M96 hw97 => ?_)
        have hX : M96 ca = some (1, .inr (9, [.ref pb, .ref sl, .ref so, .ref th, .ref cx, .ref nt])) := hw97.n hX (sg_net hX hc94 (by first | omega | decide | (split <;> omega)))
        have hSl : M96 sl = some (4, .inl (.object RX3, 8, .inr (.inr (.inr (.inr gs))))) := hw97.n hSl (sg_net hSl hc94 (by first | omega | decide | (split <;> omega)))
        have hTh : M96 th = some (6, .inl (.object RX0, 4, .inr (.inr (.inr (.inr gt))))) := hw97.n hTh (sg_net hTh hc94 (by first | omega | decide | (split <;> omega)))
        have hCx : M96 cx = some (7, .inl (.int, 8, .inl gc)) := hw97.n hCx (sg_net hCx hc94 (by first | omega | decide | (split <;> omega)))
        have hc13 : M96 q1 = some (40 + u.toNatClampNeg, .inr (3, [.ref la11, .int (nI (N 14 u.toNatClampNeg))])) := hw97.n hc13 (sg_net hc13 hc94 (by first | omega | decide | (split <;> omega)))
        have hPd : sb_r 2 3 M96 pb (padl N) := hPd.st hw97 hc94 (by first | omega | decide | (split <;> omega)) (by first | omega | decide | (split <;> omega))
        have hCsl : cl_slot M96 sl N := hCsl.st hw97 hc94 (by first | omega | decide | (split <;> omega))
        have hCso : cl_src G M96 so N := hCso.st hw97 hc94 (by first | omega | decide | (split <;> omega))
        have hCcx : cl_ctx M96 cx N := hCcx.st hw97 hc94 (by first | omega | decide | (split <;> omega))
        have hCnt : cl_note G M96 nt N := hCnt.st hw97 hc94 (by first | omega | decide | (split <;> omega))
        have hl14 : al_r G (50 + u.toNatClampNeg) (60 + u.toNatClampNeg) M96 la11 (N 15 u.toNatClampNeg) f12 := hl14.st hw97 hc94 (by first | omega | decide | (split <;> omega)) (by first | omega | decide | (split <;> omega)) (by first | omega | decide | (split <;> omega))
        have hp68 : pm_r M96 q60 (rq N v.toNatClampNeg) := hp68.st hw97 hc94 (by first | omega | decide | (split <;> omega)) (by first | omega | decide | (split <;> omega)) (by first | omega | decide | (split <;> omega))
        have hf : sf cf M M96 := hf.st hw97 hc94 (by first | (simp [cf, cm]; done) | (simp only [cf, cm]; omega))
        have hc94 : M96 q89 = some (200 + 10 * u.toNatClampNeg + ((N 15 u.toNatClampNeg) - 1), .inr (4, [.int (nI (N 16 (10 * u.toNatClampNeg + ((N 15 u.toNatClampNeg) - 1)))), .int (nI 0), .int (nI 1), .ref q60])) := hw97.1
        show sg_W X M96 2 12 71 [some (.ref ca), some (.int u), some (.int c), some (.int v), some (.ref la11), some (.int (nI 0)), some (.ref q60)] []
        have ef : ((10 * u.toNatClampNeg) + (N 15 u.toNatClampNeg)) - 1 = (10 * u.toNatClampNeg + (N 15 u.toNatClampNeg - 1)) := by omega
        have e9 : md_guard N u c v = (md_copy (md_set (md_set (md_set (md_set N 0 0 0) 17 (10 * u.toNatClampNeg + (N 15 u.toNatClampNeg - 1)) 1) 18 (10 * u.toNatClampNeg + (N 15 u.toNatClampNeg - 1)) (0)) 3 (44 + (10 * u.toNatClampNeg + (N 15 u.toNatClampNeg - 1))) 0) v.toNatClampNeg (44 + (10 * u.toNatClampNeg + (N 15 u.toNatClampNeg - 1)))) := by unfold md_guard; rw [if_pos hs10, if_pos h16, if_neg hn71, if_pos hs69, if_neg hnz, if_neg (Nat.not_lt_zero _), ef]
        rw [e9] at hk
        have hq : ∀ p, p ≠ 44 + (10 * u.toNatClampNeg + (N 15 u.toNatClampNeg - 1)) → rq (md_copy (md_set (md_set (md_set (md_set N 0 0 0) 17 (10 * u.toNatClampNeg + (N 15 u.toNatClampNeg - 1)) 1) 18 (10 * u.toNatClampNeg + (N 15 u.toNatClampNeg - 1)) (0)) 3 (44 + (10 * u.toNatClampNeg + (N 15 u.toNatClampNeg - 1))) 0) v.toNatClampNeg (44 + (10 * u.toNatClampNeg + (N 15 u.toNatClampNeg - 1)))) p = rq N p := fun p hp => by rw [rq_copy_ne hp, rq_s3n hp, rq_sne (by omega), rq_sne (by omega), rq_sne (by omega)]
        have ho : ∀ i9 j9, ¬ (3 ≤ i9 ∧ i9 ≤ 9) ∧ ¬ (i9 = 17 ∧ j9 = (10 * u.toNatClampNeg + (N 15 u.toNatClampNeg - 1))) ∧ ¬ (i9 = 18 ∧ j9 = (10 * u.toNatClampNeg + (N 15 u.toNatClampNeg - 1))) → ¬ i9 = 0 → (md_copy (md_set (md_set (md_set (md_set N 0 0 0) 17 (10 * u.toNatClampNeg + (N 15 u.toNatClampNeg - 1)) 1) 18 (10 * u.toNatClampNeg + (N 15 u.toNatClampNeg - 1)) (0)) 3 (44 + (10 * u.toNatClampNeg + (N 15 u.toNatClampNeg - 1))) 0) v.toNatClampNeg (44 + (10 * u.toNatClampNeg + (N 15 u.toNatClampNeg - 1)))) i9 j9 = N i9 j9 := fun i9 j9 a9 c9 => by rw [mc.copy _ _ i9 j9 (by omega), mset_ne (by omega), mset_ne a9.2.2, mset_ne a9.2.1, mset_ne (by omega)]
        have h17 : (md_copy (md_set (md_set (md_set (md_set N 0 0 0) 17 (10 * u.toNatClampNeg + (N 15 u.toNatClampNeg - 1)) 1) 18 (10 * u.toNatClampNeg + (N 15 u.toNatClampNeg - 1)) (0)) 3 (44 + (10 * u.toNatClampNeg + (N 15 u.toNatClampNeg - 1))) 0) v.toNatClampNeg (44 + (10 * u.toNatClampNeg + (N 15 u.toNatClampNeg - 1)))) 17 (10 * u.toNatClampNeg + (N 15 u.toNatClampNeg - 1)) = 1 := by rw [mc.copy _ _ 17 _ (by omega), mset_ne (by omega), mset_ne (by omega), mset_eq]
        have h18 : (md_copy (md_set (md_set (md_set (md_set N 0 0 0) 17 (10 * u.toNatClampNeg + (N 15 u.toNatClampNeg - 1)) 1) 18 (10 * u.toNatClampNeg + (N 15 u.toNatClampNeg - 1)) (0)) 3 (44 + (10 * u.toNatClampNeg + (N 15 u.toNatClampNeg - 1))) 0) v.toNatClampNeg (44 + (10 * u.toNatClampNeg + (N 15 u.toNatClampNeg - 1)))) 18 (10 * u.toNatClampNeg + (N 15 u.toNatClampNeg - 1)) = 0 := by rw [mc.copy _ _ 18 _ (by omega), mset_ne (by omega), mset_eq]
        have hall : ∀ s9, N 12 s9 ≤ 6 := fun s9 => hW 12 s9
        have hall2 : ∀ s9, N 15 s9 ≤ 10 := fun s9 => hW 15 s9
        have hql : rq (md_copy (md_set (md_set (md_set (md_set N 0 0 0) 17 (10 * u.toNatClampNeg + (N 15 u.toNatClampNeg - 1)) 1) 18 (10 * u.toNatClampNeg + (N 15 u.toNatClampNeg - 1)) (0)) 3 (44 + (10 * u.toNatClampNeg + (N 15 u.toNatClampNeg - 1))) 0) v.toNatClampNeg (44 + (10 * u.toNatClampNeg + (N 15 u.toNatClampNeg - 1)))) (44 + (10 * u.toNatClampNeg + (N 15 u.toNatClampNeg - 1))) = rq N v.toNatClampNeg := by rw [rq_copy, rq_s3n (by omega), rq_sne (by omega), rq_sne (by omega), rq_sne (by omega)]
        have h3l : (md_copy (md_set (md_set (md_set (md_set N 0 0 0) 17 (10 * u.toNatClampNeg + (N 15 u.toNatClampNeg - 1)) 1) 18 (10 * u.toNatClampNeg + (N 15 u.toNatClampNeg - 1)) (0)) 3 (44 + (10 * u.toNatClampNeg + (N 15 u.toNatClampNeg - 1))) 0) v.toNatClampNeg (44 + (10 * u.toNatClampNeg + (N 15 u.toNatClampNeg - 1)))) 3 (44 + (10 * u.toNatClampNeg + (N 15 u.toNatClampNeg - 1))) = N 3 v.toNatClampNeg := congrArg Prod.fst hql
        have hlim : ((md_copy (md_set (md_set (md_set (md_set N 0 0 0) 17 (10 * u.toNatClampNeg + (N 15 u.toNatClampNeg - 1)) 1) 18 (10 * u.toNatClampNeg + (N 15 u.toNatClampNeg - 1)) (0)) 3 (44 + (10 * u.toNatClampNeg + (N 15 u.toNatClampNeg - 1))) 0) v.toNatClampNeg (44 + (10 * u.toNatClampNeg + (N 15 u.toNatClampNeg - 1)))) 3 (44 + (10 * u.toNatClampNeg + (N 15 u.toNatClampNeg - 1))) = 0 → (some q60) = none) ∧ ((md_copy (md_set (md_set (md_set (md_set N 0 0 0) 17 (10 * u.toNatClampNeg + (N 15 u.toNatClampNeg - 1)) 1) 18 (10 * u.toNatClampNeg + (N 15 u.toNatClampNeg - 1)) (0)) 3 (44 + (10 * u.toNatClampNeg + (N 15 u.toNatClampNeg - 1))) 0) v.toNatClampNeg (44 + (10 * u.toNatClampNeg + (N 15 u.toNatClampNeg - 1)))) 3 (44 + (10 * u.toNatClampNeg + (N 15 u.toNatClampNeg - 1))) ≠ 0 → ∃ q9, (some q60) = some q9 ∧ pm_r M96 q9 (rq (md_copy (md_set (md_set (md_set (md_set N 0 0 0) 17 (10 * u.toNatClampNeg + (N 15 u.toNatClampNeg - 1)) 1) 18 (10 * u.toNatClampNeg + (N 15 u.toNatClampNeg - 1)) (0)) 3 (44 + (10 * u.toNatClampNeg + (N 15 u.toNatClampNeg - 1))) 0) v.toNatClampNeg (44 + (10 * u.toNatClampNeg + (N 15 u.toNatClampNeg - 1)))) (44 + (10 * u.toNatClampNeg + (N 15 u.toNatClampNeg - 1))))) := ⟨fun e => by rw [h3l] at e; exact absurd e h363, fun _ => ⟨q60, rfl, by rw [hql]; exact hp68⟩⟩
        have hcs : cs_r G M96 u.toNatClampNeg q1 (md_copy (md_set (md_set (md_set (md_set N 0 0 0) 17 (10 * u.toNatClampNeg + (N 15 u.toNatClampNeg - 1)) 1) 18 (10 * u.toNatClampNeg + (N 15 u.toNatClampNeg - 1)) (0)) 3 (44 + (10 * u.toNatClampNeg + (N 15 u.toNatClampNeg - 1))) 0) v.toNatClampNeg (44 + (10 * u.toNatClampNeg + (N 15 u.toNatClampNeg - 1)))) := ⟨la11, _, by rw [ho 14 _ (by omega) (by omega)]; exact hc13, by rw [ho 15 _ (by omega) (by omega)]; exact hl14, fun k hk => by
          rw [ho 15 _ (by omega) (by omega)] at hk
          by_cases hk2 : k = N 15 u.toNatClampNeg - 1
          · rw [hk2]
            refine ⟨q89, hq90, _, (some q60), ?_, fun _ => ⟨congrArg nI h18.symm, hlim.1, hlim.2⟩⟩
            rw [ho 16 _ (by omega) (by omega), h17]
            exact hc94
          · obtain ⟨p9, p8, p7⟩ := hfp15 k (by omega)
            exact ⟨p9, p8, (p7.p (sf_st hw97 hc94d) (by simp; omega)).cg (ho 16 _ (by omega) (by omega)) (ho 17 _ (by omega) (by omega)) (fun _ => ⟨ho 18 _ (by omega) (by omega), hq _ (by omega)⟩)⟩⟩
        have hCth9 : cl_thr G M96 th (md_copy (md_set (md_set (md_set (md_set N 0 0 0) 17 (10 * u.toNatClampNeg + (N 15 u.toNatClampNeg - 1)) 1) 18 (10 * u.toNatClampNeg + (N 15 u.toNatClampNeg - 1)) (0)) 3 (44 + (10 * u.toNatClampNeg + (N 15 u.toNatClampNeg - 1))) 0) v.toNatClampNeg (44 + (10 * u.toNatClampNeg + (N 15 u.toNatClampNeg - 1)))) := ⟨gt, hTh, fun t9 ht9 => by
          rw [ho 13 t9 (by omega) (by omega)]
          refine ⟨(hGt t9 ht9).1, fun e => ?_⟩
          by_cases he : t9 = u.toNatClampNeg
          · rw [he]; exact ⟨q1, hq5, hcs⟩
          · obtain ⟨a9, q1, q2⟩ := (hGt t9 ht9).2 e
            have h9 := hall2 t9
            exact ⟨a9, q1, (q2.p (sf_st hw97 hc94d) h9 (by simp; omega)).cg (ho 14 _ (by omega) (by omega)) (ho 15 _ (by omega) (by omega)) (fun k hk => ⟨ho 16 _ (by omega) (by omega), ho 17 _ (by omega) (by omega), fun _ => ⟨ho 18 _ (by omega) (by omega), hq _ (by omega)⟩⟩)⟩⟩
        exact sg_vreturn (st := []) (pc := 71) hC hR dX6_guard_71 (hk _ ⟨hX, by rw [padl.cg (ho 1 0 (by omega) (by omega)) (fun j _ => ho 2 j (by omega) (by omega))]; exact hPd, hCsl.cg (fun i9 hi9 => hq i9 (by omega)), hCso.cg (fun s9 hs9 => ⟨ho 12 s9 (by omega) (by omega), fun j hj => by have := hall s9; exact hq _ (by omega)⟩), hCth9, hCcx.cg (fun j _ => ⟨ho 19 j (by omega) (by omega), ho 20 j (by omega) (by omega)⟩), hCnt.cg (ho 21 0 (by omega) (by omega)) (fun j _ => ho 22 j (by omega) (by omega))⟩ hf (by show (md_copy (md_set (md_set (md_set (md_set N 0 0 0) 17 (10 * u.toNatClampNeg + (N 15 u.toNatClampNeg - 1)) 1) 18 (10 * u.toNatClampNeg + (N 15 u.toNatClampNeg - 1)) (0)) 3 (44 + (10 * u.toNatClampNeg + (N 15 u.toNatClampNeg - 1))) 0) v.toNatClampNeg (44 + (10 * u.toNatClampNeg + (N 15 u.toNatClampNeg - 1)))) 0 0 = 0; rw [mc.copy _ _ 0 0 (by omega), mset_ne (by omega), mset_ne (by omega), mset_ne (by omega), mset_eq]))
      · have hnz : N 15 u.toNatClampNeg = 0 := Decidable.byContradiction (fun e => by rw [if_neg e] at h86; exact h86 rfl)
        exact sg_throw (pc := 41) (st := []) hC hR (by decide) tw_871 tw_88 th_ISE_114_g th_ISE_114_b th_ISE_112_114_o dX6_guard_41 dX6_guard_44 dX6_guard_45 dX6_guard_48 (by decide) (by first | omega | decide | (split <;> omega)) (by first | omega | decide | (split <;> omega)) (by rw [show md_guard N u c v = (md_set (md_set N 0 0 0) 0 0 2) from by unfold md_guard; rw [if_pos hs10, if_pos h16, if_neg hn71, if_pos hs69, if_pos (show N 15 u.toNatClampNeg = 0 by omega)] <;> rfl] at hx2; exact hx2 M (hJ.cg hW (ag.set0.tr ag.set0)) cf_rf (by simp [md_set, va_up]))
