set_option maxHeartbeats 400000 in
set_option maxRecDepth 100000 in
theorem c_end_ {l : Launch} {G : sg_G} {d : Nat} {M : sg_M} {kr : Option Value → sg_M → Prop} {kx : String → sg_M → Prop} (htr : l.stackTraces = false) {ca pb sl so th cx nt : Nat} {N : Nat → Nat → Nat} {u : Int32}  (hJ : cl_r G M ca pb sl so th cx nt N) (hW : WN N) (hk : ∀ M', cl_r G M' ca pb sl so th cx nt (md_end N u).2 → sf cf M M' → (md_end N u).2 0 0 = 0 → kr (some (.int (nI (md_end N u).1))) M') (hx1 : ∀ M', cl_r G M' ca pb sl so th cx nt (md_end N u).2 → sf cf M M' → (md_end N u).2 0 0 = 1 → kx "java/util/NoSuchElementException" M') (hx2 : ∀ M', cl_r G M' ca pb sl so th cx nt (md_end N u).2 → sf cf M M' → (md_end N u).2 0 0 = 2 → kx "java/lang/IllegalArgumentException" M') : sg_Met l G yX6_end cX6_end 3 (some .int) (d + 9) 2 12 [.ref ca, .int u] M kr kx := by
  refine sg_enter [some (.ref ca), some (.int u), none] (by decide) htr (Nat.le_of_ble_eq_true rfl) rfl ?_
  intro X hC hR
  have hC : sg_C X l G cX6_end RX6 3 (d + 9) := hC
  obtain ⟨hX, hPd, hCsl, hCso, hCth0, hCcx, hCnt⟩ := id hJ
  have hCth : ct G M th N := ⟨hCth0, hW⟩
  obtain ⟨gt, hTh, hGt⟩ := id hCth0
  have h1510 : N 15 u.toNatClampNeg ≤ 10 := hW 15 _
  have hf : sf cf M M := sf.rf
  have hf6 : sf (pk [6]) M M := sf.rf
  refine sg_aload_n (pc := 0) (v := .ref ca) hC dX6_end_0 rfl rfl ?_
  refine sg_iload_n (pc := 1) (x := u) hC dX6_end_1 rfl ?_
  refine sg_callV (pc := 2) (As := [.int u]) (rest := []) (mc := 1) (ms := 6) hC tw_988 tw_990 tw_24 tw_62 tw_991 yd_X6_stackOf (by decide) (ci := 9) rfl dX6_end_2 hX rfl (Nat.le_of_ble_eq_true rfl) (by first | omega | decide) (by first | omega | decide) ?_
  refine c_stkOf htr hX hTh hGt ?_ (fun hxf6 => sg_prop hC hR (by rw [show md_end N u = (0, (md_set (md_set N 0 0 0) 0 0 1)) from by unfold md_end; rw [if_neg (ts9 (show md_isThread (md_set N 0 0 0) u = false from hxf6))] <;> rfl] at hx1; exact hx1 M (hJ.cg hW (ag.set0.tr ag.set0)) cf_rf (by simp [md_set, va_up])))
  intro q1 h02 h83 h34 hq5
  obtain ⟨q7, hq8, hp9⟩ := (hGt _ h83).2 h34
  rw [hq5] at hq8
  cases hq8
  have hs10 : md_isThread (md_set N 0 0 0) u = true := isThr_t (N := (md_set N 0 0 0)) h02 h83 h34
  obtain ⟨la11, f12, hc13, hl14, hfp15⟩ := id hp9
  show sg_W X M 1 6 5 [some (.ref ca), some (.int u), none] [.ref q1]
  refine sg_astore_n (pc := 5) (v := .ref q1) hC dX6_end_5 (by decide) rfl ?_
  show sg_W X M 1 6 6 [some (.ref ca), some (.int u), some (.ref q1)] []
  rw [show u = nI u.toNatClampNeg from (md_nat (by assumption)).1]
  show sg_W X M 1 6 6 [some (.ref ca), some (.int (nI u.toNatClampNeg)), some (.ref q1)] []
  refine sg_iload_n (pc := 6) (x := nI u.toNatClampNeg) hC dX6_end_6 rfl ?_
  refine sg_ifN_ne (pc := 7) (a := u.toNatClampNeg) 18 hC dX6_end_7 (by decide) (by first | omega | decide) (fun h16 => ?_) (fun h16 => ?_)
  · refine sg_aload_n (pc := 18) (v := .ref ca) hC dX6_end_18 rfl rfl ?_
    refine sg_get (pc := 19) (a := ca) (v := .ref th) 3 hC rfl inw_X6 (by decide) tw_196 dX6_end_19 hX rfl ?_
    refine sg_iload_n (pc := 22) (x := nI u.toNatClampNeg) hC dX6_end_22 rfl ?_
    refine sg_null (pc := 23) hC dX6_end_23 ?_
    refine sg_aastN0 (pc := 24) (i := nI u.toNatClampNeg) hC dX6_end_24 hTh (by first | omega | decide) (vp_in_nI (by first | omega | decide) (by first | omega | decide)) ?_
    rw [nI_clamp (by first | omega | decide)]
    refine sg_nm (fun M17 hw18 => ?_)
    have hX : M17 ca = some (1, .inr (9, [.ref pb, .ref sl, .ref so, .ref th, .ref cx, .ref nt])) := hw18.n hX (sg_net hX hTh (by first | omega | decide))
    have hc13 : M17 q1 = some (40 + u.toNatClampNeg, .inr (3, [.ref la11, .int (nI (N 14 u.toNatClampNeg))])) := hw18.n hc13 (sg_net hc13 hTh (by first | omega | decide))
    have hPd : sb_r 2 3 M17 pb (padl N) := hPd.st hw18 hTh (by first | omega | decide) (by first | omega | decide)
    have hCsl : cl_slot M17 sl N := hCsl.st hw18 hTh (by first | omega | decide)
    have hCso : cl_src G M17 so N := hCso.st hw18 hTh (by first | omega | decide)
    have hCcx : cl_ctx M17 cx N := hCcx.st hw18 hTh (by first | omega | decide)
    have hCnt : cl_note G M17 nt N := hCnt.st hw18 hTh (by first | omega | decide)
    have hl14 : al_r G (50 + u.toNatClampNeg) (60 + u.toNatClampNeg) M17 la11 (N 15 u.toNatClampNeg) f12 := hl14.st hw18 hTh (by first | omega | decide) (by first | omega | decide) (by first | omega | decide)
    have hf : sf cf M M17 := hf.st hw18 hTh (by first | (simp [cf, cm]; done) | (simp only [cf, cm]; omega))
    have hf6 : sf (pk [6]) M M17 := hf6.st hw18 hTh (by simp [pk])
    have hTh : M17 th = some (6, .inl (.object RX0, 4, .inr (.inr (.inr (.inr (va_up gt u.toNatClampNeg none)))))) := hw18.1
    refine sg_aload_n (pc := 25) (v := .ref q1) hC dX6_end_25 rfl rfl ?_
    refine sg_get (pc := 26) (a := q1) (v := .ref la11) 0 hC rfl inw_X0 (by decide) tw_186 dX6_end_26 hc13 rfl ?_
    obtain ⟨_, _, _, _, _, hx19, -⟩ := id hl14
    refine sg_callV (pc := 29) (As := []) (rest := []) (mc := 0) (ms := 0) hC tw_867 tw_868 tw_869 tw_69 tw_870 yd_Jx4a65c_size_8abf5 (by decide) (ci := 2) rfl dX6_end_29 hx19 rfl (Nat.le_of_ble_eq_true rfl) (by first | omega | decide) (by first | omega | decide) ?_
    refine c_alSize htr hl14 ?_
    show sg_W X M17 1 6 32 [some (.ref ca), some (.int (nI u.toNatClampNeg)), some (.ref q1)] [.int (nI (N 15 u.toNatClampNeg))]
    have e9 : md_end N u = (N 15 u.toNatClampNeg, (md_set (md_set N 0 0 0) 13 u.toNatClampNeg 0)) := by unfold md_end; rw [if_pos hs10, if_neg (by omega)]
    rw [e9] at hk
    have hq : ∀ p, rq (md_set (md_set N 0 0 0) 13 u.toNatClampNeg 0) p = rq N p := fun p => by rw [rq_sne (by omega), rq_sne (by omega)]
    have ho : ∀ i9 j9, ¬ (i9 = 13 ∧ j9 = u.toNatClampNeg) → ¬ i9 = 0 → (md_set (md_set N 0 0 0) 13 u.toNatClampNeg 0) i9 j9 = N i9 j9 := fun i9 j9 a9 c9 => by rw [mset_ne a9, mset_ne (by omega)]
    have hall : ∀ s9, N 12 s9 ≤ 6 := fun s9 => hW 12 s9
    have hall2 : ∀ s9, N 15 s9 ≤ 10 := fun s9 => hW 15 s9
    have hCth9 : cl_thr G M17 th (md_set (md_set N 0 0 0) 13 u.toNatClampNeg 0) := ⟨_, hTh, fun t9 ht9 => by
      by_cases he : t9 = u.toNatClampNeg
      · rw [he]; exact ⟨fun _ => va_up_self _ _ _, fun e => absurd mset_eq e⟩
      · rw [ho 13 t9 (by omega) (by omega), va_up_ne _ _ he]
        refine ⟨(hGt t9 ht9).1, fun e => ?_⟩
        obtain ⟨a9, q1, q2⟩ := (hGt t9 ht9).2 e
        have h9 := hall2 t9
        exact ⟨a9, q1, (q2.p hf6 h9 (by first | (simp; done) | (simp; omega))).cg (ho 14 _ (by omega) (by omega)) (ho 15 _ (by omega) (by omega)) (fun k hk => ⟨ho 16 _ (by omega) (by omega), ho 17 _ (by omega) (by omega), fun _ => ⟨ho 18 _ (by omega) (by omega), hq _⟩⟩)⟩⟩
    exact sg_ireturn (st := []) (v := nI (N 15 u.toNatClampNeg)) (pc := 32) hC hR dX6_end_32 (hk _ ⟨hX, by rw [padl.cg (ho 1 0 (by omega) (by omega)) (fun j _ => ho 2 j (by omega) (by omega))]; exact hPd, hCsl.cg (fun i9 hi9 => hq i9), hCso.cg (fun s9 hs9 => ⟨ho 12 s9 (by omega) (by omega), fun j hj => by have := hall s9; exact hq _⟩), hCth9, hCcx.cg (fun j _ => ⟨ho 19 j (by omega) (by omega), ho 20 j (by omega) (by omega)⟩), hCnt.cg (ho 21 0 (by omega) (by omega)) (fun j _ => ho 22 j (by omega) (by omega))⟩ hf (by show (md_set (md_set N 0 0 0) 13 u.toNatClampNeg 0) 0 0 = 0; rw [mset_ne (by omega), mset_eq]))
  · exact sg_throw (pc := 10) (st := []) hC hR (by decide) tw_940 tw_84 th_IAE_121_g th_IAE_121_b th_IAE_119_121_o dX6_end_10 dX6_end_13 dX6_end_14 dX6_end_17 (by decide) (by first | omega | decide) (by first | omega | decide) (by rw [show md_end N u = (0, (md_set (md_set N 0 0 0) 0 0 2)) from by unfold md_end; rw [if_pos hs10, if_pos (show u.toNatClampNeg = 0 by omega)] <;> rfl] at hx2; exact hx2 M (hJ.cg hW (ag.set0.tr ag.set0)) cf_rf (by simp [md_set, va_up]))

theorem jbc_many {w : Nat} (h : w < 64) : jbc (nI w) = nI (md_many w) := by
  have : ∀ w : Fin 64, jbc (nI w.val) = nI (md_many w.val) := by decide +kernel
  exact this ⟨w, h⟩

theorem hv_l {a b : Int32} (h : a = b) : Value.int b = Value.int a := by rw [h]

set_option maxHeartbeats 400000 in
set_option maxRecDepth 100000 in
theorem c_combine_ {l : Launch} {G : sg_G} {d : Nat} {M : sg_M} {kr : Option Value → sg_M → Prop} {kx : String → sg_M → Prop} (htr : l.stackTraces = false) {ca pb sl so th cx nt : Nat} {N : Nat → Nat → Nat} {a : Int32} {b : Int32}  (hJ : cl_r G M ca pb sl so th cx nt N) (hW : WN N) (hk : ∀ M', cl_r G M' ca pb sl so th cx nt (md_combine N a b).2 → sf cf M M' → (md_combine N a b).2 0 0 = 0 → kr (some (.int (nI (md_combine N a b).1))) M') (hx1 : ∀ M', cl_r G M' ca pb sl so th cx nt (md_combine N a b).2 → sf cf M M' → (md_combine N a b).2 0 0 = 1 → kx "java/util/NoSuchElementException" M') (hx2 : ∀ M', cl_r G M' ca pb sl so th cx nt (md_combine N a b).2 → sf cf M M' → (md_combine N a b).2 0 0 = 2 → kx "java/lang/IllegalArgumentException" M') : sg_Met l G yX6_combine cX6_combine 4 (some .int) (d + 8) 3 18 [.ref ca, .int a, .int b] M kr kx := by
  refine sg_enter [some (.ref ca), some (.int a), some (.int b), none] (by decide) htr (Nat.le_of_ble_eq_true rfl) rfl ?_
  intro X hC hR
  have hC : sg_C X l G cX6_combine RX6 4 (d + 8) := hC
  obtain ⟨hX, hPd, hCsl, hCso, hCth0, hCcx, hCnt⟩ := id hJ
  have hCth : ct G M th N := ⟨hCth0, hW⟩
  obtain ⟨gc, hCx, hGc⟩ := id hCcx
  have hf : sf cf M M := sf.rf
  refine sg_aload_n (pc := 0) (v := .ref ca) hC dX6_combine_0 rfl rfl ?_
  refine sg_iload_n (pc := 1) (x := a) hC dX6_combine_1 rfl ?_
  refine sg_callV (pc := 2) (As := [.int a]) (rest := []) (mc := 1) (ms := 6) hC tw_1033 tw_1035 tw_25 tw_62 tw_1036 yd_X6_sourcesIn (by decide) (ci := 9) rfl dX6_combine_2 hX rfl (Nat.le_of_ble_eq_true rfl) (by first | omega | decide) (by first | omega | decide) ?_
  refine c_srcsIn htr hW hX hCx hGc ?_ (fun hxf4 => sg_prop hC hR (by rw [show md_combine N a b = (0, (md_set (md_set N 0 0 0) 0 0 1)) from by unfold md_combine; rw [if_neg (ts9 (show md_isContext (md_set N 0 0 0) a = false from hxf4))] <;> rfl] at hx1; exact hx1 M (hJ.cg hW (ag.set0.tr ag.set0)) cf_rf (by simp [md_set, va_up])))
  intro h01 h82 h33
  have hs5 : md_isContext (md_set N 0 0 0) a = true := isCtx_t (N := (md_set N 0 0 0)) h01 h82 h33
  show sg_W X M 2 12 5 [some (.ref ca), some (.int a), some (.int b), none] [.int (nI (N 20 a.toNatClampNeg))]
  refine sg_aload_n (pc := 5) (v := .ref ca) hC dX6_combine_5 rfl rfl ?_
  refine sg_iload_n (pc := 6) (x := b) hC dX6_combine_6 rfl ?_
  refine sg_callV (pc := 7) (As := [.int b]) (rest := [.int (nI (N 20 a.toNatClampNeg))]) (mc := 1) (ms := 6) hC tw_1033 tw_1035 tw_25 tw_62 tw_1036 yd_X6_sourcesIn (by decide) (ci := 9) rfl dX6_combine_7 hX rfl (Nat.le_of_ble_eq_true rfl) (by first | omega | decide) (by first | omega | decide) ?_
  refine c_srcsIn htr hW hX hCx hGc ?_ (fun hxf9 => sg_prop hC hR (by rw [show md_combine N a b = (0, (md_set (md_set N 0 0 0) 0 0 1)) from by unfold md_combine; rw [if_pos hs5, if_neg (ts9 (show md_isContext (md_set N 0 0 0) b = false from hxf9))] <;> rfl] at hx1; exact hx1 M (hJ.cg hW (ag.set0.tr ag.set0)) cf_rf (by simp [md_set, va_up])))
  intro h06 h87 h38
  have hs10 : md_isContext (md_set N 0 0 0) b = true := isCtx_t (N := (md_set N 0 0 0)) h06 h87 h38
  show sg_W X M 1 6 10 [some (.ref ca), some (.int a), some (.int b), none] [.int (nI (N 20 b.toNatClampNeg)), .int (nI (N 20 a.toNatClampNeg))]
  refine sg_iorN (pc := 10) (a := N 20 a.toNatClampNeg) (b := N 20 b.toNatClampNeg) hC dX6_combine_10 ?_
  refine sg_istore_n (pc := 11) (x := nI ((N 20 a.toNatClampNeg) ||| (N 20 b.toNatClampNeg))) hC dX6_combine_11 (by decide) ?_
  show sg_W X M 1 6 12 [some (.ref ca), some (.int a), some (.int b), some (.int (nI ((N 20 a.toNatClampNeg) ||| (N 20 b.toNatClampNeg))))] []
  have hav : a = nI a.toNatClampNeg := (md_nat (by assumption)).1
  have hbv : b = nI b.toNatClampNeg := (md_nat (by assumption)).1
  refine sg_loc (L' := [some (.ref ca), some (.int (nI a.toNatClampNeg)), some (.int (nI b.toNatClampNeg)), some (.int (nI ((N 20 a.toNatClampNeg) ||| (N 20 b.toNatClampNeg))))]) ⟨rfl, hv_l hav, hv_l hbv, rfl, trivial⟩ ?_
  show sg_W X M 1 6 12 [some (.ref ca), some (.int (nI a.toNatClampNeg)), some (.int (nI b.toNatClampNeg)), some (.int (nI ((N 20 a.toNatClampNeg) ||| (N 20 b.toNatClampNeg))))] []
  refine sg_iload_n (pc := 12) (x := nI a.toNatClampNeg) hC dX6_combine_12 rfl ?_
  refine sg_iload_n (pc := 13) (x := nI b.toNatClampNeg) hC dX6_combine_13 rfl ?_
  refine sg_icmpN_ne (pc := 14) (a := a.toNatClampNeg) (b := b.toNatClampNeg) 25 hC dX6_combine_14 (by decide) (by first | omega | decide) (by first | omega | decide) (fun h11 => ?_) (fun h11 => ?_)
  · by_cases hle : a.toNatClampNeg ≤ b.toNatClampNeg
    · refine sg_aload_n (pc := 25) (v := .ref ca) hC dX6_combine_25 rfl rfl ?_
      refine sg_get (pc := 26) (a := ca) (v := .ref cx) 4 hC rfl inw_X6 (by decide) tw_197 dX6_combine_26 hX rfl ?_
      refine sg_iload_n (pc := 29) (x := nI a.toNatClampNeg) hC dX6_combine_29 rfl ?_
      refine sg_iload_n (pc := 30) (x := nI b.toNatClampNeg) hC dX6_combine_30 rfl ?_
      refine sg_mmin (pc := 31) (x := nI a.toNatClampNeg) (y := nI b.toNatClampNeg) hC tw_1086 tw_260 tw_74 tw_261 dX6_combine_31 (Nat.le_of_ble_eq_true rfl) ?_
      rw [if_neg (fun z => by have := (nI_ltI (by omega) (by omega)).mp z; omega)]
      show sg_W X M 1 6 34 [some (.ref ca), some (.int (nI a.toNatClampNeg)), some (.int (nI b.toNatClampNeg)), some (.int (nI ((N 20 a.toNatClampNeg) ||| (N 20 b.toNatClampNeg))))] [.int (nI a.toNatClampNeg), .ref cx]
      refine sg_iload_n (pc := 34) (x := nI ((N 20 a.toNatClampNeg) ||| (N 20 b.toNatClampNeg))) hC dX6_combine_34 rfl ?_
      refine sg_iast (pc := 35) (i := nI a.toNatClampNeg) (x := nI ((N 20 a.toNatClampNeg) ||| (N 20 b.toNatClampNeg))) hC dX6_combine_35 hCx (by first | omega | decide) (vp_in_nI (by first | omega | decide) (by first | omega | decide)) ?_
      rw [nI_clamp (by first | omega | decide)]
      refine sg_nm (fun M12 hw13 => ?_)
      have hX : M12 ca = some (1, .inr (9, [.ref pb, .ref sl, .ref so, .ref th, .ref cx, .ref nt])) := hw13.n hX (sg_net hX hCx (by first | omega | decide))
      have hPd : sb_r 2 3 M12 pb (padl N) := hPd.st hw13 hCx (by first | omega | decide) (by first | omega | decide)
      have hCsl : cl_slot M12 sl N := hCsl.st hw13 hCx (by first | omega | decide)
      have hCso : cl_src G M12 so N := hCso.st hw13 hCx (by first | omega | decide)
      have hCth : ct G M12 th N := hCth.st hw13 hCx (by first | omega | decide)
      have hCnt : cl_note G M12 nt N := hCnt.st hw13 hCx (by first | omega | decide)
      have hf : sf cf M M12 := hf.st hw13 hCx (by first | (simp [cf, cm]; done) | (simp only [cf, cm]; omega))
      have hCx : M12 cx = some (7, .inl (.int, 8, .inl (upd gc a.toNatClampNeg (nI ((N 20 a.toNatClampNeg) ||| (N 20 b.toNatClampNeg)))))) := hw13.1
      refine sg_aload_n (pc := 36) (v := .ref ca) hC dX6_combine_36 rfl rfl ?_
      refine sg_get (pc := 37) (a := ca) (v := .ref cx) 4 hC rfl inw_X6 (by decide) tw_197 dX6_combine_37 hX rfl ?_
      refine sg_iload_n (pc := 40) (x := nI a.toNatClampNeg) hC dX6_combine_40 rfl ?_
      refine sg_iload_n (pc := 41) (x := nI b.toNatClampNeg) hC dX6_combine_41 rfl ?_
      refine sg_mmax (pc := 42) (x := nI a.toNatClampNeg) (y := nI b.toNatClampNeg) hC tw_1087 tw_242 tw_74 tw_243 dX6_combine_42 (Nat.le_of_ble_eq_true rfl) ?_
      rw [if_pos ((nI_ltI (by omega) (by omega)).mpr (by omega))]
      show sg_W X M12 1 6 45 [some (.ref ca), some (.int (nI a.toNatClampNeg)), some (.int (nI b.toNatClampNeg)), some (.int (nI ((N 20 a.toNatClampNeg) ||| (N 20 b.toNatClampNeg))))] [.int (nI b.toNatClampNeg), .ref cx]
      refine sg_iconst (pc := 45) (((-1))) hC dX6_combine_45 (by decide) ?_
      refine sg_iast (pc := 46) (i := nI b.toNatClampNeg) (x := ((-1))) hC dX6_combine_46 hCx (by first | omega | decide) (vp_in_nI (by first | omega | decide) (by first | omega | decide)) ?_
      rw [nI_clamp (by first | omega | decide)]
      refine sg_nm (fun M14 hw15 => ?_)
      have hX : M14 ca = some (1, .inr (9, [.ref pb, .ref sl, .ref so, .ref th, .ref cx, .ref nt])) := hw15.n hX (sg_net hX hCx (by first | omega | decide))
      have hPd : sb_r 2 3 M14 pb (padl N) := hPd.st hw15 hCx (by first | omega | decide) (by first | omega | decide)
      have hCsl : cl_slot M14 sl N := hCsl.st hw15 hCx (by first | omega | decide)
      have hCso : cl_src G M14 so N := hCso.st hw15 hCx (by first | omega | decide)
      have hCth : ct G M14 th N := hCth.st hw15 hCx (by first | omega | decide)
      have hCnt : cl_note G M14 nt N := hCnt.st hw15 hCx (by first | omega | decide)
      have hf : sf cf M M14 := hf.st hw15 hCx (by first | (simp [cf, cm]; done) | (simp only [cf, cm]; omega))
      have hCx : M14 cx = some (7, .inl (.int, 8, .inl (upd (upd gc a.toNatClampNeg (nI ((N 20 a.toNatClampNeg) ||| (N 20 b.toNatClampNeg)))) b.toNatClampNeg (((-1)))))) := hw15.1
      refine sg_iload_n (pc := 47) (x := nI ((N 20 a.toNatClampNeg) ||| (N 20 b.toNatClampNeg))) hC dX6_combine_47 rfl ?_
      refine sg_callS (pc := 48) (As := [.int (nI ((N 20 a.toNatClampNeg) ||| (N 20 b.toNatClampNeg)))]) (rest := []) (mc := 0) (ms := 0) hC tw_1088 tw_1089 tw_85 tw_1090 yd_J6_bitCount_0f7a4 (by decide) dX6_combine_48 rfl (Nat.le_of_ble_eq_true rfl) (by first | omega | decide) (by first | omega | decide) ?_
      refine c_bitCount htr  ?_
      show sg_W X M14 1 6 51 [some (.ref ca), some (.int (nI a.toNatClampNeg)), some (.int (nI b.toNatClampNeg)), some (.int (nI ((N 20 a.toNatClampNeg) ||| (N 20 b.toNatClampNeg))))] [.int (jbc (nI ((N 20 a.toNatClampNeg) ||| (N 20 b.toNatClampNeg))))]
      have e9 : md_combine N a b = (md_many ((N 20 a.toNatClampNeg) ||| (N 20 b.toNatClampNeg)), (md_set (md_set (md_set N 0 0 0) 20 a.toNatClampNeg ((N 20 a.toNatClampNeg) ||| (N 20 b.toNatClampNeg))) 19 b.toNatClampNeg 0)) := by unfold md_combine; rw [if_pos hs5, if_pos hs10, if_neg (show ¬ a.toNatClampNeg = b.toNatClampNeg by omega), if_neg (show ¬ b.toNatClampNeg ≤ a.toNatClampNeg by omega)]
      rw [e9] at hk
      have hlt : ((N 20 a.toNatClampNeg) ||| (N 20 b.toNatClampNeg)) < 64 := or64 (Nat.lt_succ_of_le (hW 20 _)) (Nat.lt_succ_of_le (hW 20 _))
      have hor : (N 20 a.toNatClampNeg) ||| (N 20 b.toNatClampNeg) = ((N 20 a.toNatClampNeg) ||| (N 20 b.toNatClampNeg)) := rfl
      rw [hor, jbc_many hlt]
      have hq : ∀ p, rq (md_set (md_set (md_set N 0 0 0) 20 a.toNatClampNeg ((N 20 a.toNatClampNeg) ||| (N 20 b.toNatClampNeg))) 19 b.toNatClampNeg 0) p = rq N p := fun p => by rw [rq_sne (by omega), rq_sne (by omega), rq_sne (by omega)]
      have ho : ∀ i9 j9, ¬ (i9 = 19 ∧ j9 = b.toNatClampNeg) ∧ ¬ (i9 = 20 ∧ j9 = a.toNatClampNeg) → ¬ i9 = 0 → (md_set (md_set (md_set N 0 0 0) 20 a.toNatClampNeg ((N 20 a.toNatClampNeg) ||| (N 20 b.toNatClampNeg))) 19 b.toNatClampNeg 0) i9 j9 = N i9 j9 := fun i9 j9 a9 c9 => by rw [mset_ne a9.1, mset_ne a9.2, mset_ne (by omega)]
      have h19 : N 19 a.toNatClampNeg ≠ 0 := h33
      have hCcx9 : cl_ctx M14 cx (md_set (md_set (md_set N 0 0 0) 20 a.toNatClampNeg ((N 20 a.toNatClampNeg) ||| (N 20 b.toNatClampNeg))) 19 b.toNatClampNeg 0) := ⟨_, hCx, fun j hj => by
        show upd (upd gc a.toNatClampNeg (nI _)) b.toNatClampNeg (-1) j = _
        unfold upd
        by_cases hj1 : j = b.toNatClampNeg
        · rw [if_pos hj1, hj1, if_pos mset_eq]; rfl
        · rw [if_neg hj1]
          by_cases hj2 : j = a.toNatClampNeg
          · rw [if_pos hj2, hj2, if_neg (by rw [ho 19 _ (by omega) (by omega)]; exact h19), show (md_set (md_set (md_set N 0 0 0) 20 a.toNatClampNeg ((N 20 a.toNatClampNeg) ||| (N 20 b.toNatClampNeg))) 19 b.toNatClampNeg 0) 20 a.toNatClampNeg = ((N 20 a.toNatClampNeg) ||| (N 20 b.toNatClampNeg)) from by rw [mset_ne (by omega), mset_eq], hor]; rfl
          · rw [if_neg hj2, ho 19 _ (by omega) (by omega), ho 20 _ (by omega) (by omega)]; exact hGc j hj⟩
      exact sg_ireturn (st := []) (v := nI (md_many ((N 20 a.toNatClampNeg) ||| (N 20 b.toNatClampNeg)))) (pc := 51) hC hR dX6_combine_51 (hk _ ⟨hX, by rw [padl.cg (ho 1 0 (by omega) (by omega)) (fun j _ => ho 2 j (by omega) (by omega))]; exact hPd, hCsl.cg (fun i9 hi9 => hq i9), hCso.cg (fun s9 hs9 => ⟨ho 12 s9 (by omega) (by omega), fun j hj => hq _⟩), (hCth).1.cg (fun t ht => ⟨ho 13 t (by omega) (by omega), ho 14 t (by omega) (by omega), ho 15 t (by omega) (by omega)⟩) (fun t k ht hk => ⟨ho 16 _ (by omega) (by omega), ho 17 _ (by omega) (by omega), fun _ => ⟨ho 18 _ (by omega) (by omega), hq _⟩⟩), hCcx9, hCnt.cg (ho 21 0 (by omega) (by omega)) (fun j _ => ho 22 j (by omega) (by omega))⟩ hf (by show (md_set (md_set (md_set N 0 0 0) 20 a.toNatClampNeg ((N 20 a.toNatClampNeg) ||| (N 20 b.toNatClampNeg))) 19 b.toNatClampNeg 0) 0 0 = 0; rw [mset_ne (by omega), mset_ne (by omega), mset_eq]))
    · refine sg_aload_n (pc := 25) (v := .ref ca) hC dX6_combine_25 rfl rfl ?_
      refine sg_get (pc := 26) (a := ca) (v := .ref cx) 4 hC rfl inw_X6 (by decide) tw_197 dX6_combine_26 hX rfl ?_
      refine sg_iload_n (pc := 29) (x := nI a.toNatClampNeg) hC dX6_combine_29 rfl ?_
      refine sg_iload_n (pc := 30) (x := nI b.toNatClampNeg) hC dX6_combine_30 rfl ?_
      refine sg_mmin (pc := 31) (x := nI a.toNatClampNeg) (y := nI b.toNatClampNeg) hC tw_1086 tw_260 tw_74 tw_261 dX6_combine_31 (Nat.le_of_ble_eq_true rfl) ?_
      rw [if_pos ((nI_ltI (by omega) (by omega)).mpr (by omega))]
      show sg_W X M 1 6 34 [some (.ref ca), some (.int (nI a.toNatClampNeg)), some (.int (nI b.toNatClampNeg)), some (.int (nI ((N 20 a.toNatClampNeg) ||| (N 20 b.toNatClampNeg))))] [.int (nI b.toNatClampNeg), .ref cx]
      refine sg_iload_n (pc := 34) (x := nI ((N 20 a.toNatClampNeg) ||| (N 20 b.toNatClampNeg))) hC dX6_combine_34 rfl ?_
      refine sg_iast (pc := 35) (i := nI b.toNatClampNeg) (x := nI ((N 20 a.toNatClampNeg) ||| (N 20 b.toNatClampNeg))) hC dX6_combine_35 hCx (by first | omega | decide) (vp_in_nI (by first | omega | decide) (by first | omega | decide)) ?_
      rw [nI_clamp (by first | omega | decide)]
      refine sg_nm (fun M16 hw17 => ?_)
      have hX : M16 ca = some (1, .inr (9, [.ref pb, .ref sl, .ref so, .ref th, .ref cx, .ref nt])) := hw17.n hX (sg_net hX hCx (by first | omega | decide))
      have hPd : sb_r 2 3 M16 pb (padl N) := hPd.st hw17 hCx (by first | omega | decide) (by first | omega | decide)
      have hCsl : cl_slot M16 sl N := hCsl.st hw17 hCx (by first | omega | decide)
      have hCso : cl_src G M16 so N := hCso.st hw17 hCx (by first | omega | decide)
      have hCth : ct G M16 th N := hCth.st hw17 hCx (by first | omega | decide)
      have hCnt : cl_note G M16 nt N := hCnt.st hw17 hCx (by first | omega | decide)
      have hf : sf cf M M16 := hf.st hw17 hCx (by first | (simp [cf, cm]; done) | (simp only [cf, cm]; omega))
      have hCx : M16 cx = some (7, .inl (.int, 8, .inl (upd gc b.toNatClampNeg (nI ((N 20 a.toNatClampNeg) ||| (N 20 b.toNatClampNeg)))))) := hw17.1
      refine sg_aload_n (pc := 36) (v := .ref ca) hC dX6_combine_36 rfl rfl ?_
      refine sg_get (pc := 37) (a := ca) (v := .ref cx) 4 hC rfl inw_X6 (by decide) tw_197 dX6_combine_37 hX rfl ?_
      refine sg_iload_n (pc := 40) (x := nI a.toNatClampNeg) hC dX6_combine_40 rfl ?_
      refine sg_iload_n (pc := 41) (x := nI b.toNatClampNeg) hC dX6_combine_41 rfl ?_
      refine sg_mmax (pc := 42) (x := nI a.toNatClampNeg) (y := nI b.toNatClampNeg) hC tw_1087 tw_242 tw_74 tw_243 dX6_combine_42 (Nat.le_of_ble_eq_true rfl) ?_
      rw [if_neg (fun z => by have := (nI_ltI (by omega) (by omega)).mp z; omega)]
      show sg_W X M16 1 6 45 [some (.ref ca), some (.int (nI a.toNatClampNeg)), some (.int (nI b.toNatClampNeg)), some (.int (nI ((N 20 a.toNatClampNeg) ||| (N 20 b.toNatClampNeg))))] [.int (nI a.toNatClampNeg), .ref cx]
      refine sg_iconst (pc := 45) (((-1))) hC dX6_combine_45 (by decide) ?_
      refine sg_iast (pc := 46) (i := nI a.toNatClampNeg) (x := ((-1))) hC dX6_combine_46 hCx (by first | omega | decide) (vp_in_nI (by first | omega | decide) (by first | omega | decide)) ?_
      rw [nI_clamp (by first | omega | decide)]
      refine sg_nm (fun M18 hw19 => ?_)
      have hX : M18 ca = some (1, .inr (9, [.ref pb, .ref sl, .ref so, .ref th, .ref cx, .ref nt])) := hw19.n hX (sg_net hX hCx (by first | omega | decide))
      have hPd : sb_r 2 3 M18 pb (padl N) := hPd.st hw19 hCx (by first | omega | decide) (by first | omega | decide)
      have hCsl : cl_slot M18 sl N := hCsl.st hw19 hCx (by first | omega | decide)
      have hCso : cl_src G M18 so N := hCso.st hw19 hCx (by first | omega | decide)
      have hCth : ct G M18 th N := hCth.st hw19 hCx (by first | omega | decide)
      have hCnt : cl_note G M18 nt N := hCnt.st hw19 hCx (by first | omega | decide)
      have hf : sf cf M M18 := hf.st hw19 hCx (by first | (simp [cf, cm]; done) | (simp only [cf, cm]; omega))
      have hCx : M18 cx = some (7, .inl (.int, 8, .inl (upd (upd gc b.toNatClampNeg (nI ((N 20 a.toNatClampNeg) ||| (N 20 b.toNatClampNeg)))) a.toNatClampNeg (((-1)))))) := hw19.1
      refine sg_iload_n (pc := 47) (x := nI ((N 20 a.toNatClampNeg) ||| (N 20 b.toNatClampNeg))) hC dX6_combine_47 rfl ?_
      refine sg_callS (pc := 48) (As := [.int (nI ((N 20 a.toNatClampNeg) ||| (N 20 b.toNatClampNeg)))]) (rest := []) (mc := 0) (ms := 0) hC tw_1088 tw_1089 tw_85 tw_1090 yd_J6_bitCount_0f7a4 (by decide) dX6_combine_48 rfl (Nat.le_of_ble_eq_true rfl) (by first | omega | decide) (by first | omega | decide) ?_
      refine c_bitCount htr  ?_
      show sg_W X M18 1 6 51 [some (.ref ca), some (.int (nI a.toNatClampNeg)), some (.int (nI b.toNatClampNeg)), some (.int (nI ((N 20 a.toNatClampNeg) ||| (N 20 b.toNatClampNeg))))] [.int (jbc (nI ((N 20 a.toNatClampNeg) ||| (N 20 b.toNatClampNeg))))]
      have e9 : md_combine N a b = (md_many ((N 20 b.toNatClampNeg) ||| (N 20 a.toNatClampNeg)), (md_set (md_set (md_set N 0 0 0) 20 b.toNatClampNeg ((N 20 b.toNatClampNeg) ||| (N 20 a.toNatClampNeg))) 19 a.toNatClampNeg 0)) := by unfold md_combine; rw [if_pos hs5, if_pos hs10, if_neg (show ¬ a.toNatClampNeg = b.toNatClampNeg by omega), if_pos (show b.toNatClampNeg ≤ a.toNatClampNeg by omega)]
      rw [e9] at hk
      have hlt : ((N 20 b.toNatClampNeg) ||| (N 20 a.toNatClampNeg)) < 64 := or64 (Nat.lt_succ_of_le (hW 20 _)) (Nat.lt_succ_of_le (hW 20 _))
      have hor : (N 20 a.toNatClampNeg) ||| (N 20 b.toNatClampNeg) = ((N 20 b.toNatClampNeg) ||| (N 20 a.toNatClampNeg)) := Nat.or_comm _ _
      rw [hor, jbc_many hlt]
      have hq : ∀ p, rq (md_set (md_set (md_set N 0 0 0) 20 b.toNatClampNeg ((N 20 b.toNatClampNeg) ||| (N 20 a.toNatClampNeg))) 19 a.toNatClampNeg 0) p = rq N p := fun p => by rw [rq_sne (by omega), rq_sne (by omega), rq_sne (by omega)]
      have ho : ∀ i9 j9, ¬ (i9 = 19 ∧ j9 = a.toNatClampNeg) ∧ ¬ (i9 = 20 ∧ j9 = b.toNatClampNeg) → ¬ i9 = 0 → (md_set (md_set (md_set N 0 0 0) 20 b.toNatClampNeg ((N 20 b.toNatClampNeg) ||| (N 20 a.toNatClampNeg))) 19 a.toNatClampNeg 0) i9 j9 = N i9 j9 := fun i9 j9 a9 c9 => by rw [mset_ne a9.1, mset_ne a9.2, mset_ne (by omega)]
      have h19 : N 19 b.toNatClampNeg ≠ 0 := h38
      have hCcx9 : cl_ctx M18 cx (md_set (md_set (md_set N 0 0 0) 20 b.toNatClampNeg ((N 20 b.toNatClampNeg) ||| (N 20 a.toNatClampNeg))) 19 a.toNatClampNeg 0) := ⟨_, hCx, fun j hj => by
        show upd (upd gc b.toNatClampNeg (nI _)) a.toNatClampNeg (-1) j = _
        unfold upd
        by_cases hj1 : j = a.toNatClampNeg
        · rw [if_pos hj1, hj1, if_pos mset_eq]; rfl
        · rw [if_neg hj1]
          by_cases hj2 : j = b.toNatClampNeg
          · rw [if_pos hj2, hj2, if_neg (by rw [ho 19 _ (by omega) (by omega)]; exact h19), show (md_set (md_set (md_set N 0 0 0) 20 b.toNatClampNeg ((N 20 b.toNatClampNeg) ||| (N 20 a.toNatClampNeg))) 19 a.toNatClampNeg 0) 20 b.toNatClampNeg = ((N 20 b.toNatClampNeg) ||| (N 20 a.toNatClampNeg)) from by rw [mset_ne (by omega), mset_eq], hor]; rfl
          · rw [if_neg hj2, ho 19 _ (by omega) (by omega), ho 20 _ (by omega) (by omega)]; exact hGc j hj⟩
      exact sg_ireturn (st := []) (v := nI (md_many ((N 20 b.toNatClampNeg) ||| (N 20 a.toNatClampNeg)))) (pc := 51) hC hR dX6_combine_51 (hk _ ⟨hX, by rw [padl.cg (ho 1 0 (by omega) (by omega)) (fun j _ => ho 2 j (by omega) (by omega))]; exact hPd, hCsl.cg (fun i9 hi9 => hq i9), hCso.cg (fun s9 hs9 => ⟨ho 12 s9 (by omega) (by omega), fun j hj => hq _⟩), (hCth).1.cg (fun t ht => ⟨ho 13 t (by omega) (by omega), ho 14 t (by omega) (by omega), ho 15 t (by omega) (by omega)⟩) (fun t k ht hk => ⟨ho 16 _ (by omega) (by omega), ho 17 _ (by omega) (by omega), fun _ => ⟨ho 18 _ (by omega) (by omega), hq _⟩⟩), hCcx9, hCnt.cg (ho 21 0 (by omega) (by omega)) (fun j _ => ho 22 j (by omega) (by omega))⟩ hf (by show (md_set (md_set (md_set N 0 0 0) 20 b.toNatClampNeg ((N 20 b.toNatClampNeg) ||| (N 20 a.toNatClampNeg))) 19 a.toNatClampNeg 0) 0 0 = 0; rw [mset_ne (by omega), mset_ne (by omega), mset_eq]))
  · exact sg_throw (pc := 17) (st := []) hC hR (by decide) tw_940 tw_84 th_IAE_121_g th_IAE_121_b th_IAE_119_121_o dX6_combine_17 dX6_combine_20 dX6_combine_21 dX6_combine_24 (by decide) (by first | omega | decide) (by first | omega | decide) (by rw [show md_combine N a b = (0, (md_set (md_set N 0 0 0) 0 0 2)) from by unfold md_combine; rw [if_pos hs5, if_pos hs10, if_pos (show a.toNatClampNeg = b.toNatClampNeg by omega)] <;> rfl] at hx2; exact hx2 M (hJ.cg hW (ag.set0.tr ag.set0)) cf_rf (by simp [md_set, va_up]))

theorem capture_eq {N : Nat → Nat → Nat} {t : Nat} : (∀ c, k_lowCtx N = some c → c < 8 ∧ N 19 c = 0 ∧ md_capture1 9 N t 0 = (c, md_set (md_set N 19 c 1) 20 c (md_walked (md_set N 19 c 1) t none))) ∧ (k_lowCtx N = none → md_capture1 9 N t 0 = (0, md_set N 0 0 2)) := by
  unfold k_lowCtx
  simp only [md_capture1]
  constructor
  · intro c h
    repeat' split at h
    all_goals first | cases h | skip
    all_goals (rename_i h9; simp_all)
  · intro h
    repeat' split at h
    all_goals first | cases h | skip
    all_goals simp_all [md_fail]
theorem lowCtx0 {N : Nat → Nat → Nat} : k_lowCtx (md_set N 0 0 0) = k_lowCtx N := rfl
theorem spawn_eq {N : Nat → Nat → Nat} {t : Nat} : (∀ c, k_lowThr N = some c → c < 4 ∧ N 13 c = 0 ∧ md_spawn1 5 N t 0 = (c, md_set (md_set (md_set N 13 c 1) 14 c (md_walked (md_set N 13 c 1) t none)) 15 c 0)) ∧ (k_lowThr N = none → md_spawn1 5 N t 0 = (0, md_set N 0 0 2)) := by
  unfold k_lowThr
  simp only [md_spawn1]
  constructor
  · intro c h
    repeat' split at h
    all_goals first | cases h | skip
    all_goals (rename_i h9; simp_all)
  · intro h
    repeat' split at h
    all_goals first | cases h | skip
    all_goals simp_all [md_fail]

set_option maxHeartbeats 400000 in
set_option maxRecDepth 100000 in
theorem c_capture_ {l : Launch} {G : sg_G} {d : Nat} {M : sg_M} {kr : Option Value → sg_M → Prop} {kx : String → sg_M → Prop} (htr : l.stackTraces = false) {ca pb sl so th cx nt : Nat} {N : Nat → Nat → Nat} {u : Int32}  (hJ : cl_r G M ca pb sl so th cx nt N) (hW : WN N) (hk : ∀ M', cl_r G M' ca pb sl so th cx nt (md_capture N u).2 → sf cf M M' → (md_capture N u).2 0 0 = 0 → kr (some (.int (nI (md_capture N u).1))) M') (hx1 : ∀ M', cl_r G M' ca pb sl so th cx nt (md_capture N u).2 → sf cf M M' → (md_capture N u).2 0 0 = 1 → kx "java/util/NoSuchElementException" M') (hx2 : ∀ M', cl_r G M' ca pb sl so th cx nt (md_capture N u).2 → sf cf M M' → (md_capture N u).2 0 0 = 2 → kx "java/lang/IllegalStateException" M') : sg_Met l G yX6_capture cX6_capture 4 (some .int) (d + 9) 2 12 [.ref ca, .int u] M kr kx := by
  refine sg_enter [some (.ref ca), some (.int u), none, none] (by decide) htr (Nat.le_of_ble_eq_true rfl) rfl ?_
  intro X hC hR
  have hC : sg_C X l G cX6_capture RX6 4 (d + 9) := hC
  obtain ⟨hX, hPd, hCsl, hCso, hCth0, hCcx, hCnt⟩ := id hJ
  have hCth : ct G M th N := ⟨hCth0, hW⟩
  obtain ⟨gt, hTh, hGt⟩ := id hCth0
  obtain ⟨gc, hCx, hGc⟩ := id hCcx
  have hf : sf cf M M := sf.rf
  refine sg_aload_n (pc := 0) (v := .ref ca) hC dX6_capture_0 rfl rfl ?_
  refine sg_iload_n (pc := 1) (x := u) hC dX6_capture_1 rfl ?_
  refine sg_callV (pc := 2) (As := [.int u]) (rest := []) (mc := 1) (ms := 6) hC tw_988 tw_990 tw_24 tw_62 tw_991 yd_X6_stackOf (by decide) (ci := 9) rfl dX6_capture_2 hX rfl (Nat.le_of_ble_eq_true rfl) (by first | omega | decide) (by first | omega | decide) ?_
  refine c_stkOf htr hX hTh hGt ?_ (fun hxf6 => sg_prop hC hR (by rw [show md_capture N u = (0, (md_set (md_set N 0 0 0) 0 0 1)) from by unfold md_capture; rw [if_neg (ts9 (show md_isThread (md_set N 0 0 0) u = false from hxf6))] <;> rfl] at hx1; exact hx1 M (hJ.cg hW (ag.set0.tr ag.set0)) cf_rf (by simp [md_set, va_up])))
  intro q1 h02 h83 h34 hq5
  obtain ⟨q7, hq8, hp9⟩ := (hGt _ h83).2 h34
  rw [hq5] at hq8
  cases hq8
  have hs10 : md_isThread (md_set N 0 0 0) u = true := isThr_t (N := (md_set N 0 0 0)) h02 h83 h34
  obtain ⟨la11, f12, hc13, hl14, hfp15⟩ := id hp9
  show sg_W X M 1 6 5 [some (.ref ca), some (.int u), none, none] [.ref q1]
  refine sg_astore_n (pc := 5) (v := .ref q1) hC dX6_capture_5 (by decide) rfl ?_
  show sg_W X M 1 6 6 [some (.ref ca), some (.int u), some (.ref q1), none] []
  refine sg_aload_n (pc := 6) (v := .ref ca) hC dX6_capture_6 rfl rfl ?_
  refine sg_callV (pc := 7) (As := []) (rest := []) (mc := 0) (ms := 0) hC tw_1075 tw_1077 tw_27 tw_62 tw_1078 yd_X6_lowestEmptyContext (by decide) (ci := 9) rfl dX6_capture_7 hX rfl (Nat.le_of_ble_eq_true rfl) (by first | omega | decide) (by first | omega | decide) ?_
  refine c_lowCtx htr hW hX hCx hGc ?_
  show sg_W X M 1 6 10 [some (.ref ca), some (.int u), some (.ref q1), none] [.int (md_o (k_lowCtx N))]
  refine sg_istore_n (pc := 10) (x := md_o (k_lowCtx N)) hC dX6_capture_10 (by decide) ?_
  show sg_W X M 1 6 11 [some (.ref ca), some (.int u), some (.ref q1), some (.int (md_o (k_lowCtx N)))] []
  refine sg_iload_n (pc := 11) (x := md_o (k_lowCtx N)) hC dX6_capture_11 rfl ?_
  refine sg_iconst (pc := 12) (((-1))) hC dX6_capture_12 (by decide) ?_
  obtain h16 | ⟨c17, h16⟩ := jo_cases (k_lowCtx N)
  · rw [show md_o (k_lowCtx N) = ((-1)) from by rw [h16]; rfl]
    refine sg_icmp_ne (pc := 13) (x := ((-1))) (y := -1) 24 hC dX6_capture_13 (by decide) (fun h9 => absurd rfl h9) (fun _ => ?_)
    show sg_W X M 1 6 16 [some (.ref ca), some (.int u), some (.ref q1), some (.int ((-1)))] []
    exact sg_throw (pc := 16) (st := []) hC hR (by decide) tw_871 tw_88 th_ISE_114_g th_ISE_114_b th_ISE_112_114_o dX6_capture_16 dX6_capture_19 dX6_capture_20 dX6_capture_23 (by decide) (by first | omega | decide) (by first | omega | decide) (by rw [show md_capture N u = (0, (md_set (md_set N 0 0 0) 0 0 2)) from by unfold md_capture; rw [if_pos hs10, (capture_eq (N := (md_set N 0 0 0))).2 h16] <;> rfl] at hx2; exact hx2 M (hJ.cg hW (ag.set0.tr ag.set0)) cf_rf (by simp [md_set, va_up]))
  · rw [show md_o (k_lowCtx N) = nI c17 from by rw [h16]; rfl]
    have hc8 := ((capture_eq (N := N) (t := 0)).1 _ h16).1
    refine sg_icmp_ne (pc := 13) (x := nI c17) (y := -1) 24 hC dX6_capture_13 (by decide) (fun _ => ?_) (fun h9 => absurd h9 (jn_ne (by omega)))
    show sg_W X M 1 6 24 [some (.ref ca), some (.int u), some (.ref q1), some (.int (nI c17))] []
    refine sg_aload_n (pc := 24) (v := .ref ca) hC dX6_capture_24 rfl rfl ?_
    refine sg_get (pc := 25) (a := ca) (v := .ref cx) 4 hC rfl inw_X6 (by decide) tw_197 dX6_capture_25 hX rfl ?_
    refine sg_iload_n (pc := 28) (x := nI c17) hC dX6_capture_28 rfl ?_
    refine sg_aload_n (pc := 29) (v := .ref q1) hC dX6_capture_29 rfl rfl ?_
    refine sg_null (pc := 30) hC dX6_capture_30 ?_
    refine sg_callV (pc := 31) (As := [.null]) (rest := [.int (nI c17), .ref cx]) (mc := 0) (ms := 0) hC tw_1056 tw_1057 tw_1058 tw_71 tw_1059 yd_X0_sourcesWalked (by decide) (ci := 3) rfl dX6_capture_31 hc13 rfl (Nat.le_of_ble_eq_true rfl) (by first | omega | decide) (by first | omega | decide) ?_
    refine c_walked (oa := none) (q := none) (N := (md_set (md_set N 0 0 0) 19 c17 1)) htr ((hW.set (i := 0) (j := 0) (v := 0) (Nat.zero_le _)).set (i := 19) (j := c17) (v := 1) (by decide)) (hp9.cg rfl rfl (fun k hk => ⟨rfl, rfl, fun _ => ⟨rfl, rfl⟩⟩)) (Or.inl ⟨rfl, rfl⟩) ?_
    show sg_W X M 1 6 34 [some (.ref ca), some (.int u), some (.ref q1), some (.int (nI c17))] [.int (nI (md_walked (md_set (md_set N 0 0 0) 19 c17 1) u.toNatClampNeg none)), .int (nI c17), .ref cx]
    refine sg_iast (pc := 34) (i := nI c17) (x := nI (md_walked (md_set (md_set N 0 0 0) 19 c17 1) u.toNatClampNeg none)) hC dX6_capture_34 hCx (by first | omega | decide) (vp_in_nI (by first | omega | decide) (by first | omega | decide)) ?_
    rw [nI_clamp (by first | omega | decide)]
    refine sg_nm (fun M18 hw19 => ?_)
    have hX : M18 ca = some (1, .inr (9, [.ref pb, .ref sl, .ref so, .ref th, .ref cx, .ref nt])) := hw19.n hX (sg_net hX hCx (by first | omega | decide))
    have hTh : M18 th = some (6, .inl (.object RX0, 4, .inr (.inr (.inr (.inr gt))))) := hw19.n hTh (sg_net hTh hCx (by first | omega | decide))
    have hc13 : M18 q1 = some (40 + u.toNatClampNeg, .inr (3, [.ref la11, .int (nI (N 14 u.toNatClampNeg))])) := hw19.n hc13 (sg_net hc13 hCx (by first | omega | decide))
    have hPd : sb_r 2 3 M18 pb (padl N) := hPd.st hw19 hCx (by first | omega | decide) (by first | omega | decide)
    have hCsl : cl_slot M18 sl N := hCsl.st hw19 hCx (by first | omega | decide)
    have hCso : cl_src G M18 so N := hCso.st hw19 hCx (by first | omega | decide)
    have hCth : ct G M18 th N := hCth.st hw19 hCx (by first | omega | decide)
    have hCnt : cl_note G M18 nt N := hCnt.st hw19 hCx (by first | omega | decide)
    have hl14 : al_r G (50 + u.toNatClampNeg) (60 + u.toNatClampNeg) M18 la11 (N 15 u.toNatClampNeg) f12 := hl14.st hw19 hCx (by first | omega | decide) (by first | omega | decide) (by first | omega | decide)
    have hf : sf cf M M18 := hf.st hw19 hCx (by first | (simp [cf, cm]; done) | (simp only [cf, cm]; omega))
    have hCx : M18 cx = some (7, .inl (.int, 8, .inl (upd gc c17 (nI (md_walked (md_set (md_set N 0 0 0) 19 c17 1) u.toNatClampNeg none))))) := hw19.1
    refine sg_iload_n (pc := 35) (x := nI c17) hC dX6_capture_35 rfl ?_
    obtain ⟨c1, c2, c3⟩ := (capture_eq (N := (md_set N 0 0 0)) (t := u.toNatClampNeg)).1 _ h16
    have e9 : md_capture N u = (c17, (md_set (md_set (md_set N 0 0 0) 19 c17 1) 20 c17 (md_walked (md_set (md_set N 0 0 0) 19 c17 1) u.toNatClampNeg none))) := by unfold md_capture; rw [if_pos hs10, c3]
    rw [e9] at hk
    have hq : ∀ p, rq (md_set (md_set (md_set N 0 0 0) 19 c17 1) 20 c17 (md_walked (md_set (md_set N 0 0 0) 19 c17 1) u.toNatClampNeg none)) p = rq N p := fun p => by rw [rq_sne (by omega), rq_sne (by omega), rq_sne (by omega)]
    have ho : ∀ i9 j9, ¬ (i9 = 19 ∧ j9 = c17) ∧ ¬ (i9 = 20 ∧ j9 = c17) → ¬ i9 = 0 → (md_set (md_set (md_set N 0 0 0) 19 c17 1) 20 c17 (md_walked (md_set (md_set N 0 0 0) 19 c17 1) u.toNatClampNeg none)) i9 j9 = N i9 j9 := fun i9 j9 a9 c9 => by rw [mset_ne a9.2, mset_ne a9.1, mset_ne (by omega)]
    have hCcx9 : cl_ctx M18 cx (md_set (md_set (md_set N 0 0 0) 19 c17 1) 20 c17 (md_walked (md_set (md_set N 0 0 0) 19 c17 1) u.toNatClampNeg none)) := ⟨_, hCx, fun j hj => by
      show upd gc c17 (nI _) j = _
      unfold upd
      by_cases hj1 : j = c17
      · rw [if_pos hj1, hj1, show (md_set (md_set (md_set N 0 0 0) 19 c17 1) 20 c17 (md_walked (md_set (md_set N 0 0 0) 19 c17 1) u.toNatClampNeg none)) 19 c17 = 1 from by rw [mset_ne (by omega), mset_eq], show (md_set (md_set (md_set N 0 0 0) 19 c17 1) 20 c17 (md_walked (md_set (md_set N 0 0 0) 19 c17 1) u.toNatClampNeg none)) 20 c17 = md_walked (md_set (md_set N 0 0 0) 19 c17 1) u.toNatClampNeg none from mset_eq]; rfl
      · rw [if_neg hj1, ho 19 _ (by omega) (by omega), ho 20 _ (by omega) (by omega)]; exact hGc j hj⟩
    exact sg_ireturn (st := []) (v := nI c17) (pc := 36) hC hR dX6_capture_36 (hk _ ⟨hX, by rw [padl.cg (ho 1 0 (by omega) (by omega)) (fun j _ => ho 2 j (by omega) (by omega))]; exact hPd, hCsl.cg (fun i9 hi9 => hq i9), hCso.cg (fun s9 hs9 => ⟨ho 12 s9 (by omega) (by omega), fun j hj => hq _⟩), (hCth).1.cg (fun t ht => ⟨ho 13 t (by omega) (by omega), ho 14 t (by omega) (by omega), ho 15 t (by omega) (by omega)⟩) (fun t k ht hk => ⟨ho 16 _ (by omega) (by omega), ho 17 _ (by omega) (by omega), fun _ => ⟨ho 18 _ (by omega) (by omega), hq _⟩⟩), hCcx9, hCnt.cg (ho 21 0 (by omega) (by omega)) (fun j _ => ho 22 j (by omega) (by omega))⟩ hf (by show (md_set (md_set (md_set N 0 0 0) 19 c17 1) 20 c17 (md_walked (md_set (md_set N 0 0 0) 19 c17 1) u.toNatClampNeg none)) 0 0 = 0; rw [mset_ne (by omega), mset_ne (by omega), mset_eq]))

set_option maxHeartbeats 400000 in
set_option maxRecDepth 100000 in
theorem c_spawn_ {l : Launch} {G : sg_G} {d : Nat} {M : sg_M} {kr : Option Value → sg_M → Prop} {kx : String → sg_M → Prop} (htr : l.stackTraces = false) {ca pb sl so th cx nt : Nat} {N : Nat → Nat → Nat} {u : Int32}  (hJ : cl_r G M ca pb sl so th cx nt N) (hW : WN N) (hEv : ev G M) (hk : ∀ M', cl_r G M' ca pb sl so th cx nt (md_spawn N u).2 → sf cf M M' → (md_spawn N u).2 0 0 = 0 → kr (some (.int (nI (md_spawn N u).1))) M') (hx1 : ∀ M', cl_r G M' ca pb sl so th cx nt (md_spawn N u).2 → sf cf M M' → (md_spawn N u).2 0 0 = 1 → kx "java/util/NoSuchElementException" M') (hx2 : ∀ M', cl_r G M' ca pb sl so th cx nt (md_spawn N u).2 → sf cf M M' → (md_spawn N u).2 0 0 = 2 → kx "java/lang/IllegalStateException" M') : sg_Met l G yX6_spawn cX6_spawn 4 (some .int) (d + 9) 4 18 [.ref ca, .int u] M kr kx := by
  refine sg_enter [some (.ref ca), some (.int u), none, none] (by decide) htr (Nat.le_of_ble_eq_true rfl) rfl ?_
  intro X hC hR
  have hC : sg_C X l G cX6_spawn RX6 4 (d + 9) := hC
  obtain ⟨hX, hPd, hCsl, hCso, hCth0, hCcx, hCnt⟩ := id hJ
  have hCth : ct G M th N := ⟨hCth0, hW⟩
  obtain ⟨gt, hTh, hGt⟩ := id hCth0
  have hf : sf cf M M := sf.rf
  have hfe : sf (pk []) M M := sf.rf
  refine sg_aload_n (pc := 0) (v := .ref ca) hC dX6_spawn_0 rfl rfl ?_
  refine sg_iload_n (pc := 1) (x := u) hC dX6_spawn_1 rfl ?_
  refine sg_callV (pc := 2) (As := [.int u]) (rest := []) (mc := 1) (ms := 6) hC tw_988 tw_990 tw_24 tw_62 tw_991 yd_X6_stackOf (by decide) (ci := 9) rfl dX6_spawn_2 hX rfl (Nat.le_of_ble_eq_true rfl) (by first | omega | decide) (by first | omega | decide) ?_
  refine c_stkOf htr hX hTh hGt ?_ (fun hxf6 => sg_prop hC hR (by rw [show md_spawn N u = (0, (md_set (md_set N 0 0 0) 0 0 1)) from by unfold md_spawn; rw [if_neg (ts9 (show md_isThread (md_set N 0 0 0) u = false from hxf6))] <;> rfl] at hx1; exact hx1 M (hJ.cg hW (ag.set0.tr ag.set0)) cf_rf (by simp [md_set, va_up])))
  intro q1 h02 h83 h34 hq5
  obtain ⟨q7, hq8, hp9⟩ := (hGt _ h83).2 h34
  rw [hq5] at hq8
  cases hq8
  have hs10 : md_isThread (md_set N 0 0 0) u = true := isThr_t (N := (md_set N 0 0 0)) h02 h83 h34
  obtain ⟨la11, f12, hc13, hl14, hfp15⟩ := id hp9
  show sg_W X M 3 12 5 [some (.ref ca), some (.int u), none, none] [.ref q1]
  refine sg_astore_n (pc := 5) (v := .ref q1) hC dX6_spawn_5 (by decide) rfl ?_
  show sg_W X M 3 12 6 [some (.ref ca), some (.int u), some (.ref q1), none] []
  refine sg_aload_n (pc := 6) (v := .ref ca) hC dX6_spawn_6 rfl rfl ?_
  refine sg_callV (pc := 7) (As := []) (rest := []) (mc := 0) (ms := 0) hC tw_1101 tw_1103 tw_28 tw_62 tw_1104 yd_X6_lowestMissingThread (by decide) (ci := 9) rfl dX6_spawn_7 hX rfl (Nat.le_of_ble_eq_true rfl) (by first | omega | decide) (by first | omega | decide) ?_
  refine c_lowThr htr hX hTh hGt ?_
  show sg_W X M 3 12 10 [some (.ref ca), some (.int u), some (.ref q1), none] [.int (md_o (k_lowThr N))]
  refine sg_istore_n (pc := 10) (x := md_o (k_lowThr N)) hC dX6_spawn_10 (by decide) ?_
  show sg_W X M 3 12 11 [some (.ref ca), some (.int u), some (.ref q1), some (.int (md_o (k_lowThr N)))] []
  refine sg_iload_n (pc := 11) (x := md_o (k_lowThr N)) hC dX6_spawn_11 rfl ?_
  refine sg_iconst (pc := 12) (((-1))) hC dX6_spawn_12 (by decide) ?_
  obtain h16 | ⟨c17, h16⟩ := jo_cases (k_lowThr N)
  · rw [show md_o (k_lowThr N) = ((-1)) from by rw [h16]; rfl]
    refine sg_icmp_ne (pc := 13) (x := ((-1))) (y := -1) 24 hC dX6_spawn_13 (by decide) (fun h9 => absurd rfl h9) (fun _ => ?_)
    show sg_W X M 3 12 16 [some (.ref ca), some (.int u), some (.ref q1), some (.int ((-1)))] []
    exact sg_throw (pc := 16) (st := []) hC hR (by decide) tw_871 tw_88 th_ISE_114_g th_ISE_114_b th_ISE_112_114_o dX6_spawn_16 dX6_spawn_19 dX6_spawn_20 dX6_spawn_23 (by decide) (by first | omega | decide) (by first | omega | decide) (by rw [show md_spawn N u = (0, (md_set (md_set N 0 0 0) 0 0 2)) from by unfold md_spawn; rw [if_pos hs10, (spawn_eq (N := (md_set N 0 0 0))).2 h16] <;> rfl] at hx2; exact hx2 M (hJ.cg hW (ag.set0.tr ag.set0)) cf_rf (by simp [md_set, va_up]))
  · rw [show md_o (k_lowThr N) = nI c17 from by rw [h16]; rfl]
    have hc8 := ((spawn_eq (N := N) (t := 0)).1 _ h16).1
    refine sg_icmp_ne (pc := 13) (x := nI c17) (y := -1) 24 hC dX6_spawn_13 (by decide) (fun _ => ?_) (fun h9 => absurd h9 (jn_ne (by omega)))
    show sg_W X M 3 12 24 [some (.ref ca), some (.int u), some (.ref q1), some (.int (nI c17))] []
    refine sg_aload_n (pc := 24) (v := .ref ca) hC dX6_spawn_24 rfl rfl ?_
    refine sg_get (pc := 25) (a := ca) (v := .ref th) 3 hC rfl inw_X6 (by decide) tw_196 dX6_spawn_25 hX rfl ?_
    refine sg_iload_n (pc := 28) (x := nI c17) hC dX6_spawn_28 rfl ?_
    refine sg_new (pc := 29) (ci := 3) (40 + c17) [.null, .int (nI 0)] hC rfl inw_X0 tyX0 tyX0_ok tw_137 tw_178 tw_71 (by intro j hj; have h9 : j = 0 ∨ j = 1 := (by omega); rcases h9 with rfl | rfl <;> rfl) dX6_spawn_29 (by first | omega | decide) (by first | omega | decide) (by first | omega | decide) (fun q18 hq19 => ?_)
    refine sg_nm (fun M20 hw21 => ?_)
    have ne22 : ca ≠ q18 := sg_fresh hX hq19
    have hX : M20 ca = some (1, .inr (9, [.ref pb, .ref sl, .ref so, .ref th, .ref cx, .ref nt])) := hw21.n hX ne22
    have ne23 : th ≠ q18 := sg_fresh hTh hq19
    have hTh : M20 th = some (6, .inl (.object RX0, 4, .inr (.inr (.inr (.inr gt))))) := hw21.n hTh ne23
    have ne24 : q1 ≠ q18 := sg_fresh hc13 hq19
    have hc13 : M20 q1 = some (40 + u.toNatClampNeg, .inr (3, [.ref la11, .int (nI (N 14 u.toNatClampNeg))])) := hw21.n hc13 ne24
    have hPd : sb_r 2 3 M20 pb (padl N) := hPd.nw hw21 hq19
    have hCsl : cl_slot M20 sl N := hCsl.nw hw21 hq19
    have hCso : cl_src G M20 so N := hCso.nw hw21 hq19
    have hCcx : cl_ctx M20 cx N := hCcx.nw hw21 hq19
    have hCnt : cl_note G M20 nt N := hCnt.nw hw21 hq19
    have hEv : ev G M20 := hEv.nw hw21 hq19
    have hl14 : al_r G (50 + u.toNatClampNeg) (60 + u.toNatClampNeg) M20 la11 (N 15 u.toNatClampNeg) f12 := hl14.nw hw21 hq19
    have hn25 : M q18 = none := hf.fr hq19
    have hf : sf cf M M20 := hf.nw hw21 hn25
    have hn26 : M q18 = none := hfe.fr hq19
    have hfe : sf (pk []) M M20 := hfe.nw hw21 hn26
    have hF27 : M20 q18 = some (40 + c17, .inr (3, [.null, .int (nI 0)])) := hw21.1
    show sg_W X M20 2 10 32 [some (.ref ca), some (.int u), some (.ref q1), some (.int (nI c17))] [.ref q18, .int (nI c17), .ref th]
    refine sg_dup (pc := 32) hC dX6_spawn_32 rfl ?_
    refine sg_aload_n (pc := 33) (v := .ref q1) hC dX6_spawn_33 rfl rfl ?_
    refine sg_null (pc := 34) hC dX6_spawn_34 ?_
    refine sg_callV (pc := 35) (As := [.null]) (rest := [.ref q18, .ref q18, .int (nI c17), .ref th]) (mc := 0) (ms := 0) hC tw_1056 tw_1057 tw_1058 tw_71 tw_1059 yd_X0_sourcesWalked (by decide) (ci := 3) rfl dX6_spawn_35 hc13 rfl (Nat.le_of_ble_eq_true rfl) (by first | omega | decide) (by first | omega | decide) ?_
    have hp9 := hp9.p hfe (hW 15 _) (by simp)
    refine c_walked (oa := none) (q := none) (N := (md_set (md_set N 0 0 0) 13 c17 1)) htr ((hW.set (i := 0) (j := 0) (v := 0) (Nat.zero_le _)).set (i := 13) (j := c17) (v := 1) (by decide)) (hp9.cg rfl rfl (fun k hk => ⟨rfl, rfl, fun _ => ⟨rfl, rfl⟩⟩)) (Or.inl ⟨rfl, rfl⟩) ?_
    show sg_W X M20 2 10 38 [some (.ref ca), some (.int u), some (.ref q1), some (.int (nI c17))] [.int (nI (md_walked (md_set (md_set N 0 0 0) 13 c17 1) u.toNatClampNeg none)), .ref q18, .ref q18, .int (nI c17), .ref th]
    refine sg_callI (pc := 38) (b := q18) (As := [.int (nI (md_walked (md_set (md_set N 0 0 0) 13 c17 1) u.toNatClampNeg none))]) (rest := [.ref q18, .int (nI c17), .ref th]) (mc := 1) (ms := 3) hC tw_179 tw_180 tw_71 tw_181 rfl yd_X0_init (by decide) dX6_spawn_38 rfl (Nat.le_of_ble_eq_true rfl) (by first | omega | decide) (by first | omega | decide) ?_
    obtain ⟨g0, hD⟩ := hEv.2.2
    have hfn : sf (pk []) M M20 := hfe
    refine c_csInit (t := 40 + c17) (u := 50 + c17) (v := 60 + c17) htr hF27 (by omega) (by omega) (by omega) hD (fun la28 M29 hc30 hl31 hfs32 => ?_)
    have hX : M29 ca = some (1, .inr (9, [.ref pb, .ref sl, .ref so, .ref th, .ref cx, .ref nt])) := hfs32.p hX (by first | decide | (simp; done) | (simp; omega))
    have hTh : M29 th = some (6, .inl (.object RX0, 4, .inr (.inr (.inr (.inr gt))))) := hfs32.p hTh (by first | decide | (simp; done) | (simp; omega))
    have hPd : sb_r 2 3 M29 pb (padl N) := hPd.p hfs32 (by first | decide | (simp; done) | (simp; omega)) (by first | decide | (simp; done) | (simp; omega))
    have hCsl : cl_slot M29 sl N := hCsl.p hfs32 (by first | decide | (simp; done) | (simp; omega))
    have hCso : cl_src G M29 so N := hCso.p hfs32 (by first | decide | (simp; done) | (simp; omega))
    have hCcx : cl_ctx M29 cx N := hCcx.p hfs32 (by first | decide | (simp; done) | (simp; omega))
    have hCnt : cl_note G M29 nt N := hCnt.p hfs32 (by first | decide | (simp; done) | (simp; omega))
    have hEv : ev G M29 := hEv.p hfs32 (by first | decide | (simp; done) | (simp; omega))
    have hf : sf cf M M29 := hf.tr hfs32 (fun a t h => by first | (simp [pk] at h; done) | (simp [pk] at h; simp only [cf, cm]; omega))
    show sg_W X M29 1 7 41 [some (.ref ca), some (.int u), some (.ref q1), some (.int (nI c17))] [.ref q18, .int (nI c17), .ref th]
    have hThp := hTh
    refine sg_aast0 (pc := 41) (i := nI c17) hC dX6_spawn_41 hTh (by first | omega | decide) hc30 (by first | omega | decide)  (vp_in_nI (by first | omega | decide) (by first | omega | decide)) ?_
    rw [nI_clamp (by first | omega | decide)]
    refine sg_nm (fun M33 hw34 => ?_)
    have hX : M33 ca = some (1, .inr (9, [.ref pb, .ref sl, .ref so, .ref th, .ref cx, .ref nt])) := hw34.n hX (sg_net hX hTh (by first | omega | decide))
    have hc30 : M33 q18 = some (40 + c17, .inr (3, [.ref la28, .int (nI (md_walked (md_set (md_set N 0 0 0) 13 c17 1) u.toNatClampNeg none))])) := hw34.n hc30 (Ne.symm ne23)
    have hPd : sb_r 2 3 M33 pb (padl N) := hPd.st hw34 hTh (by first | omega | decide) (by first | omega | decide)
    have hCsl : cl_slot M33 sl N := hCsl.st hw34 hTh (by first | omega | decide)
    have hCso : cl_src G M33 so N := hCso.st hw34 hTh (by first | omega | decide)
    have hCcx : cl_ctx M33 cx N := hCcx.st hw34 hTh (by first | omega | decide)
    have hCnt : cl_note G M33 nt N := hCnt.st hw34 hTh (by first | omega | decide)
    have hEv : ev G M33 := hEv.st hw34 hTh (by first | omega | decide)
    have hl31 : al_r G (50 + c17) (60 + c17) M33 la28 0 (fun _ => none) := hl31.st hw34 hTh (by first | omega | decide) (by first | omega | decide) (by first | omega | decide)
    have hf : sf cf M M33 := hf.st hw34 hTh (by first | (simp [cf, cm]; done) | (simp only [cf, cm]; omega))
    have hTh : M33 th = some (6, .inl (.object RX0, 4, .inr (.inr (.inr (.inr (va_up gt c17 (some q18))))))) := hw34.1
    refine sg_iload_n (pc := 42) (x := nI c17) hC dX6_spawn_42 rfl ?_
    obtain ⟨c1, c2, c3⟩ := (spawn_eq (N := (md_set N 0 0 0)) (t := u.toNatClampNeg)).1 _ h16
    have e9 : md_spawn N u = (c17, (md_set (md_set (md_set (md_set N 0 0 0) 13 c17 1) 14 c17 (md_walked (md_set (md_set N 0 0 0) 13 c17 1) u.toNatClampNeg none)) 15 c17 0)) := by unfold md_spawn; rw [if_pos hs10, c3]
    rw [e9] at hk
    have hq : ∀ p, rq (md_set (md_set (md_set (md_set N 0 0 0) 13 c17 1) 14 c17 (md_walked (md_set (md_set N 0 0 0) 13 c17 1) u.toNatClampNeg none)) 15 c17 0) p = rq N p := fun p => by rw [rq_sne (by omega), rq_sne (by omega), rq_sne (by omega), rq_sne (by omega)]
    have ho : ∀ i9 j9, ¬ (i9 = 13 ∧ j9 = c17) ∧ ¬ (i9 = 14 ∧ j9 = c17) ∧ ¬ (i9 = 15 ∧ j9 = c17) → ¬ i9 = 0 → (md_set (md_set (md_set (md_set N 0 0 0) 13 c17 1) 14 c17 (md_walked (md_set (md_set N 0 0 0) 13 c17 1) u.toNatClampNeg none)) 15 c17 0) i9 j9 = N i9 j9 := fun i9 j9 a9 c9 => by rw [mset_ne a9.2.2, mset_ne a9.2.1, mset_ne a9.1, mset_ne (by omega)]
    have hall : ∀ s9, N 12 s9 ≤ 6 := fun s9 => hW 12 s9
    have hall2 : ∀ s9, N 15 s9 ≤ 10 := fun s9 => hW 15 s9
    have hcs : cs_r G M33 c17 q18 (md_set (md_set (md_set (md_set N 0 0 0) 13 c17 1) 14 c17 (md_walked (md_set (md_set N 0 0 0) 13 c17 1) u.toNatClampNeg none)) 15 c17 0) := ⟨la28, fun _ => none, by rw [show (md_set (md_set (md_set (md_set N 0 0 0) 13 c17 1) 14 c17 (md_walked (md_set (md_set N 0 0 0) 13 c17 1) u.toNatClampNeg none)) 15 c17 0) 14 c17 = md_walked (md_set (md_set N 0 0 0) 13 c17 1) u.toNatClampNeg none from by rw [mset_ne (by omega), mset_eq]]; exact hc30, by rw [show (md_set (md_set (md_set (md_set N 0 0 0) 13 c17 1) 14 c17 (md_walked (md_set (md_set N 0 0 0) 13 c17 1) u.toNatClampNeg none)) 15 c17 0) 15 c17 = 0 from mset_eq]; exact hl31, fun k hk => by rw [show (md_set (md_set (md_set (md_set N 0 0 0) 13 c17 1) 14 c17 (md_walked (md_set (md_set N 0 0 0) 13 c17 1) u.toNatClampNeg none)) 15 c17 0) 15 c17 = 0 from mset_eq] at hk; omega⟩
    have hCth9 : cl_thr G M33 th (md_set (md_set (md_set (md_set N 0 0 0) 13 c17 1) 14 c17 (md_walked (md_set (md_set N 0 0 0) 13 c17 1) u.toNatClampNeg none)) 15 c17 0) := ⟨_, hTh, fun t9 ht9 => by
      by_cases he : t9 = c17
      · rw [he]; exact ⟨fun e => absurd e (by rw [show (md_set (md_set (md_set (md_set N 0 0 0) 13 c17 1) 14 c17 (md_walked (md_set (md_set N 0 0 0) 13 c17 1) u.toNatClampNeg none)) 15 c17 0) 13 c17 = 1 from by rw [mset_ne (by omega), mset_ne (by omega), mset_eq]]; decide), fun _ => ⟨q18, va_up_self _ _ _, hcs⟩⟩
      · rw [ho 13 t9 (by omega) (by omega), va_up_ne _ _ he]
        refine ⟨(hGt t9 ht9).1, fun e => ?_⟩
        obtain ⟨a9, q1, q2⟩ := (hGt t9 ht9).2 e
        have h9 := hall2 t9
        exact ⟨a9, q1, (((q2.p hfn h9 (by first | (simp; done) | (simp; omega))).p hfs32 h9 (by first | (simp; done) | (simp; omega))).p (sf_st hw34 hThp) h9 (by first | (simp; done) | (simp; omega))).cg (ho 14 _ (by omega) (by omega)) (ho 15 _ (by omega) (by omega)) (fun k hk => ⟨ho 16 _ (by omega) (by omega), ho 17 _ (by omega) (by omega), fun _ => ⟨ho 18 _ (by omega) (by omega), hq _⟩⟩)⟩⟩
    exact sg_ireturn (st := []) (v := nI c17) (pc := 43) hC hR dX6_spawn_43 (hk _ ⟨hX, by rw [padl.cg (ho 1 0 (by omega) (by omega)) (fun j _ => ho 2 j (by omega) (by omega))]; exact hPd, hCsl.cg (fun i9 hi9 => hq i9), hCso.cg (fun s9 hs9 => ⟨ho 12 s9 (by omega) (by omega), fun j hj => by have := hall s9; exact hq _⟩), hCth9, hCcx.cg (fun j _ => ⟨ho 19 j (by omega) (by omega), ho 20 j (by omega) (by omega)⟩), hCnt.cg (ho 21 0 (by omega) (by omega)) (fun j _ => ho 22 j (by omega) (by omega))⟩ hf (by show (md_set (md_set (md_set (md_set N 0 0 0) 13 c17 1) 14 c17 (md_walked (md_set (md_set N 0 0 0) 13 c17 1) u.toNatClampNeg none)) 15 c17 0) 0 0 = 0; rw [mset_ne (by omega), mset_ne (by omega), mset_ne (by omega), mset_eq]))
