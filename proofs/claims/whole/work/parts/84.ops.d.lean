theorem rd_r.p {L : List Nat} {M M' : sg_M} {x ta b kd : Nat} {tx : List Nat} {s : RS} (h : rd_r M x ta b kd tx s) (hf : sf (pk L) M M') (hL : ∀ z ∈ L, ¬ (z = 71 ∨ z = 72 ∨ z = 74 ∨ z = 75 ∨ z = 76)) : rd_r M' x ta b kd tx s :=
  ⟨hf.p h.1 (fun z => hL _ z (by simp)), h.2.1.p hf (fun z => hL _ z (by simp)) (fun z => hL _ z (by simp)), h.2.2.1.p hf (fun z => hL _ z (by simp)) (fun z => hL _ z (by simp)), h.2.2.2⟩

theorem k_next_0 (tx : List Nat) : k_next tx rs0 = tx.getD 0 0 := by
  unfold k_next
  split
  · rename_i h
    have h0 : tx.length ≤ 0 := h
    have h1 : tx = [] := List.eq_nil_of_length_eq_zero (by omega)
    rw [h1]
    rfl
  · rfl
theorem rd_r.nw {M M' : sg_M} {x ta b kd q : Nat} {tx : List Nat} {s : RS} {y : Nat × sg_E} (h : rd_r M x ta b kd tx s) (hw : sw M q y M') (hq : M q = none) : rd_r M' x ta b kd tx s := h.p (sf_nw hw hq) (by simp)
theorem rd_r.st {M M' : sg_M} {x ta b kd a v : Nat} {tx : List Nat} {s : RS} {e e' : sg_E} (h : rd_r M x ta b kd tx s) (hw : sw M a (v, e') M') (hb : M a = some (v, e)) (hv : ¬ (v = 71 ∨ v = 72 ∨ v = 74 ∨ v = 75 ∨ v = 76)) : rd_r M' x ta b kd tx s := h.p (sf_st hw hb) (fun z hz => by rw [List.mem_singleton.mp hz]; exact hv)

set_option maxHeartbeats 400000 in
set_option maxRecDepth 100000 in
theorem c_keep_ {l : Launch} {G : sg_G} {d : Nat} {M : sg_M} {kr : Option Value → sg_M → Prop} {kx : String → sg_M → Prop} (htr : l.stackTraces = false) {ca pb sl so th cx nt : Nat} {N : Nat → Nat → Nat} {v : Int32}  (hJ : cl_r G M ca pb sl so th cx nt N) (hW : WN N) (hEv : ev G M) (hk : ∀ M', cl_r G M' ca pb sl so th cx nt (md_keep N v).2 → sf cf M M' → (md_keep N v).2 0 0 = 0 → kr (some (.int (nI (md_keep N v).1))) M') (hx1 : ∀ M', cl_r G M' ca pb sl so th cx nt (md_keep N v).2 → sf cf M M' → (md_keep N v).2 0 0 = 1 → kx "java/util/NoSuchElementException" M') : sg_Met l G yX6_keep cX6_keep 3 (some .int) (d + 10) 14 127 [.ref ca, .int v] M kr kx := by
  refine sg_enter [some (.ref ca), some (.int v), none] (by decide) htr (Nat.le_of_ble_eq_true rfl) rfl ?_
  intro X hC hR
  have hC : sg_C X l G cX6_keep RX6 3 (d + 10) := hC
  obtain ⟨hX, hPd, hCsl, hCso, hCth0, hCcx, hCnt⟩ := id hJ
  have hCth : ct G M th N := ⟨hCth0, hW⟩
  obtain ⟨gs, hSl, hGs⟩ := id hCsl
  have hGs : gpm M gs N := hGs
  have hlen : (padl N).length ≤ 16 := by rw [padl_len]; exact hW 1 0
  have hf : sf cf M M := sf.rf
  refine sg_iload_n (pc := 0) (x := v) hC dX6_keep_0 rfl ?_
  refine sg_if_lt (pc := 1) (x := v) 10 hC dX6_keep_1 (by decide) (fun h1 => ?_) (fun h1 => ?_)
  · exact sg_throw (pc := 10) (st := []) hC hR (by decide) tw_326 tw_82 th_NSE_59_g th_NSE_59_b th_NSE_57_59_o dX6_keep_10 dX6_keep_13 dX6_keep_14 dX6_keep_17 (by decide) (by first | omega | decide) (by first | omega | decide) (by rw [show md_keep N v = (0, (md_set (md_set N 0 0 0) 0 0 1)) from by unfold md_keep; rw [if_neg (ts9 (in_f (by first | (left; assumption) | (right; omega)) (by decide)))] <;> rfl] at hx1; exact hx1 M (hJ.cg hW (ag.set0.tr ag.set0)) cf_rf (by simp [md_set, va_up]))
  · obtain ⟨hs2, hs3⟩ := md_nat h1
    rw [hs2]
    show sg_W X M 14 127 4 [some (.ref ca), some (.int (nI v.toNatClampNeg)), none] []
    refine sg_iload_n (pc := 4) (x := nI v.toNatClampNeg) hC dX6_keep_4 rfl ?_
    refine sg_bipush (pc := 5) (nI 8) hC dX6_keep_5 (by decide) ?_
    refine sg_icmpN_lt (pc := 7) (a := v.toNatClampNeg) (b := 8) 18 hC dX6_keep_7 (by decide) (by first | omega | decide) (by first | omega | decide) (fun h4 => ?_) (fun h4 => ?_)
    · refine sg_new (pc := 18) (ci := 7) (74) [.null, .int (nI 0), .int (nI 0), .null, .int (nI 0), .int (nI 0), .int (nI 0), .int (nI 0)] hC rfl inw_X4 tyX4 tyX4_ok tw_390 tw_391 tw_83 (by intro j hj; have h9 : j = 0 ∨ j = 1 ∨ j = 2 ∨ j = 3 ∨ j = 4 ∨ j = 5 ∨ j = 6 ∨ j = 7 := (by omega); rcases h9 with rfl | rfl | rfl | rfl | rfl | rfl | rfl | rfl <;> rfl) dX6_keep_18 (by first | omega | decide) (by first | omega | decide) (by first | omega | decide) (fun q5 hq6 => ?_)
      refine sg_nm (fun M7 hw8 => ?_)
      have ne9 : ca ≠ q5 := sg_fresh hX hq6
      have hX : M7 ca = some (1, .inr (9, [.ref pb, .ref sl, .ref so, .ref th, .ref cx, .ref nt])) := hw8.n hX ne9
      have ne10 : sl ≠ q5 := sg_fresh hSl hq6
      have hSl : M7 sl = some (4, .inl (.object RX3, 8, .inr (.inr (.inr (.inr gs))))) := hw8.n hSl ne10
      have hPd : sb_r 2 3 M7 pb (padl N) := hPd.nw hw8 hq6
      have hGs : gpm M7 gs N := hGs.nw hw8 hq6
      have hCso : cl_src G M7 so N := hCso.nw hw8 hq6
      have hCth : ct G M7 th N := hCth.nw hw8 hq6
      have hCcx : cl_ctx M7 cx N := hCcx.nw hw8 hq6
      have hCnt : cl_note G M7 nt N := hCnt.nw hw8 hq6
      have hEv : ev G M7 := hEv.nw hw8 hq6
      have hn11 : M q5 = none := hf.fr hq6
      have hf : sf cf M M7 := hf.nw hw8 hn11
      have hF12 : M7 q5 = some (74, .inr (7, [.null, .int (nI 0), .int (nI 0), .null, .int (nI 0), .int (nI 0), .int (nI 0), .int (nI 0)])) := hw8.1
      show sg_W X M7 13 119 21 [some (.ref ca), some (.int (nI v.toNatClampNeg)), none] [.ref q5]
      refine sg_dup (pc := 21) hC dX6_keep_21 rfl ?_
      refine sg_aload_n (pc := 22) (v := .ref ca) hC dX6_keep_22 rfl rfl ?_
      refine sg_get (pc := 23) (a := ca) (v := .ref pb) 0 hC rfl inw_X6 (by decide) tw_193 dX6_keep_23 hX rfl ?_
      obtain ⟨_, _, _, hx13, -⟩ := id hPd
      refine sg_callV (pc := 26) (As := []) (rest := [.ref q5, .ref q5]) (mc := 2) (ms := (4 + (padl N).length)) hC tw_392 tw_393 tw_394 tw_64 tw_395 yd_J4_toString_0e30d (by decide) (ci := 1) rfl dX6_keep_26 hx13 rfl (Nat.le_of_ble_eq_true rfl) (by first | omega | decide) (by first | omega | decide) ?_
      refine c_toStr htr hPd (by omega) (by omega) (by omega) (by omega) (by omega) (by omega) (by omega) (fun q14 M15 hs16 hf17 => ?_)
      have hX : M15 ca = some (1, .inr (9, [.ref pb, .ref sl, .ref so, .ref th, .ref cx, .ref nt])) := hf17.p hX (by first | decide | (simp; done) | (simp; omega))
      have hSl : M15 sl = some (4, .inl (.object RX3, 8, .inr (.inr (.inr (.inr gs))))) := hf17.p hSl (by first | decide | (simp; done) | (simp; omega))
      have hF12 : M15 q5 = some (74, .inr (7, [.null, .int (nI 0), .int (nI 0), .null, .int (nI 0), .int (nI 0), .int (nI 0), .int (nI 0)])) := hf17.p hF12 (by first | decide | (simp; done) | (simp; omega))
      have hPd : sb_r 2 3 M15 pb (padl N) := hPd.p hf17 (by first | decide | (simp; done) | (simp; omega)) (by first | decide | (simp; done) | (simp; omega))
      have hGs : gpm M15 gs N := hGs.p hf17 (by first | decide | (simp; done) | (simp; omega))
      have hCso : cl_src G M15 so N := hCso.p hf17 (by first | decide | (simp; done) | (simp; omega))
      have hCth : ct G M15 th N := hCth.p hf17 (by first | decide | (simp; done) | (simp; omega))
      have hCcx : cl_ctx M15 cx N := hCcx.p hf17 (by first | decide | (simp; done) | (simp; omega))
      have hCnt : cl_note G M15 nt N := hCnt.p hf17 (by first | decide | (simp; done) | (simp; omega))
      have hEv : ev G M15 := hEv.p hf17 (by first | decide | (simp; done) | (simp; omega))
      have hf : sf cf M M15 := hf.tr hf17 (fun a t h => by first | (simp [pk] at h; done) | (simp [pk] at h; simp only [cf, cm]; omega))
      show sg_W X M15 11 (119 - (4 + (padl N).length)) 29 [some (.ref ca), some (.int (nI v.toNatClampNeg)), none] [.ref q14, .ref q5, .ref q5]
      refine sg_callI (pc := 29) (b := q5) (As := [.ref q14]) (rest := [.ref q5]) (mc := 2) (ms := 20) hC tw_544 tw_545 tw_83 tw_546 rfl yd_X4_init (by decide) dX6_keep_29 rfl (Nat.le_of_ble_eq_true rfl) (by first | omega | decide) (by first | omega | decide) ?_
      refine c_rdInit htr hF12 hs16 hlen (fun b18 M19 hrd20 hfr21 => ?_)
      have hX : M19 ca = some (1, .inr (9, [.ref pb, .ref sl, .ref so, .ref th, .ref cx, .ref nt])) := hfr21.p hX (by first | decide | (simp; done) | (simp; omega))
      have hSl : M19 sl = some (4, .inl (.object RX3, 8, .inr (.inr (.inr (.inr gs))))) := hfr21.p hSl (by first | decide | (simp; done) | (simp; omega))
      have hPd : sb_r 2 3 M19 pb (padl N) := hPd.p hfr21 (by first | decide | (simp; done) | (simp; omega)) (by first | decide | (simp; done) | (simp; omega))
      have hGs : gpm M19 gs N := hGs.p hfr21 (by first | decide | (simp; done) | (simp; omega))
      have hCso : cl_src G M19 so N := hCso.p hfr21 (by first | decide | (simp; done) | (simp; omega))
      have hCth : ct G M19 th N := hCth.p hfr21 (by first | decide | (simp; done) | (simp; omega))
      have hCcx : cl_ctx M19 cx N := hCcx.p hfr21 (by first | decide | (simp; done) | (simp; omega))
      have hCnt : cl_note G M19 nt N := hCnt.p hfr21 (by first | decide | (simp; done) | (simp; omega))
      have hEv : ev G M19 := hEv.p hfr21 (by first | decide | (simp; done) | (simp; omega))
      have hs16 : st_r 71 72 M19 q14 (padl N) := hs16.p hfr21 (by first | decide | (simp; done) | (simp; omega)) (by first | decide | (simp; done) | (simp; omega))
      have hf : sf cf M M19 := hf.tr hfr21 (fun a t h => by first | (simp [pk] at h; done) | (simp [pk] at h; simp only [cf, cm]; omega))
      show sg_W X M19 9 ((119 - (4 + (padl N).length)) - 20) 32 [some (.ref ca), some (.int (nI v.toNatClampNeg)), none] [.ref q5]
      refine sg_astore_n (pc := 32) (v := .ref q5) hC dX6_keep_32 (by decide) rfl ?_
      show sg_W X M19 9 ((119 - (4 + (padl N).length)) - 20) 33 [some (.ref ca), some (.int (nI v.toNatClampNeg)), some (.ref q5)] []
      refine sg_aload_n (pc := 33) (v := .ref ca) hC dX6_keep_33 rfl rfl ?_
      refine sg_get (pc := 34) (a := ca) (v := .ref pb) 0 hC rfl inw_X6 (by decide) tw_193 dX6_keep_34 hX rfl ?_
      refine sg_iconst (pc := 37) (nI 0) hC dX6_keep_37 (by decide) ?_
      obtain ⟨_, _, _, hx22, -⟩ := id hPd
      refine sg_callV (pc := 38) (As := [.int (nI 0)]) (rest := []) (mc := 0) (ms := 0) hC tw_575 tw_576 tw_577 tw_64 tw_578 yd_J4_setLength_d00df (by decide) (ci := 1) rfl dX6_keep_38 hx22 rfl (Nat.le_of_ble_eq_true rfl) (by first | omega | decide) (by first | omega | decide) ?_
      refine c_sbSet0 htr hPd (by first | omega | decide) (by first | omega | decide) (by first | omega | decide) (fun M23 hs24 hf25 => ?_)
      have hX : M23 ca = some (1, .inr (9, [.ref pb, .ref sl, .ref so, .ref th, .ref cx, .ref nt])) := hf25.p hX (by first | decide | (simp; done) | (simp; omega))
      have hSl : M23 sl = some (4, .inl (.object RX3, 8, .inr (.inr (.inr (.inr gs))))) := hf25.p hSl (by first | decide | (simp; done) | (simp; omega))
      have hGs : gpm M23 gs N := hGs.p hf25 (by first | decide | (simp; done) | (simp; omega))
      have hCso : cl_src G M23 so N := hCso.p hf25 (by first | decide | (simp; done) | (simp; omega))
      have hCth : ct G M23 th N := hCth.p hf25 (by first | decide | (simp; done) | (simp; omega))
      have hCcx : cl_ctx M23 cx N := hCcx.p hf25 (by first | decide | (simp; done) | (simp; omega))
      have hCnt : cl_note G M23 nt N := hCnt.p hf25 (by first | decide | (simp; done) | (simp; omega))
      have hEv : ev G M23 := hEv.p hf25 (by first | decide | (simp; done) | (simp; omega))
      have hs16 : st_r 71 72 M23 q14 (padl N) := hs16.p hf25 (by first | decide | (simp; done) | (simp; omega)) (by first | decide | (simp; done) | (simp; omega))
      have hrd20 : rd_r M23 q5 q14 b18 0 (padl N) rs0 := hrd20.p hf25 (by first | decide | (simp; done) | (simp; omega))
      have hf : sf cf M M23 := hf.tr hf25 (fun a t h => by first | (simp [pk] at h; done) | (simp [pk] at h; simp only [cf, cm]; omega))
      show sg_W X M23 9 (((119 - (4 + (padl N).length)) - 20) - 0) 41 [some (.ref ca), some (.int (nI v.toNatClampNeg)), some (.ref q5)] []
      refine sg_aload_n (pc := 41) (v := .ref q5) hC dX6_keep_41 rfl rfl ?_
      refine sg_callV (pc := 42) (As := []) (rest := []) (mc := 0) (ms := 0) hC tw_598 tw_599 tw_600 tw_83 tw_601 yd_X4_succeeds (by decide) (ci := 7) rfl dX6_keep_42 hrd20.1 rfl (Nat.le_of_ble_eq_true rfl) (by first | omega | decide) (by first | omega | decide) ?_
      refine c_succ (M0 := M23) htr ⟨hrd20, sf.rf, hEv.1⟩ rfl rfl (fun M26 hI27 => ?_)
      have hX : M26 ca = some (1, .inr (9, [.ref pb, .ref sl, .ref so, .ref th, .ref cx, .ref nt])) := hI27.2.1.p hX (by first | decide | (simp; done) | (simp; omega))
      have hSl : M26 sl = some (4, .inl (.object RX3, 8, .inr (.inr (.inr (.inr gs))))) := hI27.2.1.p hSl (by first | decide | (simp; done) | (simp; omega))
      have hGs : gpm M26 gs N := hGs.p hI27.2.1 (by first | decide | (simp; done) | (simp; omega))
      have hCso : cl_src G M26 so N := hCso.p hI27.2.1 (by first | decide | (simp; done) | (simp; omega))
      have hCth : ct G M26 th N := hCth.p hI27.2.1 (by first | decide | (simp; done) | (simp; omega))
      have hCcx : cl_ctx M26 cx N := hCcx.p hI27.2.1 (by first | decide | (simp; done) | (simp; omega))
      have hCnt : cl_note G M26 nt N := hCnt.p hI27.2.1 (by first | decide | (simp; done) | (simp; omega))
      have hEv : ev G M26 := hEv.p hI27.2.1 (by first | decide | (simp; done) | (simp; omega))
      have hs16 : st_r 71 72 M26 q14 (padl N) := hs16.p hI27.2.1 (by first | decide | (simp; done) | (simp; omega)) (by first | decide | (simp; done) | (simp; omega))
      have hs24 : sb_r 2 3 M26 pb ([]) := hs24.p hI27.2.1 (by first | decide | (simp; done) | (simp; omega)) (by first | decide | (simp; done) | (simp; omega))
      have hf : sf cf M M26 := hf.tr hI27.2.1 (fun a t h => by first | (simp [pk] at h; done) | (simp [pk] at h; simp only [cf, cm]; omega))
      have hrd28 := hI27.1
      rw [k_next_0] at hrd28
      show sg_W X M26 9 ((((119 - (4 + (padl N).length)) - 20) - 0) - 0) 45 [some (.ref ca), some (.int (nI v.toNatClampNeg)), some (.ref q5)] [.int (md_b ((k_succ (padl N) rs0).1))]
      refine sg_ifB_ne (pc := 45) (b := (k_succ (padl N) rs0).1) 55 hC dX6_keep_45 (by decide) (fun h29 => ?_) (fun h29 => ?_)
      · refine sg_aload_n (pc := 55) (v := .ref ca) hC dX6_keep_55 rfl rfl ?_
        refine sg_get (pc := 56) (a := ca) (v := .ref sl) 1 hC rfl inw_X6 (by decide) tw_194 dX6_keep_56 hX rfl ?_
        refine sg_iload_n (pc := 59) (x := nI v.toNatClampNeg) hC dX6_keep_59 rfl ?_
        refine sg_aload_n (pc := 60) (v := .ref q5) hC dX6_keep_60 rfl rfl ?_
        refine sg_callV (pc := 61) (As := []) (rest := [.int (nI v.toNatClampNeg), .ref sl]) (mc := 7) (ms := 59) hC tw_749 tw_750 tw_751 tw_83 tw_752 yd_X4_result (by decide) (ci := 7) rfl dX6_keep_61 hrd28.1 rfl (Nat.le_of_ble_eq_true rfl) (by first | omega | decide) (by first | omega | decide) ?_
        have hsk := (succ_ok hlen).1 h29
        refine c_rdResult htr hrd28 hEv.1 hEv.2.1 hsk.2 (fun q30 M31 hpm32 hfr33 => ?_)
        have hX : M31 ca = some (1, .inr (9, [.ref pb, .ref sl, .ref so, .ref th, .ref cx, .ref nt])) := hfr33.p hX (by first | decide | (simp; done) | (simp; omega))
        have hSl : M31 sl = some (4, .inl (.object RX3, 8, .inr (.inr (.inr (.inr gs))))) := hfr33.p hSl (by first | decide | (simp; done) | (simp; omega))
        have hGs : gpm M31 gs N := hGs.p hfr33 (by first | decide | (simp; done) | (simp; omega))
        have hCso : cl_src G M31 so N := hCso.p hfr33 (by first | decide | (simp; done) | (simp; omega))
        have hCth : ct G M31 th N := hCth.p hfr33 (by first | decide | (simp; done) | (simp; omega))
        have hCcx : cl_ctx M31 cx N := hCcx.p hfr33 (by first | decide | (simp; done) | (simp; omega))
        have hCnt : cl_note G M31 nt N := hCnt.p hfr33 (by first | decide | (simp; done) | (simp; omega))
        have hEv : ev G M31 := hEv.p hfr33 (by first | decide | (simp; done) | (simp; omega))
        have hs16 : st_r 71 72 M31 q14 (padl N) := hs16.p hfr33 (by first | decide | (simp; done) | (simp; omega)) (by first | decide | (simp; done) | (simp; omega))
        have hs24 : sb_r 2 3 M31 pb ([]) := hs24.p hfr33 (by first | decide | (simp; done) | (simp; omega)) (by first | decide | (simp; done) | (simp; omega))
        have hf : sf cf M M31 := hf.tr hfr33 (fun a t h => by first | (simp [pk] at h; done) | (simp [pk] at h; simp only [cf, cm]; omega))
        show sg_W X M31 2 (((((119 - (4 + (padl N).length)) - 20) - 0) - 0) - 59) 64 [some (.ref ca), some (.int (nI v.toNatClampNeg)), some (.ref q5)] [.ref q30, .int (nI v.toNatClampNeg), .ref sl]
        obtain ⟨t34, l35, hc36, -, -, -⟩ := id hpm32
        refine sg_aast3 (pc := 64) (i := nI v.toNatClampNeg) hC dX6_keep_64 hSl (by first | omega | decide) hc36 (by first | omega | decide)  (vp_in_nI (by first | omega | decide) (by first | omega | decide)) ?_
        rw [nI_clamp (by first | omega | decide)]
        refine sg_nm (fun M37 hw38 => ?_)
        have hX : M37 ca = some (1, .inr (9, [.ref pb, .ref sl, .ref so, .ref th, .ref cx, .ref nt])) := hw38.n hX (sg_net hX hSl (by first | omega | decide))
        have hc36 : M37 q30 = some (70, .inr (6, [.int (nI (dk ((rrun (padl N) 17 r0 0 0).2))), .ref t34, .int (nI (dp ((rrun (padl N) 17 r0 0 0).2))), .ref l35, .int (nI (dw ((rrun (padl N) 17 r0 0 0).2)))])) := hw38.n hc36 (sg_net hc36 hSl (by first | omega | decide))
        have hGs : gpm M37 gs N := hGs.st hw38 hSl (by first | omega | decide)
        have hCso : cl_src G M37 so N := hCso.st hw38 hSl (by first | omega | decide)
        have hCth : ct G M37 th N := hCth.st hw38 hSl (by first | omega | decide)
        have hCcx : cl_ctx M37 cx N := hCcx.st hw38 hSl (by first | omega | decide)
        have hCnt : cl_note G M37 nt N := hCnt.st hw38 hSl (by first | omega | decide)
        have hEv : ev G M37 := hEv.st hw38 hSl (by first | omega | decide)
        have hs16 : st_r 71 72 M37 q14 (padl N) := hs16.st hw38 hSl (by first | omega | decide) (by first | omega | decide)
        have hs24 : sb_r 2 3 M37 pb ([]) := hs24.st hw38 hSl (by first | omega | decide) (by first | omega | decide)
        have hpm32 : pm_r M37 q30 ((rrun (padl N) 17 r0 0 0).2) := hpm32.st hw38 hSl (by first | omega | decide) (by first | omega | decide) (by first | omega | decide)
        have hf : sf cf M M37 := hf.st hw38 hSl (by first | (simp [cf, cm]; done) | (simp only [cf, cm]; omega))
        have hSl : M37 sl = some (4, .inl (.object RX3, 8, .inr (.inr (.inr (.inr (va_up gs v.toNatClampNeg (some q30))))))) := hw38.1
        refine sg_iconst (pc := 65) (nI 0) hC dX6_keep_65 (by decide) ?_
        obtain ⟨m1, m2, m3⟩ := md_read_r (tx := padl N) (p := 84) (N := (md_set N 0 0 0)) (show N 1 0 = _ by rw [padl_len]) (fun j hj => by rw [padl_len] at hj; exact (padl_get hj).symm)
        have m0 := hsk.1
        rw [← m1] at m0
        have e9 : md_keep N v = (0, (md_copy (md_set (md_read (md_set N 0 0 0) 84).2 1 0 0) 84 v.toNatClampNeg)) := by unfold md_keep; rw [if_pos (in_t (by assumption) (by omega) (by decide)), m0]
        have hqi : rq (md_copy (md_set (md_read (md_set N 0 0 0) 84).2 1 0 0) 84 v.toNatClampNeg) v.toNatClampNeg = (rrun (padl N) 17 r0 0 0).2 := by rw [rq_copy, rq_sne (by omega), m2]
        have hqn : ∀ p, p < 84 → p ≠ v.toNatClampNeg → rq (md_copy (md_set (md_read (md_set N 0 0 0) 84).2 1 0 0) 84 v.toNatClampNeg) p = rq N p := fun p hp h9 => by rw [rq_copy_ne h9, rq_sne (by omega), m3.rqe (by omega)]; rfl
        have hq : ∀ p, 8 ≤ p → p < 84 → rq (md_copy (md_set (md_read (md_set N 0 0 0) 84).2 1 0 0) 84 v.toNatClampNeg) p = rq N p := fun p h8 hp => hqn p hp (by omega)
        have ho : ∀ i9 j9, ¬ (3 ≤ i9 ∧ i9 ≤ 9) → ¬ i9 = 0 → ¬ i9 = 1 → (md_copy (md_set (md_read (md_set N 0 0 0) 84).2 1 0 0) 84 v.toNatClampNeg) i9 j9 = N i9 j9 := fun i9 j9 a9 b9 c9 => by rw [mc.copy _ _ i9 j9 (by omega), mset_ne (by omega), m3 i9 j9 (by omega), mset_ne (by omega)]
        have hp0 : padl (md_copy (md_set (md_read (md_set N 0 0 0) 84).2 1 0 0) 84 v.toNatClampNeg) = [] := padl_0 (by rw [mc.copy _ _ 1 0 (by omega), mset_eq])
        have hCsl9 : cl_slot M37 sl (md_copy (md_set (md_read (md_set N 0 0 0) 84).2 1 0 0) 84 v.toNatClampNeg) := ⟨_, hSl, fun i9 hi9 => by
          by_cases he : i9 = v.toNatClampNeg
          · subst he
            have h3 : (md_copy (md_set (md_read (md_set N 0 0 0) 84).2 1 0 0) 84 v.toNatClampNeg) 3 v.toNatClampNeg = (rrun (padl N) 17 r0 0 0).2.1 := congrArg Prod.fst hqi
            have hw1 := hpm32.w.1
            refine ⟨fun e => ?_, fun _ => ⟨q30, va_up_self _ _ _, by rw [hqi]; exact hpm32⟩⟩
            rw [h3] at e
            omega
          · have h3 : (md_copy (md_set (md_read (md_set N 0 0 0) 84).2 1 0 0) 84 v.toNatClampNeg) 3 i9 = N 3 i9 := congrArg Prod.fst (hqn i9 (by omega) he)
            rw [h3, hqn i9 (by omega) he, va_up_ne _ _ he]
            exact hGs i9 hi9⟩
        rw [e9] at hk
        have hall : ∀ s9, N 12 s9 ≤ 6 := fun s9 => hW 12 s9
        have hall2 : ∀ s9, N 15 s9 ≤ 10 := fun s9 => hW 15 s9
        have hCth9 := (hCth).1.cg (N' := (md_copy (md_set (md_read (md_set N 0 0 0) 84).2 1 0 0) 84 v.toNatClampNeg)) (fun t ht => ⟨ho 13 t (by omega) (by omega) (by omega), ho 14 t (by omega) (by omega) (by omega), ho 15 t (by omega) (by omega) (by omega)⟩) (fun t k ht hk => by have := hall2 t; exact ⟨ho 16 _ (by omega) (by omega) (by omega), ho 17 _ (by omega) (by omega) (by omega), fun _ => ⟨ho 18 _ (by omega) (by omega) (by omega), hq _ (by omega) (by omega)⟩⟩)
        have hCso9 := hCso.cg (N' := (md_copy (md_set (md_read (md_set N 0 0 0) 84).2 1 0 0) 84 v.toNatClampNeg)) (fun s9 hs9 => ⟨ho 12 s9 (by omega) (by omega) (by omega), fun j hj => by have := hall s9; exact hq _ (by omega) (by omega)⟩)
        exact sg_ireturn (st := []) (v := nI 0) (pc := 66) hC hR dX6_keep_66 (hk _ ⟨hX, by rw [hp0]; exact hs24, hCsl9, hCso9, hCth9, hCcx.cg (fun j _ => ⟨ho 19 j (by omega) (by omega) (by omega), ho 20 j (by omega) (by omega) (by omega)⟩), hCnt.cg (ho 21 0 (by omega) (by omega) (by omega)) (fun j _ => ho 22 j (by omega) (by omega) (by omega))⟩ hf (by show (md_copy (md_set (md_read (md_set N 0 0 0) 84).2 1 0 0) 84 v.toNatClampNeg) 0 0 = 0; rw [mc.copy _ _ 0 0 (by omega), mset_ne (by omega), m3 0 0 (by omega), mset_eq]))
      · refine sg_iconst (pc := 48) (nI 1) hC dX6_keep_48 (by decide) ?_
        refine sg_aload_n (pc := 49) (v := .ref q5) hC dX6_keep_49 rfl rfl ?_
        refine sg_callV (pc := 50) (As := []) (rest := [.int (nI 1)]) (mc := 0) (ms := 0) hC tw_745 tw_746 tw_747 tw_83 tw_748 yd_X4_position (by decide) (ci := 7) rfl dX6_keep_50 hrd28.1 rfl (Nat.le_of_ble_eq_true rfl) (by first | omega | decide) (by first | omega | decide) ?_
        refine c_pos (M0 := M26) htr ⟨hrd28, sf.rf, hEv.1⟩ ?_
        show sg_W X M26 9 (((((119 - (4 + (padl N).length)) - 20) - 0) - 0) - 0) 53 [some (.ref ca), some (.int (nI v.toNatClampNeg)), some (.ref q5)] [.int (nI (k_pos (padl N) (k_succ (padl N) rs0).2)), .int (nI 1)]
        refine sg_iaddN (pc := 53) (a := 1) (b := k_pos (padl N) (k_succ (padl N) rs0).2) hC dX6_keep_53 ?_
        obtain ⟨m1, m2, m3⟩ := md_read_r (tx := padl N) (p := 84) (N := (md_set N 0 0 0)) (show N 1 0 = _ by rw [padl_len]) (fun j hj => by rw [padl_len] at hj; exact (padl_get hj).symm)
        have m0 := (succ_ok hlen).2 h29
        rw [← m1] at m0
        have e9 : md_keep N v = (1 + (k_succ (padl N) rs0).2.1, (md_set (md_read (md_set N 0 0 0) 84).2 1 0 0)) := by unfold md_keep; rw [if_pos (in_t (by assumption) (by omega) (by decide)), m0]
        have hq : ∀ p, p < 84 → rq (md_set (md_read (md_set N 0 0 0) 84).2 1 0 0) p = rq N p := fun p hp => by rw [rq_sne (by omega), m3.rqe (by omega)]; rfl
        have ho : ∀ i9 j9, ¬ (3 ≤ i9 ∧ i9 ≤ 9) → ¬ i9 = 0 → ¬ i9 = 1 → (md_set (md_read (md_set N 0 0 0) 84).2 1 0 0) i9 j9 = N i9 j9 := fun i9 j9 a9 b9 c9 => by rw [mset_ne (by omega), m3 i9 j9 (by omega), mset_ne (by omega)]
        have hp0 : padl (md_set (md_read (md_set N 0 0 0) 84).2 1 0 0) = [] := padl_0 mset_eq
        rw [e9] at hk
        have hall : ∀ s9, N 12 s9 ≤ 6 := fun s9 => hW 12 s9
        have hall2 : ∀ s9, N 15 s9 ≤ 10 := fun s9 => hW 15 s9
        have hCth9 := (hCth).1.cg (N' := (md_set (md_read (md_set N 0 0 0) 84).2 1 0 0)) (fun t ht => ⟨ho 13 t (by omega) (by omega) (by omega), ho 14 t (by omega) (by omega) (by omega), ho 15 t (by omega) (by omega) (by omega)⟩) (fun t k ht hk => by have := hall2 t; exact ⟨ho 16 _ (by omega) (by omega) (by omega), ho 17 _ (by omega) (by omega) (by omega), fun _ => ⟨ho 18 _ (by omega) (by omega) (by omega), hq _ (by omega)⟩⟩)
        have hCso9 := hCso.cg (N' := (md_set (md_read (md_set N 0 0 0) 84).2 1 0 0)) (fun s9 hs9 => ⟨ho 12 s9 (by omega) (by omega) (by omega), fun j hj => by have := hall s9; exact hq _ (by omega)⟩)
        exact sg_ireturn (st := []) (v := nI (1 + (k_pos (padl N) (k_succ (padl N) rs0).2))) (pc := 54) hC hR dX6_keep_54 (hk _ ⟨hX, by rw [hp0]; exact hs24, (show cl_slot M26 sl N from ⟨gs, hSl, hGs⟩).cg (fun i9 hi9 => hq i9 (by omega)), hCso9, hCth9, hCcx.cg (fun j _ => ⟨ho 19 j (by omega) (by omega) (by omega), ho 20 j (by omega) (by omega) (by omega)⟩), hCnt.cg (ho 21 0 (by omega) (by omega) (by omega)) (fun j _ => ho 22 j (by omega) (by omega) (by omega))⟩ hf (by show (md_set (md_read (md_set N 0 0 0) 84).2 1 0 0) 0 0 = 0; rw [mset_ne (by omega), m3 0 0 (by omega), mset_eq]))
    · exact sg_throw (pc := 10) (st := []) hC hR (by decide) tw_326 tw_82 th_NSE_59_g th_NSE_59_b th_NSE_57_59_o dX6_keep_10 dX6_keep_13 dX6_keep_14 dX6_keep_17 (by decide) (by first | omega | decide) (by first | omega | decide) (by rw [show md_keep N v = (0, (md_set (md_set N 0 0 0) 0 0 1)) from by unfold md_keep; rw [if_neg (ts9 (in_f (by first | (left; assumption) | (right; omega)) (by decide)))] <;> rfl] at hx1; exact hx1 M (hJ.cg hW (ag.set0.tr ag.set0)) cf_rf (by simp [md_set, va_up]))
