set_option maxHeartbeats 400000 in
set_option maxRecDepth 100000 in
theorem c_enter_ {l : Launch} {G : sg_G} {d : Nat} {M : sg_M} {kr : Option Value → sg_M → Prop} {kx : String → sg_M → Prop} (htr : l.stackTraces = false) {ca pb sl so th cx nt : Nat} {N : Nat → Nat → Nat} {u : Int32} {v : Int32}  (hJ : cl_r G M ca pb sl so th cx nt N) (hW : WN N) (hk : ∀ M', cl_r G M' ca pb sl so th cx nt (md_enter N u v).2 → sf cf M M' → (md_enter N u v).2 0 0 = 0 → kr (some (.int (nI (md_enter N u v).1))) M') (hx1 : ∀ M', cl_r G M' ca pb sl so th cx nt (md_enter N u v).2 → sf cf M M' → (md_enter N u v).2 0 0 = 1 → kx "java/util/NoSuchElementException" M') (hx2 : ∀ M', cl_r G M' ca pb sl so th cx nt (md_enter N u v).2 → sf cf M M' → (md_enter N u v).2 0 0 = 2 → kx "java/lang/IllegalStateException" M') : sg_Met l G yX6_enter cX6_enter 4 (some .int) (d + 9) 4 26 [.ref ca, .int u, .int v] M kr kx := by
  refine sg_enter [some (.ref ca), some (.int u), some (.int v), none] (by decide) htr (Nat.le_of_ble_eq_true rfl) rfl ?_
  intro X hC hR
  have hC : sg_C X l G cX6_enter RX6 4 (d + 9) := hC
  obtain ⟨hX, hPd, hCsl, hCso, hCth0, hCcx, hCnt⟩ := id hJ
  have hCth : ct G M th N := ⟨hCth0, hW⟩
  obtain ⟨go, hSo, hGo⟩ := id hCso
  obtain ⟨gt, hTh, hGt⟩ := id hCth0
  have h1510 : N 15 u.toNatClampNeg ≤ 10 := hW 15 _
  have hf : sf cf M M := sf.rf
  have hfe : sf (pk []) M M := sf.rf
  refine sg_aload_n (pc := 0) (v := .ref ca) hC dX6_enter_0 rfl rfl ?_
  refine sg_iload_n (pc := 1) (x := u) hC dX6_enter_1 rfl ?_
  refine sg_callV (pc := 2) (As := [.int u]) (rest := []) (mc := 1) (ms := 6) hC tw_988 tw_990 tw_24 tw_62 tw_991 yd_X6_stackOf (by decide) (ci := 9) rfl dX6_enter_2 hX rfl (Nat.le_of_ble_eq_true rfl) (by first | omega | decide) (by first | omega | decide) ?_
  refine c_stkOf htr hX hTh hGt ?_ (fun hxf6 => sg_prop hC hR (by rw [show md_enter N u v = (0, (md_set (md_set N 0 0 0) 0 0 1)) from by unfold md_enter; rw [if_neg (ts9 (show md_isThread (md_set N 0 0 0) u = false from hxf6))] <;> rfl] at hx1; exact hx1 M (hJ.cg hW (ag.set0.tr ag.set0)) cf_rf (by simp [md_set, va_up])))
  intro q1 h02 h83 h34 hq5
  obtain ⟨q7, hq8, hp9⟩ := (hGt _ h83).2 h34
  rw [hq5] at hq8
  cases hq8
  have hs10 : md_isThread (md_set N 0 0 0) u = true := isThr_t (N := (md_set N 0 0 0)) h02 h83 h34
  obtain ⟨la11, f12, hc13, hl14, hfp15⟩ := id hp9
  show sg_W X M 3 20 5 [some (.ref ca), some (.int u), some (.int v), none] [.ref q1]
  refine sg_get (pc := 5) (a := q1) (v := .ref la11) 0 hC rfl inw_X0 (by decide) tw_186 dX6_enter_5 hc13 rfl ?_
  refine sg_astore_n (pc := 8) (v := .ref la11) hC dX6_enter_8 (by decide) rfl ?_
  show sg_W X M 3 20 9 [some (.ref ca), some (.int u), some (.int v), some (.ref la11)] []
  refine sg_aload_n (pc := 9) (v := .ref ca) hC dX6_enter_9 rfl rfl ?_
  refine sg_iload_n (pc := 10) (x := v) hC dX6_enter_10 rfl ?_
  refine sg_callV (pc := 11) (As := [.int v]) (rest := []) (mc := 1) (ms := 6) hC tw_863 tw_865 tw_19 tw_62 tw_866 yd_X6_sourceOf (by decide) (ci := 9) rfl dX6_enter_11 hX rfl (Nat.le_of_ble_eq_true rfl) (by first | omega | decide) (by first | omega | decide) ?_
  refine c_srcOf htr hX hSo hGo ?_ (fun hxf20 => sg_prop hC hR (by rw [show md_enter N u v = (0, (md_set (md_set N 0 0 0) 0 0 1)) from by unfold md_enter; rw [if_pos hs10, if_neg (ts9 hxf20)] <;> rfl] at hx1; exact hx1 M (hJ.cg hW (ag.set0.tr ag.set0)) cf_rf (by simp [md_set, va_up])))
  intro q16 h017 h818 hq19
  obtain ⟨q21, hq22, hp23⟩ := hGo _ h818
  rw [hq19] at hq22
  cases hq22
  have hs24 : md_in v (nI 0) (nI 5) = true := in_t h017 (by omega) (by decide)
  obtain ⟨la25, f26, hc27, hl28, hfp29⟩ := id hp23
  show sg_W X M 2 14 14 [some (.ref ca), some (.int u), some (.int v), some (.ref la11)] [.ref q16]
  refine sg_pop (pc := 14) hC dX6_enter_14 rfl ?_
  refine sg_aload_n (pc := 15) (v := .ref la11) hC dX6_enter_15 rfl rfl ?_
  obtain ⟨_, _, _, _, _, hx30, -⟩ := id hl14
  refine sg_callV (pc := 16) (As := []) (rest := []) (mc := 0) (ms := 0) hC tw_867 tw_868 tw_869 tw_69 tw_870 yd_Jx4a65c_size_8abf5 (by decide) (ci := 2) rfl dX6_enter_16 hx30 rfl (Nat.le_of_ble_eq_true rfl) (by first | omega | decide) (by first | omega | decide) ?_
  refine c_alSize htr hl14 ?_
  show sg_W X M 2 14 19 [some (.ref ca), some (.int u), some (.int v), some (.ref la11)] [.int (nI (N 15 u.toNatClampNeg))]
  refine sg_bipush (pc := 19) (nI 10) hC dX6_enter_19 (by decide) ?_
  refine sg_icmpN_lt (pc := 21) (a := N 15 u.toNatClampNeg) (b := 10) 32 hC dX6_enter_21 (by decide) (by first | omega | decide) (by first | omega | decide) (fun h31 => ?_) (fun h31 => ?_)
  · refine sg_aload_n (pc := 32) (v := .ref la11) hC dX6_enter_32 rfl rfl ?_
    refine sg_new (pc := 33) (ci := 4) (200 + 10 * u.toNatClampNeg + N 15 u.toNatClampNeg) [.int (nI 0), .int (nI 0), .int (nI 0), .null] hC rfl inw_X1 tyX1 tyX1_ok tw_992 tw_993 tw_90 (by intro j hj; have h9 : j = 0 ∨ j = 1 ∨ j = 2 ∨ j = 3 := (by omega); rcases h9 with rfl | rfl | rfl | rfl <;> rfl) dX6_enter_33 (by first | omega | decide) (by first | omega | decide) (by first | omega | decide) (fun q32 hq33 => ?_)
    refine sg_nm (fun M34 hw35 => ?_)
    have ne36 : ca ≠ q32 := sg_fresh hX hq33
    have hX : M34 ca = some (1, .inr (9, [.ref pb, .ref sl, .ref so, .ref th, .ref cx, .ref nt])) := hw35.n hX ne36
    have ne37 : so ≠ q32 := sg_fresh hSo hq33
    have hSo : M34 so = some (5, .inl (.object RX5, 6, .inr (.inr (.inr (.inr go))))) := hw35.n hSo ne37
    have ne38 : th ≠ q32 := sg_fresh hTh hq33
    have hTh : M34 th = some (6, .inl (.object RX0, 4, .inr (.inr (.inr (.inr gt))))) := hw35.n hTh ne38
    have ne39 : q1 ≠ q32 := sg_fresh hc13 hq33
    have hc13 : M34 q1 = some (40 + u.toNatClampNeg, .inr (3, [.ref la11, .int (nI (N 14 u.toNatClampNeg))])) := hw35.n hc13 ne39
    have ne40 : q16 ≠ q32 := sg_fresh hc27 hq33
    have hc27 : M34 q16 = some (10 + v.toNatClampNeg, .inr (8, [.ref la25])) := hw35.n hc27 ne40
    have hPd : sb_r 2 3 M34 pb (padl N) := hPd.nw hw35 hq33
    have hCsl : cl_slot M34 sl N := hCsl.nw hw35 hq33
    have hCso : cl_src G M34 so N := hCso.nw hw35 hq33
    have hCcx : cl_ctx M34 cx N := hCcx.nw hw35 hq33
    have hCnt : cl_note G M34 nt N := hCnt.nw hw35 hq33
    have hl14 : al_r G (50 + u.toNatClampNeg) (60 + u.toNatClampNeg) M34 la11 (N 15 u.toNatClampNeg) f12 := hl14.nw hw35 hq33
    have hl28 : al_r G (20 + v.toNatClampNeg) (30 + v.toNatClampNeg) M34 la25 (N 12 v.toNatClampNeg) f26 := hl28.nw hw35 hq33
    have hn41 : M q32 = none := hf.fr hq33
    have hf : sf cf M M34 := hf.nw hw35 hn41
    have hn42 : M q32 = none := hfe.fr hq33
    have hfe : sf (pk []) M M34 := hfe.nw hw35 hn42
    have hF43 : M34 q32 = some (200 + 10 * u.toNatClampNeg + N 15 u.toNatClampNeg, .inr (4, [.int (nI 0), .int (nI 0), .int (nI 0), .null])) := hw35.1
    show sg_W X M34 1 10 36 [some (.ref ca), some (.int u), some (.int v), some (.ref la11)] [.ref q32, .ref la11]
    refine sg_dup (pc := 36) hC dX6_enter_36 rfl ?_
    refine sg_iload_n (pc := 37) (x := v) hC dX6_enter_37 rfl ?_
    rw [show v = nI v.toNatClampNeg from (md_nat (by assumption)).1]
    show sg_W X M34 1 10 38 [some (.ref ca), some (.int u), some (.int (nI v.toNatClampNeg)), some (.ref la11)] [.int (nI v.toNatClampNeg), .ref q32, .ref q32, .ref la11]
    refine sg_callI (pc := 38) (b := q32) (As := [.int (nI v.toNatClampNeg)]) (rest := [.ref q32, .ref la11]) (mc := 0) (ms := 0) hC tw_994 tw_995 tw_90 tw_996 rfl yd_X1_init (by decide) dX6_enter_38 rfl (Nat.le_of_ble_eq_true rfl) (by first | omega | decide) (by first | omega | decide) ?_
    refine c_frInit htr hF43 (by omega) (fun M44 hw45 => ?_)
    have hX : M44 ca = some (1, .inr (9, [.ref pb, .ref sl, .ref so, .ref th, .ref cx, .ref nt])) := hw45.n hX ne36
    have hSo : M44 so = some (5, .inl (.object RX5, 6, .inr (.inr (.inr (.inr go))))) := hw45.n hSo ne37
    have hTh : M44 th = some (6, .inl (.object RX0, 4, .inr (.inr (.inr (.inr gt))))) := hw45.n hTh ne38
    have hc13 : M44 q1 = some (40 + u.toNatClampNeg, .inr (3, [.ref la11, .int (nI (N 14 u.toNatClampNeg))])) := hw45.n hc13 ne39
    have hc27 : M44 q16 = some (10 + v.toNatClampNeg, .inr (8, [.ref la25])) := hw45.n hc27 ne40
    have hPd : sb_r 2 3 M44 pb (padl N) := hPd.st hw45 hF43 (by first | omega | decide) (by first | omega | decide)
    have hCsl : cl_slot M44 sl N := hCsl.st hw45 hF43 (by first | omega | decide)
    have hCso : cl_src G M44 so N := hCso.st hw45 hF43 (by first | omega | decide)
    have hCcx : cl_ctx M44 cx N := hCcx.st hw45 hF43 (by first | omega | decide)
    have hCnt : cl_note G M44 nt N := hCnt.st hw45 hF43 (by first | omega | decide)
    have hl14 : al_r G (50 + u.toNatClampNeg) (60 + u.toNatClampNeg) M44 la11 (N 15 u.toNatClampNeg) f12 := hl14.st hw45 hF43 (by first | omega | decide) (by first | omega | decide) (by first | omega | decide)
    have hl28 : al_r G (20 + v.toNatClampNeg) (30 + v.toNatClampNeg) M44 la25 (N 12 v.toNatClampNeg) f26 := hl28.st hw45 hF43 (by first | omega | decide) (by first | omega | decide) (by first | omega | decide)
    have hf : sf cf M M44 := hf.nw hw45 hn41
    have hfe : sf (pk []) M M44 := hfe.nw hw45 hn42
    have hF43 : M44 q32 = some (200 + 10 * u.toNatClampNeg + N 15 u.toNatClampNeg, .inr (4, [.int (nI v.toNatClampNeg), .int (nI 0), .int (nI 0), .null])) := hw45.1
    show sg_W X M44 1 10 41 [some (.ref ca), some (.int u), some (.int (nI v.toNatClampNeg)), some (.ref la11)] [.ref q32, .ref la11]
    have hfn : sf (pk []) M M44 := hfe
    obtain ⟨_, _, _, _, _, hx46, -⟩ := id hl14
    refine sg_callV (pc := 41) (As := [.ref q32]) (rest := []) (mc := 1) (ms := 10) hC tw_886 tw_887 tw_888 tw_69 tw_889 yd_Jx4a65c_add_9ea2d (by decide) (ci := 2) rfl dX6_enter_41 hx46 rfl (Nat.le_of_ble_eq_true rfl) (by first | omega | decide) (by first | omega | decide) ?_
    refine c_alAdd htr hl14 (by omega) (by omega) (by omega) (by omega) hF43 sg_El4 (by omega) (by omega) (by omega) (fun M47 hs48 hfa49 => ?_)
    have hX : M47 ca = some (1, .inr (9, [.ref pb, .ref sl, .ref so, .ref th, .ref cx, .ref nt])) := hfa49.p hX (by first | decide | (simp; done) | (simp; omega))
    have hSo : M47 so = some (5, .inl (.object RX5, 6, .inr (.inr (.inr (.inr go))))) := hfa49.p hSo (by first | decide | (simp; done) | (simp; omega))
    have hTh : M47 th = some (6, .inl (.object RX0, 4, .inr (.inr (.inr (.inr gt))))) := hfa49.p hTh (by first | decide | (simp; done) | (simp; omega))
    have hc13 : M47 q1 = some (40 + u.toNatClampNeg, .inr (3, [.ref la11, .int (nI (N 14 u.toNatClampNeg))])) := hfa49.p hc13 (by first | decide | (simp; done) | (simp; omega))
    have hc27 : M47 q16 = some (10 + v.toNatClampNeg, .inr (8, [.ref la25])) := hfa49.p hc27 (by first | decide | (simp; done) | (simp; omega))
    have hF43 : M47 q32 = some (200 + 10 * u.toNatClampNeg + N 15 u.toNatClampNeg, .inr (4, [.int (nI v.toNatClampNeg), .int (nI 0), .int (nI 0), .null])) := hfa49.p hF43 (by first | decide | (simp; done) | (simp; omega))
    have hPd : sb_r 2 3 M47 pb (padl N) := hPd.p hfa49 (by first | decide | (simp; done) | (simp; omega)) (by first | decide | (simp; done) | (simp; omega))
    have hCsl : cl_slot M47 sl N := hCsl.p hfa49 (by first | decide | (simp; done) | (simp; omega))
    have hCso : cl_src G M47 so N := hCso.p hfa49 (by first | decide | (simp; done) | (simp; omega))
    have hCcx : cl_ctx M47 cx N := hCcx.p hfa49 (by first | decide | (simp; done) | (simp; omega))
    have hCnt : cl_note G M47 nt N := hCnt.p hfa49 (by first | decide | (simp; done) | (simp; omega))
    have hl28 : al_r G (20 + v.toNatClampNeg) (30 + v.toNatClampNeg) M47 la25 (N 12 v.toNatClampNeg) f26 := hl28.p hfa49 (by first | decide | (simp; done) | (simp; omega)) (by first | decide | (simp; done) | (simp; omega)) (by first | decide | (simp; done) | (simp; omega))
    have hf : sf cf M M47 := hf.tr hfa49 (fun a t h => by first | (simp [pk] at h; done) | (simp [pk] at h; simp only [cf, cm]; omega))
    show sg_W X M47 0 0 44 [some (.ref ca), some (.int u), some (.int (nI v.toNatClampNeg)), some (.ref la11)] [.int (nI 1)]
    refine sg_pop (pc := 44) hC dX6_enter_44 rfl ?_
    refine sg_aload_n (pc := 45) (v := .ref la11) hC dX6_enter_45 rfl rfl ?_
    obtain ⟨_, _, _, _, _, hx50, -⟩ := id hs48
    refine sg_callV (pc := 46) (As := []) (rest := []) (mc := 0) (ms := 0) hC tw_867 tw_868 tw_869 tw_69 tw_870 yd_Jx4a65c_size_8abf5 (by decide) (ci := 2) rfl dX6_enter_46 hx50 rfl (Nat.le_of_ble_eq_true rfl) (by first | omega | decide) (by first | omega | decide) ?_
    refine c_alSize htr hs48 ?_
    show sg_W X M47 0 0 49 [some (.ref ca), some (.int u), some (.int (nI v.toNatClampNeg)), some (.ref la11)] [.int (nI (N 15 u.toNatClampNeg + 1))]
    have e9 : md_enter N u v = (N 15 u.toNatClampNeg + 1, (md_set (md_set (md_set (md_set N 0 0 0) 16 ((10 * u.toNatClampNeg) + (N 15 u.toNatClampNeg)) v.toNatClampNeg) 17 ((10 * u.toNatClampNeg) + (N 15 u.toNatClampNeg)) 0) 15 u.toNatClampNeg (N 15 u.toNatClampNeg + 1))) := by unfold md_enter; rw [if_pos hs10, if_pos hs24, if_neg (show ¬ N 15 u.toNatClampNeg = 10 by omega)]
    rw [e9] at hk
    have hq : ∀ p, rq (md_set (md_set (md_set (md_set N 0 0 0) 16 ((10 * u.toNatClampNeg) + (N 15 u.toNatClampNeg)) v.toNatClampNeg) 17 ((10 * u.toNatClampNeg) + (N 15 u.toNatClampNeg)) 0) 15 u.toNatClampNeg (N 15 u.toNatClampNeg + 1)) p = rq N p := fun p => by rw [rq_sne (by omega), rq_sne (by omega), rq_sne (by omega), rq_sne (by omega)]
    have ho : ∀ i9 j9, ¬ (i9 = 15 ∧ j9 = u.toNatClampNeg) ∧ ¬ (i9 = 16 ∧ j9 = 10 * u.toNatClampNeg + N 15 u.toNatClampNeg) ∧ ¬ (i9 = 17 ∧ j9 = 10 * u.toNatClampNeg + N 15 u.toNatClampNeg) → ¬ i9 = 0 → (md_set (md_set (md_set (md_set N 0 0 0) 16 ((10 * u.toNatClampNeg) + (N 15 u.toNatClampNeg)) v.toNatClampNeg) 17 ((10 * u.toNatClampNeg) + (N 15 u.toNatClampNeg)) 0) 15 u.toNatClampNeg (N 15 u.toNatClampNeg + 1)) i9 j9 = N i9 j9 := fun i9 j9 a9 c9 => by rw [mset_ne a9.1, mset_ne a9.2.2, mset_ne a9.2.1, mset_ne (by omega)]
    have h15 : (md_set (md_set (md_set (md_set N 0 0 0) 16 ((10 * u.toNatClampNeg) + (N 15 u.toNatClampNeg)) v.toNatClampNeg) 17 ((10 * u.toNatClampNeg) + (N 15 u.toNatClampNeg)) 0) 15 u.toNatClampNeg (N 15 u.toNatClampNeg + 1)) 15 u.toNatClampNeg = N 15 u.toNatClampNeg + 1 := mset_eq
    have h16 : (md_set (md_set (md_set (md_set N 0 0 0) 16 ((10 * u.toNatClampNeg) + (N 15 u.toNatClampNeg)) v.toNatClampNeg) 17 ((10 * u.toNatClampNeg) + (N 15 u.toNatClampNeg)) 0) 15 u.toNatClampNeg (N 15 u.toNatClampNeg + 1)) 16 (10 * u.toNatClampNeg + N 15 u.toNatClampNeg) = v.toNatClampNeg := by rw [mset_ne (by omega), mset_ne (by omega), mset_eq]
    have h17 : (md_set (md_set (md_set (md_set N 0 0 0) 16 ((10 * u.toNatClampNeg) + (N 15 u.toNatClampNeg)) v.toNatClampNeg) 17 ((10 * u.toNatClampNeg) + (N 15 u.toNatClampNeg)) 0) 15 u.toNatClampNeg (N 15 u.toNatClampNeg + 1)) 17 (10 * u.toNatClampNeg + N 15 u.toNatClampNeg) = 0 := by rw [mset_ne (by omega), mset_eq]
    have hall : ∀ s9, N 12 s9 ≤ 6 := fun s9 => hW 12 s9
    have hall2 : ∀ s9, N 15 s9 ≤ 10 := fun s9 => hW 15 s9
    have hcs : cs_r G M47 u.toNatClampNeg q1 (md_set (md_set (md_set (md_set N 0 0 0) 16 ((10 * u.toNatClampNeg) + (N 15 u.toNatClampNeg)) v.toNatClampNeg) 17 ((10 * u.toNatClampNeg) + (N 15 u.toNatClampNeg)) 0) 15 u.toNatClampNeg (N 15 u.toNatClampNeg + 1)) := ⟨la11, _, by rw [ho 14 _ (by omega) (by omega)]; exact hc13, by rw [h15]; exact hs48, fun k hk => by
      rw [h15] at hk
      by_cases hk2 : k = N 15 u.toNatClampNeg
      · subst hk2
        refine ⟨q32, va_up_self _ _ _, _, none, by rw [h16, h17]; exact hF43, fun e => absurd h17 e⟩
      · obtain ⟨p9, p8, p7⟩ := hfp15 k (by omega)
        exact ⟨p9, (va_up_ne _ _ hk2).trans p8, ((p7.p hfn (by simp)).p hfa49 (by simp; omega)).cg (ho 16 _ (by omega) (by omega)) (ho 17 _ (by omega) (by omega)) (fun _ => ⟨ho 18 _ (by omega) (by omega), hq _⟩)⟩⟩
    have hCth9 : cl_thr G M47 th (md_set (md_set (md_set (md_set N 0 0 0) 16 ((10 * u.toNatClampNeg) + (N 15 u.toNatClampNeg)) v.toNatClampNeg) 17 ((10 * u.toNatClampNeg) + (N 15 u.toNatClampNeg)) 0) 15 u.toNatClampNeg (N 15 u.toNatClampNeg + 1)) := ⟨gt, hTh, fun t9 ht9 => by
      rw [ho 13 t9 (by omega) (by omega)]
      refine ⟨(hGt t9 ht9).1, fun e => ?_⟩
      by_cases he : t9 = u.toNatClampNeg
      · rw [he]; exact ⟨q1, hq5, hcs⟩
      · obtain ⟨a9, q1, q2⟩ := (hGt t9 ht9).2 e
        have h9 := hall2 t9
        refine ⟨a9, q1, ((q2.p hfn h9 (by simp)).p hfa49 h9 (by simp; omega)).cg (ho 14 _ (by omega) (by omega)) (ho 15 _ (by omega) (by omega)) (fun k hk => ⟨ho 16 _ (by omega) (by omega), ho 17 _ (by omega) (by omega), fun _ => ⟨ho 18 _ (by omega) (by omega), hq _⟩⟩)⟩⟩
    exact sg_ireturn (st := []) (v := nI (N 15 u.toNatClampNeg + 1)) (pc := 49) hC hR dX6_enter_49 (hk _ ⟨hX, by rw [padl.cg (ho 1 0 (by omega) (by omega)) (fun j _ => ho 2 j (by omega) (by omega))]; exact hPd, hCsl.cg (fun i9 hi9 => hq i9), hCso.cg (fun s9 hs9 => ⟨ho 12 s9 (by omega) (by omega), fun j hj => by have := hall s9; exact hq _⟩), hCth9, hCcx.cg (fun j _ => ⟨ho 19 j (by omega) (by omega), ho 20 j (by omega) (by omega)⟩), hCnt.cg (ho 21 0 (by omega) (by omega)) (fun j _ => ho 22 j (by omega) (by omega))⟩ hf (by show (md_set (md_set (md_set (md_set N 0 0 0) 16 ((10 * u.toNatClampNeg) + (N 15 u.toNatClampNeg)) v.toNatClampNeg) 17 ((10 * u.toNatClampNeg) + (N 15 u.toNatClampNeg)) 0) 15 u.toNatClampNeg (N 15 u.toNatClampNeg + 1)) 0 0 = 0; rw [mset_ne (by omega), mset_ne (by omega), mset_ne (by omega), mset_eq]))
  · exact sg_throw (pc := 24) (st := []) hC hR (by decide) tw_871 tw_88 th_ISE_114_g th_ISE_114_b th_ISE_112_114_o dX6_enter_24 dX6_enter_27 dX6_enter_28 dX6_enter_31 (by decide) (by first | omega | decide) (by first | omega | decide) (by rw [show md_enter N u v = (0, (md_set (md_set N 0 0 0) 0 0 2)) from by unfold md_enter; rw [if_pos hs10, if_pos hs24, if_pos (show N 15 u.toNatClampNeg = 10 by omega)] <;> rfl] at hx2; exact hx2 M (hJ.cg hW (ag.set0.tr ag.set0)) cf_rf (by simp [md_set, va_up]))

theorem pge {n : Nat} (h : n < 2 ^ 31) : 0 ≤ nI n := by
  rw [Int32.le_iff_toInt_le, nI_toInt h]
  exact Int.natCast_nonneg n

set_option maxHeartbeats 400000 in
set_option maxRecDepth 100000 in
theorem c_leave_ {l : Launch} {G : sg_G} {d : Nat} {M : sg_M} {kr : Option Value → sg_M → Prop} {kx : String → sg_M → Prop} (htr : l.stackTraces = false) {ca pb sl so th cx nt : Nat} {N : Nat → Nat → Nat} {u : Int32}  (hJ : cl_r G M ca pb sl so th cx nt N) (hW : WN N) (hk : ∀ M', cl_r G M' ca pb sl so th cx nt (md_leave N u).2 → sf cf M M' → (md_leave N u).2 0 0 = 0 → kr (some (.int (nI (md_leave N u).1))) M') (hx1 : ∀ M', cl_r G M' ca pb sl so th cx nt (md_leave N u).2 → sf cf M M' → (md_leave N u).2 0 0 = 1 → kx "java/util/NoSuchElementException" M') (hx2 : ∀ M', cl_r G M' ca pb sl so th cx nt (md_leave N u).2 → sf cf M M' → (md_leave N u).2 0 0 = 2 → kx "java/lang/IllegalStateException" M') : sg_Met l G yX6_leave cX6_leave 5 (some .int) (d + 9) 2 12 [.ref ca, .int u] M kr kx := by
  refine sg_enter [some (.ref ca), some (.int u), none, none, none] (by decide) htr (Nat.le_of_ble_eq_true rfl) rfl ?_
  intro X hC hR
  have hC : sg_C X l G cX6_leave RX6 5 (d + 9) := hC
  obtain ⟨hX, hPd, hCsl, hCso, hCth0, hCcx, hCnt⟩ := id hJ
  have hCth : ct G M th N := ⟨hCth0, hW⟩
  obtain ⟨gt, hTh, hGt⟩ := id hCth0
  have h1510 : N 15 u.toNatClampNeg ≤ 10 := hW 15 _
  have hf : sf cf M M := sf.rf
  refine sg_aload_n (pc := 0) (v := .ref ca) hC dX6_leave_0 rfl rfl ?_
  refine sg_iload_n (pc := 1) (x := u) hC dX6_leave_1 rfl ?_
  refine sg_callV (pc := 2) (As := [.int u]) (rest := []) (mc := 1) (ms := 6) hC tw_988 tw_990 tw_24 tw_62 tw_991 yd_X6_stackOf (by decide) (ci := 9) rfl dX6_leave_2 hX rfl (Nat.le_of_ble_eq_true rfl) (by first | omega | decide) (by first | omega | decide) ?_
  refine c_stkOf htr hX hTh hGt ?_ (fun hxf6 => sg_prop hC hR (by rw [show md_leave N u = (0, (md_set (md_set N 0 0 0) 0 0 1)) from by unfold md_leave; rw [if_neg (ts9 (show md_isThread (md_set N 0 0 0) u = false from hxf6))] <;> rfl] at hx1; exact hx1 M (hJ.cg hW (ag.set0.tr ag.set0)) cf_rf (by simp [md_set, va_up])))
  intro q1 h02 h83 h34 hq5
  obtain ⟨q7, hq8, hp9⟩ := (hGt _ h83).2 h34
  rw [hq5] at hq8
  cases hq8
  have hs10 : md_isThread (md_set N 0 0 0) u = true := isThr_t (N := (md_set N 0 0 0)) h02 h83 h34
  obtain ⟨la11, f12, hc13, hl14, hfp15⟩ := id hp9
  show sg_W X M 1 6 5 [some (.ref ca), some (.int u), none, none, none] [.ref q1]
  refine sg_get (pc := 5) (a := q1) (v := .ref la11) 0 hC rfl inw_X0 (by decide) tw_186 dX6_leave_5 hc13 rfl ?_
  refine sg_astore_n (pc := 8) (v := .ref la11) hC dX6_leave_8 (by decide) rfl ?_
  show sg_W X M 1 6 9 [some (.ref ca), some (.int u), some (.ref la11), none, none] []
  refine sg_aload_n (pc := 9) (v := .ref la11) hC dX6_leave_9 rfl rfl ?_
  obtain ⟨_, _, _, _, _, hx16, -⟩ := id hl14
  refine sg_callV (pc := 10) (As := []) (rest := []) (mc := 0) (ms := 0) hC tw_867 tw_868 tw_869 tw_69 tw_870 yd_Jx4a65c_size_8abf5 (by decide) (ci := 2) rfl dX6_leave_10 hx16 rfl (Nat.le_of_ble_eq_true rfl) (by first | omega | decide) (by first | omega | decide) ?_
  refine c_alSize htr hl14 ?_
  show sg_W X M 1 6 13 [some (.ref ca), some (.int u), some (.ref la11), none, none] [.int (nI (N 15 u.toNatClampNeg))]
  refine sg_iconst (pc := 13) (nI 1) hC dX6_leave_13 (by decide) ?_
  refine sg_isub (pc := 14) (x := nI (N 15 u.toNatClampNeg)) (y := nI 1) hC dX6_leave_14 ?_
  show sg_W X M 1 6 15 [some (.ref ca), some (.int u), some (.ref la11), none, none] [.int (md_p (N 15 u.toNatClampNeg))]
  refine sg_istore_n (pc := 15) (x := md_p (N 15 u.toNatClampNeg)) hC dX6_leave_15 (by decide) ?_
  show sg_W X M 1 6 16 [some (.ref ca), some (.int u), some (.ref la11), some (.int (md_p (N 15 u.toNatClampNeg))), none] []
  refine sg_iload_n (pc := 16) (x := md_p (N 15 u.toNatClampNeg)) hC dX6_leave_16 rfl ?_
  refine sg_if_ge (pc := 17) (x := md_p (N 15 u.toNatClampNeg)) 28 hC dX6_leave_17 (by decide) (fun h17 => ?_) (fun h17 => ?_)
  · have hnz : ¬ N 15 u.toNatClampNeg = 0 := fun e9 => by rw [e9] at h17; exact absurd h17 (by decide)
    rw [md_p_pos hnz]
    show sg_W X M 1 6 28 [some (.ref ca), some (.int u), some (.ref la11), some (.int (nI (N 15 u.toNatClampNeg - 1))), none] []
    refine sg_aload_n (pc := 28) (v := .ref la11) hC dX6_leave_28 rfl rfl ?_
    refine sg_iload_n (pc := 29) (x := nI (N 15 u.toNatClampNeg - 1)) hC dX6_leave_29 rfl ?_
    obtain ⟨_, _, _, _, _, hx18, -⟩ := id hl14
    refine sg_callV (pc := 30) (As := [.int (nI (N 15 u.toNatClampNeg - 1))]) (rest := []) (mc := 0) (ms := 0) hC tw_945 tw_946 tw_947 tw_69 tw_948 yd_Jx4a65c_remove_915e3 (by decide) (ci := 2) rfl dX6_leave_30 hx18 rfl (Nat.le_of_ble_eq_true rfl) (by first | omega | decide) (by first | omega | decide) ?_
    obtain ⟨q22, hq23, hp24⟩ := hfp15 (N 15 u.toNatClampNeg - 1) (by omega)
    refine c_alRem htr hl14 (by omega) (by omega) (by omega) (fun j hj y hy => by obtain ⟨p9, p8, p7⟩ := hfp15 j hj; rw [hy] at p8; cases p8; obtain ⟨re9, li9, p6, -⟩ := p7; exact ⟨_, 4, _, p6, by omega, sg_El4, by omega, by omega⟩) (by omega) hq23 (fun M19 hs20 hfa21 => ?_)
    have hX : M19 ca = some (1, .inr (9, [.ref pb, .ref sl, .ref so, .ref th, .ref cx, .ref nt])) := hfa21.p hX (by first | decide | (simp; done) | (simp; omega))
    have hTh : M19 th = some (6, .inl (.object RX0, 4, .inr (.inr (.inr (.inr gt))))) := hfa21.p hTh (by first | decide | (simp; done) | (simp; omega))
    have hc13 : M19 q1 = some (40 + u.toNatClampNeg, .inr (3, [.ref la11, .int (nI (N 14 u.toNatClampNeg))])) := hfa21.p hc13 (by first | decide | (simp; done) | (simp; omega))
    have hPd : sb_r 2 3 M19 pb (padl N) := hPd.p hfa21 (by first | decide | (simp; done) | (simp; omega)) (by first | decide | (simp; done) | (simp; omega))
    have hCsl : cl_slot M19 sl N := hCsl.p hfa21 (by first | decide | (simp; done) | (simp; omega))
    have hCso : cl_src G M19 so N := hCso.p hfa21 (by first | decide | (simp; done) | (simp; omega))
    have hCcx : cl_ctx M19 cx N := hCcx.p hfa21 (by first | decide | (simp; done) | (simp; omega))
    have hCnt : cl_note G M19 nt N := hCnt.p hfa21 (by first | decide | (simp; done) | (simp; omega))
    have hf : sf cf M M19 := hf.tr hfa21 (fun a t h => by first | (simp [pk] at h; done) | (simp [pk] at h; simp only [cf, cm]; omega))
    have hp29 := hp24.p hfa21 (by simp; omega)
    obtain ⟨re25, li26, hc27, hg28⟩ := id hp29
    show sg_W X M19 1 6 33 [some (.ref ca), some (.int u), some (.ref la11), some (.int (nI (N 15 u.toNatClampNeg - 1))), none] [.ref q22]
    refine sg_castC (pc := 33) (ci := 4) hC rfl (by simp [sg_wk]) tw_992 dX6_leave_33 hc27 ?_
    refine sg_astore (pc := 36) (v := .ref q22) hC dX6_leave_36 (by decide) rfl ?_
    show sg_W X M19 1 6 38 [some (.ref ca), some (.int u), some (.ref la11), some (.int (nI (N 15 u.toNatClampNeg - 1))), some (.ref q22)] []
    refine sg_iload_n (pc := 38) (x := nI (N 15 u.toNatClampNeg - 1)) hC dX6_leave_38 rfl ?_
    refine sg_ifN_le (pc := 39) (a := N 15 u.toNatClampNeg - 1) 55 hC dX6_leave_39 (by decide) (by first | omega | decide) (fun h30 => ?_) (fun h30 => ?_)
    · refine sg_aload (pc := 55) (v := .ref q22) hC dX6_leave_55 rfl rfl ?_
      refine sg_get (pc := 57) (a := q22) (v := .int (nI (N 16 (10 * u.toNatClampNeg + (N 15 u.toNatClampNeg - 1))))) 0 hC rfl inw_X1 (by decide) tw_1000 dX6_leave_57 hc27 rfl ?_
      have e9 : md_leave N u = (N 16 ((10 * u.toNatClampNeg) + ((N 15 u.toNatClampNeg) - 1)), (md_set (md_set N 0 0 0) 15 u.toNatClampNeg ((N 15 u.toNatClampNeg) - 1))) := by unfold md_leave; rw [if_pos hs10, if_neg (show ¬ N 15 u.toNatClampNeg = 0 by omega), if_pos (show N 15 u.toNatClampNeg - 1 ≤ 0 by omega)]
      rw [e9] at hk
      have hq : ∀ p, rq (md_set (md_set N 0 0 0) 15 u.toNatClampNeg ((N 15 u.toNatClampNeg) - 1)) p = rq N p := fun p => by rw [rq_sne (by omega), rq_sne (by omega)]
      have ho : ∀ i9 j9, ¬ (i9 = 15 ∧ j9 = u.toNatClampNeg) → ¬ i9 = 0 → (md_set (md_set N 0 0 0) 15 u.toNatClampNeg ((N 15 u.toNatClampNeg) - 1)) i9 j9 = N i9 j9 := fun i9 j9 a9 c9 => by rw [mset_ne a9, mset_ne (by omega)]
      have h15 : (md_set (md_set N 0 0 0) 15 u.toNatClampNeg ((N 15 u.toNatClampNeg) - 1)) 15 u.toNatClampNeg = N 15 u.toNatClampNeg - 1 := mset_eq
      have hall : ∀ s9, N 12 s9 ≤ 6 := fun s9 => hW 12 s9
      have hall2 : ∀ s9, N 15 s9 ≤ 10 := fun s9 => hW 15 s9
      have hcs : cs_r G M19 u.toNatClampNeg q1 (md_set (md_set N 0 0 0) 15 u.toNatClampNeg ((N 15 u.toNatClampNeg) - 1)) := ⟨la11, _, by rw [ho 14 _ (by omega) (by omega)]; exact hc13, by rw [h15]; exact hs20, fun k hk => by
        rw [h15] at hk
        obtain ⟨p9, p8, p7⟩ := hfp15 k (by omega)
        have p6 := p7.p hfa21 (by simp; omega)
        exact ⟨p9, by rw [if_pos (by omega)]; exact p8, p6.cg (ho 16 _ (by omega) (by omega)) (ho 17 _ (by omega) (by omega)) (fun _ => ⟨ho 18 _ (by omega) (by omega), hq _⟩)⟩⟩
      have hCth9 : cl_thr G M19 th (md_set (md_set N 0 0 0) 15 u.toNatClampNeg ((N 15 u.toNatClampNeg) - 1)) := ⟨gt, hTh, fun t9 ht9 => by
        rw [ho 13 t9 (by omega) (by omega)]
        refine ⟨(hGt t9 ht9).1, fun e => ?_⟩
        by_cases he : t9 = u.toNatClampNeg
        · rw [he]; exact ⟨q1, hq5, hcs⟩
        · obtain ⟨a9, q1, q2⟩ := (hGt t9 ht9).2 e
          have h9 := hall2 t9
          refine ⟨a9, q1, (q2.p hfa21 h9 (by simp; omega)).cg (ho 14 _ (by omega) (by omega)) (ho 15 _ (by omega) (by omega)) (fun k hk => ⟨ho 16 _ (by omega) (by omega), ho 17 _ (by omega) (by omega), fun _ => ⟨ho 18 _ (by omega) (by omega), hq _⟩⟩)⟩⟩
      exact sg_ireturn (st := []) (v := nI (N 16 (10 * u.toNatClampNeg + (N 15 u.toNatClampNeg - 1)))) (pc := 60) hC hR dX6_leave_60 (hk _ ⟨hX, by rw [padl.cg (ho 1 0 (by omega) (by omega)) (fun j _ => ho 2 j (by omega) (by omega))]; exact hPd, hCsl.cg (fun i9 hi9 => hq i9), hCso.cg (fun s9 hs9 => ⟨ho 12 s9 (by omega) (by omega), fun j hj => by have := hall s9; exact hq _⟩), hCth9, hCcx.cg (fun j _ => ⟨ho 19 j (by omega) (by omega), ho 20 j (by omega) (by omega)⟩), hCnt.cg (ho 21 0 (by omega) (by omega)) (fun j _ => ho 22 j (by omega) (by omega))⟩ hf (by show (md_set (md_set N 0 0 0) 15 u.toNatClampNeg ((N 15 u.toNatClampNeg) - 1)) 0 0 = 0; rw [mset_ne (by omega), mset_eq]))
    · refine sg_aload_n (pc := 42) (v := .ref la11) hC dX6_leave_42 rfl rfl ?_
      refine sg_iload_n (pc := 43) (x := nI (N 15 u.toNatClampNeg - 1)) hC dX6_leave_43 rfl ?_
      refine sg_iconst (pc := 44) (nI 1) hC dX6_leave_44 (by decide) ?_
      refine sg_isubN (pc := 45) (a := N 15 u.toNatClampNeg - 1) (b := 1) hC dX6_leave_45 (by first | omega | decide) ?_
      obtain ⟨_, _, _, _, _, hx31, -⟩ := id hs20
      refine sg_callV (pc := 46) (As := [.int (nI ((N 15 u.toNatClampNeg - 1) - 1))]) (rest := []) (mc := 0) (ms := 0) hC tw_1021 tw_971 tw_972 tw_69 tw_973 yd_Jx4a65c_get_915e3 (by decide) (ci := 2) rfl dX6_leave_46 hx31 rfl (Nat.le_of_ble_eq_true rfl) (by first | omega | decide) (by first | omega | decide) ?_
      obtain ⟨q32, hq33, hp34⟩ := hfp15 ((N 15 u.toNatClampNeg - 1) - 1) (by omega)
      have hp40 := hp34.p hfa21 (by simp; omega)
      obtain ⟨re35, li36, hc37, hg38⟩ := id hp40
      have hq39 : (fun j => if j < N 15 u.toNatClampNeg - 1 then f12 j else f12 (j + 1)) ((N 15 u.toNatClampNeg - 1) - 1) = some q32 := by show (if (N 15 u.toNatClampNeg - 1) - 1 < N 15 u.toNatClampNeg - 1 then _ else _) = _; rw [if_pos (by omega)]; exact hq33
      refine c_alGet htr hs20 (by omega) hq39 ?_
      show sg_W X M19 1 6 49 [some (.ref ca), some (.int u), some (.ref la11), some (.int (nI (N 15 u.toNatClampNeg - 1))), some (.ref q22)] [.ref q32]
      refine sg_castC (pc := 49) (ci := 4) hC rfl (by simp [sg_wk]) tw_992 dX6_leave_49 hc37 ?_
      refine sg_callV (pc := 52) (As := []) (rest := []) (mc := 0) (ms := 0) hC tw_1022 tw_1023 tw_1024 tw_90 tw_1025 yd_X1_dropGuard (by decide) (ci := 4) rfl dX6_leave_52 hc37 rfl (Nat.le_of_ble_eq_true rfl) (by first | omega | decide) (by first | omega | decide) ?_
      have hc37d := hc37
      refine c_frDrop htr hc37 (by omega) (fun M41 hw42 => ?_)
      have hX : M41 ca = some (1, .inr (9, [.ref pb, .ref sl, .ref so, .ref th, .ref cx, .ref nt])) := hw42.n hX (sg_net hX hc37 (by first | omega | decide))
      have hTh : M41 th = some (6, .inl (.object RX0, 4, .inr (.inr (.inr (.inr gt))))) := hw42.n hTh (sg_net hTh hc37 (by first | omega | decide))
      have hc13 : M41 q1 = some (40 + u.toNatClampNeg, .inr (3, [.ref la11, .int (nI (N 14 u.toNatClampNeg))])) := hw42.n hc13 (sg_net hc13 hc37 (by first | omega | decide))
      have hc27 : M41 q22 = some (200 + 10 * u.toNatClampNeg + (N 15 u.toNatClampNeg - 1), .inr (4, [.int (nI (N 16 (10 * u.toNatClampNeg + (N 15 u.toNatClampNeg - 1)))), .int re25, .int (nI (N 17 (10 * u.toNatClampNeg + (N 15 u.toNatClampNeg - 1)))), va_rf li26])) := hw42.n hc27 (sg_net hc27 hc37 (by first | omega | decide))
      have hPd : sb_r 2 3 M41 pb (padl N) := hPd.st hw42 hc37 (by first | omega | decide) (by first | omega | decide)
      have hCsl : cl_slot M41 sl N := hCsl.st hw42 hc37 (by first | omega | decide)
      have hCso : cl_src G M41 so N := hCso.st hw42 hc37 (by first | omega | decide)
      have hCcx : cl_ctx M41 cx N := hCcx.st hw42 hc37 (by first | omega | decide)
      have hCnt : cl_note G M41 nt N := hCnt.st hw42 hc37 (by first | omega | decide)
      have hs20 : al_r G (50 + u.toNatClampNeg) (60 + u.toNatClampNeg) M41 la11 (N 15 u.toNatClampNeg - 1) (fun j => if j < N 15 u.toNatClampNeg - 1 then f12 j else f12 (j + 1)) := hs20.st hw42 hc37 (by first | omega | decide) (by first | omega | decide) (by first | omega | decide)
      have hf : sf cf M M41 := hf.st hw42 hc37 (by first | (simp [cf, cm]; done) | (simp only [cf, cm]; omega))
      have hc37 : M41 q32 = some (200 + 10 * u.toNatClampNeg + ((N 15 u.toNatClampNeg - 1) - 1), .inr (4, [.int (nI (N 16 (10 * u.toNatClampNeg + ((N 15 u.toNatClampNeg - 1) - 1)))), .int re35, .int (nI 0), va_rf li36])) := hw42.1
      show sg_W X M41 1 6 55 [some (.ref ca), some (.int u), some (.ref la11), some (.int (nI (N 15 u.toNatClampNeg - 1))), some (.ref q22)] []
      refine sg_aload (pc := 55) (v := .ref q22) hC dX6_leave_55 rfl rfl ?_
      refine sg_get (pc := 57) (a := q22) (v := .int (nI (N 16 (10 * u.toNatClampNeg + (N 15 u.toNatClampNeg - 1))))) 0 hC rfl inw_X1 (by decide) tw_1000 dX6_leave_57 hc27 rfl ?_
      have e9 : md_leave N u = (N 16 ((10 * u.toNatClampNeg) + ((N 15 u.toNatClampNeg) - 1)), (md_set (md_set (md_set N 0 0 0) 15 u.toNatClampNeg ((N 15 u.toNatClampNeg) - 1)) 17 ((((10 * u.toNatClampNeg) + ((N 15 u.toNatClampNeg) - 1))) - 1) 0)) := by unfold md_leave; rw [if_pos hs10, if_neg (show ¬ N 15 u.toNatClampNeg = 0 by omega), if_neg (show ¬ N 15 u.toNatClampNeg - 1 ≤ 0 by omega)]
      rw [e9] at hk
      have hq : ∀ p, rq (md_set (md_set (md_set N 0 0 0) 15 u.toNatClampNeg ((N 15 u.toNatClampNeg) - 1)) 17 ((((10 * u.toNatClampNeg) + ((N 15 u.toNatClampNeg) - 1))) - 1) 0) p = rq N p := fun p => by rw [rq_sne (by omega), rq_sne (by omega), rq_sne (by omega)]
      have ho : ∀ i9 j9, ¬ (i9 = 15 ∧ j9 = u.toNatClampNeg) ∧ ¬ (i9 = 17 ∧ j9 = ((10 * u.toNatClampNeg) + ((N 15 u.toNatClampNeg) - 1)) - 1) → ¬ i9 = 0 → (md_set (md_set (md_set N 0 0 0) 15 u.toNatClampNeg ((N 15 u.toNatClampNeg) - 1)) 17 ((((10 * u.toNatClampNeg) + ((N 15 u.toNatClampNeg) - 1))) - 1) 0) i9 j9 = N i9 j9 := fun i9 j9 a9 c9 => by rw [mset_ne a9.2, mset_ne a9.1, mset_ne (by omega)]
      have h15 : (md_set (md_set (md_set N 0 0 0) 15 u.toNatClampNeg ((N 15 u.toNatClampNeg) - 1)) 17 ((((10 * u.toNatClampNeg) + ((N 15 u.toNatClampNeg) - 1))) - 1) 0) 15 u.toNatClampNeg = N 15 u.toNatClampNeg - 1 := by rw [mset_ne (by omega), mset_eq]
      have h17 : (md_set (md_set (md_set N 0 0 0) 15 u.toNatClampNeg ((N 15 u.toNatClampNeg) - 1)) 17 ((((10 * u.toNatClampNeg) + ((N 15 u.toNatClampNeg) - 1))) - 1) 0) 17 (((10 * u.toNatClampNeg) + ((N 15 u.toNatClampNeg) - 1)) - 1) = 0 := mset_eq
      have hall : ∀ s9, N 12 s9 ≤ 6 := fun s9 => hW 12 s9
      have hall2 : ∀ s9, N 15 s9 ≤ 10 := fun s9 => hW 15 s9
      have hcs : cs_r G M41 u.toNatClampNeg q1 (md_set (md_set (md_set N 0 0 0) 15 u.toNatClampNeg ((N 15 u.toNatClampNeg) - 1)) 17 ((((10 * u.toNatClampNeg) + ((N 15 u.toNatClampNeg) - 1))) - 1) 0) := ⟨la11, _, by rw [ho 14 _ (by omega) (by omega)]; exact hc13, by rw [h15]; exact hs20, fun k hk => by
        rw [h15] at hk
        obtain ⟨p9, p8, p7⟩ := hfp15 k (by omega)
        have p6 := p7.p hfa21 (by simp; omega)
        by_cases hk2 : k = (N 15 u.toNatClampNeg - 1) - 1
        · have e17 : 10 * u.toNatClampNeg + k = ((10 * u.toNatClampNeg) + ((N 15 u.toNatClampNeg) - 1)) - 1 := by omega
          refine ⟨q32, by rw [if_pos (by omega), hk2]; exact hq33, re35, li36, ?_, fun e => absurd (by rw [e17]; exact h17) e⟩
          rw [ho 16 _ (by omega) (by omega), e17, h17, ← e17, hk2]
          exact hc37
        · exact ⟨p9, by rw [if_pos (by omega)]; exact p8, (p6.p (sf_st hw42 hc37d) (by simp; omega)).cg (ho 16 _ (by omega) (by omega)) (ho 17 _ (by omega) (by omega)) (fun _ => ⟨ho 18 _ (by omega) (by omega), hq _⟩)⟩⟩
      have hCth9 : cl_thr G M41 th (md_set (md_set (md_set N 0 0 0) 15 u.toNatClampNeg ((N 15 u.toNatClampNeg) - 1)) 17 ((((10 * u.toNatClampNeg) + ((N 15 u.toNatClampNeg) - 1))) - 1) 0) := ⟨gt, hTh, fun t9 ht9 => by
        rw [ho 13 t9 (by omega) (by omega)]
        refine ⟨(hGt t9 ht9).1, fun e => ?_⟩
        by_cases he : t9 = u.toNatClampNeg
        · rw [he]; exact ⟨q1, hq5, hcs⟩
        · obtain ⟨a9, q1, q2⟩ := (hGt t9 ht9).2 e
          have h9 := hall2 t9
          refine ⟨a9, q1, ((q2.p hfa21 h9 (by simp; omega)).p (sf_st hw42 hc37d) h9 (by simp; omega)).cg (ho 14 _ (by omega) (by omega)) (ho 15 _ (by omega) (by omega)) (fun k hk => ⟨ho 16 _ (by omega) (by omega), ho 17 _ (by omega) (by omega), fun _ => ⟨ho 18 _ (by omega) (by omega), hq _⟩⟩)⟩⟩
      exact sg_ireturn (st := []) (v := nI (N 16 (10 * u.toNatClampNeg + (N 15 u.toNatClampNeg - 1)))) (pc := 60) hC hR dX6_leave_60 (hk _ ⟨hX, by rw [padl.cg (ho 1 0 (by omega) (by omega)) (fun j _ => ho 2 j (by omega) (by omega))]; exact hPd, hCsl.cg (fun i9 hi9 => hq i9), hCso.cg (fun s9 hs9 => ⟨ho 12 s9 (by omega) (by omega), fun j hj => by have := hall s9; exact hq _⟩), hCth9, hCcx.cg (fun j _ => ⟨ho 19 j (by omega) (by omega), ho 20 j (by omega) (by omega)⟩), hCnt.cg (ho 21 0 (by omega) (by omega)) (fun j _ => ho 22 j (by omega) (by omega))⟩ hf (by show (md_set (md_set (md_set N 0 0 0) 15 u.toNatClampNeg ((N 15 u.toNatClampNeg) - 1)) 17 ((((10 * u.toNatClampNeg) + ((N 15 u.toNatClampNeg) - 1))) - 1) 0) 0 0 = 0; rw [mset_ne (by omega), mset_ne (by omega), mset_eq]))
  · have hnz : N 15 u.toNatClampNeg = 0 := Decidable.byContradiction (fun e9 => h17 (by rw [md_p_pos e9]; exact pge (by omega)))
    exact sg_throw (pc := 20) (st := []) hC hR (by decide) tw_871 tw_88 th_ISE_114_g th_ISE_114_b th_ISE_112_114_o dX6_leave_20 dX6_leave_23 dX6_leave_24 dX6_leave_27 (by decide) (by first | omega | decide) (by first | omega | decide) (by rw [show md_leave N u = (0, (md_set (md_set N 0 0 0) 0 0 2)) from by unfold md_leave; rw [if_pos hs10, if_pos (show N 15 u.toNatClampNeg = 0 by omega)] <;> rfl] at hx2; exact hx2 M (hJ.cg hW (ag.set0.tr ag.set0)) cf_rf (by simp [md_set, va_up]))
