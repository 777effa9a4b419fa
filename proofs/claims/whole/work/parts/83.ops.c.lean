set_option maxHeartbeats 400000 in
set_option maxRecDepth 100000 in
theorem c_type_ {l : Launch} {G : sg_G} {d : Nat} {M : sg_M} {kr : Option Value → sg_M → Prop} {kx : String → sg_M → Prop} (htr : l.stackTraces = false) {ca pb sl so th cx nt : Nat} {N : Nat → Nat → Nat} {c : Nat}  (hJ : cl_r G M ca pb sl so th cx nt N) (hW : WN N) (hc : c < 65536) (hk : ∀ M', cl_r G M' ca pb sl so th cx nt (md_type N c).2 → sf cf M M' → (md_type N c).2 0 0 = 0 → kr (some (.int (md_b (md_type N c).1))) M') : sg_Met l G yX6_type cX6_type 2 (some .boolean) (d + 3) 0 0 [.ref ca, .int (nI c)] M kr kx := by
  refine sg_enter [some (.ref ca), some (.int (nI c))] (by decide) htr (Nat.le_of_ble_eq_true rfl) rfl ?_
  intro X hC hR
  have hC : sg_C X l G cX6_type RX6 2 (d + 3) := hC
  obtain ⟨hX, hPd, hCsl, hCso, hCth0, hCcx, hCnt⟩ := id hJ
  have hCth : ct G M th N := ⟨hCth0, hW⟩
  have h16 : N 1 0 ≤ 16 := hW 1 0
  have hf : sf cf M M := sf.rf
  have hf2 : sf (pk [2, 3]) M M := sf.rf
  refine sg_iload_n (pc := 0) (x := nI c) hC dX6_type_0 rfl ?_
  refine sg_bipush (pc := 1) (nI 32) hC dX6_type_1 (by decide) ?_
  refine sg_icmpN_lt (pc := 3) (a := c) (b := 32) 24 hC dX6_type_3 (by decide) (by first | omega | decide | (rw [padl_len]; omega)) (by first | omega | decide | (rw [padl_len]; omega)) (fun h1 => ?_) (fun h1 => ?_)
  · refine sg_iconst (pc := 24) (nI 0) hC dX6_type_24 (by decide) ?_
    have e9 : md_type N c = (false, (md_set N 0 0 0)) := by unfold md_type; rw [if_pos h1]
    rw [e9] at hk
    exact sg_zreturn (st := []) (v := md_b false) (pc := 25) (ty := .boolean) hC hR (md_narb _) dX6_type_25 (hk M (hJ.cg hW ag.set0) cf_rf (by simp [md_set, va_up]))
  · refine sg_iload_n (pc := 6) (x := nI c) hC dX6_type_6 rfl ?_
    refine sg_bipush (pc := 7) (nI 126) hC dX6_type_7 (by decide) ?_
    refine sg_icmpN_gt (pc := 9) (a := c) (b := 126) 24 hC dX6_type_9 (by decide) (by first | omega | decide | (rw [padl_len]; omega)) (by first | omega | decide | (rw [padl_len]; omega)) (fun h2 => ?_) (fun h2 => ?_)
    · refine sg_iconst (pc := 24) (nI 0) hC dX6_type_24 (by decide) ?_
      have e9 : md_type N c = (false, (md_set N 0 0 0)) := by unfold md_type; rw [if_neg (by omega), if_pos h2]
      rw [e9] at hk
      exact sg_zreturn (st := []) (v := md_b false) (pc := 25) (ty := .boolean) hC hR (md_narb _) dX6_type_25 (hk M (hJ.cg hW ag.set0) cf_rf (by simp [md_set, va_up]))
    · refine sg_aload_n (pc := 12) (v := .ref ca) hC dX6_type_12 rfl rfl ?_
      refine sg_get (pc := 13) (a := ca) (v := .ref pb) 0 hC rfl inw_X6 (by decide) tw_193 dX6_type_13 hX rfl ?_
      obtain ⟨_, _, _, hx3, -⟩ := id hPd
      refine sg_callV (pc := 16) (As := []) (rest := []) (mc := 0) (ms := 0) hC tw_216 tw_217 tw_218 tw_64 tw_219 yd_J4_length_8abf5 (by decide) (ci := 1) rfl dX6_type_16 hx3 rfl (Nat.le_of_ble_eq_true rfl) (by first | omega | decide | (rw [padl_len]; omega)) (by first | omega | decide | (rw [padl_len]; omega)) ?_
      refine c_sbLen htr hPd ?_
      show sg_W X M 0 0 19 [some (.ref ca), some (.int (nI c))] [.int (nI ((padl N).length))]
      refine sg_bipush (pc := 19) (nI 16) hC dX6_type_19 (by decide) ?_
      refine sg_icmpN_lt (pc := 21) (a := (padl N).length) (b := 16) 26 hC dX6_type_21 (by decide) (by first | omega | decide | (rw [padl_len]; omega)) (by first | omega | decide | (rw [padl_len]; omega)) (fun h4 => ?_) (fun h4 => ?_)
      · refine sg_aload_n (pc := 26) (v := .ref ca) hC dX6_type_26 rfl rfl ?_
        refine sg_get (pc := 27) (a := ca) (v := .ref pb) 0 hC rfl inw_X6 (by decide) tw_193 dX6_type_27 hX rfl ?_
        refine sg_iload_n (pc := 30) (x := nI c) hC dX6_type_30 rfl ?_
        obtain ⟨_, _, _, hx5, -⟩ := id hPd
        refine sg_callV (pc := 31) (As := [.int (nI c)]) (rest := []) (mc := 0) (ms := 0) hC tw_223 tw_224 tw_225 tw_64 tw_226 yd_J4_append_cf468 (by decide) (ci := 1) rfl dX6_type_31 hx5 rfl (Nat.le_of_ble_eq_true rfl) (by first | omega | decide | (rw [padl_len]; omega)) (by first | omega | decide | (rw [padl_len]; omega)) ?_
        refine c_sbAppC htr hPd (by first | omega | decide | (rw [padl_len]; omega)) (by first | omega | decide | (rw [padl_len]; omega)) (by first | omega | decide | (rw [padl_len]; omega)) (by first | omega | decide | (rw [padl_len]; omega)) (by first | omega | decide | (rw [padl_len]; omega)) (fun M6 hs7 hf8 => ?_)
        have hX : M6 ca = some (1, .inr (9, [.ref pb, .ref sl, .ref so, .ref th, .ref cx, .ref nt])) := hf8.p hX (by first | decide | (simp; done) | (simp; omega))
        have hf : sf cf M M6 := hf.tr hf8 (fun a t h => by first | (simp [pk] at h; done) | (simp [pk] at h; simp only [cf, cm]; omega))
        have hf2 : sf (pk [2, 3]) M M6 := hf2.tr hf8 (fun a t h => by first | exact h | (simp [pk] at h; done) | (simp [pk] at h ⊢; omega) | (simp [pk] at h ⊢; done))
        show sg_W X M6 0 0 34 [some (.ref ca), some (.int (nI c))] [.ref pb]
        refine sg_pop (pc := 34) hC dX6_type_34 rfl ?_
        refine sg_iconst (pc := 35) (nI 1) hC dX6_type_35 (by decide) ?_
        have hlt : N 1 0 < 16 := by rw [padl_len] at *; omega
        have e9 : md_type N c = (true, (md_set (md_set (md_set N 0 0 0) 2 (N 1 0) c) 1 0 (N 1 0 + 1))) := by unfold md_type; rw [if_neg (by omega), if_neg (by omega), if_neg (by omega)]
        rw [e9] at hk
        exact sg_zreturn (st := []) (v := md_b true) (pc := 36) (ty := .boolean) hC hR (md_narb _) dX6_type_36 (hk _ (hJ.pad hW hf2 (by rw [padl_app rfl]; exact hs7) (fun i j hi => by show md_set _ 1 0 _ i j = _; rw [mset_ne (by omega), mset_ne (by omega), mset_ne (by omega)])) hf (by simp [md_set, va_up]))
      · refine sg_iconst (pc := 24) (nI 0) hC dX6_type_24 (by decide) ?_
        have e9 : md_type N c = (false, (md_set N 0 0 0)) := by unfold md_type; rw [if_neg (by omega), if_neg (by omega), if_pos (by rw [padl_len] at h4; omega)]
        rw [e9] at hk
        exact sg_zreturn (st := []) (v := md_b false) (pc := 25) (ty := .boolean) hC hR (md_narb _) dX6_type_25 (hk M (hJ.cg hW ag.set0) cf_rf (by simp [md_set, va_up]))

set_option maxHeartbeats 400000 in
set_option maxRecDepth 100000 in
theorem c_grant_ {l : Launch} {G : sg_G} {d : Nat} {M : sg_M} {kr : Option Value → sg_M → Prop} {kx : String → sg_M → Prop} (htr : l.stackTraces = false) {ca pb sl so th cx nt : Nat} {N : Nat → Nat → Nat} {u : Int32} {v : Int32}  (hJ : cl_r G M ca pb sl so th cx nt N) (hW : WN N) (hk : ∀ M', cl_r G M' ca pb sl so th cx nt (md_grant N u v).2 → sf cf M M' → (md_grant N u v).2 0 0 = 0 → kr (some (.int (nI (md_grant N u v).1))) M') (hx1 : ∀ M', cl_r G M' ca pb sl so th cx nt (md_grant N u v).2 → sf cf M M' → (md_grant N u v).2 0 0 = 1 → kx "java/util/NoSuchElementException" M') (hx2 : ∀ M', cl_r G M' ca pb sl so th cx nt (md_grant N u v).2 → sf cf M M' → (md_grant N u v).2 0 0 = 2 → kx "java/lang/IllegalStateException" M') : sg_Met l G yX6_grant cX6_grant 5 (some .int) (d + 9) 3 22 [.ref ca, .int u, .int v] M kr kx := by
  refine sg_enter [some (.ref ca), some (.int u), some (.int v), none, none] (by decide) htr (Nat.le_of_ble_eq_true rfl) rfl ?_
  intro X hC hR
  have hC : sg_C X l G cX6_grant RX6 5 (d + 9) := hC
  obtain ⟨hX, hPd, hCsl, hCso, hCth0, hCcx, hCnt⟩ := id hJ
  have hCth : ct G M th N := ⟨hCth0, hW⟩
  obtain ⟨gs, hSl, hGs⟩ := id hCsl
  obtain ⟨go, hSo, hGo⟩ := id hCso
  have h126 : N 12 u.toNatClampNeg ≤ 6 := hW 12 _
  have hf : sf cf M M := sf.rf
  refine sg_aload_n (pc := 0) (v := .ref ca) hC dX6_grant_0 rfl rfl ?_
  refine sg_iload_n (pc := 1) (x := u) hC dX6_grant_1 rfl ?_
  refine sg_callV (pc := 2) (As := [.int u]) (rest := []) (mc := 1) (ms := 6) hC tw_863 tw_865 tw_19 tw_62 tw_866 yd_X6_sourceOf (by decide) (ci := 9) rfl dX6_grant_2 hX rfl (Nat.le_of_ble_eq_true rfl) (by first | omega | decide) (by first | omega | decide) ?_
  refine c_srcOf htr hX hSo hGo ?_ (fun hxf5 => sg_prop hC hR (by rw [show md_grant N u v = (0, (md_set (md_set N 0 0 0) 0 0 1)) from by unfold md_grant; rw [if_neg (ts9 hxf5)] <;> rfl] at hx1; exact hx1 M (hJ.cg hW (ag.set0.tr ag.set0)) cf_rf (by simp [md_set, va_up])))
  intro q1 h02 h83 hq4
  obtain ⟨q6, hq7, hp8⟩ := hGo _ h83
  rw [hq4] at hq7
  cases hq7
  have hs9 : md_in u (nI 0) (nI 5) = true := in_t h02 (by omega) (by decide)
  obtain ⟨la10, f11, hc12, hl13, hfp14⟩ := id hp8
  show sg_W X M 2 16 5 [some (.ref ca), some (.int u), some (.int v), none, none] [.ref q1]
  refine sg_get (pc := 5) (a := q1) (v := .ref la10) 0 hC rfl inw_X5 (by decide) tw_174 dX6_grant_5 hc12 rfl ?_
  refine sg_astore_n (pc := 8) (v := .ref la10) hC dX6_grant_8 (by decide) rfl ?_
  show sg_W X M 2 16 9 [some (.ref ca), some (.int u), some (.int v), some (.ref la10), none] []
  refine sg_aload_n (pc := 9) (v := .ref ca) hC dX6_grant_9 rfl rfl ?_
  refine sg_iload_n (pc := 10) (x := v) hC dX6_grant_10 rfl ?_
  refine sg_callV (pc := 11) (As := [.int v]) (rest := []) (mc := 1) (ms := 6) hC tw_824 tw_826 tw_16 tw_62 tw_827 yd_X6_permissionIn (by decide) (ci := 9) rfl dX6_grant_11 hX rfl (Nat.le_of_ble_eq_true rfl) (by first | omega | decide) (by first | omega | decide) ?_
  refine c_permIn htr hX hSl hGs ?_ (fun hxf20 => sg_prop hC hR (by rw [show md_grant N u v = (0, (md_set (md_set N 0 0 0) 0 0 1)) from by unfold md_grant; rw [if_pos hs9, if_neg (ts9 (show md_isSlot (md_set N 0 0 0) v = false from hxf20))] <;> rfl] at hx1; exact hx1 M (hJ.cg hW (ag.set0.tr ag.set0)) cf_rf (by simp [md_set, va_up])))
  intro q15 h016 h817 h318 hq19
  obtain ⟨q21, hq22, hp23⟩ := (hGs _ h817).2 h318
  rw [hq19] at hq22
  cases hq22
  have hs24 : md_isSlot (md_set N 0 0 0) v = true := isSlot_t (N := (md_set N 0 0 0)) h016 h817 h318
  show sg_W X M 1 10 14 [some (.ref ca), some (.int u), some (.int v), some (.ref la10), none] [.ref q15]
  refine sg_astore (pc := 14) (v := .ref q15) hC dX6_grant_14 (by decide) rfl ?_
  show sg_W X M 1 10 16 [some (.ref ca), some (.int u), some (.int v), some (.ref la10), some (.ref q15)] []
  refine sg_aload_n (pc := 16) (v := .ref la10) hC dX6_grant_16 rfl rfl ?_
  obtain ⟨_, _, _, _, _, hx25, -⟩ := id hl13
  refine sg_callV (pc := 17) (As := []) (rest := []) (mc := 0) (ms := 0) hC tw_867 tw_868 tw_869 tw_69 tw_870 yd_Jx4a65c_size_8abf5 (by decide) (ci := 2) rfl dX6_grant_17 hx25 rfl (Nat.le_of_ble_eq_true rfl) (by first | omega | decide) (by first | omega | decide) ?_
  refine c_alSize htr hl13 ?_
  show sg_W X M 1 10 20 [some (.ref ca), some (.int u), some (.int v), some (.ref la10), some (.ref q15)] [.int (nI (N 12 u.toNatClampNeg))]
  refine sg_bipush (pc := 20) (nI 6) hC dX6_grant_20 (by decide) ?_
  refine sg_icmpN_lt (pc := 22) (a := N 12 u.toNatClampNeg) (b := 6) 33 hC dX6_grant_22 (by decide) (by first | omega | decide) (by first | omega | decide) (fun h26 => ?_) (fun h26 => ?_)
  · refine sg_aload_n (pc := 33) (v := .ref la10) hC dX6_grant_33 rfl rfl ?_
    refine sg_aload (pc := 34) (v := .ref q15) hC dX6_grant_34 rfl rfl ?_
    obtain ⟨_, _, _, _, _, hx27, -⟩ := id hl13
    refine sg_callV (pc := 36) (As := [.ref q15]) (rest := []) (mc := 1) (ms := 10) hC tw_886 tw_887 tw_888 tw_69 tw_889 yd_Jx4a65c_add_9ea2d (by decide) (ci := 2) rfl dX6_grant_36 hx27 rfl (Nat.le_of_ble_eq_true rfl) (by first | omega | decide) (by first | omega | decide) ?_
    obtain ⟨_, hx31⟩ := hp23.x
    refine c_alAdd htr hl13 (by omega) (by omega) (by omega) (by omega) hx31 sg_El6 (by omega) (by omega) (by omega) (fun M28 hs29 hfa30 => ?_)
    have hX : M28 ca = some (1, .inr (9, [.ref pb, .ref sl, .ref so, .ref th, .ref cx, .ref nt])) := hfa30.p hX (by first | decide | (simp; done) | (simp; omega))
    have hSl : M28 sl = some (4, .inl (.object RX3, 8, .inr (.inr (.inr (.inr gs))))) := hfa30.p hSl (by first | decide | (simp; done) | (simp; omega))
    have hSo : M28 so = some (5, .inl (.object RX5, 6, .inr (.inr (.inr (.inr go))))) := hfa30.p hSo (by first | decide | (simp; done) | (simp; omega))
    have hc12 : M28 q1 = some (10 + u.toNatClampNeg, .inr (8, [.ref la10])) := hfa30.p hc12 (by first | decide | (simp; done) | (simp; omega))
    have hPd : sb_r 2 3 M28 pb (padl N) := hPd.p hfa30 (by first | decide | (simp; done) | (simp; omega)) (by first | decide | (simp; done) | (simp; omega))
    have hCsl : cl_slot M28 sl N := hCsl.p hfa30 (by first | decide | (simp; done) | (simp; omega))
    have hCth : ct G M28 th N := hCth.p hfa30 (by first | decide | (simp; done) | (simp; omega))
    have hCcx : cl_ctx M28 cx N := hCcx.p hfa30 (by first | decide | (simp; done) | (simp; omega))
    have hCnt : cl_note G M28 nt N := hCnt.p hfa30 (by first | decide | (simp; done) | (simp; omega))
    have hp23 : pm_r M28 q15 (rq N v.toNatClampNeg) := hp23.p hfa30 (by first | decide | (simp; done) | (simp; omega)) (by first | decide | (simp; done) | (simp; omega)) (by first | decide | (simp; done) | (simp; omega))
    have hf : sf cf M M28 := hf.tr hfa30 (fun a t h => by first | (simp [pk] at h; done) | (simp [pk] at h; simp only [cf, cm]; omega))
    show sg_W X M28 0 0 39 [some (.ref ca), some (.int u), some (.int v), some (.ref la10), some (.ref q15)] [.int (nI 1)]
    refine sg_pop (pc := 39) hC dX6_grant_39 rfl ?_
    refine sg_aload_n (pc := 40) (v := .ref la10) hC dX6_grant_40 rfl rfl ?_
    obtain ⟨_, _, _, _, _, hx32, -⟩ := id hs29
    refine sg_callV (pc := 41) (As := []) (rest := []) (mc := 0) (ms := 0) hC tw_867 tw_868 tw_869 tw_69 tw_870 yd_Jx4a65c_size_8abf5 (by decide) (ci := 2) rfl dX6_grant_41 hx32 rfl (Nat.le_of_ble_eq_true rfl) (by first | omega | decide) (by first | omega | decide) ?_
    refine c_alSize htr hs29 ?_
    show sg_W X M28 0 0 44 [some (.ref ca), some (.int u), some (.int v), some (.ref la10), some (.ref q15)] [.int (nI (N 12 u.toNatClampNeg + 1))]
    have e9 : md_grant N u v = (N 12 u.toNatClampNeg + 1, (md_set (md_copy (md_set N 0 0 0) v.toNatClampNeg ((8 + (6 * u.toNatClampNeg)) + (N 12 u.toNatClampNeg))) 12 u.toNatClampNeg (N 12 u.toNatClampNeg + 1))) := by unfold md_grant; rw [if_pos hs9, if_pos hs24, if_neg (show ¬ N 12 u.toNatClampNeg = 6 by omega)]
    rw [e9] at hk
    have hq : ∀ p, p ≠ 8 + 6 * u.toNatClampNeg + N 12 u.toNatClampNeg → rq (md_set (md_copy (md_set N 0 0 0) v.toNatClampNeg ((8 + (6 * u.toNatClampNeg)) + (N 12 u.toNatClampNeg))) 12 u.toNatClampNeg (N 12 u.toNatClampNeg + 1)) p = rq N p := fun p hp => by rw [rq_sne (by omega), rq_copy_ne hp]; rfl
    have hq1 : rq (md_set (md_copy (md_set N 0 0 0) v.toNatClampNeg ((8 + (6 * u.toNatClampNeg)) + (N 12 u.toNatClampNeg))) 12 u.toNatClampNeg (N 12 u.toNatClampNeg + 1)) (8 + 6 * u.toNatClampNeg + N 12 u.toNatClampNeg) = rq N v.toNatClampNeg := by rw [rq_sne (by omega), rq_copy]; rfl
    have ho : ∀ i9 j9, ¬ (3 ≤ i9 ∧ i9 ≤ 9) → ¬ (i9 = 12 ∧ j9 = u.toNatClampNeg) → ¬ i9 = 0 → (md_set (md_copy (md_set N 0 0 0) v.toNatClampNeg ((8 + (6 * u.toNatClampNeg)) + (N 12 u.toNatClampNeg))) 12 u.toNatClampNeg (N 12 u.toNatClampNeg + 1)) i9 j9 = N i9 j9 := fun i9 j9 a9 b9 c9 => by rw [mset_ne b9, mc.copy _ _ i9 j9 (by omega), mset_ne (by omega)]
    have h12 : (md_set (md_copy (md_set N 0 0 0) v.toNatClampNeg ((8 + (6 * u.toNatClampNeg)) + (N 12 u.toNatClampNeg))) 12 u.toNatClampNeg (N 12 u.toNatClampNeg + 1)) 12 u.toNatClampNeg = N 12 u.toNatClampNeg + 1 := mset_eq
    have hall : ∀ s9, N 12 s9 ≤ 6 := fun s9 => hW 12 s9
    have hso : so_r G M28 u.toNatClampNeg q1 (md_set (md_copy (md_set N 0 0 0) v.toNatClampNeg ((8 + (6 * u.toNatClampNeg)) + (N 12 u.toNatClampNeg))) 12 u.toNatClampNeg (N 12 u.toNatClampNeg + 1)) := ⟨la10, _, hc12, by rw [h12]; exact hs29, fun j hj => by
      rw [h12] at hj
      by_cases hj2 : j = N 12 u.toNatClampNeg
      · subst hj2; exact ⟨q15, va_up_self _ _ _, by rw [hq1]; exact hp23⟩
      · obtain ⟨p9, p8, p7⟩ := hfp14 j (by omega)
        exact ⟨p9, (va_up_ne _ _ hj2).trans p8, by rw [hq _ (by omega)]; exact p7.p hfa30 (by simp; omega) (by simp; omega) (by simp; omega)⟩⟩
    have hCso9 : cl_src G M28 so (md_set (md_copy (md_set N 0 0 0) v.toNatClampNeg ((8 + (6 * u.toNatClampNeg)) + (N 12 u.toNatClampNeg))) 12 u.toNatClampNeg (N 12 u.toNatClampNeg + 1)) := ⟨go, hSo, fun s9 hs9 => by
      by_cases he : s9 = u.toNatClampNeg
      · rw [he]; exact ⟨q1, hq4, hso⟩
      · obtain ⟨a9, q1, q2⟩ := hGo s9 hs9
        refine ⟨a9, q1, (q2.p hfa30 (by simp; omega)).cg (ho 12 s9 (by omega) (by omega) (by omega)) (fun j hj => hq _ ?_)⟩
        have := hall s9
        omega⟩
    have hCth9 := (hCth).1.cg (N' := (md_set (md_copy (md_set N 0 0 0) v.toNatClampNeg ((8 + (6 * u.toNatClampNeg)) + (N 12 u.toNatClampNeg))) 12 u.toNatClampNeg (N 12 u.toNatClampNeg + 1))) (fun t ht => ⟨ho 13 t (by omega) (by omega) (by omega), ho 14 t (by omega) (by omega) (by omega), ho 15 t (by omega) (by omega) (by omega)⟩) (fun t k ht hk => ⟨ho 16 _ (by omega) (by omega) (by omega), ho 17 _ (by omega) (by omega) (by omega), fun _ => ⟨ho 18 _ (by omega) (by omega) (by omega), hq _ (by omega)⟩⟩)
    exact sg_ireturn (st := []) (v := nI (N 12 u.toNatClampNeg + 1)) (pc := 44) hC hR dX6_grant_44 (hk _ ⟨hX, by rw [padl.cg (ho 1 0 (by omega) (by omega) (by omega)) (fun j _ => ho 2 j (by omega) (by omega) (by omega))]; exact hPd, hCsl.cg (fun i9 hi9 => hq i9 (by omega)), hCso9, hCth9, hCcx.cg (fun j _ => ⟨ho 19 j (by omega) (by omega) (by omega), ho 20 j (by omega) (by omega) (by omega)⟩), hCnt.cg (ho 21 0 (by omega) (by omega) (by omega)) (fun j _ => ho 22 j (by omega) (by omega) (by omega))⟩ hf (by rw [show (N 12 u.toNatClampNeg + 1, (md_set (md_copy (md_set N 0 0 0) v.toNatClampNeg ((8 + (6 * u.toNatClampNeg)) + (N 12 u.toNatClampNeg))) 12 u.toNatClampNeg (N 12 u.toNatClampNeg + 1))).2 0 0 = (md_set (md_copy (md_set N 0 0 0) v.toNatClampNeg ((8 + (6 * u.toNatClampNeg)) + (N 12 u.toNatClampNeg))) 12 u.toNatClampNeg (N 12 u.toNatClampNeg + 1)) 0 0 from rfl, mset_ne (by omega), mc.copy _ _ 0 0 (by omega), mset_eq]))
  · exact sg_throw (pc := 25) (st := []) hC hR (by decide) tw_871 tw_88 th_ISE_114_g th_ISE_114_b th_ISE_112_114_o dX6_grant_25 dX6_grant_28 dX6_grant_29 dX6_grant_32 (by decide) (by first | omega | decide) (by first | omega | decide) (by rw [show md_grant N u v = (0, (md_set (md_set N 0 0 0) 0 0 2)) from by unfold md_grant; rw [if_pos hs9, if_pos hs24, if_pos (show N 12 u.toNatClampNeg = 6 by omega)] <;> rfl] at hx2; exact hx2 M (hJ.cg hW (ag.set0.tr ag.set0)) cf_rf (by simp [md_set, va_up]))

set_option maxHeartbeats 400000 in
set_option maxRecDepth 100000 in
theorem c_revoke_ {l : Launch} {G : sg_G} {d : Nat} {M : sg_M} {kr : Option Value → sg_M → Prop} {kx : String → sg_M → Prop} (htr : l.stackTraces = false) {ca pb sl so th cx nt : Nat} {N : Nat → Nat → Nat} {u : Int32} {v : Int32}  (hJ : cl_r G M ca pb sl so th cx nt N) (hW : WN N) (hk : ∀ M', cl_r G M' ca pb sl so th cx nt (md_revoke N u v).2 → sf cf M M' → (md_revoke N u v).2 0 0 = 0 → kr (some (.int (nI (md_revoke N u v).1))) M') (hx1 : ∀ M', cl_r G M' ca pb sl so th cx nt (md_revoke N u v).2 → sf cf M M' → (md_revoke N u v).2 0 0 = 1 → kx "java/util/NoSuchElementException" M') (hx2 : ∀ M', cl_r G M' ca pb sl so th cx nt (md_revoke N u v).2 → sf cf M M' → (md_revoke N u v).2 0 0 = 2 → kx "java/lang/IllegalArgumentException" M') : sg_Met l G yX6_revoke cX6_revoke 4 (some .int) (d + 9) 2 12 [.ref ca, .int u, .int v] M kr kx := by
  refine sg_enter [some (.ref ca), some (.int u), some (.int v), none] (by decide) htr (Nat.le_of_ble_eq_true rfl) rfl ?_
  intro X hC hR
  have hC : sg_C X l G cX6_revoke RX6 4 (d + 9) := hC
  obtain ⟨hX, hPd, hCsl, hCso, hCth0, hCcx, hCnt⟩ := id hJ
  have hCth : ct G M th N := ⟨hCth0, hW⟩
  obtain ⟨go, hSo, hGo⟩ := id hCso
  have h126 : N 12 u.toNatClampNeg ≤ 6 := hW 12 _
  have hf : sf cf M M := sf.rf
  refine sg_aload_n (pc := 0) (v := .ref ca) hC dX6_revoke_0 rfl rfl ?_
  refine sg_iload_n (pc := 1) (x := u) hC dX6_revoke_1 rfl ?_
  refine sg_callV (pc := 2) (As := [.int u]) (rest := []) (mc := 1) (ms := 6) hC tw_863 tw_865 tw_19 tw_62 tw_866 yd_X6_sourceOf (by decide) (ci := 9) rfl dX6_revoke_2 hX rfl (Nat.le_of_ble_eq_true rfl) (by first | omega | decide) (by first | omega | decide) ?_
  refine c_srcOf htr hX hSo hGo ?_ (fun hxf5 => sg_prop hC hR (by rw [show md_revoke N u v = (0, (md_set (md_set N 0 0 0) 0 0 1)) from by unfold md_revoke; rw [if_neg (ts9 hxf5)] <;> rfl] at hx1; exact hx1 M (hJ.cg hW (ag.set0.tr ag.set0)) cf_rf (by simp [md_set, va_up])))
  intro q1 h02 h83 hq4
  obtain ⟨q6, hq7, hp8⟩ := hGo _ h83
  rw [hq4] at hq7
  cases hq7
  have hs9 : md_in u (nI 0) (nI 5) = true := in_t h02 (by omega) (by decide)
  obtain ⟨la10, f11, hc12, hl13, hfp14⟩ := id hp8
  show sg_W X M 1 6 5 [some (.ref ca), some (.int u), some (.int v), none] [.ref q1]
  refine sg_get (pc := 5) (a := q1) (v := .ref la10) 0 hC rfl inw_X5 (by decide) tw_174 dX6_revoke_5 hc12 rfl ?_
  refine sg_astore_n (pc := 8) (v := .ref la10) hC dX6_revoke_8 (by decide) rfl ?_
  show sg_W X M 1 6 9 [some (.ref ca), some (.int u), some (.int v), some (.ref la10)] []
  refine sg_iload_n (pc := 9) (x := v) hC dX6_revoke_9 rfl ?_
  refine sg_if_lt (pc := 10) (x := v) 21 hC dX6_revoke_10 (by decide) (fun h15 => ?_) (fun h15 => ?_)
  · exact sg_throw (pc := 21) (st := []) hC hR (by decide) tw_940 tw_84 th_IAE_121_g th_IAE_121_b th_IAE_119_121_o dX6_revoke_21 dX6_revoke_24 dX6_revoke_25 dX6_revoke_28 (by decide) (by first | omega | decide) (by first | omega | decide) (by rw [show md_revoke N u v = (0, (md_set (md_set N 0 0 0) 0 0 2)) from by unfold md_revoke; rw [if_pos hs9, if_neg (ts9 (in_pf (by first | (left; assumption) | (right; omega)) (by omega)))] <;> rfl] at hx2; exact hx2 M (hJ.cg hW (ag.set0.tr ag.set0)) cf_rf (by simp [md_set, va_up]))
  · obtain ⟨hs16, hs17⟩ := md_nat h15
    rw [hs16]
    show sg_W X M 1 6 13 [some (.ref ca), some (.int u), some (.int (nI v.toNatClampNeg)), some (.ref la10)] []
    refine sg_iload_n (pc := 13) (x := nI v.toNatClampNeg) hC dX6_revoke_13 rfl ?_
    refine sg_aload_n (pc := 14) (v := .ref la10) hC dX6_revoke_14 rfl rfl ?_
    obtain ⟨_, _, _, _, _, hx18, -⟩ := id hl13
    refine sg_callV (pc := 15) (As := []) (rest := [.int (nI v.toNatClampNeg)]) (mc := 0) (ms := 0) hC tw_867 tw_868 tw_869 tw_69 tw_870 yd_Jx4a65c_size_8abf5 (by decide) (ci := 2) rfl dX6_revoke_15 hx18 rfl (Nat.le_of_ble_eq_true rfl) (by first | omega | decide) (by first | omega | decide) ?_
    refine c_alSize htr hl13 ?_
    show sg_W X M 1 6 18 [some (.ref ca), some (.int u), some (.int (nI v.toNatClampNeg)), some (.ref la10)] [.int (nI (N 12 u.toNatClampNeg)), .int (nI v.toNatClampNeg)]
    refine sg_icmpN_lt (pc := 18) (a := v.toNatClampNeg) (b := N 12 u.toNatClampNeg) 29 hC dX6_revoke_18 (by decide) (by first | omega | decide) (by first | omega | decide) (fun h19 => ?_) (fun h19 => ?_)
    · refine sg_aload_n (pc := 29) (v := .ref la10) hC dX6_revoke_29 rfl rfl ?_
      refine sg_iload_n (pc := 30) (x := nI v.toNatClampNeg) hC dX6_revoke_30 rfl ?_
      obtain ⟨_, _, _, _, _, hx20, -⟩ := id hl13
      refine sg_callV (pc := 31) (As := [.int (nI v.toNatClampNeg)]) (rest := []) (mc := 0) (ms := 0) hC tw_945 tw_946 tw_947 tw_69 tw_948 yd_Jx4a65c_remove_915e3 (by decide) (ci := 2) rfl dX6_revoke_31 hx20 rfl (Nat.le_of_ble_eq_true rfl) (by first | omega | decide) (by first | omega | decide) ?_
      obtain ⟨q24, hq25, hp26⟩ := hfp14 v.toNatClampNeg (by omega)
      refine c_alRem htr hl13 (by omega) (by omega) (by omega) (fun j hj y hy => by obtain ⟨p9, p8, p7⟩ := hfp14 j hj; rw [hy] at p8; cases p8; obtain ⟨vs9, p6⟩ := p7.x; exact ⟨70, 6, vs9, p6, by decide, sg_El6, by omega, by omega⟩) (by omega) hq25 (fun M21 hs22 hfa23 => ?_)
      have hX : M21 ca = some (1, .inr (9, [.ref pb, .ref sl, .ref so, .ref th, .ref cx, .ref nt])) := hfa23.p hX (by first | decide | (simp; done) | (simp; omega))
      have hSo : M21 so = some (5, .inl (.object RX5, 6, .inr (.inr (.inr (.inr go))))) := hfa23.p hSo (by first | decide | (simp; done) | (simp; omega))
      have hc12 : M21 q1 = some (10 + u.toNatClampNeg, .inr (8, [.ref la10])) := hfa23.p hc12 (by first | decide | (simp; done) | (simp; omega))
      have hPd : sb_r 2 3 M21 pb (padl N) := hPd.p hfa23 (by first | decide | (simp; done) | (simp; omega)) (by first | decide | (simp; done) | (simp; omega))
      have hCsl : cl_slot M21 sl N := hCsl.p hfa23 (by first | decide | (simp; done) | (simp; omega))
      have hCth : ct G M21 th N := hCth.p hfa23 (by first | decide | (simp; done) | (simp; omega))
      have hCcx : cl_ctx M21 cx N := hCcx.p hfa23 (by first | decide | (simp; done) | (simp; omega))
      have hCnt : cl_note G M21 nt N := hCnt.p hfa23 (by first | decide | (simp; done) | (simp; omega))
      have hf : sf cf M M21 := hf.tr hfa23 (fun a t h => by first | (simp [pk] at h; done) | (simp [pk] at h; simp only [cf, cm]; omega))
      show sg_W X M21 1 6 34 [some (.ref ca), some (.int u), some (.int (nI v.toNatClampNeg)), some (.ref la10)] [.ref q24]
      refine sg_pop (pc := 34) hC dX6_revoke_34 rfl ?_
      refine sg_aload_n (pc := 35) (v := .ref la10) hC dX6_revoke_35 rfl rfl ?_
      obtain ⟨_, _, _, _, _, hx27, -⟩ := id hs22
      refine sg_callV (pc := 36) (As := []) (rest := []) (mc := 0) (ms := 0) hC tw_867 tw_868 tw_869 tw_69 tw_870 yd_Jx4a65c_size_8abf5 (by decide) (ci := 2) rfl dX6_revoke_36 hx27 rfl (Nat.le_of_ble_eq_true rfl) (by first | omega | decide) (by first | omega | decide) ?_
      refine c_alSize htr hs22 ?_
      show sg_W X M21 1 6 39 [some (.ref ca), some (.int u), some (.int (nI v.toNatClampNeg)), some (.ref la10)] [.int (nI (N 12 u.toNatClampNeg - 1))]
      obtain ⟨r1, r2, r3, r4, r5⟩ := revoke1_ok (s := u.toNatClampNeg) 7 v.toNatClampNeg (md_set N 0 0 0) (show v.toNatClampNeg < N 12 u.toNatClampNeg by omega) (hW 12 _) (show N 12 u.toNatClampNeg - v.toNatClampNeg < 7 by omega)
      have r1 : (md_revoke1 7 (md_set N 0 0 0) u.toNatClampNeg v.toNatClampNeg).1 = N 12 u.toNatClampNeg - 1 := r1
      have h12 : (md_revoke1 7 (md_set N 0 0 0) u.toNatClampNeg v.toNatClampNeg).2 12 u.toNatClampNeg = N 12 u.toNatClampNeg - 1 := r2
      have hq : ∀ p, ¬ (8 + 6 * u.toNatClampNeg + v.toNatClampNeg ≤ p ∧ p < 8 + 6 * u.toNatClampNeg + N 12 u.toNatClampNeg) → rq (md_revoke1 7 (md_set N 0 0 0) u.toNatClampNeg v.toNatClampNeg).2 p = rq N p := r3
      have hq1 : ∀ j, v.toNatClampNeg ≤ j → j + 1 < N 12 u.toNatClampNeg → rq (md_revoke1 7 (md_set N 0 0 0) u.toNatClampNeg v.toNatClampNeg).2 (8 + 6 * u.toNatClampNeg + j) = rq N (8 + 6 * u.toNatClampNeg + (j + 1)) := r4
      have e9 : md_revoke N u v = md_revoke1 7 (md_set N 0 0 0) u.toNatClampNeg v.toNatClampNeg := by unfold md_revoke; rw [if_pos hs9, if_pos (in_pt (by assumption) (by omega) (by omega))]
      rw [e9, r1] at hk
      have ho : ∀ i9 j9, ¬ (3 ≤ i9 ∧ i9 ≤ 9) → ¬ (i9 = 12 ∧ j9 = u.toNatClampNeg) → ¬ i9 = 0 → (md_revoke1 7 (md_set N 0 0 0) u.toNatClampNeg v.toNatClampNeg).2 i9 j9 = N i9 j9 := fun i9 j9 a9 b9 c9 => by rw [r5 i9 j9 a9 b9, mset_ne (by omega)]
      have hall : ∀ s9, N 12 s9 ≤ 6 := fun s9 => hW 12 s9
      have hso : so_r G M21 u.toNatClampNeg q1 (md_revoke1 7 (md_set N 0 0 0) u.toNatClampNeg v.toNatClampNeg).2 := ⟨la10, _, hc12, by rw [h12]; exact hs22, fun j hj => by
        rw [h12] at hj
        by_cases hj2 : j < v.toNatClampNeg
        · obtain ⟨p9, p8, p7⟩ := hfp14 j (by omega)
          exact ⟨p9, by rw [if_pos hj2]; exact p8, by rw [hq _ (by omega)]; exact p7.p hfa23 (by simp; omega) (by simp; omega) (by simp; omega)⟩
        · obtain ⟨p9, p8, p7⟩ := hfp14 (j + 1) (by omega)
          exact ⟨p9, by rw [if_neg hj2]; exact p8, by rw [hq1 j (by omega) (by omega)]; exact p7.p hfa23 (by simp; omega) (by simp; omega) (by simp; omega)⟩⟩
      have hCso9 : cl_src G M21 so (md_revoke1 7 (md_set N 0 0 0) u.toNatClampNeg v.toNatClampNeg).2 := ⟨go, hSo, fun s9 hs9 => by
        by_cases he : s9 = u.toNatClampNeg
        · rw [he]; exact ⟨q1, hq4, hso⟩
        · obtain ⟨a9, q1, q2⟩ := hGo s9 hs9
          refine ⟨a9, q1, (q2.p hfa23 (by simp; omega)).cg (ho 12 s9 (by omega) (by omega) (by omega)) (fun j hj => hq _ ?_)⟩
          have := hall s9
          omega⟩
      have hCth9 := (hCth).1.cg (N' := (md_revoke1 7 (md_set N 0 0 0) u.toNatClampNeg v.toNatClampNeg).2) (fun t ht => ⟨ho 13 t (by omega) (by omega) (by omega), ho 14 t (by omega) (by omega) (by omega), ho 15 t (by omega) (by omega) (by omega)⟩) (fun t k ht hk => ⟨ho 16 _ (by omega) (by omega) (by omega), ho 17 _ (by omega) (by omega) (by omega), fun _ => ⟨ho 18 _ (by omega) (by omega) (by omega), hq _ (by omega)⟩⟩)
      exact sg_ireturn (st := []) (v := nI (N 12 u.toNatClampNeg - 1)) (pc := 39) hC hR dX6_revoke_39 (hk _ ⟨hX, by rw [padl.cg (ho 1 0 (by omega) (by omega) (by omega)) (fun j _ => ho 2 j (by omega) (by omega) (by omega))]; exact hPd, hCsl.cg (fun i9 hi9 => hq i9 (by omega)), hCso9, hCth9, hCcx.cg (fun j _ => ⟨ho 19 j (by omega) (by omega) (by omega), ho 20 j (by omega) (by omega) (by omega)⟩), hCnt.cg (ho 21 0 (by omega) (by omega) (by omega)) (fun j _ => ho 22 j (by omega) (by omega) (by omega))⟩ hf (by rw [r5 0 0 (by omega) (by omega), mset_eq]))
    · exact sg_throw (pc := 21) (st := []) hC hR (by decide) tw_940 tw_84 th_IAE_121_g th_IAE_121_b th_IAE_119_121_o dX6_revoke_21 dX6_revoke_24 dX6_revoke_25 dX6_revoke_28 (by decide) (by first | omega | decide) (by first | omega | decide) (by rw [show md_revoke N u v = (0, (md_set (md_set N 0 0 0) 0 0 2)) from by unfold md_revoke; rw [if_pos hs9, if_neg (ts9 (in_pf (by first | (left; assumption) | (right; omega)) (by omega)))] <;> rfl] at hx2; exact hx2 M (hJ.cg hW (ag.set0.tr ag.set0)) cf_rf (by simp [md_set, va_up]))
