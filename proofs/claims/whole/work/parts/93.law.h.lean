/-! ===== the law's helpers ===== -/
def cl9 (_ : Nat) (t : Nat) : Prop := cm t ∨ t = 90 ∨ t = 91
def c90 (_ : Nat) (t : Nat) : Prop := cm t ∨ t = 90
def c91 (_ : Nat) (t : Nat) : Prop := cm t ∨ t = 91
theorem cfo90 {M M' : sg_M} (h : sf cf M M') : sf c90 M M' := h.mono (fun a t ht => Or.inl ht)
theorem cfo91 {M M' : sg_M} (h : sf cf M M') : sf c91 M M' := h.mono (fun a t ht => Or.inl ht)
theorem c90.o {M M' : sg_M} (h : sf c90 M M') : sf cl9 M M' := h.mono (fun a t ht => ht.elim Or.inl (fun e => Or.inr (Or.inl e)))
theorem c91.o {M M' : sg_M} (h : sf c91 M M') : sf cl9 M M' := h.mono (fun a t ht => ht.elim Or.inl (fun e => Or.inr (Or.inr e)))
theorem cf9 {M M' : sg_M} (h : sf cf M M') : sf cl9 M M' := h.mono (fun a t ht => Or.inl ht)
theorem cl_r.o {G : sg_G} {M M' : sg_M} {ca pb sl so th cx nt : Nat} {N : Nat → Nat → Nat} {L : List Nat} (h : cl_r G M ca pb sl so th cx nt N) (h15 : ∀ t, N 15 t ≤ 10) (hf : sf (pk L) M M') (hL : ∀ x ∈ L, 90 ≤ x ∧ x < 130) : cl_r G M' ca pb sl so th cx nt N := by
  obtain ⟨h1, h2, h3, h4, ⟨g, t1, t2⟩, h6, h7⟩ := h
  refine ⟨hf.p h1 (fun x => by have := hL _ x; omega), h2.p hf (fun x => by have := hL _ x; omega) (fun x => by have := hL _ x; omega), h3.p hf (fun x hx => by have := hL _ hx; omega), h4.p hf (fun x hx => by have := hL _ hx; omega), ⟨g, hf.p t1 (fun x => by have := hL _ x; omega), fun t ht => ⟨(t2 t ht).1, fun e => ?_⟩⟩, h6.p hf (fun x => by have := hL _ x; omega), h7.p hf (fun x hx => by have := hL _ hx; omega)⟩
  obtain ⟨a, q1, q2⟩ := (t2 t ht).2 e
  exact ⟨a, q1, q2.p hf (h15 t) (fun x hx => by have := hL _ hx; omega)⟩
theorem lg_1 {own E n1 : String} {args : Array Value} {s : State} {pc sp ep hp ct : Nat} {t : List (Nat × Nat × Nat × Nat)} (h1 : sp ≤ pc) (h2 : pc < ep) (h3 : ct ≠ 0) (w : (Cond.classLink own ct n1).before args s = true) (hc : (Cond.castable E n1).before args s = true) : lc_go own E args s pc ((sp, ep, hp, ct) :: t) hp :=
  ⟨h1, h2, h3, n1, w, Or.inl ⟨rfl, hc⟩⟩
theorem lg_2 {own E n1 n2 : String} {args : Array Value} {s : State} {pc sp ep hp ct sp2 ep2 hp2 ct2 : Nat} {t : List (Nat × Nat × Nat × Nat)} (h1 : sp ≤ pc) (h2 : pc < ep) (h3 : ct ≠ 0) (w : (Cond.classLink own ct n1).before args s = true) (hn : va_Nc E n1 s) (g1 : sp2 ≤ pc) (g2 : pc < ep2) (g3 : ct2 ≠ 0) (w2 : (Cond.classLink own ct2 n2).before args s = true) (hc : (Cond.castable E n2).before args s = true) : lc_go own E args s pc ((sp, ep, hp, ct) :: (sp2, ep2, hp2, ct2) :: t) hp2 :=
  ⟨h1, h2, h3, n1, w, Or.inr ⟨hn, g1, g2, g3, n2, w2, Or.inl ⟨rfl, hc⟩⟩⟩

theorem upL0 {g : Nat → Int64} {x : Int64} : vp_updL g 0 x 0 = x := by simp [vp_updL]
theorem upD0 {g : Nat → UInt64} {x : UInt64} : vf_upd g 0 x 0 = x := by simp [vf_upd]
theorem va_nw_c {a b : String} {args : Array Value} {s : State} (h : va_Nw (.castable a b) s) : (Cond.castable a b).before args s = true := h
theorem idle_v {n m : Nat} (hn : n ≤ 6) (h1 : 1 ≤ m) (h2 : m ≤ 6) : vf_n64 (FP.f2d (FP.fdiv (FP.i2f (nI n)) (FP.i2f (nI m)))) ∧ Op.cmpValue (FP.dcmp (FP.f2d (FP.fdiv (FP.i2f (nI n)) (FP.i2f (nI m)))) (FP.f2d (FP.fdiv (FP.i2f (nI n)) (FP.i2f (nI m))))) .l = 0 := by
  have key : ∀ n, n < 7 → ∀ m, m < 7 → 1 ≤ m → vf_n64 (FP.f2d (FP.fdiv (FP.i2f (nI n)) (FP.i2f (nI m)))) ∧ Op.cmpValue (FP.dcmp (FP.f2d (FP.fdiv (FP.i2f (nI n)) (FP.i2f (nI m)))) (FP.f2d (FP.fdiv (FP.i2f (nI n)) (FP.i2f (nI m))))) .l = 0 := by
    unfold vf_n64
    decide +kernel
  exact key n (by omega) m (by omega) h1
theorem idle_0 : vf_n64 (FP.f2d 0) ∧ Op.cmpValue (FP.dcmp (FP.f2d 0) (FP.f2d 0)) .l = 0 := by
  unfold vf_n64
  decide +kernel
theorem ids_le {g : Nat → RQ} {n : Nat} : ids g n ≤ n := by
  unfold ids
  exact Nat.le_trans (List.length_filter_le _ _) (by simp)
theorem idle_n {G : sg_G} {M : sg_M} {ca pb sl so th cx nt : Nat} {N : Nat → Nat → Nat} {u : Int32} (hJ : cl_r G M ca pb sl so th cx nt N) (hW : WN N) (hz : (md_idle N u).2 0 0 = 0) : vf_n64 (FP.f2d (md_idle N u).1) ∧ Op.cmpValue (FP.dcmp (FP.f2d (md_idle N u).1) (FP.f2d (md_idle N u).1)) .l = 0 := by
  obtain ⟨-, -, -, ⟨go, -, hGo⟩, -⟩ := hJ
  have hGo : gso G M go N := hGo
  unfold md_idle at hz ⊢
  cases hi : md_in u (nI 0) (nI 5) with
  | false =>
    rw [hi, if_neg (by decide)] at hz
    exact absurd hz (by show ¬ md_set (md_set N 0 0 0) 0 0 1 0 0 = 0; rw [mset_eq]; decide)
  | true =>
    rw [if_pos rfl]
    have hu := (md_in_nat hi (by decide)).2
    have h12 : N 12 u.toNatClampNeg ≤ 6 := hW 12 _
    by_cases h0 : N 12 u.toNatClampNeg = 0
    · rw [if_pos (by omega), if_pos h0]; exact idle_0
    · rw [if_neg (by omega), md_idle_eq (N := md_set N 0 0 0) (s := u.toNatClampNeg) (n := N 12 u.toNatClampNeg) rfl (by omega) h12 (fun r => hW 4 r) (fun j hj => hGo.w _ _ (by omega) hj)]
      exact idle_v (Nat.le_trans ids_le h12) (by omega) h12

set_option maxHeartbeats 400000 in
set_option maxRecDepth 100000 in
theorem h_keep {l : Launch} {G : sg_G} {d : Nat} {M : sg_M} {kr : Option Value → sg_M → Prop} (htr : l.stackTraces = false) {ca pb sl so th cx nt : Nat} {N : Nat → Nat → Nat} {u : Int32} {oa : Nat} {g : Nat → Int64} (hJ : cl_r G M ca pb sl so th cx nt N) (hW : WN N) (hEv : ev G M) (hO : M oa = some (90, .inl (.long, 1, .inr (.inl g)))) (hk : ∀ M' c (g' : Nat → Int64), cl_r G M' ca pb sl so th cx nt (md_keep N u).2 → sf c90 M M' → M' oa = some (90, .inl (.long, 1, .inr (.inl g'))) → (md_keep N u).2 0 0 = c → (c = 0 → g' 0 = (nI (md_keep N u).1).toInt64) → kr (some (.int (nI c))) M') : sg_MetH l G yL_keep method_3_code 4 (some .int) [(0, 9, 12, 13)] (d + 11) 14 127 [.ref ca, .int u, .ref oa] M kr := by
  refine sg_enterH [some (.ref ca), some (.int u), some (.ref oa), none] (by decide) htr (Nat.le_of_ble_eq_true rfl) rfl ?_
  intro X hC hR
  have hC : sg_C X l G method_3_code RL 4 (d + 11) := hC
  obtain ⟨hX, -, ⟨gs, -, hGs⟩, -⟩ := id hJ
  have hGs : gpm M gs N := hGs
  refine sg_aload_n (pc := 0) (v := .ref oa) hC dL_keep_0 rfl rfl ?_
  refine sg_iconst (pc := 1) (nI 0) hC dL_keep_1 (by decide) ?_
  refine sg_aload_n (pc := 2) (v := .ref ca) hC dL_keep_2 rfl rfl ?_
  refine sg_iload_n (pc := 3) (x := u) hC dL_keep_3 rfl ?_
  refine sg_callV (pc := 4) (As := [.int u]) (rest := [.int (nI 0), .ref oa]) (mc := 14) (ms := 127) hC tw_322 tw_323 tw_324 tw_62 tw_325 yd_X6_keep (by decide) (ci := 9) rfl dL_keep_4 hX rfl (Nat.le_of_ble_eq_true rfl) (by decide) (by decide) ?_
  refine c_keep_ htr hJ hW hEv (fun M1 hj hf hz => ?_) (fun M1 hj hf hz => sg_catch (h := 12) hC hR (fun args s hts hT => lg_1 (by decide) (by decide) (by decide) (hts _ tw_321) (va_nw_c (hT.1 (.castable "java/util/NoSuchElementException" "java/util/NoSuchElementException") (by simp [sg_wk])))) (fun q => ?_))
  · have h15 : ∀ t, (md_keep N u).2 15 t ≤ 10 := fun t => (WB_keep hW.wb u) 15 t (by decide)
    have hO1 : M1 oa = some (90, .inl (.long, 1, .inr (.inl g))) := hf.k hO (by simp [cf, cm])
    refine sg_i2l (pc := 7) (x := nI (md_keep N u).1) ((nI (md_keep N u).1).toInt64) hC dL_keep_7 rfl ?_
    refine sg_last (pc := 8) (i := nI 0) (x := (nI (md_keep N u).1).toInt64) hC dL_keep_8 hO1 (by decide) (vp_in_nI (by decide) (by decide)) ?_
    rw [nI_clamp (by decide)]
    refine sg_nm (fun M2 hw => ?_)
    refine sg_goto (pc := 9) 15 hC dL_keep_9 (by decide) ?_
    refine sg_iconst (pc := 15) (nI 0) hC dL_keep_15 (by decide) ?_
    exact sg_iretH (v := nI 0) (pc := 16) hC hR dL_keep_16 (hk M2 0 _ (hj.o h15 (sf_st hw hO1) (by simp)) ((cfo90 hf).tr (sf_st hw hO1) (fun a t h => by simp [pk] at h; simp [c90, h])) hw.1 hz (fun _ => upL0))
  · refine sg_astore_n (pc := 12) (v := .ref q) hC dL_keep_12 (by decide) rfl ?_
    refine sg_iconst (pc := 13) (nI 1) hC dL_keep_13 (by decide) ?_
    exact sg_iretH (v := nI 1) (pc := 14) hC hR dL_keep_14 (hk M1 1 _ hj (cfo90 hf) (hf.k hO (by simp [cf, cm])) hz (fun h => absurd h (by decide)))

set_option maxHeartbeats 400000 in
set_option maxRecDepth 100000 in
theorem h_written {l : Launch} {G : sg_G} {d : Nat} {M : sg_M} {kr : Option Value → sg_M → Prop} (htr : l.stackTraces = false) {ca pb sl so th cx nt : Nat} {N : Nat → Nat → Nat} {u v : Int32} {oa : Nat} {g : Nat → Int64} (hJ : cl_r G M ca pb sl so th cx nt N) (hW : WN N) (hO : M oa = some (90, .inl (.long, 1, .inr (.inl g)))) (hk : ∀ M' c (g' : Nat → Int64), cl_r G M' ca pb sl so th cx nt (md_written N u v).2 → sf c90 M M' → M' oa = some (90, .inl (.long, 1, .inr (.inl g'))) → (md_written N u v).2 0 0 = c → (c = 0 → g' 0 = (md_o (md_written N u v).1).toInt64) → kr (some (.int (nI c))) M') : sg_MetH l G yL_written method_4_code 5 (some .int) [(0, 10, 13, 13)] (d + 11) 1 6 [.ref ca, .int u, .int v, .ref oa] M kr := by
  refine sg_enterH [some (.ref ca), some (.int u), some (.int v), some (.ref oa), none] (by decide) htr (Nat.le_of_ble_eq_true rfl) rfl ?_
  intro X hC hR
  have hC : sg_C X l G method_4_code RL 5 (d + 11) := hC
  obtain ⟨hX, -, ⟨gs, -, hGs⟩, -⟩ := id hJ
  have hGs : gpm M gs N := hGs
  refine sg_aload_n (pc := 0) (v := .ref oa) hC dL_written_0 rfl rfl ?_
  refine sg_iconst (pc := 1) (nI 0) hC dL_written_1 (by decide) ?_
  refine sg_aload_n (pc := 2) (v := .ref ca) hC dL_written_2 rfl rfl ?_
  refine sg_iload_n (pc := 3) (x := u) hC dL_written_3 rfl ?_
  refine sg_iload_n (pc := 4) (x := v) hC dL_written_4 rfl ?_
  refine sg_callV (pc := 5) (As := [.int u, .int v]) (rest := [.int (nI 0), .ref oa]) (mc := 1) (ms := 6) hC tw_820 tw_821 tw_822 tw_62 tw_823 yd_X6_written (by decide) (ci := 9) rfl dL_written_5 hX rfl (Nat.le_of_ble_eq_true rfl) (by decide) (by decide) ?_
  refine c_written_ htr hJ hW (fun M1 hj hf hz => ?_) (fun M1 hj hf hz => sg_catch (h := 13) hC hR (fun args s hts hT => lg_1 (by decide) (by decide) (by decide) (hts _ tw_321) (va_nw_c (hT.1 (.castable "java/util/NoSuchElementException" "java/util/NoSuchElementException") (by simp [sg_wk])))) (fun q => ?_))
  · have h15 : ∀ t, (md_written N u v).2 15 t ≤ 10 := fun t => (WB_written hW.wb hW u v (fun hsl => by obtain ⟨-, h7, h3⟩ := md_isSlot_nat hsl; exact gpm.w hGs _ (by omega) (by omega))) 15 t (by decide)
    have hO1 : M1 oa = some (90, .inl (.long, 1, .inr (.inl g))) := hf.k hO (by simp [cf, cm])
    refine sg_i2l (pc := 8) (x := md_o (md_written N u v).1) ((md_o (md_written N u v).1).toInt64) hC dL_written_8 rfl ?_
    refine sg_last (pc := 9) (i := nI 0) (x := (md_o (md_written N u v).1).toInt64) hC dL_written_9 hO1 (by decide) (vp_in_nI (by decide) (by decide)) ?_
    rw [nI_clamp (by decide)]
    refine sg_nm (fun M2 hw => ?_)
    refine sg_goto (pc := 10) 17 hC dL_written_10 (by decide) ?_
    refine sg_iconst (pc := 17) (nI 0) hC dL_written_17 (by decide) ?_
    exact sg_iretH (v := nI 0) (pc := 18) hC hR dL_written_18 (hk M2 0 _ (hj.o h15 (sf_st hw hO1) (by simp)) ((cfo90 hf).tr (sf_st hw hO1) (fun a t h => by simp [pk] at h; simp [c90, h])) hw.1 hz (fun _ => upL0))
  · refine sg_astore (pc := 13) (v := .ref q) hC dL_written_13 (by decide) rfl ?_
    refine sg_iconst (pc := 15) (nI 1) hC dL_written_15 (by decide) ?_
    exact sg_iretH (v := nI 1) (pc := 16) hC hR dL_written_16 (hk M1 1 _ hj (cfo90 hf) (hf.k hO (by simp [cf, cm])) hz (fun h => absurd h (by decide)))

set_option maxHeartbeats 400000 in
set_option maxRecDepth 100000 in
theorem h_takesIn {l : Launch} {G : sg_G} {d : Nat} {M : sg_M} {kr : Option Value → sg_M → Prop} (htr : l.stackTraces = false) {ca pb sl so th cx nt : Nat} {N : Nat → Nat → Nat} {u v : Int32} {oa : Nat} {g : Nat → Int64} (hJ : cl_r G M ca pb sl so th cx nt N) (hW : WN N) (hO : M oa = some (90, .inl (.long, 1, .inr (.inl g)))) (hk : ∀ M' c (g' : Nat → Int64), cl_r G M' ca pb sl so th cx nt (md_takesIn N u v).2 → sf c90 M M' → M' oa = some (90, .inl (.long, 1, .inr (.inl g'))) → (md_takesIn N u v).2 0 0 = c → (c = 0 → g' 0 = (if (md_takesIn N u v).1 = true then 1 else 0 : Int64)) → kr (some (.int (nI c))) M') : sg_MetH l G yL_takesIn method_5_code 5 (some .int) [(0, 17, 20, 13)] (d + 11) 2 12 [.ref ca, .int u, .int v, .ref oa] M kr := by
  refine sg_enterH [some (.ref ca), some (.int u), some (.int v), some (.ref oa), none] (by decide) htr (Nat.le_of_ble_eq_true rfl) rfl ?_
  intro X hC hR
  have hC : sg_C X l G method_5_code RL 5 (d + 11) := hC
  obtain ⟨hX, -, ⟨gs, -, hGs⟩, -⟩ := id hJ
  have hGs : gpm M gs N := hGs
  refine sg_aload_n (pc := 0) (v := .ref oa) hC dL_takesIn_0 rfl rfl ?_
  refine sg_iconst (pc := 1) (nI 0) hC dL_takesIn_1 (by decide) ?_
  refine sg_aload_n (pc := 2) (v := .ref ca) hC dL_takesIn_2 rfl rfl ?_
  refine sg_iload_n (pc := 3) (x := u) hC dL_takesIn_3 rfl ?_
  refine sg_iload_n (pc := 4) (x := v) hC dL_takesIn_4 rfl ?_
  refine sg_callV (pc := 5) (As := [.int u, .int v]) (rest := [.int (nI 0), .ref oa]) (mc := 2) (ms := 12) hC tw_833 tw_834 tw_835 tw_62 tw_836 yd_X6_takesIn (by decide) (ci := 9) rfl dL_takesIn_5 hX rfl (Nat.le_of_ble_eq_true rfl) (by decide) (by decide) ?_
  refine c_takesIn htr hJ hW (fun M1 hj hf hz => ?_) (fun M1 hj hf hz => sg_catch (h := 20) hC hR (fun args s hts hT => lg_1 (by decide) (by decide) (by decide) (hts _ tw_321) (va_nw_c (hT.1 (.castable "java/util/NoSuchElementException" "java/util/NoSuchElementException") (by simp [sg_wk])))) (fun q => ?_))
  · have h15 : ∀ t, (md_takesIn N u v).2 15 t ≤ 10 := fun t => (WB_takesIn hW.wb u v) 15 t (by decide)
    have hO1 : M1 oa = some (90, .inl (.long, 1, .inr (.inl g))) := hf.k hO (by simp [cf, cm])
    refine sg_ifB_eq (pc := 8) (b := (md_takesIn N u v).1) 15 hC dL_takesIn_8 (by decide) (fun hb => ?_) (fun hb => ?_)
    · refine sg_lconst (pc := 15) (0) hC dL_takesIn_15 (by decide) ?_
      refine sg_last (pc := 16) (i := nI 0) (x := 0) hC dL_takesIn_16 hO1 (by decide) (vp_in_nI (by decide) (by decide)) ?_
      rw [nI_clamp (by decide)]
      refine sg_nm (fun M2 hw => ?_)
      refine sg_goto (pc := 17) 24 hC dL_takesIn_17 (by decide) ?_
      refine sg_iconst (pc := 24) (nI 0) hC dL_takesIn_24 (by decide) ?_
      exact sg_iretH (v := nI 0) (pc := 25) hC hR dL_takesIn_25 (hk M2 0 _ (hj.o h15 (sf_st hw hO1) (by simp)) ((cfo90 hf).tr (sf_st hw hO1) (fun a t h => by simp [pk] at h; simp [c90, h])) hw.1 hz (fun _ => by rw [hb]; exact upL0))
    · refine sg_lconst (pc := 11) (1) hC dL_takesIn_11 (by decide) ?_
      refine sg_goto (pc := 12) 16 hC dL_takesIn_12 (by decide) ?_
      refine sg_last (pc := 16) (i := nI 0) (x := 1) hC dL_takesIn_16 hO1 (by decide) (vp_in_nI (by decide) (by decide)) ?_
      rw [nI_clamp (by decide)]
      refine sg_nm (fun M2 hw => ?_)
      refine sg_goto (pc := 17) 24 hC dL_takesIn_17 (by decide) ?_
      refine sg_iconst (pc := 24) (nI 0) hC dL_takesIn_24 (by decide) ?_
      exact sg_iretH (v := nI 0) (pc := 25) hC hR dL_takesIn_25 (hk M2 0 _ (hj.o h15 (sf_st hw hO1) (by simp)) ((cfo90 hf).tr (sf_st hw hO1) (fun a t h => by simp [pk] at h; simp [c90, h])) hw.1 hz (fun _ => by rw [hb]; exact upL0))
  · refine sg_astore (pc := 20) (v := .ref q) hC dL_takesIn_20 (by decide) rfl ?_
    refine sg_iconst (pc := 22) (nI 1) hC dL_takesIn_22 (by decide) ?_
    exact sg_iretH (v := nI 1) (pc := 23) hC hR dL_takesIn_23 (hk M1 1 _ hj (cfo90 hf) (hf.k hO (by simp [cf, cm])) hz (fun h => absurd h (by decide)))

set_option maxHeartbeats 400000 in
set_option maxRecDepth 100000 in
theorem h_grant {l : Launch} {G : sg_G} {d : Nat} {M : sg_M} {kr : Option Value → sg_M → Prop} (htr : l.stackTraces = false) {ca pb sl so th cx nt : Nat} {N : Nat → Nat → Nat} {u v : Int32} {oa : Nat} {g : Nat → Int64} (hJ : cl_r G M ca pb sl so th cx nt N) (hW : WN N) (hO : M oa = some (90, .inl (.long, 1, .inr (.inl g)))) (hk : ∀ M' c (g' : Nat → Int64), cl_r G M' ca pb sl so th cx nt (md_grant N u v).2 → sf c90 M M' → M' oa = some (90, .inl (.long, 1, .inr (.inl g'))) → (md_grant N u v).2 0 0 = c → (c = 0 → g' 0 = (nI (md_grant N u v).1).toInt64) → kr (some (.int (nI c))) M') : sg_MetH l G yL_grant method_6_code 5 (some .int) [(0, 10, 13, 13), (0, 10, 17, 26)] (d + 11) 3 22 [.ref ca, .int u, .int v, .ref oa] M kr := by
  refine sg_enterH [some (.ref ca), some (.int u), some (.int v), some (.ref oa), none] (by decide) htr (Nat.le_of_ble_eq_true rfl) rfl ?_
  intro X hC hR
  have hC : sg_C X l G method_6_code RL 5 (d + 11) := hC
  obtain ⟨hX, -, ⟨gs, -, hGs⟩, -⟩ := id hJ
  have hGs : gpm M gs N := hGs
  refine sg_aload_n (pc := 0) (v := .ref oa) hC dL_grant_0 rfl rfl ?_
  refine sg_iconst (pc := 1) (nI 0) hC dL_grant_1 (by decide) ?_
  refine sg_aload_n (pc := 2) (v := .ref ca) hC dL_grant_2 rfl rfl ?_
  refine sg_iload_n (pc := 3) (x := u) hC dL_grant_3 rfl ?_
  refine sg_iload_n (pc := 4) (x := v) hC dL_grant_4 rfl ?_
  refine sg_callV (pc := 5) (As := [.int u, .int v]) (rest := [.int (nI 0), .ref oa]) (mc := 3) (ms := 22) hC tw_859 tw_860 tw_861 tw_62 tw_862 yd_X6_grant (by decide) (ci := 9) rfl dL_grant_5 hX rfl (Nat.le_of_ble_eq_true rfl) (by decide) (by decide) ?_
  refine c_grant_ htr hJ hW (fun M1 hj hf hz => ?_) (fun M1 hj hf hz => sg_catch (h := 13) hC hR (fun args s hts hT => lg_1 (by decide) (by decide) (by decide) (hts _ tw_321) (va_nw_c (hT.1 (.castable "java/util/NoSuchElementException" "java/util/NoSuchElementException") (by simp [sg_wk])))) (fun q => ?_)) (fun M1 hj hf hz => sg_catch (h := 17) hC hR (fun args s hts hT => lg_2 (by decide) (by decide) (by decide) (hts _ tw_321) hT.2.1 (by decide) (by decide) (by decide) (hts _ tw_858) (va_nw_c (hT.1 (.castable "java/lang/IllegalStateException" "java/lang/IllegalStateException") (by simp [sg_wk])))) (fun q => ?_))
  · have h15 : ∀ t, (md_grant N u v).2 15 t ≤ 10 := fun t => (WB_grant hW.wb u v) 15 t (by decide)
    have hO1 : M1 oa = some (90, .inl (.long, 1, .inr (.inl g))) := hf.k hO (by simp [cf, cm])
    refine sg_i2l (pc := 8) (x := nI (md_grant N u v).1) ((nI (md_grant N u v).1).toInt64) hC dL_grant_8 rfl ?_
    refine sg_last (pc := 9) (i := nI 0) (x := (nI (md_grant N u v).1).toInt64) hC dL_grant_9 hO1 (by decide) (vp_in_nI (by decide) (by decide)) ?_
    rw [nI_clamp (by decide)]
    refine sg_nm (fun M2 hw => ?_)
    refine sg_goto (pc := 10) 21 hC dL_grant_10 (by decide) ?_
    refine sg_iconst (pc := 21) (nI 0) hC dL_grant_21 (by decide) ?_
    exact sg_iretH (v := nI 0) (pc := 22) hC hR dL_grant_22 (hk M2 0 _ (hj.o h15 (sf_st hw hO1) (by simp)) ((cfo90 hf).tr (sf_st hw hO1) (fun a t h => by simp [pk] at h; simp [c90, h])) hw.1 hz (fun _ => upL0))
  · refine sg_astore (pc := 13) (v := .ref q) hC dL_grant_13 (by decide) rfl ?_
    refine sg_iconst (pc := 15) (nI 1) hC dL_grant_15 (by decide) ?_
    exact sg_iretH (v := nI 1) (pc := 16) hC hR dL_grant_16 (hk M1 1 _ hj (cfo90 hf) (hf.k hO (by simp [cf, cm])) hz (fun h => absurd h (by decide)))
  · refine sg_astore (pc := 17) (v := .ref q) hC dL_grant_17 (by decide) rfl ?_
    refine sg_iconst (pc := 19) (nI 2) hC dL_grant_19 (by decide) ?_
    exact sg_iretH (v := nI 2) (pc := 20) hC hR dL_grant_20 (hk M1 2 _ hj (cfo90 hf) (hf.k hO (by simp [cf, cm])) hz (fun h => absurd h (by decide)))

set_option maxHeartbeats 400000 in
set_option maxRecDepth 100000 in
theorem h_revoke {l : Launch} {G : sg_G} {d : Nat} {M : sg_M} {kr : Option Value → sg_M → Prop} (htr : l.stackTraces = false) {ca pb sl so th cx nt : Nat} {N : Nat → Nat → Nat} {u v : Int32} {oa : Nat} {g : Nat → Int64} (hJ : cl_r G M ca pb sl so th cx nt N) (hW : WN N) (hO : M oa = some (90, .inl (.long, 1, .inr (.inl g)))) (hk : ∀ M' c (g' : Nat → Int64), cl_r G M' ca pb sl so th cx nt (md_revoke N u v).2 → sf c90 M M' → M' oa = some (90, .inl (.long, 1, .inr (.inl g'))) → (md_revoke N u v).2 0 0 = c → (c = 0 → g' 0 = (nI (md_revoke N u v).1).toInt64) → kr (some (.int (nI c))) M') : sg_MetH l G yL_revoke method_7_code 5 (some .int) [(0, 10, 13, 13), (0, 10, 17, 31)] (d + 11) 2 12 [.ref ca, .int u, .int v, .ref oa] M kr := by
  refine sg_enterH [some (.ref ca), some (.int u), some (.int v), some (.ref oa), none] (by decide) htr (Nat.le_of_ble_eq_true rfl) rfl ?_
  intro X hC hR
  have hC : sg_C X l G method_7_code RL 5 (d + 11) := hC
  obtain ⟨hX, -, ⟨gs, -, hGs⟩, -⟩ := id hJ
  have hGs : gpm M gs N := hGs
  refine sg_aload_n (pc := 0) (v := .ref oa) hC dL_revoke_0 rfl rfl ?_
  refine sg_iconst (pc := 1) (nI 0) hC dL_revoke_1 (by decide) ?_
  refine sg_aload_n (pc := 2) (v := .ref ca) hC dL_revoke_2 rfl rfl ?_
  refine sg_iload_n (pc := 3) (x := u) hC dL_revoke_3 rfl ?_
  refine sg_iload_n (pc := 4) (x := v) hC dL_revoke_4 rfl ?_
  refine sg_callV (pc := 5) (As := [.int u, .int v]) (rest := [.int (nI 0), .ref oa]) (mc := 2) (ms := 12) hC tw_936 tw_937 tw_938 tw_62 tw_939 yd_X6_revoke (by decide) (ci := 9) rfl dL_revoke_5 hX rfl (Nat.le_of_ble_eq_true rfl) (by decide) (by decide) ?_
  refine c_revoke_ htr hJ hW (fun M1 hj hf hz => ?_) (fun M1 hj hf hz => sg_catch (h := 13) hC hR (fun args s hts hT => lg_1 (by decide) (by decide) (by decide) (hts _ tw_321) (va_nw_c (hT.1 (.castable "java/util/NoSuchElementException" "java/util/NoSuchElementException") (by simp [sg_wk])))) (fun q => ?_)) (fun M1 hj hf hz => sg_catch (h := 17) hC hR (fun args s hts hT => lg_2 (by decide) (by decide) (by decide) (hts _ tw_321) hT.2.2.1 (by decide) (by decide) (by decide) (hts _ tw_935) (va_nw_c (hT.1 (.castable "java/lang/IllegalArgumentException" "java/lang/IllegalArgumentException") (by simp [sg_wk])))) (fun q => ?_))
  · have h15 : ∀ t, (md_revoke N u v).2 15 t ≤ 10 := fun t => (WB_revoke hW.wb u v) 15 t (by decide)
    have hO1 : M1 oa = some (90, .inl (.long, 1, .inr (.inl g))) := hf.k hO (by simp [cf, cm])
    refine sg_i2l (pc := 8) (x := nI (md_revoke N u v).1) ((nI (md_revoke N u v).1).toInt64) hC dL_revoke_8 rfl ?_
    refine sg_last (pc := 9) (i := nI 0) (x := (nI (md_revoke N u v).1).toInt64) hC dL_revoke_9 hO1 (by decide) (vp_in_nI (by decide) (by decide)) ?_
    rw [nI_clamp (by decide)]
    refine sg_nm (fun M2 hw => ?_)
    refine sg_goto (pc := 10) 21 hC dL_revoke_10 (by decide) ?_
    refine sg_iconst (pc := 21) (nI 0) hC dL_revoke_21 (by decide) ?_
    exact sg_iretH (v := nI 0) (pc := 22) hC hR dL_revoke_22 (hk M2 0 _ (hj.o h15 (sf_st hw hO1) (by simp)) ((cfo90 hf).tr (sf_st hw hO1) (fun a t h => by simp [pk] at h; simp [c90, h])) hw.1 hz (fun _ => upL0))
  · refine sg_astore (pc := 13) (v := .ref q) hC dL_revoke_13 (by decide) rfl ?_
    refine sg_iconst (pc := 15) (nI 1) hC dL_revoke_15 (by decide) ?_
    exact sg_iretH (v := nI 1) (pc := 16) hC hR dL_revoke_16 (hk M1 1 _ hj (cfo90 hf) (hf.k hO (by simp [cf, cm])) hz (fun h => absurd h (by decide)))
  · refine sg_astore (pc := 17) (v := .ref q) hC dL_revoke_17 (by decide) rfl ?_
    refine sg_iconst (pc := 19) (nI 2) hC dL_revoke_19 (by decide) ?_
    exact sg_iretH (v := nI 2) (pc := 20) hC hR dL_revoke_20 (hk M1 2 _ hj (cfo90 hf) (hf.k hO (by simp [cf, cm])) hz (fun h => absurd h (by decide)))

set_option maxHeartbeats 400000 in
set_option maxRecDepth 100000 in
theorem h_may {l : Launch} {G : sg_G} {d : Nat} {M : sg_M} {kr : Option Value → sg_M → Prop} (htr : l.stackTraces = false) {ca pb sl so th cx nt : Nat} {N : Nat → Nat → Nat} {u v : Int32} {oa : Nat} {g : Nat → Int64} (hJ : cl_r G M ca pb sl so th cx nt N) (hW : WN N) (hO : M oa = some (90, .inl (.long, 1, .inr (.inl g)))) (hk : ∀ M' c (g' : Nat → Int64), cl_r G M' ca pb sl so th cx nt (md_may N u v).2 → sf c90 M M' → M' oa = some (90, .inl (.long, 1, .inr (.inl g'))) → (md_may N u v).2 0 0 = c → (c = 0 → g' 0 = (if (md_may N u v).1 = true then 1 else 0 : Int64)) → kr (some (.int (nI c))) M') : sg_MetH l G yL_may method_8_code 5 (some .int) [(0, 17, 20, 13)] (d + 11) 2 12 [.ref ca, .int u, .int v, .ref oa] M kr := by
  refine sg_enterH [some (.ref ca), some (.int u), some (.int v), some (.ref oa), none] (by decide) htr (Nat.le_of_ble_eq_true rfl) rfl ?_
  intro X hC hR
  have hC : sg_C X l G method_8_code RL 5 (d + 11) := hC
  obtain ⟨hX, -, ⟨gs, -, hGs⟩, -⟩ := id hJ
  have hGs : gpm M gs N := hGs
  refine sg_aload_n (pc := 0) (v := .ref oa) hC dL_may_0 rfl rfl ?_
  refine sg_iconst (pc := 1) (nI 0) hC dL_may_1 (by decide) ?_
  refine sg_aload_n (pc := 2) (v := .ref ca) hC dL_may_2 rfl rfl ?_
  refine sg_iload_n (pc := 3) (x := u) hC dL_may_3 rfl ?_
  refine sg_iload_n (pc := 4) (x := v) hC dL_may_4 rfl ?_
  refine sg_callV (pc := 5) (As := [.int u, .int v]) (rest := [.int (nI 0), .ref oa]) (mc := 2) (ms := 12) hC tw_961 tw_962 tw_963 tw_62 tw_964 yd_X6_may (by decide) (ci := 9) rfl dL_may_5 hX rfl (Nat.le_of_ble_eq_true rfl) (by decide) (by decide) ?_
  refine c_may htr hJ hW (fun M1 hj hf hz => ?_) (fun M1 hj hf hz => sg_catch (h := 20) hC hR (fun args s hts hT => lg_1 (by decide) (by decide) (by decide) (hts _ tw_321) (va_nw_c (hT.1 (.castable "java/util/NoSuchElementException" "java/util/NoSuchElementException") (by simp [sg_wk])))) (fun q => ?_))
  · have h15 : ∀ t, (md_may N u v).2 15 t ≤ 10 := fun t => (WB_may hW.wb u v) 15 t (by decide)
    have hO1 : M1 oa = some (90, .inl (.long, 1, .inr (.inl g))) := hf.k hO (by simp [cf, cm])
    refine sg_ifB_eq (pc := 8) (b := (md_may N u v).1) 15 hC dL_may_8 (by decide) (fun hb => ?_) (fun hb => ?_)
    · refine sg_lconst (pc := 15) (0) hC dL_may_15 (by decide) ?_
      refine sg_last (pc := 16) (i := nI 0) (x := 0) hC dL_may_16 hO1 (by decide) (vp_in_nI (by decide) (by decide)) ?_
      rw [nI_clamp (by decide)]
      refine sg_nm (fun M2 hw => ?_)
      refine sg_goto (pc := 17) 24 hC dL_may_17 (by decide) ?_
      refine sg_iconst (pc := 24) (nI 0) hC dL_may_24 (by decide) ?_
      exact sg_iretH (v := nI 0) (pc := 25) hC hR dL_may_25 (hk M2 0 _ (hj.o h15 (sf_st hw hO1) (by simp)) ((cfo90 hf).tr (sf_st hw hO1) (fun a t h => by simp [pk] at h; simp [c90, h])) hw.1 hz (fun _ => by rw [hb]; exact upL0))
    · refine sg_lconst (pc := 11) (1) hC dL_may_11 (by decide) ?_
      refine sg_goto (pc := 12) 16 hC dL_may_12 (by decide) ?_
      refine sg_last (pc := 16) (i := nI 0) (x := 1) hC dL_may_16 hO1 (by decide) (vp_in_nI (by decide) (by decide)) ?_
      rw [nI_clamp (by decide)]
      refine sg_nm (fun M2 hw => ?_)
      refine sg_goto (pc := 17) 24 hC dL_may_17 (by decide) ?_
      refine sg_iconst (pc := 24) (nI 0) hC dL_may_24 (by decide) ?_
      exact sg_iretH (v := nI 0) (pc := 25) hC hR dL_may_25 (hk M2 0 _ (hj.o h15 (sf_st hw hO1) (by simp)) ((cfo90 hf).tr (sf_st hw hO1) (fun a t h => by simp [pk] at h; simp [c90, h])) hw.1 hz (fun _ => by rw [hb]; exact upL0))
  · refine sg_astore (pc := 20) (v := .ref q) hC dL_may_20 (by decide) rfl ?_
    refine sg_iconst (pc := 22) (nI 1) hC dL_may_22 (by decide) ?_
    exact sg_iretH (v := nI 1) (pc := 23) hC hR dL_may_23 (hk M1 1 _ hj (cfo90 hf) (hf.k hO (by simp [cf, cm])) hz (fun h => absurd h (by decide)))

set_option maxHeartbeats 400000 in
set_option maxRecDepth 100000 in
theorem h_enter {l : Launch} {G : sg_G} {d : Nat} {M : sg_M} {kr : Option Value → sg_M → Prop} (htr : l.stackTraces = false) {ca pb sl so th cx nt : Nat} {N : Nat → Nat → Nat} {u v : Int32} {oa : Nat} {g : Nat → Int64} (hJ : cl_r G M ca pb sl so th cx nt N) (hW : WN N) (hO : M oa = some (90, .inl (.long, 1, .inr (.inl g)))) (hk : ∀ M' c (g' : Nat → Int64), cl_r G M' ca pb sl so th cx nt (md_enter N u v).2 → sf c90 M M' → M' oa = some (90, .inl (.long, 1, .inr (.inl g'))) → (md_enter N u v).2 0 0 = c → (c = 0 → g' 0 = (nI (md_enter N u v).1).toInt64) → kr (some (.int (nI c))) M') : sg_MetH l G yL_enter method_9_code 5 (some .int) [(0, 10, 13, 13), (0, 10, 17, 26)] (d + 11) 4 26 [.ref ca, .int u, .int v, .ref oa] M kr := by
  refine sg_enterH [some (.ref ca), some (.int u), some (.int v), some (.ref oa), none] (by decide) htr (Nat.le_of_ble_eq_true rfl) rfl ?_
  intro X hC hR
  have hC : sg_C X l G method_9_code RL 5 (d + 11) := hC
  obtain ⟨hX, -, ⟨gs, -, hGs⟩, -⟩ := id hJ
  have hGs : gpm M gs N := hGs
  refine sg_aload_n (pc := 0) (v := .ref oa) hC dL_enter_0 rfl rfl ?_
  refine sg_iconst (pc := 1) (nI 0) hC dL_enter_1 (by decide) ?_
  refine sg_aload_n (pc := 2) (v := .ref ca) hC dL_enter_2 rfl rfl ?_
  refine sg_iload_n (pc := 3) (x := u) hC dL_enter_3 rfl ?_
  refine sg_iload_n (pc := 4) (x := v) hC dL_enter_4 rfl ?_
  refine sg_callV (pc := 5) (As := [.int u, .int v]) (rest := [.int (nI 0), .ref oa]) (mc := 4) (ms := 26) hC tw_984 tw_985 tw_986 tw_62 tw_987 yd_X6_enter (by decide) (ci := 9) rfl dL_enter_5 hX rfl (Nat.le_of_ble_eq_true rfl) (by decide) (by decide) ?_
  refine c_enter_ htr hJ hW (fun M1 hj hf hz => ?_) (fun M1 hj hf hz => sg_catch (h := 13) hC hR (fun args s hts hT => lg_1 (by decide) (by decide) (by decide) (hts _ tw_321) (va_nw_c (hT.1 (.castable "java/util/NoSuchElementException" "java/util/NoSuchElementException") (by simp [sg_wk])))) (fun q => ?_)) (fun M1 hj hf hz => sg_catch (h := 17) hC hR (fun args s hts hT => lg_2 (by decide) (by decide) (by decide) (hts _ tw_321) hT.2.1 (by decide) (by decide) (by decide) (hts _ tw_858) (va_nw_c (hT.1 (.castable "java/lang/IllegalStateException" "java/lang/IllegalStateException") (by simp [sg_wk])))) (fun q => ?_))
  · have h15 : ∀ t, (md_enter N u v).2 15 t ≤ 10 := fun t => (WB_enter hW.wb u v) 15 t (by decide)
    have hO1 : M1 oa = some (90, .inl (.long, 1, .inr (.inl g))) := hf.k hO (by simp [cf, cm])
    refine sg_i2l (pc := 8) (x := nI (md_enter N u v).1) ((nI (md_enter N u v).1).toInt64) hC dL_enter_8 rfl ?_
    refine sg_last (pc := 9) (i := nI 0) (x := (nI (md_enter N u v).1).toInt64) hC dL_enter_9 hO1 (by decide) (vp_in_nI (by decide) (by decide)) ?_
    rw [nI_clamp (by decide)]
    refine sg_nm (fun M2 hw => ?_)
    refine sg_goto (pc := 10) 21 hC dL_enter_10 (by decide) ?_
    refine sg_iconst (pc := 21) (nI 0) hC dL_enter_21 (by decide) ?_
    exact sg_iretH (v := nI 0) (pc := 22) hC hR dL_enter_22 (hk M2 0 _ (hj.o h15 (sf_st hw hO1) (by simp)) ((cfo90 hf).tr (sf_st hw hO1) (fun a t h => by simp [pk] at h; simp [c90, h])) hw.1 hz (fun _ => upL0))
  · refine sg_astore (pc := 13) (v := .ref q) hC dL_enter_13 (by decide) rfl ?_
    refine sg_iconst (pc := 15) (nI 1) hC dL_enter_15 (by decide) ?_
    exact sg_iretH (v := nI 1) (pc := 16) hC hR dL_enter_16 (hk M1 1 _ hj (cfo90 hf) (hf.k hO (by simp [cf, cm])) hz (fun h => absurd h (by decide)))
  · refine sg_astore (pc := 17) (v := .ref q) hC dL_enter_17 (by decide) rfl ?_
    refine sg_iconst (pc := 19) (nI 2) hC dL_enter_19 (by decide) ?_
    exact sg_iretH (v := nI 2) (pc := 20) hC hR dL_enter_20 (hk M1 2 _ hj (cfo90 hf) (hf.k hO (by simp [cf, cm])) hz (fun h => absurd h (by decide)))

set_option maxHeartbeats 400000 in
set_option maxRecDepth 100000 in
theorem h_leave {l : Launch} {G : sg_G} {d : Nat} {M : sg_M} {kr : Option Value → sg_M → Prop} (htr : l.stackTraces = false) {ca pb sl so th cx nt : Nat} {N : Nat → Nat → Nat} {u : Int32} {oa : Nat} {g : Nat → Int64} (hJ : cl_r G M ca pb sl so th cx nt N) (hW : WN N) (hO : M oa = some (90, .inl (.long, 1, .inr (.inl g)))) (hk : ∀ M' c (g' : Nat → Int64), cl_r G M' ca pb sl so th cx nt (md_leave N u).2 → sf c90 M M' → M' oa = some (90, .inl (.long, 1, .inr (.inl g'))) → (md_leave N u).2 0 0 = c → (c = 0 → g' 0 = (nI (md_leave N u).1).toInt64) → kr (some (.int (nI c))) M') : sg_MetH l G yL_leave method_10_code 4 (some .int) [(0, 9, 12, 13), (0, 9, 15, 26)] (d + 11) 2 12 [.ref ca, .int u, .ref oa] M kr := by
  refine sg_enterH [some (.ref ca), some (.int u), some (.ref oa), none] (by decide) htr (Nat.le_of_ble_eq_true rfl) rfl ?_
  intro X hC hR
  have hC : sg_C X l G method_10_code RL 4 (d + 11) := hC
  obtain ⟨hX, -, ⟨gs, -, hGs⟩, -⟩ := id hJ
  have hGs : gpm M gs N := hGs
  refine sg_aload_n (pc := 0) (v := .ref oa) hC dL_leave_0 rfl rfl ?_
  refine sg_iconst (pc := 1) (nI 0) hC dL_leave_1 (by decide) ?_
  refine sg_aload_n (pc := 2) (v := .ref ca) hC dL_leave_2 rfl rfl ?_
  refine sg_iload_n (pc := 3) (x := u) hC dL_leave_3 rfl ?_
  refine sg_callV (pc := 4) (As := [.int u]) (rest := [.int (nI 0), .ref oa]) (mc := 2) (ms := 12) hC tw_1017 tw_1018 tw_1019 tw_62 tw_1020 yd_X6_leave (by decide) (ci := 9) rfl dL_leave_4 hX rfl (Nat.le_of_ble_eq_true rfl) (by decide) (by decide) ?_
  refine c_leave_ htr hJ hW (fun M1 hj hf hz => ?_) (fun M1 hj hf hz => sg_catch (h := 12) hC hR (fun args s hts hT => lg_1 (by decide) (by decide) (by decide) (hts _ tw_321) (va_nw_c (hT.1 (.castable "java/util/NoSuchElementException" "java/util/NoSuchElementException") (by simp [sg_wk])))) (fun q => ?_)) (fun M1 hj hf hz => sg_catch (h := 15) hC hR (fun args s hts hT => lg_2 (by decide) (by decide) (by decide) (hts _ tw_321) hT.2.1 (by decide) (by decide) (by decide) (hts _ tw_858) (va_nw_c (hT.1 (.castable "java/lang/IllegalStateException" "java/lang/IllegalStateException") (by simp [sg_wk])))) (fun q => ?_))
  · have h15 : ∀ t, (md_leave N u).2 15 t ≤ 10 := fun t => (WB_leave hW.wb u) 15 t (by decide)
    have hO1 : M1 oa = some (90, .inl (.long, 1, .inr (.inl g))) := hf.k hO (by simp [cf, cm])
    refine sg_i2l (pc := 7) (x := nI (md_leave N u).1) ((nI (md_leave N u).1).toInt64) hC dL_leave_7 rfl ?_
    refine sg_last (pc := 8) (i := nI 0) (x := (nI (md_leave N u).1).toInt64) hC dL_leave_8 hO1 (by decide) (vp_in_nI (by decide) (by decide)) ?_
    rw [nI_clamp (by decide)]
    refine sg_nm (fun M2 hw => ?_)
    refine sg_goto (pc := 9) 18 hC dL_leave_9 (by decide) ?_
    refine sg_iconst (pc := 18) (nI 0) hC dL_leave_18 (by decide) ?_
    exact sg_iretH (v := nI 0) (pc := 19) hC hR dL_leave_19 (hk M2 0 _ (hj.o h15 (sf_st hw hO1) (by simp)) ((cfo90 hf).tr (sf_st hw hO1) (fun a t h => by simp [pk] at h; simp [c90, h])) hw.1 hz (fun _ => upL0))
  · refine sg_astore_n (pc := 12) (v := .ref q) hC dL_leave_12 (by decide) rfl ?_
    refine sg_iconst (pc := 13) (nI 1) hC dL_leave_13 (by decide) ?_
    exact sg_iretH (v := nI 1) (pc := 14) hC hR dL_leave_14 (hk M1 1 _ hj (cfo90 hf) (hf.k hO (by simp [cf, cm])) hz (fun h => absurd h (by decide)))
  · refine sg_astore_n (pc := 15) (v := .ref q) hC dL_leave_15 (by decide) rfl ?_
    refine sg_iconst (pc := 16) (nI 2) hC dL_leave_16 (by decide) ?_
    exact sg_iretH (v := nI 2) (pc := 17) hC hR dL_leave_17 (hk M1 2 _ hj (cfo90 hf) (hf.k hO (by simp [cf, cm])) hz (fun h => absurd h (by decide)))

set_option maxHeartbeats 400000 in
set_option maxRecDepth 100000 in
theorem h_guard {l : Launch} {G : sg_G} {d : Nat} {M : sg_M} {kr : Option Value → sg_M → Prop} (htr : l.stackTraces = false) {ca pb sl so th cx nt : Nat} {N : Nat → Nat → Nat} {u v w : Int32} (hJ : cl_r G M ca pb sl so th cx nt N) (hW : WN N) (hk : ∀ M' c, cl_r G M' ca pb sl so th cx nt (md_guard N u v w) → sf cf M M' → (md_guard N u v w) 0 0 = c → kr (some (.int (nI c))) M') : sg_MetH l G yL_guard method_11_code 5 (some .int) [(0, 7, 10, 13), (0, 7, 14, 26)] (d + 11) 4 24 [.ref ca, .int u, .int v, .int w] M kr := by
  refine sg_enterH [some (.ref ca), some (.int u), some (.int v), some (.int w), none] (by decide) htr (Nat.le_of_ble_eq_true rfl) rfl ?_
  intro X hC hR
  have hC : sg_C X l G method_11_code RL 5 (d + 11) := hC
  obtain ⟨hX, -, ⟨gs, -, hGs⟩, -⟩ := id hJ
  have hGs : gpm M gs N := hGs
  refine sg_aload_n (pc := 0) (v := .ref ca) hC dL_guard_0 rfl rfl ?_
  refine sg_iload_n (pc := 1) (x := u) hC dL_guard_1 rfl ?_
  refine sg_iload_n (pc := 2) (x := v) hC dL_guard_2 rfl ?_
  refine sg_iload_n (pc := 3) (x := w) hC dL_guard_3 rfl ?_
  refine sg_callV (pc := 4) (As := [.int u, .int v, .int w]) (rest := []) (mc := 4) (ms := 24) hC tw_1029 tw_1030 tw_1031 tw_62 tw_1032 yd_X6_guard (by decide) (ci := 9) rfl dL_guard_4 hX rfl (Nat.le_of_ble_eq_true rfl) (by decide) (by decide) ?_
  refine c_guard_ htr hJ hW (fun M1 hj hf hz => ?_) (fun M1 hj hf hz => sg_catch (h := 10) hC hR (fun args s hts hT => lg_1 (by decide) (by decide) (by decide) (hts _ tw_321) (va_nw_c (hT.1 (.castable "java/util/NoSuchElementException" "java/util/NoSuchElementException") (by simp [sg_wk])))) (fun q => ?_)) (fun M1 hj hf hz => sg_catch (h := 14) hC hR (fun args s hts hT => lg_2 (by decide) (by decide) (by decide) (hts _ tw_321) hT.2.1 (by decide) (by decide) (by decide) (hts _ tw_858) (va_nw_c (hT.1 (.castable "java/lang/IllegalStateException" "java/lang/IllegalStateException") (by simp [sg_wk])))) (fun q => ?_))
  · refine sg_goto (pc := 7) 18 hC dL_guard_7 (by decide) ?_
    refine sg_iconst (pc := 18) (nI 0) hC dL_guard_18 (by decide) ?_
    exact sg_iretH (v := nI 0) (pc := 19) hC hR dL_guard_19 (hk M1 0 hj hf hz)
  · refine sg_astore (pc := 10) (v := .ref q) hC dL_guard_10 (by decide) rfl ?_
    refine sg_iconst (pc := 12) (nI 1) hC dL_guard_12 (by decide) ?_
    exact sg_iretH (v := nI 1) (pc := 13) hC hR dL_guard_13 (hk M1 1 hj hf hz)
  · refine sg_astore (pc := 14) (v := .ref q) hC dL_guard_14 (by decide) rfl ?_
    refine sg_iconst (pc := 16) (nI 2) hC dL_guard_16 (by decide) ?_
    exact sg_iretH (v := nI 2) (pc := 17) hC hR dL_guard_17 (hk M1 2 hj hf hz)

set_option maxHeartbeats 400000 in
set_option maxRecDepth 100000 in
theorem h_walk {l : Launch} {G : sg_G} {d : Nat} {M : sg_M} {kr : Option Value → sg_M → Prop} (htr : l.stackTraces = false) {ca pb sl so th cx nt : Nat} {N : Nat → Nat → Nat} {u v : Int32} {oa : Nat} {g : Nat → Int64} (hJ : cl_r G M ca pb sl so th cx nt N) (hW : WN N) (hO : M oa = some (90, .inl (.long, 1, .inr (.inl g)))) (hk : ∀ M' c (g' : Nat → Int64), cl_r G M' ca pb sl so th cx nt (md_walk N u v).2 → sf c90 M M' → M' oa = some (90, .inl (.long, 1, .inr (.inl g'))) → (md_walk N u v).2 0 0 = c → (c = 0 → g' 0 = (nI (md_walk N u v).1).toInt64) → kr (some (.int (nI c))) M') : sg_MetH l G yL_walk method_12_code 5 (some .int) [(0, 10, 13, 13)] (d + 11) 2 12 [.ref ca, .int u, .int v, .ref oa] M kr := by
  refine sg_enterH [some (.ref ca), some (.int u), some (.int v), some (.ref oa), none] (by decide) htr (Nat.le_of_ble_eq_true rfl) rfl ?_
  intro X hC hR
  have hC : sg_C X l G method_12_code RL 5 (d + 11) := hC
  obtain ⟨hX, -, ⟨gs, -, hGs⟩, -⟩ := id hJ
  have hGs : gpm M gs N := hGs
  refine sg_aload_n (pc := 0) (v := .ref oa) hC dL_walk_0 rfl rfl ?_
  refine sg_iconst (pc := 1) (nI 0) hC dL_walk_1 (by decide) ?_
  refine sg_aload_n (pc := 2) (v := .ref ca) hC dL_walk_2 rfl rfl ?_
  refine sg_iload_n (pc := 3) (x := u) hC dL_walk_3 rfl ?_
  refine sg_iload_n (pc := 4) (x := v) hC dL_walk_4 rfl ?_
  refine sg_callV (pc := 5) (As := [.int u, .int v]) (rest := [.int (nI 0), .ref oa]) (mc := 2) (ms := 12) hC tw_1052 tw_1053 tw_1054 tw_62 tw_1055 yd_X6_walk (by decide) (ci := 9) rfl dL_walk_5 hX rfl (Nat.le_of_ble_eq_true rfl) (by decide) (by decide) ?_
  refine c_walk_ htr hJ hW (fun M1 hj hf hz => ?_) (fun M1 hj hf hz => sg_catch (h := 13) hC hR (fun args s hts hT => lg_1 (by decide) (by decide) (by decide) (hts _ tw_321) (va_nw_c (hT.1 (.castable "java/util/NoSuchElementException" "java/util/NoSuchElementException") (by simp [sg_wk])))) (fun q => ?_))
  · have h15 : ∀ t, (md_walk N u v).2 15 t ≤ 10 := fun t => (WB_walk hW.wb u v) 15 t (by decide)
    have hO1 : M1 oa = some (90, .inl (.long, 1, .inr (.inl g))) := hf.k hO (by simp [cf, cm])
    refine sg_i2l (pc := 8) (x := nI (md_walk N u v).1) ((nI (md_walk N u v).1).toInt64) hC dL_walk_8 rfl ?_
    refine sg_last (pc := 9) (i := nI 0) (x := (nI (md_walk N u v).1).toInt64) hC dL_walk_9 hO1 (by decide) (vp_in_nI (by decide) (by decide)) ?_
    rw [nI_clamp (by decide)]
    refine sg_nm (fun M2 hw => ?_)
    refine sg_goto (pc := 10) 17 hC dL_walk_10 (by decide) ?_
    refine sg_iconst (pc := 17) (nI 0) hC dL_walk_17 (by decide) ?_
    exact sg_iretH (v := nI 0) (pc := 18) hC hR dL_walk_18 (hk M2 0 _ (hj.o h15 (sf_st hw hO1) (by simp)) ((cfo90 hf).tr (sf_st hw hO1) (fun a t h => by simp [pk] at h; simp [c90, h])) hw.1 hz (fun _ => upL0))
  · refine sg_astore (pc := 13) (v := .ref q) hC dL_walk_13 (by decide) rfl ?_
    refine sg_iconst (pc := 15) (nI 1) hC dL_walk_15 (by decide) ?_
    exact sg_iretH (v := nI 1) (pc := 16) hC hR dL_walk_16 (hk M1 1 _ hj (cfo90 hf) (hf.k hO (by simp [cf, cm])) hz (fun h => absurd h (by decide)))

set_option maxHeartbeats 400000 in
set_option maxRecDepth 100000 in
theorem h_capture {l : Launch} {G : sg_G} {d : Nat} {M : sg_M} {kr : Option Value → sg_M → Prop} (htr : l.stackTraces = false) {ca pb sl so th cx nt : Nat} {N : Nat → Nat → Nat} {u : Int32} {oa : Nat} {g : Nat → Int64} (hJ : cl_r G M ca pb sl so th cx nt N) (hW : WN N) (hO : M oa = some (90, .inl (.long, 1, .inr (.inl g)))) (hk : ∀ M' c (g' : Nat → Int64), cl_r G M' ca pb sl so th cx nt (md_capture N u).2 → sf c90 M M' → M' oa = some (90, .inl (.long, 1, .inr (.inl g'))) → (md_capture N u).2 0 0 = c → (c = 0 → g' 0 = (nI (md_capture N u).1).toInt64) → kr (some (.int (nI c))) M') : sg_MetH l G yL_capture method_13_code 4 (some .int) [(0, 9, 12, 13), (0, 9, 15, 26)] (d + 11) 2 12 [.ref ca, .int u, .ref oa] M kr := by
  refine sg_enterH [some (.ref ca), some (.int u), some (.ref oa), none] (by decide) htr (Nat.le_of_ble_eq_true rfl) rfl ?_
  intro X hC hR
  have hC : sg_C X l G method_13_code RL 4 (d + 11) := hC
  obtain ⟨hX, -, ⟨gs, -, hGs⟩, -⟩ := id hJ
  have hGs : gpm M gs N := hGs
  refine sg_aload_n (pc := 0) (v := .ref oa) hC dL_capture_0 rfl rfl ?_
  refine sg_iconst (pc := 1) (nI 0) hC dL_capture_1 (by decide) ?_
  refine sg_aload_n (pc := 2) (v := .ref ca) hC dL_capture_2 rfl rfl ?_
  refine sg_iload_n (pc := 3) (x := u) hC dL_capture_3 rfl ?_
  refine sg_callV (pc := 4) (As := [.int u]) (rest := [.int (nI 0), .ref oa]) (mc := 2) (ms := 12) hC tw_1071 tw_1072 tw_1073 tw_62 tw_1074 yd_X6_capture (by decide) (ci := 9) rfl dL_capture_4 hX rfl (Nat.le_of_ble_eq_true rfl) (by decide) (by decide) ?_
  refine c_capture_ htr hJ hW (fun M1 hj hf hz => ?_) (fun M1 hj hf hz => sg_catch (h := 12) hC hR (fun args s hts hT => lg_1 (by decide) (by decide) (by decide) (hts _ tw_321) (va_nw_c (hT.1 (.castable "java/util/NoSuchElementException" "java/util/NoSuchElementException") (by simp [sg_wk])))) (fun q => ?_)) (fun M1 hj hf hz => sg_catch (h := 15) hC hR (fun args s hts hT => lg_2 (by decide) (by decide) (by decide) (hts _ tw_321) hT.2.1 (by decide) (by decide) (by decide) (hts _ tw_858) (va_nw_c (hT.1 (.castable "java/lang/IllegalStateException" "java/lang/IllegalStateException") (by simp [sg_wk])))) (fun q => ?_))
  · have h15 : ∀ t, (md_capture N u).2 15 t ≤ 10 := fun t => (WB_capture hW.wb hW u) 15 t (by decide)
    have hO1 : M1 oa = some (90, .inl (.long, 1, .inr (.inl g))) := hf.k hO (by simp [cf, cm])
    refine sg_i2l (pc := 7) (x := nI (md_capture N u).1) ((nI (md_capture N u).1).toInt64) hC dL_capture_7 rfl ?_
    refine sg_last (pc := 8) (i := nI 0) (x := (nI (md_capture N u).1).toInt64) hC dL_capture_8 hO1 (by decide) (vp_in_nI (by decide) (by decide)) ?_
    rw [nI_clamp (by decide)]
    refine sg_nm (fun M2 hw => ?_)
    refine sg_goto (pc := 9) 18 hC dL_capture_9 (by decide) ?_
    refine sg_iconst (pc := 18) (nI 0) hC dL_capture_18 (by decide) ?_
    exact sg_iretH (v := nI 0) (pc := 19) hC hR dL_capture_19 (hk M2 0 _ (hj.o h15 (sf_st hw hO1) (by simp)) ((cfo90 hf).tr (sf_st hw hO1) (fun a t h => by simp [pk] at h; simp [c90, h])) hw.1 hz (fun _ => upL0))
  · refine sg_astore_n (pc := 12) (v := .ref q) hC dL_capture_12 (by decide) rfl ?_
    refine sg_iconst (pc := 13) (nI 1) hC dL_capture_13 (by decide) ?_
    exact sg_iretH (v := nI 1) (pc := 14) hC hR dL_capture_14 (hk M1 1 _ hj (cfo90 hf) (hf.k hO (by simp [cf, cm])) hz (fun h => absurd h (by decide)))
  · refine sg_astore_n (pc := 15) (v := .ref q) hC dL_capture_15 (by decide) rfl ?_
    refine sg_iconst (pc := 16) (nI 2) hC dL_capture_16 (by decide) ?_
    exact sg_iretH (v := nI 2) (pc := 17) hC hR dL_capture_17 (hk M1 2 _ hj (cfo90 hf) (hf.k hO (by simp [cf, cm])) hz (fun h => absurd h (by decide)))

set_option maxHeartbeats 400000 in
set_option maxRecDepth 100000 in
theorem h_combine {l : Launch} {G : sg_G} {d : Nat} {M : sg_M} {kr : Option Value → sg_M → Prop} (htr : l.stackTraces = false) {ca pb sl so th cx nt : Nat} {N : Nat → Nat → Nat} {u v : Int32} {oa : Nat} {g : Nat → Int64} (hJ : cl_r G M ca pb sl so th cx nt N) (hW : WN N) (hO : M oa = some (90, .inl (.long, 1, .inr (.inl g)))) (hk : ∀ M' c (g' : Nat → Int64), cl_r G M' ca pb sl so th cx nt (md_combine N u v).2 → sf c90 M M' → M' oa = some (90, .inl (.long, 1, .inr (.inl g'))) → (md_combine N u v).2 0 0 = c → (c = 0 → g' 0 = (nI (md_combine N u v).1).toInt64) → kr (some (.int (nI c))) M') : sg_MetH l G yL_combine method_14_code 5 (some .int) [(0, 10, 13, 13), (0, 10, 17, 31)] (d + 11) 3 18 [.ref ca, .int u, .int v, .ref oa] M kr := by
  refine sg_enterH [some (.ref ca), some (.int u), some (.int v), some (.ref oa), none] (by decide) htr (Nat.le_of_ble_eq_true rfl) rfl ?_
  intro X hC hR
  have hC : sg_C X l G method_14_code RL 5 (d + 11) := hC
  obtain ⟨hX, -, ⟨gs, -, hGs⟩, -⟩ := id hJ
  have hGs : gpm M gs N := hGs
  refine sg_aload_n (pc := 0) (v := .ref oa) hC dL_combine_0 rfl rfl ?_
  refine sg_iconst (pc := 1) (nI 0) hC dL_combine_1 (by decide) ?_
  refine sg_aload_n (pc := 2) (v := .ref ca) hC dL_combine_2 rfl rfl ?_
  refine sg_iload_n (pc := 3) (x := u) hC dL_combine_3 rfl ?_
  refine sg_iload_n (pc := 4) (x := v) hC dL_combine_4 rfl ?_
  refine sg_callV (pc := 5) (As := [.int u, .int v]) (rest := [.int (nI 0), .ref oa]) (mc := 3) (ms := 18) hC tw_1082 tw_1083 tw_1084 tw_62 tw_1085 yd_X6_combine (by decide) (ci := 9) rfl dL_combine_5 hX rfl (Nat.le_of_ble_eq_true rfl) (by decide) (by decide) ?_
  refine c_combine_ htr hJ hW (fun M1 hj hf hz => ?_) (fun M1 hj hf hz => sg_catch (h := 13) hC hR (fun args s hts hT => lg_1 (by decide) (by decide) (by decide) (hts _ tw_321) (va_nw_c (hT.1 (.castable "java/util/NoSuchElementException" "java/util/NoSuchElementException") (by simp [sg_wk])))) (fun q => ?_)) (fun M1 hj hf hz => sg_catch (h := 17) hC hR (fun args s hts hT => lg_2 (by decide) (by decide) (by decide) (hts _ tw_321) hT.2.2.1 (by decide) (by decide) (by decide) (hts _ tw_935) (va_nw_c (hT.1 (.castable "java/lang/IllegalArgumentException" "java/lang/IllegalArgumentException") (by simp [sg_wk])))) (fun q => ?_))
  · have h15 : ∀ t, (md_combine N u v).2 15 t ≤ 10 := fun t => (WB_combine hW.wb u v) 15 t (by decide)
    have hO1 : M1 oa = some (90, .inl (.long, 1, .inr (.inl g))) := hf.k hO (by simp [cf, cm])
    refine sg_i2l (pc := 8) (x := nI (md_combine N u v).1) ((nI (md_combine N u v).1).toInt64) hC dL_combine_8 rfl ?_
    refine sg_last (pc := 9) (i := nI 0) (x := (nI (md_combine N u v).1).toInt64) hC dL_combine_9 hO1 (by decide) (vp_in_nI (by decide) (by decide)) ?_
    rw [nI_clamp (by decide)]
    refine sg_nm (fun M2 hw => ?_)
    refine sg_goto (pc := 10) 21 hC dL_combine_10 (by decide) ?_
    refine sg_iconst (pc := 21) (nI 0) hC dL_combine_21 (by decide) ?_
    exact sg_iretH (v := nI 0) (pc := 22) hC hR dL_combine_22 (hk M2 0 _ (hj.o h15 (sf_st hw hO1) (by simp)) ((cfo90 hf).tr (sf_st hw hO1) (fun a t h => by simp [pk] at h; simp [c90, h])) hw.1 hz (fun _ => upL0))
  · refine sg_astore (pc := 13) (v := .ref q) hC dL_combine_13 (by decide) rfl ?_
    refine sg_iconst (pc := 15) (nI 1) hC dL_combine_15 (by decide) ?_
    exact sg_iretH (v := nI 1) (pc := 16) hC hR dL_combine_16 (hk M1 1 _ hj (cfo90 hf) (hf.k hO (by simp [cf, cm])) hz (fun h => absurd h (by decide)))
  · refine sg_astore (pc := 17) (v := .ref q) hC dL_combine_17 (by decide) rfl ?_
    refine sg_iconst (pc := 19) (nI 2) hC dL_combine_19 (by decide) ?_
    exact sg_iretH (v := nI 2) (pc := 20) hC hR dL_combine_20 (hk M1 2 _ hj (cfo90 hf) (hf.k hO (by simp [cf, cm])) hz (fun h => absurd h (by decide)))

set_option maxHeartbeats 400000 in
set_option maxRecDepth 100000 in
theorem h_spawn {l : Launch} {G : sg_G} {d : Nat} {M : sg_M} {kr : Option Value → sg_M → Prop} (htr : l.stackTraces = false) {ca pb sl so th cx nt : Nat} {N : Nat → Nat → Nat} {u : Int32} {oa : Nat} {g : Nat → Int64} (hJ : cl_r G M ca pb sl so th cx nt N) (hW : WN N) (hEv : ev G M) (hO : M oa = some (90, .inl (.long, 1, .inr (.inl g)))) (hk : ∀ M' c (g' : Nat → Int64), cl_r G M' ca pb sl so th cx nt (md_spawn N u).2 → sf c90 M M' → M' oa = some (90, .inl (.long, 1, .inr (.inl g'))) → (md_spawn N u).2 0 0 = c → (c = 0 → g' 0 = (nI (md_spawn N u).1).toInt64) → kr (some (.int (nI c))) M') : sg_MetH l G yL_spawn method_15_code 4 (some .int) [(0, 9, 12, 13), (0, 9, 15, 26)] (d + 11) 4 18 [.ref ca, .int u, .ref oa] M kr := by
  refine sg_enterH [some (.ref ca), some (.int u), some (.ref oa), none] (by decide) htr (Nat.le_of_ble_eq_true rfl) rfl ?_
  intro X hC hR
  have hC : sg_C X l G method_15_code RL 4 (d + 11) := hC
  obtain ⟨hX, -, ⟨gs, -, hGs⟩, -⟩ := id hJ
  have hGs : gpm M gs N := hGs
  refine sg_aload_n (pc := 0) (v := .ref oa) hC dL_spawn_0 rfl rfl ?_
  refine sg_iconst (pc := 1) (nI 0) hC dL_spawn_1 (by decide) ?_
  refine sg_aload_n (pc := 2) (v := .ref ca) hC dL_spawn_2 rfl rfl ?_
  refine sg_iload_n (pc := 3) (x := u) hC dL_spawn_3 rfl ?_
  refine sg_callV (pc := 4) (As := [.int u]) (rest := [.int (nI 0), .ref oa]) (mc := 4) (ms := 18) hC tw_1097 tw_1098 tw_1099 tw_62 tw_1100 yd_X6_spawn (by decide) (ci := 9) rfl dL_spawn_4 hX rfl (Nat.le_of_ble_eq_true rfl) (by decide) (by decide) ?_
  refine c_spawn_ htr hJ hW hEv (fun M1 hj hf hz => ?_) (fun M1 hj hf hz => sg_catch (h := 12) hC hR (fun args s hts hT => lg_1 (by decide) (by decide) (by decide) (hts _ tw_321) (va_nw_c (hT.1 (.castable "java/util/NoSuchElementException" "java/util/NoSuchElementException") (by simp [sg_wk])))) (fun q => ?_)) (fun M1 hj hf hz => sg_catch (h := 15) hC hR (fun args s hts hT => lg_2 (by decide) (by decide) (by decide) (hts _ tw_321) hT.2.1 (by decide) (by decide) (by decide) (hts _ tw_858) (va_nw_c (hT.1 (.castable "java/lang/IllegalStateException" "java/lang/IllegalStateException") (by simp [sg_wk])))) (fun q => ?_))
  · have h15 : ∀ t, (md_spawn N u).2 15 t ≤ 10 := fun t => (WB_spawn hW.wb hW u) 15 t (by decide)
    have hO1 : M1 oa = some (90, .inl (.long, 1, .inr (.inl g))) := hf.k hO (by simp [cf, cm])
    refine sg_i2l (pc := 7) (x := nI (md_spawn N u).1) ((nI (md_spawn N u).1).toInt64) hC dL_spawn_7 rfl ?_
    refine sg_last (pc := 8) (i := nI 0) (x := (nI (md_spawn N u).1).toInt64) hC dL_spawn_8 hO1 (by decide) (vp_in_nI (by decide) (by decide)) ?_
    rw [nI_clamp (by decide)]
    refine sg_nm (fun M2 hw => ?_)
    refine sg_goto (pc := 9) 18 hC dL_spawn_9 (by decide) ?_
    refine sg_iconst (pc := 18) (nI 0) hC dL_spawn_18 (by decide) ?_
    exact sg_iretH (v := nI 0) (pc := 19) hC hR dL_spawn_19 (hk M2 0 _ (hj.o h15 (sf_st hw hO1) (by simp)) ((cfo90 hf).tr (sf_st hw hO1) (fun a t h => by simp [pk] at h; simp [c90, h])) hw.1 hz (fun _ => upL0))
  · refine sg_astore_n (pc := 12) (v := .ref q) hC dL_spawn_12 (by decide) rfl ?_
    refine sg_iconst (pc := 13) (nI 1) hC dL_spawn_13 (by decide) ?_
    exact sg_iretH (v := nI 1) (pc := 14) hC hR dL_spawn_14 (hk M1 1 _ hj (cfo90 hf) (hf.k hO (by simp [cf, cm])) hz (fun h => absurd h (by decide)))
  · refine sg_astore_n (pc := 15) (v := .ref q) hC dL_spawn_15 (by decide) rfl ?_
    refine sg_iconst (pc := 16) (nI 2) hC dL_spawn_16 (by decide) ?_
    exact sg_iretH (v := nI 2) (pc := 17) hC hR dL_spawn_17 (hk M1 2 _ hj (cfo90 hf) (hf.k hO (by simp [cf, cm])) hz (fun h => absurd h (by decide)))

set_option maxHeartbeats 400000 in
set_option maxRecDepth 100000 in
theorem h_end {l : Launch} {G : sg_G} {d : Nat} {M : sg_M} {kr : Option Value → sg_M → Prop} (htr : l.stackTraces = false) {ca pb sl so th cx nt : Nat} {N : Nat → Nat → Nat} {u : Int32} {oa : Nat} {g : Nat → Int64} (hJ : cl_r G M ca pb sl so th cx nt N) (hW : WN N) (hO : M oa = some (90, .inl (.long, 1, .inr (.inl g)))) (hk : ∀ M' c (g' : Nat → Int64), cl_r G M' ca pb sl so th cx nt (md_end N u).2 → sf c90 M M' → M' oa = some (90, .inl (.long, 1, .inr (.inl g'))) → (md_end N u).2 0 0 = c → (c = 0 → g' 0 = (nI (md_end N u).1).toInt64) → kr (some (.int (nI c))) M') : sg_MetH l G yL_end method_16_code 4 (some .int) [(0, 9, 12, 13), (0, 9, 15, 31)] (d + 11) 2 12 [.ref ca, .int u, .ref oa] M kr := by
  refine sg_enterH [some (.ref ca), some (.int u), some (.ref oa), none] (by decide) htr (Nat.le_of_ble_eq_true rfl) rfl ?_
  intro X hC hR
  have hC : sg_C X l G method_16_code RL 4 (d + 11) := hC
  obtain ⟨hX, -, ⟨gs, -, hGs⟩, -⟩ := id hJ
  have hGs : gpm M gs N := hGs
  refine sg_aload_n (pc := 0) (v := .ref oa) hC dL_end_0 rfl rfl ?_
  refine sg_iconst (pc := 1) (nI 0) hC dL_end_1 (by decide) ?_
  refine sg_aload_n (pc := 2) (v := .ref ca) hC dL_end_2 rfl rfl ?_
  refine sg_iload_n (pc := 3) (x := u) hC dL_end_3 rfl ?_
  refine sg_callV (pc := 4) (As := [.int u]) (rest := [.int (nI 0), .ref oa]) (mc := 2) (ms := 12) hC tw_1108 tw_1109 tw_1110 tw_62 tw_1111 yd_X6_end (by decide) (ci := 9) rfl dL_end_4 hX rfl (Nat.le_of_ble_eq_true rfl) (by decide) (by decide) ?_
  refine c_end_ htr hJ hW (fun M1 hj hf hz => ?_) (fun M1 hj hf hz => sg_catch (h := 12) hC hR (fun args s hts hT => lg_1 (by decide) (by decide) (by decide) (hts _ tw_321) (va_nw_c (hT.1 (.castable "java/util/NoSuchElementException" "java/util/NoSuchElementException") (by simp [sg_wk])))) (fun q => ?_)) (fun M1 hj hf hz => sg_catch (h := 15) hC hR (fun args s hts hT => lg_2 (by decide) (by decide) (by decide) (hts _ tw_321) hT.2.2.1 (by decide) (by decide) (by decide) (hts _ tw_935) (va_nw_c (hT.1 (.castable "java/lang/IllegalArgumentException" "java/lang/IllegalArgumentException") (by simp [sg_wk])))) (fun q => ?_))
  · have h15 : ∀ t, (md_end N u).2 15 t ≤ 10 := fun t => (WB_end hW.wb u) 15 t (by decide)
    have hO1 : M1 oa = some (90, .inl (.long, 1, .inr (.inl g))) := hf.k hO (by simp [cf, cm])
    refine sg_i2l (pc := 7) (x := nI (md_end N u).1) ((nI (md_end N u).1).toInt64) hC dL_end_7 rfl ?_
    refine sg_last (pc := 8) (i := nI 0) (x := (nI (md_end N u).1).toInt64) hC dL_end_8 hO1 (by decide) (vp_in_nI (by decide) (by decide)) ?_
    rw [nI_clamp (by decide)]
    refine sg_nm (fun M2 hw => ?_)
    refine sg_goto (pc := 9) 18 hC dL_end_9 (by decide) ?_
    refine sg_iconst (pc := 18) (nI 0) hC dL_end_18 (by decide) ?_
    exact sg_iretH (v := nI 0) (pc := 19) hC hR dL_end_19 (hk M2 0 _ (hj.o h15 (sf_st hw hO1) (by simp)) ((cfo90 hf).tr (sf_st hw hO1) (fun a t h => by simp [pk] at h; simp [c90, h])) hw.1 hz (fun _ => upL0))
  · refine sg_astore_n (pc := 12) (v := .ref q) hC dL_end_12 (by decide) rfl ?_
    refine sg_iconst (pc := 13) (nI 1) hC dL_end_13 (by decide) ?_
    exact sg_iretH (v := nI 1) (pc := 14) hC hR dL_end_14 (hk M1 1 _ hj (cfo90 hf) (hf.k hO (by simp [cf, cm])) hz (fun h => absurd h (by decide)))
  · refine sg_astore_n (pc := 15) (v := .ref q) hC dL_end_15 (by decide) rfl ?_
    refine sg_iconst (pc := 16) (nI 2) hC dL_end_16 (by decide) ?_
    exact sg_iretH (v := nI 2) (pc := 17) hC hR dL_end_17 (hk M1 2 _ hj (cfo90 hf) (hf.k hO (by simp [cf, cm])) hz (fun h => absurd h (by decide)))

set_option maxHeartbeats 400000 in
set_option maxRecDepth 100000 in
theorem h_check {l : Launch} {G : sg_G} {d : Nat} {M : sg_M} {kr : Option Value → sg_M → Prop} (htr : l.stackTraces = false) {ca pb sl so th cx nt : Nat} {N : Nat → Nat → Nat} {u v : Int32} {oa : Nat} {g : Nat → Int64} (hJ : cl_r G M ca pb sl so th cx nt N) (hW : WN N) (hO : M oa = some (90, .inl (.long, 1, .inr (.inl g)))) (hk : ∀ M' c (g' : Nat → Int64), cl_r G M' ca pb sl so th cx nt (md_check N u v).2 → sf c90 M M' → M' oa = some (90, .inl (.long, 1, .inr (.inl g'))) → (md_check N u v).2 0 0 = c → (c = 0 → g' 0 = (nI (md_check N u v).1).toInt64) → kr (some (.int (nI c))) M') : sg_MetH l G yL_check method_17_code 5 (some .int) [(0, 10, 13, 13), (0, 10, 17, 26)] (d + 11) 5 30 [.ref ca, .int u, .int v, .ref oa] M kr := by
  refine sg_enterH [some (.ref ca), some (.int u), some (.int v), some (.ref oa), none] (by decide) htr (Nat.le_of_ble_eq_true rfl) rfl ?_
  intro X hC hR
  have hC : sg_C X l G method_17_code RL 5 (d + 11) := hC
  obtain ⟨hX, -, ⟨gs, -, hGs⟩, -⟩ := id hJ
  have hGs : gpm M gs N := hGs
  refine sg_aload_n (pc := 0) (v := .ref oa) hC dL_check_0 rfl rfl ?_
  refine sg_iconst (pc := 1) (nI 0) hC dL_check_1 (by decide) ?_
  refine sg_aload_n (pc := 2) (v := .ref ca) hC dL_check_2 rfl rfl ?_
  refine sg_iload_n (pc := 3) (x := u) hC dL_check_3 rfl ?_
  refine sg_iload_n (pc := 4) (x := v) hC dL_check_4 rfl ?_
  refine sg_callV (pc := 5) (As := [.int u, .int v]) (rest := [.int (nI 0), .ref oa]) (mc := 5) (ms := 30) hC tw_1115 tw_1116 tw_1117 tw_62 tw_1118 yd_X6_check (by decide) (ci := 9) rfl dL_check_5 hX rfl (Nat.le_of_ble_eq_true rfl) (by decide) (by decide) ?_
  refine c_check_ htr hJ hW (fun M1 hj hf hz => ?_) (fun M1 hj hf hz => sg_catch (h := 13) hC hR (fun args s hts hT => lg_1 (by decide) (by decide) (by decide) (hts _ tw_321) (va_nw_c (hT.1 (.castable "java/util/NoSuchElementException" "java/util/NoSuchElementException") (by simp [sg_wk])))) (fun q => ?_)) (fun M1 hj hf hz => sg_catch (h := 17) hC hR (fun args s hts hT => lg_2 (by decide) (by decide) (by decide) (hts _ tw_321) hT.2.1 (by decide) (by decide) (by decide) (hts _ tw_858) (va_nw_c (hT.1 (.castable "java/lang/IllegalStateException" "java/lang/IllegalStateException") (by simp [sg_wk])))) (fun q => ?_))
  · have h15 : ∀ t, (md_check N u v).2 15 t ≤ 10 := fun t => (WB_check hW.wb u v) 15 t (by decide)
    have hO1 : M1 oa = some (90, .inl (.long, 1, .inr (.inl g))) := hf.k hO (by simp [cf, cm])
    refine sg_i2l (pc := 8) (x := nI (md_check N u v).1) ((nI (md_check N u v).1).toInt64) hC dL_check_8 rfl ?_
    refine sg_last (pc := 9) (i := nI 0) (x := (nI (md_check N u v).1).toInt64) hC dL_check_9 hO1 (by decide) (vp_in_nI (by decide) (by decide)) ?_
    rw [nI_clamp (by decide)]
    refine sg_nm (fun M2 hw => ?_)
    refine sg_goto (pc := 10) 21 hC dL_check_10 (by decide) ?_
    refine sg_iconst (pc := 21) (nI 0) hC dL_check_21 (by decide) ?_
    exact sg_iretH (v := nI 0) (pc := 22) hC hR dL_check_22 (hk M2 0 _ (hj.o h15 (sf_st hw hO1) (by simp)) ((cfo90 hf).tr (sf_st hw hO1) (fun a t h => by simp [pk] at h; simp [c90, h])) hw.1 hz (fun _ => upL0))
  · refine sg_astore (pc := 13) (v := .ref q) hC dL_check_13 (by decide) rfl ?_
    refine sg_iconst (pc := 15) (nI 1) hC dL_check_15 (by decide) ?_
    exact sg_iretH (v := nI 1) (pc := 16) hC hR dL_check_16 (hk M1 1 _ hj (cfo90 hf) (hf.k hO (by simp [cf, cm])) hz (fun h => absurd h (by decide)))
  · refine sg_astore (pc := 17) (v := .ref q) hC dL_check_17 (by decide) rfl ?_
    refine sg_iconst (pc := 19) (nI 2) hC dL_check_19 (by decide) ?_
    exact sg_iretH (v := nI 2) (pc := 20) hC hR dL_check_20 (hk M1 2 _ hj (cfo90 hf) (hf.k hO (by simp [cf, cm])) hz (fun h => absurd h (by decide)))

set_option maxHeartbeats 400000 in
set_option maxRecDepth 100000 in
theorem h_allowed {l : Launch} {G : sg_G} {d : Nat} {M : sg_M} {kr : Option Value → sg_M → Prop} (htr : l.stackTraces = false) {ca pb sl so th cx nt : Nat} {N : Nat → Nat → Nat} {u : Int32} {oa : Nat} {g : Nat → Int64} (hJ : cl_r G M ca pb sl so th cx nt N) (hW : WN N) (hO : M oa = some (90, .inl (.long, 1, .inr (.inl g)))) (hk : ∀ M' c (g' : Nat → Int64), cl_r G M' ca pb sl so th cx nt (md_allowed N u).2 → sf c90 M M' → M' oa = some (90, .inl (.long, 1, .inr (.inl g'))) → (md_allowed N u).2 0 0 = c → (c = 0 → g' 0 = (nI (md_allowed N u).1).toInt64) → kr (some (.int (nI c))) M') : sg_MetH l G yL_allowed method_18_code 4 (some .int) [(0, 9, 12, 13)] (d + 11) 1 6 [.ref ca, .int u, .ref oa] M kr := by
  refine sg_enterH [some (.ref ca), some (.int u), some (.ref oa), none] (by decide) htr (Nat.le_of_ble_eq_true rfl) rfl ?_
  intro X hC hR
  have hC : sg_C X l G method_18_code RL 4 (d + 11) := hC
  obtain ⟨hX, -, ⟨gs, -, hGs⟩, -⟩ := id hJ
  have hGs : gpm M gs N := hGs
  refine sg_aload_n (pc := 0) (v := .ref oa) hC dL_allowed_0 rfl rfl ?_
  refine sg_iconst (pc := 1) (nI 0) hC dL_allowed_1 (by decide) ?_
  refine sg_aload_n (pc := 2) (v := .ref ca) hC dL_allowed_2 rfl rfl ?_
  refine sg_iload_n (pc := 3) (x := u) hC dL_allowed_3 rfl ?_
  refine sg_callV (pc := 4) (As := [.int u]) (rest := [.int (nI 0), .ref oa]) (mc := 1) (ms := 6) hC tw_1153 tw_1154 tw_1155 tw_62 tw_1156 yd_X6_allowed (by decide) (ci := 9) rfl dL_allowed_4 hX rfl (Nat.le_of_ble_eq_true rfl) (by decide) (by decide) ?_
  refine c_allowed_ htr hJ hW (fun M1 hj hf hz => ?_) (fun M1 hj hf hz => sg_catch (h := 12) hC hR (fun args s hts hT => lg_1 (by decide) (by decide) (by decide) (hts _ tw_321) (va_nw_c (hT.1 (.castable "java/util/NoSuchElementException" "java/util/NoSuchElementException") (by simp [sg_wk])))) (fun q => ?_))
  · have h15 : ∀ t, (md_allowed N u).2 15 t ≤ 10 := fun t => (WB_allowed hW.wb u) 15 t (by decide)
    have hO1 : M1 oa = some (90, .inl (.long, 1, .inr (.inl g))) := hf.k hO (by simp [cf, cm])
    refine sg_i2l (pc := 7) (x := nI (md_allowed N u).1) ((nI (md_allowed N u).1).toInt64) hC dL_allowed_7 rfl ?_
    refine sg_last (pc := 8) (i := nI 0) (x := (nI (md_allowed N u).1).toInt64) hC dL_allowed_8 hO1 (by decide) (vp_in_nI (by decide) (by decide)) ?_
    rw [nI_clamp (by decide)]
    refine sg_nm (fun M2 hw => ?_)
    refine sg_goto (pc := 9) 15 hC dL_allowed_9 (by decide) ?_
    refine sg_iconst (pc := 15) (nI 0) hC dL_allowed_15 (by decide) ?_
    exact sg_iretH (v := nI 0) (pc := 16) hC hR dL_allowed_16 (hk M2 0 _ (hj.o h15 (sf_st hw hO1) (by simp)) ((cfo90 hf).tr (sf_st hw hO1) (fun a t h => by simp [pk] at h; simp [c90, h])) hw.1 hz (fun _ => upL0))
  · refine sg_astore_n (pc := 12) (v := .ref q) hC dL_allowed_12 (by decide) rfl ?_
    refine sg_iconst (pc := 13) (nI 1) hC dL_allowed_13 (by decide) ?_
    exact sg_iretH (v := nI 1) (pc := 14) hC hR dL_allowed_14 (hk M1 1 _ hj (cfo90 hf) (hf.k hO (by simp [cf, cm])) hz (fun h => absurd h (by decide)))

set_option maxHeartbeats 400000 in
set_option maxRecDepth 100000 in
theorem h_note {l : Launch} {G : sg_G} {d : Nat} {M : sg_M} {kr : Option Value → sg_M → Prop} (htr : l.stackTraces = false) {ca pb sl so th cx nt : Nat} {N : Nat → Nat → Nat} {u v : Int32} {oa : Nat} {g : Nat → Int64} (hJ : cl_r G M ca pb sl so th cx nt N) (hW : WN N) (hO : M oa = some (90, .inl (.long, 1, .inr (.inl g)))) (hk : ∀ M' c (g' : Nat → Int64), cl_r G M' ca pb sl so th cx nt (md_note N u v).2 → sf c90 M M' → M' oa = some (90, .inl (.long, 1, .inr (.inl g'))) → (md_note N u v).2 0 0 = c → (c = 0 → g' 0 = (nI (md_note N u v).1).toInt64) → kr (some (.int (nI c))) M') : sg_MetH l G yL_note method_19_code 5 (some .int) [(0, 10, 13, 31)] (d + 11) 1 6 [.ref ca, .int u, .int v, .ref oa] M kr := by
  refine sg_enterH [some (.ref ca), some (.int u), some (.int v), some (.ref oa), none] (by decide) htr (Nat.le_of_ble_eq_true rfl) rfl ?_
  intro X hC hR
  have hC : sg_C X l G method_19_code RL 5 (d + 11) := hC
  obtain ⟨hX, -, ⟨gs, -, hGs⟩, -⟩ := id hJ
  have hGs : gpm M gs N := hGs
  refine sg_aload_n (pc := 0) (v := .ref oa) hC dL_note_0 rfl rfl ?_
  refine sg_iconst (pc := 1) (nI 0) hC dL_note_1 (by decide) ?_
  refine sg_aload_n (pc := 2) (v := .ref ca) hC dL_note_2 rfl rfl ?_
  refine sg_iload_n (pc := 3) (x := u) hC dL_note_3 rfl ?_
  refine sg_iload_n (pc := 4) (x := v) hC dL_note_4 rfl ?_
  refine sg_callV (pc := 5) (As := [.int u, .int v]) (rest := [.int (nI 0), .ref oa]) (mc := 1) (ms := 6) hC tw_1160 tw_1161 tw_1162 tw_62 tw_1163 yd_X6_note (by decide) (ci := 9) rfl dL_note_5 hX rfl (Nat.le_of_ble_eq_true rfl) (by decide) (by decide) ?_
  refine c_note_ htr hJ hW (fun M1 hj hf hz => ?_) (fun M1 hj hf hz => sg_catch (h := 13) hC hR (fun args s hts hT => lg_1 (by decide) (by decide) (by decide) (hts _ tw_935) (va_nw_c (hT.1 (.castable "java/lang/IllegalArgumentException" "java/lang/IllegalArgumentException") (by simp [sg_wk])))) (fun q => ?_))
  · have h15 : ∀ t, (md_note N u v).2 15 t ≤ 10 := fun t => (WB_note hW.wb u v) 15 t (by decide)
    have hO1 : M1 oa = some (90, .inl (.long, 1, .inr (.inl g))) := hf.k hO (by simp [cf, cm])
    refine sg_i2l (pc := 8) (x := nI (md_note N u v).1) ((nI (md_note N u v).1).toInt64) hC dL_note_8 rfl ?_
    refine sg_last (pc := 9) (i := nI 0) (x := (nI (md_note N u v).1).toInt64) hC dL_note_9 hO1 (by decide) (vp_in_nI (by decide) (by decide)) ?_
    rw [nI_clamp (by decide)]
    refine sg_nm (fun M2 hw => ?_)
    refine sg_goto (pc := 10) 17 hC dL_note_10 (by decide) ?_
    refine sg_iconst (pc := 17) (nI 0) hC dL_note_17 (by decide) ?_
    exact sg_iretH (v := nI 0) (pc := 18) hC hR dL_note_18 (hk M2 0 _ (hj.o h15 (sf_st hw hO1) (by simp)) ((cfo90 hf).tr (sf_st hw hO1) (fun a t h => by simp [pk] at h; simp [c90, h])) hw.1 hz (fun _ => upL0))
  · refine sg_astore (pc := 13) (v := .ref q) hC dL_note_13 (by decide) rfl ?_
    refine sg_iconst (pc := 15) (nI 1) hC dL_note_15 (by decide) ?_
    exact sg_iretH (v := nI 1) (pc := 16) hC hR dL_note_16 (hk M1 1 _ hj (cfo90 hf) (hf.k hO (by simp [cf, cm])) hz (fun h => absurd h (by decide)))

set_option maxHeartbeats 400000 in
set_option maxRecDepth 100000 in
theorem h_idle {l : Launch} {G : sg_G} {d : Nat} {M : sg_M} {kr : Option Value → sg_M → Prop} (htr : l.stackTraces = false) {ca pb sl so th cx nt : Nat} {N : Nat → Nat → Nat} {u : Int32} {oa : Nat} {g : Nat → UInt64} (hJ : cl_r G M ca pb sl so th cx nt N) (hW : WN N) (hO : M oa = some (91, .inl (.double, 1, .inr (.inr (.inr (.inl g)))))) (hk : ∀ M' c (g' : Nat → UInt64), cl_r G M' ca pb sl so th cx nt (md_idle N u).2 → sf c91 M M' → M' oa = some (91, .inl (.double, 1, .inr (.inr (.inr (.inl g'))))) → (md_idle N u).2 0 0 = c → (c = 0 → g' 0 = FP.f2d (md_idle N u).1) → kr (some (.int (nI c))) M') : sg_MetH l G yL_idle method_20_code 4 (some .int) [(0, 9, 12, 13)] (d + 11) 1 6 [.ref ca, .int u, .ref oa] M kr := by
  refine sg_enterH [some (.ref ca), some (.int u), some (.ref oa), none] (by decide) htr (Nat.le_of_ble_eq_true rfl) rfl ?_
  intro X hC hR
  have hC : sg_C X l G method_20_code RL 4 (d + 11) := hC
  obtain ⟨hX, -, ⟨gs, -, hGs⟩, -⟩ := id hJ
  have hGs : gpm M gs N := hGs
  refine sg_aload_n (pc := 0) (v := .ref oa) hC dL_idle_0 rfl rfl ?_
  refine sg_iconst (pc := 1) (nI 0) hC dL_idle_1 (by decide) ?_
  refine sg_aload_n (pc := 2) (v := .ref ca) hC dL_idle_2 rfl rfl ?_
  refine sg_iload_n (pc := 3) (x := u) hC dL_idle_3 rfl ?_
  refine sg_callV (pc := 4) (As := [.int u]) (rest := [.int (nI 0), .ref oa]) (mc := 1) (ms := 6) hC tw_1167 tw_1168 tw_1169 tw_62 tw_1170 yd_X6_idle (by decide) (ci := 9) rfl dL_idle_4 hX rfl (Nat.le_of_ble_eq_true rfl) (by decide) (by decide) ?_
  refine c_idle_ htr hJ hW (fun M1 hj hf hz => ?_) (fun M1 hj hf hz => sg_catch (h := 12) hC hR (fun args s hts hT => lg_1 (by decide) (by decide) (by decide) (hts _ tw_321) (va_nw_c (hT.1 (.castable "java/util/NoSuchElementException" "java/util/NoSuchElementException") (by simp [sg_wk])))) (fun q => ?_))
  · have h15 : ∀ t, (md_idle N u).2 15 t ≤ 10 := fun t => (WB_idle hW.wb u) 15 t (by decide)
    have hO1 : M1 oa = some (91, .inl (.double, 1, .inr (.inr (.inr (.inl g))))) := hf.k hO (by simp [cf, cm])
    refine sg_f2d (pc := 7) (x := (md_idle N u).1) hC dL_idle_7 (idle_n hJ hW hz).1 ?_
    refine sg_dast (pc := 8) (i := nI 0) (x := FP.f2d (md_idle N u).1) hC dL_idle_8 hO1 (by decide) (vp_in_nI (by decide) (by decide)) ?_
    rw [nI_clamp (by decide)]
    refine sg_nm (fun M2 hw => ?_)
    refine sg_goto (pc := 9) 15 hC dL_idle_9 (by decide) ?_
    refine sg_iconst (pc := 15) (nI 0) hC dL_idle_15 (by decide) ?_
    exact sg_iretH (v := nI 0) (pc := 16) hC hR dL_idle_16 (hk M2 0 _ (hj.o h15 (sf_st hw hO1) (by simp)) ((cfo91 hf).tr (sf_st hw hO1) (fun a t h => by simp [pk] at h; simp [c91, h])) hw.1 hz (fun _ => upD0))
  · refine sg_astore_n (pc := 12) (v := .ref q) hC dL_idle_12 (by decide) rfl ?_
    refine sg_iconst (pc := 13) (nI 1) hC dL_idle_13 (by decide) ?_
    exact sg_iretH (v := nI 1) (pc := 14) hC hR dL_idle_14 (hk M1 1 _ hj (cfo91 hf) (hf.k hO (by simp [cf, cm])) hz (fun h => absurd h (by decide)))
