/-! ===== the law's cases ===== -/
section LAWC
variable {X : sg_X} {l : Launch} {G : sg_G} {cc : ByteArray} {own : String} {nL d : Nat} {M : sg_M} {cb sb pc : Nat} {L : List (Option Value)} {st : List Value}
theorem sg_lcmp0 {x : Int64} (hC : sg_C X l G cc own nL d) (hd : decode cc pc = .ok (.lcmp, 1)) (k : sg_W X M cb sb (pc + 1) L (.int (nI 0) :: st)) : sg_W X M cb sb pc L (.long x :: .long x :: st) := by
  obtain ⟨p, l', e, R, s, m, args, below, meth, c, G', Q, nL'⟩ := X
  obtain ⟨⟨rfl, rfl, rfl⟩, hx, hb, hml, hown, hts, hE, hlk, hG, htr, hdf, hdl⟩ := hC
  intro H locs cells slots ls hl hH hS hc hs
  refine W.lcmp hx hb hd ?_
  have e0 : lg_cmp x x = nI 0 := by
    unfold lg_cmp
    rw [if_neg (fun h => Int64.lt_irrefl h), if_pos rfl]
    rfl
  rw [e0]
  exact k H locs cells slots ls hl hH hS hc hs
theorem sg_dcmp {x y : UInt64} {op : CmpOp} (hC : sg_C X l G cc own nL d) (hd : decode cc pc = .ok (.dcmp op, 1)) (k : sg_W X M cb sb (pc + 1) L (.int (Op.cmpValue (FP.dcmp x y) op) :: st)) : sg_W X M cb sb pc L (.double y :: .double x :: st) := by
  obtain ⟨p, l', e, R, s, m, args, below, meth, c, G', Q, nL'⟩ := X
  obtain ⟨⟨rfl, rfl, rfl⟩, hx, hb, hml, hown, hts, hE, hlk, hG, htr, hdf, hdl⟩ := hC
  intro H locs cells slots ls hl hH hS hc hs
  exact lv_dcmp hx hb hd (k H locs cells slots ls hl hH hS hc hs)
end LAWC
theorem nI_4 (a : Nat) : nI a + Int32.ofInt 4 = nI (a + 4) := by
  rw [← nI_add]
  rfl
theorem i2c_nat (v : Int32) : v.toUInt32.toUInt16.toUInt32.toInt32 = nI v.toUInt32.toUInt16.toNat ∧ v.toUInt32.toUInt16.toNat < 65536 := by
  refine ⟨?_, UInt16.toNat_lt _⟩
  apply Int32.toBitVec_inj.mp
  apply BitVec.eq_of_toNat_eq
  show v.toUInt32.toUInt16.toUInt32.toNat = _
  show _ = (BitVec.ofNat 32 v.toUInt32.toUInt16.toNat).toNat
  rw [BitVec.toNat_ofNat]
  have := UInt16.toNat_lt v.toUInt32.toUInt16
  rw [UInt16.toNat_toUInt32, Nat.mod_eq_of_lt (by omega)]
theorem lp.step {G : sg_G} {M M1 M2 : sg_M} {ca pb sl so th cx nt x oa od b n : Nat} {ad : Nat → Nat} {xs : Nat → Int32} {g g1 : Nat → Int64} {gd gd1 : Nat → UInt64} {N N' : Nat → Nat → Nat} (h : lp G M ca pb sl so th cx nt x oa od b n ad xs g gd N) (hj : cl_r G M1 ca pb sl so th cx nt N') (hf : sf cl9 M M1) (hO : M1 oa = some (90, .inl (.long, 1, .inr (.inl g1)))) (hD : M1 od = some (91, .inl (.double, 1, .inr (.inr (.inr (.inl gd1)))))) (hB : WB N') (hI : md_I M1 M2 x ad N') : lp G M2 ca pb sl so th cx nt x oa od b n ad xs g1 gd1 N' := by
  obtain ⟨h1, h2, h3, h4, h5, h6, h7⟩ := h
  have hk := hI.2.kp
  have c0 : ∀ a, ¬ cl9 a 0 := fun a hc => by unfold cl9 cm at hc; omega
  have hev : ev G M1 := by
    obtain ⟨⟨bq, hh, z, gz, p1, p2, p3⟩, ⟨dg, d1, d2⟩, g0, e3⟩ := h6
    exact ⟨⟨bq, hh, z, gz, hf.k p1 (c0 _), hf.k p2 (c0 _), p3⟩, ⟨dg, hf.k d1 (c0 _), d2⟩, g0, hf.k e3 (c0 _)⟩
  exact ⟨hj.k9 (fun t => hB 15 t (by decide)) hk refL_b, hI.1, hB, hk _ _ _ hO (by decide), hk _ _ _ hD (by decide), hev.k9 hk (by decide), hk _ _ _ (hf.k h7 (c0 _)) (by decide)⟩

theorem yq_X7_type : yX7_type.cls ≠ "java/lang/invoke/MethodHandle" ∧ yX7_type.cls ≠ "java/lang/invoke/VarHandle" ∧ (parseMethodDescriptor yX7_type.desc).map (fun d => d.parameters.length) = some 1 := ⟨by decide, by decide, by decide +kernel⟩
theorem yq_X7_keep : yX7_keep.cls ≠ "java/lang/invoke/MethodHandle" ∧ yX7_keep.cls ≠ "java/lang/invoke/VarHandle" ∧ (parseMethodDescriptor yX7_keep.desc).map (fun d => d.parameters.length) = some 1 := ⟨by decide, by decide, by decide +kernel⟩
theorem yq_X7_written : yX7_written.cls ≠ "java/lang/invoke/MethodHandle" ∧ yX7_written.cls ≠ "java/lang/invoke/VarHandle" ∧ (parseMethodDescriptor yX7_written.desc).map (fun d => d.parameters.length) = some 2 := ⟨by decide, by decide, by decide +kernel⟩
theorem yq_X7_takesIn : yX7_takesIn.cls ≠ "java/lang/invoke/MethodHandle" ∧ yX7_takesIn.cls ≠ "java/lang/invoke/VarHandle" ∧ (parseMethodDescriptor yX7_takesIn.desc).map (fun d => d.parameters.length) = some 2 := ⟨by decide, by decide, by decide +kernel⟩
theorem yq_X7_grant : yX7_grant.cls ≠ "java/lang/invoke/MethodHandle" ∧ yX7_grant.cls ≠ "java/lang/invoke/VarHandle" ∧ (parseMethodDescriptor yX7_grant.desc).map (fun d => d.parameters.length) = some 2 := ⟨by decide, by decide, by decide +kernel⟩
theorem yq_X7_revoke : yX7_revoke.cls ≠ "java/lang/invoke/MethodHandle" ∧ yX7_revoke.cls ≠ "java/lang/invoke/VarHandle" ∧ (parseMethodDescriptor yX7_revoke.desc).map (fun d => d.parameters.length) = some 2 := ⟨by decide, by decide, by decide +kernel⟩
theorem yq_X7_may : yX7_may.cls ≠ "java/lang/invoke/MethodHandle" ∧ yX7_may.cls ≠ "java/lang/invoke/VarHandle" ∧ (parseMethodDescriptor yX7_may.desc).map (fun d => d.parameters.length) = some 2 := ⟨by decide, by decide, by decide +kernel⟩
theorem yq_X7_enter : yX7_enter.cls ≠ "java/lang/invoke/MethodHandle" ∧ yX7_enter.cls ≠ "java/lang/invoke/VarHandle" ∧ (parseMethodDescriptor yX7_enter.desc).map (fun d => d.parameters.length) = some 2 := ⟨by decide, by decide, by decide +kernel⟩
theorem yq_X7_leave : yX7_leave.cls ≠ "java/lang/invoke/MethodHandle" ∧ yX7_leave.cls ≠ "java/lang/invoke/VarHandle" ∧ (parseMethodDescriptor yX7_leave.desc).map (fun d => d.parameters.length) = some 1 := ⟨by decide, by decide, by decide +kernel⟩
theorem yq_X7_guard : yX7_guard.cls ≠ "java/lang/invoke/MethodHandle" ∧ yX7_guard.cls ≠ "java/lang/invoke/VarHandle" ∧ (parseMethodDescriptor yX7_guard.desc).map (fun d => d.parameters.length) = some 3 := ⟨by decide, by decide, by decide +kernel⟩
theorem yq_X7_walk : yX7_walk.cls ≠ "java/lang/invoke/MethodHandle" ∧ yX7_walk.cls ≠ "java/lang/invoke/VarHandle" ∧ (parseMethodDescriptor yX7_walk.desc).map (fun d => d.parameters.length) = some 2 := ⟨by decide, by decide, by decide +kernel⟩
theorem yq_X7_capture : yX7_capture.cls ≠ "java/lang/invoke/MethodHandle" ∧ yX7_capture.cls ≠ "java/lang/invoke/VarHandle" ∧ (parseMethodDescriptor yX7_capture.desc).map (fun d => d.parameters.length) = some 1 := ⟨by decide, by decide, by decide +kernel⟩
theorem yq_X7_combine : yX7_combine.cls ≠ "java/lang/invoke/MethodHandle" ∧ yX7_combine.cls ≠ "java/lang/invoke/VarHandle" ∧ (parseMethodDescriptor yX7_combine.desc).map (fun d => d.parameters.length) = some 2 := ⟨by decide, by decide, by decide +kernel⟩
theorem yq_X7_spawn : yX7_spawn.cls ≠ "java/lang/invoke/MethodHandle" ∧ yX7_spawn.cls ≠ "java/lang/invoke/VarHandle" ∧ (parseMethodDescriptor yX7_spawn.desc).map (fun d => d.parameters.length) = some 1 := ⟨by decide, by decide, by decide +kernel⟩
theorem yq_X7_end : yX7_end.cls ≠ "java/lang/invoke/MethodHandle" ∧ yX7_end.cls ≠ "java/lang/invoke/VarHandle" ∧ (parseMethodDescriptor yX7_end.desc).map (fun d => d.parameters.length) = some 1 := ⟨by decide, by decide, by decide +kernel⟩
theorem yq_X7_check : yX7_check.cls ≠ "java/lang/invoke/MethodHandle" ∧ yX7_check.cls ≠ "java/lang/invoke/VarHandle" ∧ (parseMethodDescriptor yX7_check.desc).map (fun d => d.parameters.length) = some 2 := ⟨by decide, by decide, by decide +kernel⟩
theorem yq_X7_allowed : yX7_allowed.cls ≠ "java/lang/invoke/MethodHandle" ∧ yX7_allowed.cls ≠ "java/lang/invoke/VarHandle" ∧ (parseMethodDescriptor yX7_allowed.desc).map (fun d => d.parameters.length) = some 1 := ⟨by decide, by decide, by decide +kernel⟩
theorem yq_X7_note : yX7_note.cls ≠ "java/lang/invoke/MethodHandle" ∧ yX7_note.cls ≠ "java/lang/invoke/VarHandle" ∧ (parseMethodDescriptor yX7_note.desc).map (fun d => d.parameters.length) = some 2 := ⟨by decide, by decide, by decide +kernel⟩
theorem yq_X7_idle : yX7_idle.cls ≠ "java/lang/invoke/MethodHandle" ∧ yX7_idle.cls ≠ "java/lang/invoke/VarHandle" ∧ (parseMethodDescriptor yX7_idle.desc).map (fun d => d.parameters.length) = some 1 := ⟨by decide, by decide, by decide +kernel⟩
theorem yq_X7_thrown : yX7_thrown.cls ≠ "java/lang/invoke/MethodHandle" ∧ yX7_thrown.cls ≠ "java/lang/invoke/VarHandle" ∧ (parseMethodDescriptor yX7_thrown.desc).map (fun d => d.parameters.length) = some 0 := ⟨by decide, by decide, by decide +kernel⟩
set_option maxHeartbeats 1000000 in
set_option maxRecDepth 100000 in
theorem lw_c0 {X : sg_X} {l : Launch} {G : sg_G} {d : Nat} {M : sg_M} {cb sb : Nat} {ca pb sl so th cx nt x oa od b n i : Nat} {ad : Nat → Nat} {xs : Nat → Int32} {g : Nat → Int64} {gd : Nat → UInt64} {N : Nat → Nat → Nat} (htr : l.stackTraces = false) (hC : sg_C X l G cL_law RL 8 (d + 12)) (hP : lp G M ca pb sl so th cx nt x oa od b n ad xs g gd N) (hi : i + 4 ≤ n) (hn : n ≤ 256) (kk : ∀ M' g' gd' N', lp G M' ca pb sl so th cx nt x oa od b n ad xs g' gd' N' → sg_W X M' cb sb 28 [some (.ref b), some (.ref ca), some (.ref x), some (.ref oa), some (.ref od), some (.int (nI (i + 4))), none, none] []) : sg_W X M (cb + 14) (sb + 127) 136 [some (.ref b), some (.ref ca), some (.ref x), some (.ref oa), some (.ref od), some (.int (nI i)), none, none] [] := by
  obtain ⟨hJ, hRep, hWB, hO, hOd, hEv, hB⟩ := id hP
  have hW : WN N := hRep.wn hWB
  have hw : ∀ i j, N i j ≤ wb i := hW
  have hw16 : ∀ r, N 16 r < 6 := fun r => Nat.lt_succ_of_le (hW 16 r)
  have hw18 : ∀ r, N 18 r < 64 := fun r => Nat.lt_succ_of_le (hW 18 r)
  have hw14 : ∀ r, N 14 r < 64 := fun r => Nat.lt_succ_of_le (hW 14 r)
  have hw20 : ∀ r, N 20 r < 64 := fun r => Nat.lt_succ_of_le (hW 20 r)
  refine sg_aload_n (pc := 136) (v := .ref ca) hC dL_law_136 rfl rfl ?_
  refine sg_aload_n (pc := 137) (v := .ref b) hC dL_law_137 rfl rfl ?_
  refine sg_iload (pc := 138) (x := nI i) hC dL_law_138 rfl ?_
  refine sg_iconst (pc := 140) (nI 1) hC dL_law_140 (by decide) ?_
  refine sg_iaddN (pc := 141) (a := i) (b := 1) hC dL_law_141 ?_
  refine sg_iald (pc := 142) (i := nI (i + 1)) hC dL_law_142 hB (vp_in_nI (by omega) (by omega)) ?_
  rw [nI_clamp (by omega)]
  refine sg_i2c (pc := 143) (nI (xs (i + 1)).toUInt32.toUInt16.toNat) hC dL_law_143 (i2c_nat _).1 ?_
  obtain ⟨hX, -⟩ := id hJ
  refine sg_callV (pc := 144) (As := [.int (nI (xs (i + 1)).toUInt32.toUInt16.toNat)]) (rest := []) (mc := 0) (ms := 0) hC tw_212 tw_213 tw_214 tw_62 tw_215 yd_X6_type (by decide) (ci := 9) rfl dL_law_144 hX rfl (Nat.le_of_ble_eq_true rfl) (Nat.zero_le _) (Nat.zero_le _) ?_
  refine c_type_ htr hJ hW (i2c_nat (xs (i + 1))).2 (fun M1 hj hf0 hz => ?_)
  have hf9 := cf9 hf0
  have hB1 : M1 b = some (0, .inl (.int, n, .inl xs)) := hf9.k hB (by simp [cl9, cm])
  have hRep1 := hRep.sf9 hf9
  have hO1 := hf0.k hO (by simp [cf, cm])
  have hOd1 := hf0.k hOd (by simp [cf, cm])
  refine sg_aload_n (pc := 147) (v := .ref x) hC dL_law_147 rfl rfl ?_
  refine sg_aload_n (pc := 148) (v := .ref b) hC dL_law_148 rfl rfl ?_
  refine sg_iload (pc := 149) (x := nI i) hC dL_law_149 rfl ?_
  refine sg_iconst (pc := 151) (nI 1) hC dL_law_151 (by decide) ?_
  refine sg_iaddN (pc := 152) (a := i) (b := 1) hC dL_law_152 ?_
  refine sg_iald (pc := 153) (i := nI (i + 1)) hC dL_law_153 hB1 (vp_in_nI (by omega) (by omega)) ?_
  rw [nI_clamp (by omega)]
  refine sg_i2c (pc := 154) (nI (xs (i + 1)).toUInt32.toUInt16.toNat) hC dL_law_154 (i2c_nat _).1 ?_
  refine sg_callV (pc := 155) (As := [.int (nI (xs (i + 1)).toUInt32.toUInt16.toNat)]) (rest := [.int (md_b (md_type N (xs (i + 1)).toUInt32.toUInt16.toNat).1)]) (mc := 0) (ms := 0) hC tw_1262 tw_1263 tw_1264 tw_72 tw_1265 yq_X7_type (by decide) (ci := 10) rfl dL_law_155 hRep1.1 rfl (Nat.le_of_ble_eq_true rfl) (Nat.zero_le _) (Nat.zero_le _) ?_
  refine mm_type htr hRep1.I _ (i2c_nat (xs (i + 1))).2 (hw 1 0) (fun M2 hI2 => ?_)
  have hkp := hI2.2.kp
  have hB2 : M2 b = some (0, .inl (.int, n, .inl xs)) := hkp _ _ _ hB1 (by decide)
  have hWB2 := (WB_type hWB (xs (i + 1)).toUInt32.toUInt16.toNat)
  refine sg_icmp_eq (pc := 158) (x := md_b (md_type N (xs (i + 1)).toUInt32.toUInt16.toNat).1) (y := md_b (md_type N (xs (i + 1)).toUInt32.toUInt16.toNat).1) 1331 hC dL_law_158 (by decide) (fun _ => ?_) (fun h9 => absurd rfl h9)
  refine sg_iincN (pc := 1331) (a := i) (b := i + 4) hC dL_law_1331 rfl (nI_4 i) (by decide) ?_
  refine sg_goto (pc := 1334) 28 hC dL_law_1334 (by decide) ?_
  refine sg_loc (L' := [some (.ref b), some (.ref ca), some (.ref x), some (.ref oa), some (.ref od), some (.int (nI (i + 4))), none, none]) ⟨rfl, rfl, rfl, rfl, rfl, rfl, trivial⟩ ?_
  refine sg_less (cb' := cb) (sb' := sb) (by omega) (by omega) ?_
  exact kk M2 g gd _ (hP.step hj hf9 hO1 hOd1 hWB2 hI2)

set_option maxHeartbeats 1000000 in
set_option maxRecDepth 100000 in
theorem lw_c1 {X : sg_X} {l : Launch} {G : sg_G} {d : Nat} {M : sg_M} {cb sb : Nat} {ca pb sl so th cx nt x oa od b n i : Nat} {ad : Nat → Nat} {xs : Nat → Int32} {g : Nat → Int64} {gd : Nat → UInt64} {N : Nat → Nat → Nat} (htr : l.stackTraces = false) (hC : sg_C X l G cL_law RL 8 (d + 12)) (hP : lp G M ca pb sl so th cx nt x oa od b n ad xs g gd N) (hi : i + 4 ≤ n) (hn : n ≤ 256) (kk : ∀ M' g' gd' N', lp G M' ca pb sl so th cx nt x oa od b n ad xs g' gd' N' → sg_W X M' cb sb 28 [some (.ref b), some (.ref ca), some (.ref x), some (.ref oa), some (.ref od), some (.int (nI (i + 4))), none, none] []) : sg_W X M (cb + 14) (sb + 127) 163 [some (.ref b), some (.ref ca), some (.ref x), some (.ref oa), some (.ref od), some (.int (nI i)), none, none] [] := by
  obtain ⟨hJ, hRep, hWB, hO, hOd, hEv, hB⟩ := id hP
  have hW : WN N := hRep.wn hWB
  have hw : ∀ i j, N i j ≤ wb i := hW
  have hw16 : ∀ r, N 16 r < 6 := fun r => Nat.lt_succ_of_le (hW 16 r)
  have hw18 : ∀ r, N 18 r < 64 := fun r => Nat.lt_succ_of_le (hW 18 r)
  have hw14 : ∀ r, N 14 r < 64 := fun r => Nat.lt_succ_of_le (hW 14 r)
  have hw20 : ∀ r, N 20 r < 64 := fun r => Nat.lt_succ_of_le (hW 20 r)
  refine sg_aload_n (pc := 163) (v := .ref ca) hC dL_law_163 rfl rfl ?_
  refine sg_aload_n (pc := 164) (v := .ref b) hC dL_law_164 rfl rfl ?_
  refine sg_iload (pc := 165) (x := nI i) hC dL_law_165 rfl ?_
  refine sg_iconst (pc := 167) (nI 1) hC dL_law_167 (by decide) ?_
  refine sg_iaddN (pc := 168) (a := i) (b := 1) hC dL_law_168 ?_
  refine sg_iald (pc := 169) (i := nI (i + 1)) hC dL_law_169 hB (vp_in_nI (by omega) (by omega)) ?_
  rw [nI_clamp (by omega)]
  refine sg_aload_n (pc := 170) (v := .ref oa) hC dL_law_170 rfl rfl ?_
  refine sg_callSH (pc := 171) (As := [.ref ca, .int (xs (i + 1)), .ref oa]) (rest := []) (mc := 14) (ms := 127) hC tw_318 tw_319 tw_61 tw_320 yd_L_keep (by decide) dL_law_171 rfl (by decide) (by omega) (by omega) ?_
  refine h_keep htr hJ hW hEv hO (fun M1 c g1 hj hf hO1 hz hv => ?_)
  have hf9 := c90.o hf
  have hOd1 := hf.k hOd (by simp [c90, cm])
  have hB1 : M1 b = some (0, .inl (.int, n, .inl xs)) := hf9.k hB (by simp [cl9, cm])
  have hRep1 := hRep.sf9 hf9
  refine sg_istore (pc := 174) (x := nI c) hC dL_law_174 (by decide) ?_
  show sg_W X M1 _ _ 176 [some (.ref b), some (.ref ca), some (.ref x), some (.ref oa), some (.ref od), some (.int (nI i)), some (.int (nI c)), none] []
  refine sg_aload_n (pc := 176) (v := .ref x) hC dL_law_176 rfl rfl ?_
  refine sg_aload_n (pc := 177) (v := .ref b) hC dL_law_177 rfl rfl ?_
  refine sg_iload (pc := 178) (x := nI i) hC dL_law_178 rfl ?_
  refine sg_iconst (pc := 180) (nI 1) hC dL_law_180 (by decide) ?_
  refine sg_iaddN (pc := 181) (a := i) (b := 1) hC dL_law_181 ?_
  refine sg_iald (pc := 182) (i := nI (i + 1)) hC dL_law_182 hB1 (vp_in_nI (by omega) (by omega)) ?_
  rw [nI_clamp (by omega)]
  refine sg_callV (pc := 183) (As := [.int (xs (i + 1))]) (rest := []) (mc := 0) (ms := 0) hC tw_1266 tw_1267 tw_1268 tw_72 tw_1269 yq_X7_keep (by decide) (ci := 10) rfl dL_law_183 hRep1.1 rfl (Nat.le_of_ble_eq_true rfl) (Nat.zero_le _) (Nat.zero_le _) ?_
  refine mm_keep htr hRep1.I (xs (i + 1)) (hw 1 0) (fun M2 hI2 => ?_)
  have hkp := hI2.2.kp
  have hB2 : M2 b = some (0, .inl (.int, n, .inl xs)) := hkp _ _ _ hB1 (by decide)
  have hWB2 := (WB_keep hWB (xs (i + 1)))
  refine sg_istore (pc := 186) (x := nI (md_keep N (xs (i + 1))).1) hC dL_law_186 (by decide) ?_
  show sg_W X M2 _ _ 188 [some (.ref b), some (.ref ca), some (.ref x), some (.ref oa), some (.ref od), some (.int (nI i)), some (.int (nI c)), some (.int (nI (md_keep N (xs (i + 1))).1))] []
  refine sg_aload_n (pc := 188) (v := .ref x) hC dL_law_188 rfl rfl ?_
  refine sg_callV (pc := 189) (As := []) (rest := []) (mc := 0) (ms := 0) hC tw_1258 tw_1259 tw_1260 tw_72 tw_1261 yq_X7_thrown (by decide) (ci := 10) rfl dL_law_189 hI2.1.1 rfl (Nat.le_of_ble_eq_true rfl) (Nat.zero_le _) (Nat.zero_le _) ?_
  refine mm_thrown htr hI2 ?_
  refine sg_iload (pc := 192) (x := nI c) hC dL_law_192 rfl ?_
  refine sg_icmp_eq (pc := 194) (x := nI (md_thrown (md_keep N (xs (i + 1))).2)) (y := nI c) 199 hC dL_law_194 (by decide) (fun _ => ?_) (fun h9 => absurd (congrArg nI hz) h9)
  refine sg_iload (pc := 199) (x := nI c) hC dL_law_199 rfl ?_
  have hc9 : c < 65536 := by rw [← hz]; exact hI2.1.2.2 0 0
  refine sg_ifN_ne (pc := 201) (a := c) 216 hC dL_law_201 (by decide) (by omega) (fun hc => ?_) (fun hc => ?_)
  · skip
    refine sg_goto (pc := 216) 1331 hC dL_law_216 (by decide) ?_
    refine sg_iincN (pc := 1331) (a := i) (b := i + 4) hC dL_law_1331 rfl (nI_4 i) (by decide) ?_
    refine sg_goto (pc := 1334) 28 hC dL_law_1334 (by decide) ?_
    refine sg_loc (L' := [some (.ref b), some (.ref ca), some (.ref x), some (.ref oa), some (.ref od), some (.int (nI (i + 4))), none, none]) ⟨rfl, rfl, rfl, rfl, rfl, rfl, trivial⟩ ?_
    refine sg_less (cb' := cb) (sb' := sb) (by omega) (by omega) ?_
    exact kk M2 g1 gd _ (hP.step hj hf9 hO1 hOd1 hWB2 hI2)
  · subst hc
    refine sg_aload_n (pc := 204) (v := .ref oa) hC dL_law_204 rfl rfl ?_
    refine sg_iconst (pc := 205) (nI 0) hC dL_law_205 (by decide) ?_
    have hO2 : M2 oa = some (90, .inl (.long, 1, .inr (.inl g1))) := hkp _ _ _ hO1 (by decide)
    refine sg_lald (pc := 206) (i := nI 0) hC dL_law_206 hO2 (vp_in_nI (by decide) (by decide)) ?_
    rw [nI_clamp (by decide)]
    refine sg_iload (pc := 207) (x := nI (md_keep N (xs (i + 1))).1) hC dL_law_207 rfl ?_
    refine sg_i2l (pc := 209) (x := nI (md_keep N (xs (i + 1))).1) ((nI (md_keep N (xs (i + 1))).1).toInt64) hC dL_law_209 rfl ?_
    rw [hv rfl]
    refine sg_lcmp0 (pc := 210) hC dL_law_210 ?_
    refine sg_ifN_eq (pc := 211) (a := 0) 216 hC dL_law_211 (by decide) (by decide) (fun _ => ?_) (fun h9 => absurd rfl h9)
    refine sg_goto (pc := 216) 1331 hC dL_law_216 (by decide) ?_
    refine sg_iincN (pc := 1331) (a := i) (b := i + 4) hC dL_law_1331 rfl (nI_4 i) (by decide) ?_
    refine sg_goto (pc := 1334) 28 hC dL_law_1334 (by decide) ?_
    refine sg_loc (L' := [some (.ref b), some (.ref ca), some (.ref x), some (.ref oa), some (.ref od), some (.int (nI (i + 4))), none, none]) ⟨rfl, rfl, rfl, rfl, rfl, rfl, trivial⟩ ?_
    refine sg_less (cb' := cb) (sb' := sb) (by omega) (by omega) ?_
    exact kk M2 g1 gd _ (hP.step hj hf9 hO1 hOd1 hWB2 hI2)

set_option maxHeartbeats 1000000 in
set_option maxRecDepth 100000 in
theorem lw_c2 {X : sg_X} {l : Launch} {G : sg_G} {d : Nat} {M : sg_M} {cb sb : Nat} {ca pb sl so th cx nt x oa od b n i : Nat} {ad : Nat → Nat} {xs : Nat → Int32} {g : Nat → Int64} {gd : Nat → UInt64} {N : Nat → Nat → Nat} (htr : l.stackTraces = false) (hC : sg_C X l G cL_law RL 8 (d + 12)) (hP : lp G M ca pb sl so th cx nt x oa od b n ad xs g gd N) (hi : i + 4 ≤ n) (hn : n ≤ 256) (kk : ∀ M' g' gd' N', lp G M' ca pb sl so th cx nt x oa od b n ad xs g' gd' N' → sg_W X M' cb sb 28 [some (.ref b), some (.ref ca), some (.ref x), some (.ref oa), some (.ref od), some (.int (nI (i + 4))), none, none] []) : sg_W X M (cb + 14) (sb + 127) 219 [some (.ref b), some (.ref ca), some (.ref x), some (.ref oa), some (.ref od), some (.int (nI i)), none, none] [] := by
  obtain ⟨hJ, hRep, hWB, hO, hOd, hEv, hB⟩ := id hP
  have hW : WN N := hRep.wn hWB
  have hw : ∀ i j, N i j ≤ wb i := hW
  have hw16 : ∀ r, N 16 r < 6 := fun r => Nat.lt_succ_of_le (hW 16 r)
  have hw18 : ∀ r, N 18 r < 64 := fun r => Nat.lt_succ_of_le (hW 18 r)
  have hw14 : ∀ r, N 14 r < 64 := fun r => Nat.lt_succ_of_le (hW 14 r)
  have hw20 : ∀ r, N 20 r < 64 := fun r => Nat.lt_succ_of_le (hW 20 r)
  refine sg_aload_n (pc := 219) (v := .ref ca) hC dL_law_219 rfl rfl ?_
  refine sg_aload_n (pc := 220) (v := .ref b) hC dL_law_220 rfl rfl ?_
  refine sg_iload (pc := 221) (x := nI i) hC dL_law_221 rfl ?_
  refine sg_iconst (pc := 223) (nI 1) hC dL_law_223 (by decide) ?_
  refine sg_iaddN (pc := 224) (a := i) (b := 1) hC dL_law_224 ?_
  refine sg_iald (pc := 225) (i := nI (i + 1)) hC dL_law_225 hB (vp_in_nI (by omega) (by omega)) ?_
  rw [nI_clamp (by omega)]
  refine sg_aload_n (pc := 226) (v := .ref b) hC dL_law_226 rfl rfl ?_
  refine sg_iload (pc := 227) (x := nI i) hC dL_law_227 rfl ?_
  refine sg_iconst (pc := 229) (nI 2) hC dL_law_229 (by decide) ?_
  refine sg_iaddN (pc := 230) (a := i) (b := 2) hC dL_law_230 ?_
  refine sg_iald (pc := 231) (i := nI (i + 2)) hC dL_law_231 hB (vp_in_nI (by omega) (by omega)) ?_
  rw [nI_clamp (by omega)]
  refine sg_aload_n (pc := 232) (v := .ref oa) hC dL_law_232 rfl rfl ?_
  refine sg_callSH (pc := 233) (As := [.ref ca, .int (xs (i + 1)), .int (xs (i + 2)), .ref oa]) (rest := []) (mc := 1) (ms := 6) hC tw_817 tw_818 tw_61 tw_819 yd_L_written (by decide) dL_law_233 rfl (by decide) (by omega) (by omega) ?_
  refine h_written htr hJ hW hO (fun M1 c g1 hj hf hO1 hz hv => ?_)
  have hf9 := c90.o hf
  have hOd1 := hf.k hOd (by simp [c90, cm])
  have hB1 : M1 b = some (0, .inl (.int, n, .inl xs)) := hf9.k hB (by simp [cl9, cm])
  have hRep1 := hRep.sf9 hf9
  refine sg_istore (pc := 236) (x := nI c) hC dL_law_236 (by decide) ?_
  show sg_W X M1 _ _ 238 [some (.ref b), some (.ref ca), some (.ref x), some (.ref oa), some (.ref od), some (.int (nI i)), some (.int (nI c)), none] []
  refine sg_aload_n (pc := 238) (v := .ref x) hC dL_law_238 rfl rfl ?_
  refine sg_aload_n (pc := 239) (v := .ref b) hC dL_law_239 rfl rfl ?_
  refine sg_iload (pc := 240) (x := nI i) hC dL_law_240 rfl ?_
  refine sg_iconst (pc := 242) (nI 1) hC dL_law_242 (by decide) ?_
  refine sg_iaddN (pc := 243) (a := i) (b := 1) hC dL_law_243 ?_
  refine sg_iald (pc := 244) (i := nI (i + 1)) hC dL_law_244 hB1 (vp_in_nI (by omega) (by omega)) ?_
  rw [nI_clamp (by omega)]
  refine sg_aload_n (pc := 245) (v := .ref b) hC dL_law_245 rfl rfl ?_
  refine sg_iload (pc := 246) (x := nI i) hC dL_law_246 rfl ?_
  refine sg_iconst (pc := 248) (nI 2) hC dL_law_248 (by decide) ?_
  refine sg_iaddN (pc := 249) (a := i) (b := 2) hC dL_law_249 ?_
  refine sg_iald (pc := 250) (i := nI (i + 2)) hC dL_law_250 hB1 (vp_in_nI (by omega) (by omega)) ?_
  rw [nI_clamp (by omega)]
  refine sg_callV (pc := 251) (As := [.int (xs (i + 1)), .int (xs (i + 2))]) (rest := []) (mc := 0) (ms := 0) hC tw_1333 tw_1334 tw_1335 tw_72 tw_1336 yq_X7_written (by decide) (ci := 10) rfl dL_law_251 hRep1.1 rfl (Nat.le_of_ble_eq_true rfl) (Nat.zero_le _) (Nat.zero_le _) ?_
  refine mm_written htr hRep1.I (xs (i + 1)) (xs (i + 2)) (hw 4) (hw 8) (hw 9) (hw 5) (fun M2 hI2 => ?_)
  have hkp := hI2.2.kp
  have hB2 : M2 b = some (0, .inl (.int, n, .inl xs)) := hkp _ _ _ hB1 (by decide)
  obtain ⟨-, -, ⟨gs, -, hGs⟩, -⟩ := id hJ
  have hGs : gpm M gs N := hGs
  have hWB2 := (WB_written hWB hW (xs (i + 1)) (xs (i + 2)) (fun hsl => by obtain ⟨-, h7, h3⟩ := md_isSlot_nat hsl; exact gpm.w hGs _ (by omega) (by omega)))
  refine sg_istore (pc := 254) (x := md_o (md_written N (xs (i + 1)) (xs (i + 2))).1) hC dL_law_254 (by decide) ?_
  show sg_W X M2 _ _ 256 [some (.ref b), some (.ref ca), some (.ref x), some (.ref oa), some (.ref od), some (.int (nI i)), some (.int (nI c)), some (.int (md_o (md_written N (xs (i + 1)) (xs (i + 2))).1))] []
  refine sg_aload_n (pc := 256) (v := .ref x) hC dL_law_256 rfl rfl ?_
  refine sg_callV (pc := 257) (As := []) (rest := []) (mc := 0) (ms := 0) hC tw_1258 tw_1259 tw_1260 tw_72 tw_1261 yq_X7_thrown (by decide) (ci := 10) rfl dL_law_257 hI2.1.1 rfl (Nat.le_of_ble_eq_true rfl) (Nat.zero_le _) (Nat.zero_le _) ?_
  refine mm_thrown htr hI2 ?_
  refine sg_iload (pc := 260) (x := nI c) hC dL_law_260 rfl ?_
  refine sg_icmp_eq (pc := 262) (x := nI (md_thrown (md_written N (xs (i + 1)) (xs (i + 2))).2)) (y := nI c) 267 hC dL_law_262 (by decide) (fun _ => ?_) (fun h9 => absurd (congrArg nI hz) h9)
  refine sg_iload (pc := 267) (x := nI c) hC dL_law_267 rfl ?_
  have hc9 : c < 65536 := by rw [← hz]; exact hI2.1.2.2 0 0
  refine sg_ifN_ne (pc := 269) (a := c) 284 hC dL_law_269 (by decide) (by omega) (fun hc => ?_) (fun hc => ?_)
  · skip
    refine sg_goto (pc := 284) 1331 hC dL_law_284 (by decide) ?_
    refine sg_iincN (pc := 1331) (a := i) (b := i + 4) hC dL_law_1331 rfl (nI_4 i) (by decide) ?_
    refine sg_goto (pc := 1334) 28 hC dL_law_1334 (by decide) ?_
    refine sg_loc (L' := [some (.ref b), some (.ref ca), some (.ref x), some (.ref oa), some (.ref od), some (.int (nI (i + 4))), none, none]) ⟨rfl, rfl, rfl, rfl, rfl, rfl, trivial⟩ ?_
    refine sg_less (cb' := cb) (sb' := sb) (by omega) (by omega) ?_
    exact kk M2 g1 gd _ (hP.step hj hf9 hO1 hOd1 hWB2 hI2)
  · subst hc
    refine sg_aload_n (pc := 272) (v := .ref oa) hC dL_law_272 rfl rfl ?_
    refine sg_iconst (pc := 273) (nI 0) hC dL_law_273 (by decide) ?_
    have hO2 : M2 oa = some (90, .inl (.long, 1, .inr (.inl g1))) := hkp _ _ _ hO1 (by decide)
    refine sg_lald (pc := 274) (i := nI 0) hC dL_law_274 hO2 (vp_in_nI (by decide) (by decide)) ?_
    rw [nI_clamp (by decide)]
    refine sg_iload (pc := 275) (x := md_o (md_written N (xs (i + 1)) (xs (i + 2))).1) hC dL_law_275 rfl ?_
    refine sg_i2l (pc := 277) (x := md_o (md_written N (xs (i + 1)) (xs (i + 2))).1) ((md_o (md_written N (xs (i + 1)) (xs (i + 2))).1).toInt64) hC dL_law_277 rfl ?_
    rw [hv rfl]
    refine sg_lcmp0 (pc := 278) hC dL_law_278 ?_
    refine sg_ifN_eq (pc := 279) (a := 0) 284 hC dL_law_279 (by decide) (by decide) (fun _ => ?_) (fun h9 => absurd rfl h9)
    refine sg_goto (pc := 284) 1331 hC dL_law_284 (by decide) ?_
    refine sg_iincN (pc := 1331) (a := i) (b := i + 4) hC dL_law_1331 rfl (nI_4 i) (by decide) ?_
    refine sg_goto (pc := 1334) 28 hC dL_law_1334 (by decide) ?_
    refine sg_loc (L' := [some (.ref b), some (.ref ca), some (.ref x), some (.ref oa), some (.ref od), some (.int (nI (i + 4))), none, none]) ⟨rfl, rfl, rfl, rfl, rfl, rfl, trivial⟩ ?_
    refine sg_less (cb' := cb) (sb' := sb) (by omega) (by omega) ?_
    exact kk M2 g1 gd _ (hP.step hj hf9 hO1 hOd1 hWB2 hI2)

set_option maxHeartbeats 1000000 in
set_option maxRecDepth 100000 in
theorem lw_c3 {X : sg_X} {l : Launch} {G : sg_G} {d : Nat} {M : sg_M} {cb sb : Nat} {ca pb sl so th cx nt x oa od b n i : Nat} {ad : Nat → Nat} {xs : Nat → Int32} {g : Nat → Int64} {gd : Nat → UInt64} {N : Nat → Nat → Nat} (htr : l.stackTraces = false) (hC : sg_C X l G cL_law RL 8 (d + 12)) (hP : lp G M ca pb sl so th cx nt x oa od b n ad xs g gd N) (hi : i + 4 ≤ n) (hn : n ≤ 256) (kk : ∀ M' g' gd' N', lp G M' ca pb sl so th cx nt x oa od b n ad xs g' gd' N' → sg_W X M' cb sb 28 [some (.ref b), some (.ref ca), some (.ref x), some (.ref oa), some (.ref od), some (.int (nI (i + 4))), none, none] []) : sg_W X M (cb + 14) (sb + 127) 287 [some (.ref b), some (.ref ca), some (.ref x), some (.ref oa), some (.ref od), some (.int (nI i)), none, none] [] := by
  obtain ⟨hJ, hRep, hWB, hO, hOd, hEv, hB⟩ := id hP
  have hW : WN N := hRep.wn hWB
  have hw : ∀ i j, N i j ≤ wb i := hW
  have hw16 : ∀ r, N 16 r < 6 := fun r => Nat.lt_succ_of_le (hW 16 r)
  have hw18 : ∀ r, N 18 r < 64 := fun r => Nat.lt_succ_of_le (hW 18 r)
  have hw14 : ∀ r, N 14 r < 64 := fun r => Nat.lt_succ_of_le (hW 14 r)
  have hw20 : ∀ r, N 20 r < 64 := fun r => Nat.lt_succ_of_le (hW 20 r)
  refine sg_aload_n (pc := 287) (v := .ref ca) hC dL_law_287 rfl rfl ?_
  refine sg_aload_n (pc := 288) (v := .ref b) hC dL_law_288 rfl rfl ?_
  refine sg_iload (pc := 289) (x := nI i) hC dL_law_289 rfl ?_
  refine sg_iconst (pc := 291) (nI 1) hC dL_law_291 (by decide) ?_
  refine sg_iaddN (pc := 292) (a := i) (b := 1) hC dL_law_292 ?_
  refine sg_iald (pc := 293) (i := nI (i + 1)) hC dL_law_293 hB (vp_in_nI (by omega) (by omega)) ?_
  rw [nI_clamp (by omega)]
  refine sg_aload_n (pc := 294) (v := .ref b) hC dL_law_294 rfl rfl ?_
  refine sg_iload (pc := 295) (x := nI i) hC dL_law_295 rfl ?_
  refine sg_iconst (pc := 297) (nI 2) hC dL_law_297 (by decide) ?_
  refine sg_iaddN (pc := 298) (a := i) (b := 2) hC dL_law_298 ?_
  refine sg_iald (pc := 299) (i := nI (i + 2)) hC dL_law_299 hB (vp_in_nI (by omega) (by omega)) ?_
  rw [nI_clamp (by omega)]
  refine sg_aload_n (pc := 300) (v := .ref oa) hC dL_law_300 rfl rfl ?_
  refine sg_callSH (pc := 301) (As := [.ref ca, .int (xs (i + 1)), .int (xs (i + 2)), .ref oa]) (rest := []) (mc := 2) (ms := 12) hC tw_830 tw_831 tw_61 tw_832 yd_L_takesIn (by decide) dL_law_301 rfl (by decide) (by omega) (by omega) ?_
  refine h_takesIn htr hJ hW hO (fun M1 c g1 hj hf hO1 hz hv => ?_)
  have hf9 := c90.o hf
  have hOd1 := hf.k hOd (by simp [c90, cm])
  have hB1 : M1 b = some (0, .inl (.int, n, .inl xs)) := hf9.k hB (by simp [cl9, cm])
  have hRep1 := hRep.sf9 hf9
  refine sg_istore (pc := 304) (x := nI c) hC dL_law_304 (by decide) ?_
  show sg_W X M1 _ _ 306 [some (.ref b), some (.ref ca), some (.ref x), some (.ref oa), some (.ref od), some (.int (nI i)), some (.int (nI c)), none] []
  refine sg_aload_n (pc := 306) (v := .ref x) hC dL_law_306 rfl rfl ?_
  refine sg_aload_n (pc := 307) (v := .ref b) hC dL_law_307 rfl rfl ?_
  refine sg_iload (pc := 308) (x := nI i) hC dL_law_308 rfl ?_
  refine sg_iconst (pc := 310) (nI 1) hC dL_law_310 (by decide) ?_
  refine sg_iaddN (pc := 311) (a := i) (b := 1) hC dL_law_311 ?_
  refine sg_iald (pc := 312) (i := nI (i + 1)) hC dL_law_312 hB1 (vp_in_nI (by omega) (by omega)) ?_
  rw [nI_clamp (by omega)]
  refine sg_aload_n (pc := 313) (v := .ref b) hC dL_law_313 rfl rfl ?_
  refine sg_iload (pc := 314) (x := nI i) hC dL_law_314 rfl ?_
  refine sg_iconst (pc := 316) (nI 2) hC dL_law_316 (by decide) ?_
  refine sg_iaddN (pc := 317) (a := i) (b := 2) hC dL_law_317 ?_
  refine sg_iald (pc := 318) (i := nI (i + 2)) hC dL_law_318 hB1 (vp_in_nI (by omega) (by omega)) ?_
  rw [nI_clamp (by omega)]
  refine sg_callV (pc := 319) (As := [.int (xs (i + 1)), .int (xs (i + 2))]) (rest := []) (mc := 0) (ms := 0) hC tw_1353 tw_1354 tw_1355 tw_72 tw_1356 yq_X7_takesIn (by decide) (ci := 10) rfl dL_law_319 hRep1.1 rfl (Nat.le_of_ble_eq_true rfl) (Nat.zero_le _) (Nat.zero_le _) ?_
  refine mm_takesIn htr hRep1.I (xs (i + 1)) (xs (i + 2)) (hw 4) (fun M2 hI2 => ?_)
  have hkp := hI2.2.kp
  have hB2 : M2 b = some (0, .inl (.int, n, .inl xs)) := hkp _ _ _ hB1 (by decide)
  have hWB2 := (WB_takesIn hWB (xs (i + 1)) (xs (i + 2)))
  refine sg_istore (pc := 322) (x := md_b (md_takesIn N (xs (i + 1)) (xs (i + 2))).1) hC dL_law_322 (by decide) ?_
  show sg_W X M2 _ _ 324 [some (.ref b), some (.ref ca), some (.ref x), some (.ref oa), some (.ref od), some (.int (nI i)), some (.int (nI c)), some (.int (md_b (md_takesIn N (xs (i + 1)) (xs (i + 2))).1))] []
  refine sg_aload_n (pc := 324) (v := .ref x) hC dL_law_324 rfl rfl ?_
  refine sg_callV (pc := 325) (As := []) (rest := []) (mc := 0) (ms := 0) hC tw_1258 tw_1259 tw_1260 tw_72 tw_1261 yq_X7_thrown (by decide) (ci := 10) rfl dL_law_325 hI2.1.1 rfl (Nat.le_of_ble_eq_true rfl) (Nat.zero_le _) (Nat.zero_le _) ?_
  refine mm_thrown htr hI2 ?_
  refine sg_iload (pc := 328) (x := nI c) hC dL_law_328 rfl ?_
  refine sg_icmp_eq (pc := 330) (x := nI (md_thrown (md_takesIn N (xs (i + 1)) (xs (i + 2))).2)) (y := nI c) 335 hC dL_law_330 (by decide) (fun _ => ?_) (fun h9 => absurd (congrArg nI hz) h9)
  refine sg_iload (pc := 335) (x := nI c) hC dL_law_335 rfl ?_
  have hc9 : c < 65536 := by rw [← hz]; exact hI2.1.2.2 0 0
  refine sg_ifN_ne (pc := 337) (a := c) 359 hC dL_law_337 (by decide) (by omega) (fun hc => ?_) (fun hc => ?_)
  · skip
    refine sg_goto (pc := 359) 1331 hC dL_law_359 (by decide) ?_
    refine sg_iincN (pc := 1331) (a := i) (b := i + 4) hC dL_law_1331 rfl (nI_4 i) (by decide) ?_
    refine sg_goto (pc := 1334) 28 hC dL_law_1334 (by decide) ?_
    refine sg_loc (L' := [some (.ref b), some (.ref ca), some (.ref x), some (.ref oa), some (.ref od), some (.int (nI (i + 4))), none, none]) ⟨rfl, rfl, rfl, rfl, rfl, rfl, trivial⟩ ?_
    refine sg_less (cb' := cb) (sb' := sb) (by omega) (by omega) ?_
    exact kk M2 g1 gd _ (hP.step hj hf9 hO1 hOd1 hWB2 hI2)
  · subst hc
    refine sg_aload_n (pc := 340) (v := .ref oa) hC dL_law_340 rfl rfl ?_
    refine sg_iconst (pc := 341) (nI 0) hC dL_law_341 (by decide) ?_
    have hO2 : M2 oa = some (90, .inl (.long, 1, .inr (.inl g1))) := hkp _ _ _ hO1 (by decide)
    refine sg_lald (pc := 342) (i := nI 0) hC dL_law_342 hO2 (vp_in_nI (by decide) (by decide)) ?_
    rw [nI_clamp (by decide)]
    refine sg_iload (pc := 343) (x := md_b (md_takesIn N (xs (i + 1)) (xs (i + 2))).1) hC dL_law_343 rfl ?_
    refine sg_ifB_eq (pc := 345) (b := (md_takesIn N (xs (i + 1)) (xs (i + 2))).1) 352 hC dL_law_345 (by decide) (fun hb => ?_) (fun hb => ?_)
    · skip
      refine sg_lconst (pc := 352) (0) hC dL_law_352 (by decide) ?_
      rw [show g1 0 = (0 : Int64) from by rw [hv rfl, hb]; rfl]
      refine sg_lcmp0 (pc := 353) hC dL_law_353 ?_
      refine sg_ifN_eq (pc := 354) (a := 0) 359 hC dL_law_354 (by decide) (by decide) (fun _ => ?_) (fun h9 => absurd rfl h9)
      refine sg_goto (pc := 359) 1331 hC dL_law_359 (by decide) ?_
      refine sg_iincN (pc := 1331) (a := i) (b := i + 4) hC dL_law_1331 rfl (nI_4 i) (by decide) ?_
      refine sg_goto (pc := 1334) 28 hC dL_law_1334 (by decide) ?_
      refine sg_loc (L' := [some (.ref b), some (.ref ca), some (.ref x), some (.ref oa), some (.ref od), some (.int (nI (i + 4))), none, none]) ⟨rfl, rfl, rfl, rfl, rfl, rfl, trivial⟩ ?_
      refine sg_less (cb' := cb) (sb' := sb) (by omega) (by omega) ?_
      exact kk M2 g1 gd _ (hP.step hj hf9 hO1 hOd1 hWB2 hI2)
    · skip
      refine sg_lconst (pc := 348) (1) hC dL_law_348 (by decide) ?_
      refine sg_goto (pc := 349) 353 hC dL_law_349 (by decide) ?_
      rw [show g1 0 = (1 : Int64) from by rw [hv rfl, hb]; rfl]
      refine sg_lcmp0 (pc := 353) hC dL_law_353 ?_
      refine sg_ifN_eq (pc := 354) (a := 0) 359 hC dL_law_354 (by decide) (by decide) (fun _ => ?_) (fun h9 => absurd rfl h9)
      refine sg_goto (pc := 359) 1331 hC dL_law_359 (by decide) ?_
      refine sg_iincN (pc := 1331) (a := i) (b := i + 4) hC dL_law_1331 rfl (nI_4 i) (by decide) ?_
      refine sg_goto (pc := 1334) 28 hC dL_law_1334 (by decide) ?_
      refine sg_loc (L' := [some (.ref b), some (.ref ca), some (.ref x), some (.ref oa), some (.ref od), some (.int (nI (i + 4))), none, none]) ⟨rfl, rfl, rfl, rfl, rfl, rfl, trivial⟩ ?_
      refine sg_less (cb' := cb) (sb' := sb) (by omega) (by omega) ?_
      exact kk M2 g1 gd _ (hP.step hj hf9 hO1 hOd1 hWB2 hI2)

set_option maxHeartbeats 1000000 in
set_option maxRecDepth 100000 in
theorem lw_c4 {X : sg_X} {l : Launch} {G : sg_G} {d : Nat} {M : sg_M} {cb sb : Nat} {ca pb sl so th cx nt x oa od b n i : Nat} {ad : Nat → Nat} {xs : Nat → Int32} {g : Nat → Int64} {gd : Nat → UInt64} {N : Nat → Nat → Nat} (htr : l.stackTraces = false) (hC : sg_C X l G cL_law RL 8 (d + 12)) (hP : lp G M ca pb sl so th cx nt x oa od b n ad xs g gd N) (hi : i + 4 ≤ n) (hn : n ≤ 256) (kk : ∀ M' g' gd' N', lp G M' ca pb sl so th cx nt x oa od b n ad xs g' gd' N' → sg_W X M' cb sb 28 [some (.ref b), some (.ref ca), some (.ref x), some (.ref oa), some (.ref od), some (.int (nI (i + 4))), none, none] []) : sg_W X M (cb + 14) (sb + 127) 362 [some (.ref b), some (.ref ca), some (.ref x), some (.ref oa), some (.ref od), some (.int (nI i)), none, none] [] := by
  obtain ⟨hJ, hRep, hWB, hO, hOd, hEv, hB⟩ := id hP
  have hW : WN N := hRep.wn hWB
  have hw : ∀ i j, N i j ≤ wb i := hW
  have hw16 : ∀ r, N 16 r < 6 := fun r => Nat.lt_succ_of_le (hW 16 r)
  have hw18 : ∀ r, N 18 r < 64 := fun r => Nat.lt_succ_of_le (hW 18 r)
  have hw14 : ∀ r, N 14 r < 64 := fun r => Nat.lt_succ_of_le (hW 14 r)
  have hw20 : ∀ r, N 20 r < 64 := fun r => Nat.lt_succ_of_le (hW 20 r)
  refine sg_aload_n (pc := 362) (v := .ref ca) hC dL_law_362 rfl rfl ?_
  refine sg_aload_n (pc := 363) (v := .ref b) hC dL_law_363 rfl rfl ?_
  refine sg_iload (pc := 364) (x := nI i) hC dL_law_364 rfl ?_
  refine sg_iconst (pc := 366) (nI 1) hC dL_law_366 (by decide) ?_
  refine sg_iaddN (pc := 367) (a := i) (b := 1) hC dL_law_367 ?_
  refine sg_iald (pc := 368) (i := nI (i + 1)) hC dL_law_368 hB (vp_in_nI (by omega) (by omega)) ?_
  rw [nI_clamp (by omega)]
  refine sg_aload_n (pc := 369) (v := .ref b) hC dL_law_369 rfl rfl ?_
  refine sg_iload (pc := 370) (x := nI i) hC dL_law_370 rfl ?_
  refine sg_iconst (pc := 372) (nI 2) hC dL_law_372 (by decide) ?_
  refine sg_iaddN (pc := 373) (a := i) (b := 2) hC dL_law_373 ?_
  refine sg_iald (pc := 374) (i := nI (i + 2)) hC dL_law_374 hB (vp_in_nI (by omega) (by omega)) ?_
  rw [nI_clamp (by omega)]
  refine sg_aload_n (pc := 375) (v := .ref oa) hC dL_law_375 rfl rfl ?_
  refine sg_callSH (pc := 376) (As := [.ref ca, .int (xs (i + 1)), .int (xs (i + 2)), .ref oa]) (rest := []) (mc := 3) (ms := 22) hC tw_855 tw_856 tw_61 tw_857 yd_L_grant (by decide) dL_law_376 rfl (by decide) (by omega) (by omega) ?_
  refine h_grant htr hJ hW hO (fun M1 c g1 hj hf hO1 hz hv => ?_)
  have hf9 := c90.o hf
  have hOd1 := hf.k hOd (by simp [c90, cm])
  have hB1 : M1 b = some (0, .inl (.int, n, .inl xs)) := hf9.k hB (by simp [cl9, cm])
  have hRep1 := hRep.sf9 hf9
  refine sg_istore (pc := 379) (x := nI c) hC dL_law_379 (by decide) ?_
  show sg_W X M1 _ _ 381 [some (.ref b), some (.ref ca), some (.ref x), some (.ref oa), some (.ref od), some (.int (nI i)), some (.int (nI c)), none] []
  refine sg_aload_n (pc := 381) (v := .ref x) hC dL_law_381 rfl rfl ?_
  refine sg_aload_n (pc := 382) (v := .ref b) hC dL_law_382 rfl rfl ?_
  refine sg_iload (pc := 383) (x := nI i) hC dL_law_383 rfl ?_
  refine sg_iconst (pc := 385) (nI 1) hC dL_law_385 (by decide) ?_
  refine sg_iaddN (pc := 386) (a := i) (b := 1) hC dL_law_386 ?_
  refine sg_iald (pc := 387) (i := nI (i + 1)) hC dL_law_387 hB1 (vp_in_nI (by omega) (by omega)) ?_
  rw [nI_clamp (by omega)]
  refine sg_aload_n (pc := 388) (v := .ref b) hC dL_law_388 rfl rfl ?_
  refine sg_iload (pc := 389) (x := nI i) hC dL_law_389 rfl ?_
  refine sg_iconst (pc := 391) (nI 2) hC dL_law_391 (by decide) ?_
  refine sg_iaddN (pc := 392) (a := i) (b := 2) hC dL_law_392 ?_
  refine sg_iald (pc := 393) (i := nI (i + 2)) hC dL_law_393 hB1 (vp_in_nI (by omega) (by omega)) ?_
  rw [nI_clamp (by omega)]
  refine sg_callV (pc := 394) (As := [.int (xs (i + 1)), .int (xs (i + 2))]) (rest := []) (mc := 0) (ms := 0) hC tw_1377 tw_1378 tw_1379 tw_72 tw_1380 yq_X7_grant (by decide) (ci := 10) rfl dL_law_394 hRep1.1 rfl (Nat.le_of_ble_eq_true rfl) (Nat.zero_le _) (Nat.zero_le _) ?_
  refine mm_grant htr hRep1.I (xs (i + 1)) (xs (i + 2)) (hw 4) (hw 12) (fun M2 hI2 => ?_)
  have hkp := hI2.2.kp
  have hB2 : M2 b = some (0, .inl (.int, n, .inl xs)) := hkp _ _ _ hB1 (by decide)
  have hWB2 := (WB_grant hWB (xs (i + 1)) (xs (i + 2)))
  refine sg_istore (pc := 397) (x := nI (md_grant N (xs (i + 1)) (xs (i + 2))).1) hC dL_law_397 (by decide) ?_
  show sg_W X M2 _ _ 399 [some (.ref b), some (.ref ca), some (.ref x), some (.ref oa), some (.ref od), some (.int (nI i)), some (.int (nI c)), some (.int (nI (md_grant N (xs (i + 1)) (xs (i + 2))).1))] []
  refine sg_aload_n (pc := 399) (v := .ref x) hC dL_law_399 rfl rfl ?_
  refine sg_callV (pc := 400) (As := []) (rest := []) (mc := 0) (ms := 0) hC tw_1258 tw_1259 tw_1260 tw_72 tw_1261 yq_X7_thrown (by decide) (ci := 10) rfl dL_law_400 hI2.1.1 rfl (Nat.le_of_ble_eq_true rfl) (Nat.zero_le _) (Nat.zero_le _) ?_
  refine mm_thrown htr hI2 ?_
  refine sg_iload (pc := 403) (x := nI c) hC dL_law_403 rfl ?_
  refine sg_icmp_eq (pc := 405) (x := nI (md_thrown (md_grant N (xs (i + 1)) (xs (i + 2))).2)) (y := nI c) 410 hC dL_law_405 (by decide) (fun _ => ?_) (fun h9 => absurd (congrArg nI hz) h9)
  refine sg_iload (pc := 410) (x := nI c) hC dL_law_410 rfl ?_
  have hc9 : c < 65536 := by rw [← hz]; exact hI2.1.2.2 0 0
  refine sg_ifN_ne (pc := 412) (a := c) 427 hC dL_law_412 (by decide) (by omega) (fun hc => ?_) (fun hc => ?_)
  · skip
    refine sg_goto (pc := 427) 1331 hC dL_law_427 (by decide) ?_
    refine sg_iincN (pc := 1331) (a := i) (b := i + 4) hC dL_law_1331 rfl (nI_4 i) (by decide) ?_
    refine sg_goto (pc := 1334) 28 hC dL_law_1334 (by decide) ?_
    refine sg_loc (L' := [some (.ref b), some (.ref ca), some (.ref x), some (.ref oa), some (.ref od), some (.int (nI (i + 4))), none, none]) ⟨rfl, rfl, rfl, rfl, rfl, rfl, trivial⟩ ?_
    refine sg_less (cb' := cb) (sb' := sb) (by omega) (by omega) ?_
    exact kk M2 g1 gd _ (hP.step hj hf9 hO1 hOd1 hWB2 hI2)
  · subst hc
    refine sg_aload_n (pc := 415) (v := .ref oa) hC dL_law_415 rfl rfl ?_
    refine sg_iconst (pc := 416) (nI 0) hC dL_law_416 (by decide) ?_
    have hO2 : M2 oa = some (90, .inl (.long, 1, .inr (.inl g1))) := hkp _ _ _ hO1 (by decide)
    refine sg_lald (pc := 417) (i := nI 0) hC dL_law_417 hO2 (vp_in_nI (by decide) (by decide)) ?_
    rw [nI_clamp (by decide)]
    refine sg_iload (pc := 418) (x := nI (md_grant N (xs (i + 1)) (xs (i + 2))).1) hC dL_law_418 rfl ?_
    refine sg_i2l (pc := 420) (x := nI (md_grant N (xs (i + 1)) (xs (i + 2))).1) ((nI (md_grant N (xs (i + 1)) (xs (i + 2))).1).toInt64) hC dL_law_420 rfl ?_
    rw [hv rfl]
    refine sg_lcmp0 (pc := 421) hC dL_law_421 ?_
    refine sg_ifN_eq (pc := 422) (a := 0) 427 hC dL_law_422 (by decide) (by decide) (fun _ => ?_) (fun h9 => absurd rfl h9)
    refine sg_goto (pc := 427) 1331 hC dL_law_427 (by decide) ?_
    refine sg_iincN (pc := 1331) (a := i) (b := i + 4) hC dL_law_1331 rfl (nI_4 i) (by decide) ?_
    refine sg_goto (pc := 1334) 28 hC dL_law_1334 (by decide) ?_
    refine sg_loc (L' := [some (.ref b), some (.ref ca), some (.ref x), some (.ref oa), some (.ref od), some (.int (nI (i + 4))), none, none]) ⟨rfl, rfl, rfl, rfl, rfl, rfl, trivial⟩ ?_
    refine sg_less (cb' := cb) (sb' := sb) (by omega) (by omega) ?_
    exact kk M2 g1 gd _ (hP.step hj hf9 hO1 hOd1 hWB2 hI2)

set_option maxHeartbeats 1000000 in
set_option maxRecDepth 100000 in
theorem lw_c5 {X : sg_X} {l : Launch} {G : sg_G} {d : Nat} {M : sg_M} {cb sb : Nat} {ca pb sl so th cx nt x oa od b n i : Nat} {ad : Nat → Nat} {xs : Nat → Int32} {g : Nat → Int64} {gd : Nat → UInt64} {N : Nat → Nat → Nat} (htr : l.stackTraces = false) (hC : sg_C X l G cL_law RL 8 (d + 12)) (hP : lp G M ca pb sl so th cx nt x oa od b n ad xs g gd N) (hi : i + 4 ≤ n) (hn : n ≤ 256) (kk : ∀ M' g' gd' N', lp G M' ca pb sl so th cx nt x oa od b n ad xs g' gd' N' → sg_W X M' cb sb 28 [some (.ref b), some (.ref ca), some (.ref x), some (.ref oa), some (.ref od), some (.int (nI (i + 4))), none, none] []) : sg_W X M (cb + 14) (sb + 127) 430 [some (.ref b), some (.ref ca), some (.ref x), some (.ref oa), some (.ref od), some (.int (nI i)), none, none] [] := by
  obtain ⟨hJ, hRep, hWB, hO, hOd, hEv, hB⟩ := id hP
  have hW : WN N := hRep.wn hWB
  have hw : ∀ i j, N i j ≤ wb i := hW
  have hw16 : ∀ r, N 16 r < 6 := fun r => Nat.lt_succ_of_le (hW 16 r)
  have hw18 : ∀ r, N 18 r < 64 := fun r => Nat.lt_succ_of_le (hW 18 r)
  have hw14 : ∀ r, N 14 r < 64 := fun r => Nat.lt_succ_of_le (hW 14 r)
  have hw20 : ∀ r, N 20 r < 64 := fun r => Nat.lt_succ_of_le (hW 20 r)
  refine sg_aload_n (pc := 430) (v := .ref ca) hC dL_law_430 rfl rfl ?_
  refine sg_aload_n (pc := 431) (v := .ref b) hC dL_law_431 rfl rfl ?_
  refine sg_iload (pc := 432) (x := nI i) hC dL_law_432 rfl ?_
  refine sg_iconst (pc := 434) (nI 1) hC dL_law_434 (by decide) ?_
  refine sg_iaddN (pc := 435) (a := i) (b := 1) hC dL_law_435 ?_
  refine sg_iald (pc := 436) (i := nI (i + 1)) hC dL_law_436 hB (vp_in_nI (by omega) (by omega)) ?_
  rw [nI_clamp (by omega)]
  refine sg_aload_n (pc := 437) (v := .ref b) hC dL_law_437 rfl rfl ?_
  refine sg_iload (pc := 438) (x := nI i) hC dL_law_438 rfl ?_
  refine sg_iconst (pc := 440) (nI 2) hC dL_law_440 (by decide) ?_
  refine sg_iaddN (pc := 441) (a := i) (b := 2) hC dL_law_441 ?_
  refine sg_iald (pc := 442) (i := nI (i + 2)) hC dL_law_442 hB (vp_in_nI (by omega) (by omega)) ?_
  rw [nI_clamp (by omega)]
  refine sg_aload_n (pc := 443) (v := .ref oa) hC dL_law_443 rfl rfl ?_
  refine sg_callSH (pc := 444) (As := [.ref ca, .int (xs (i + 1)), .int (xs (i + 2)), .ref oa]) (rest := []) (mc := 2) (ms := 12) hC tw_932 tw_933 tw_61 tw_934 yd_L_revoke (by decide) dL_law_444 rfl (by decide) (by omega) (by omega) ?_
  refine h_revoke htr hJ hW hO (fun M1 c g1 hj hf hO1 hz hv => ?_)
  have hf9 := c90.o hf
  have hOd1 := hf.k hOd (by simp [c90, cm])
  have hB1 : M1 b = some (0, .inl (.int, n, .inl xs)) := hf9.k hB (by simp [cl9, cm])
  have hRep1 := hRep.sf9 hf9
  refine sg_istore (pc := 447) (x := nI c) hC dL_law_447 (by decide) ?_
  show sg_W X M1 _ _ 449 [some (.ref b), some (.ref ca), some (.ref x), some (.ref oa), some (.ref od), some (.int (nI i)), some (.int (nI c)), none] []
  refine sg_aload_n (pc := 449) (v := .ref x) hC dL_law_449 rfl rfl ?_
  refine sg_aload_n (pc := 450) (v := .ref b) hC dL_law_450 rfl rfl ?_
  refine sg_iload (pc := 451) (x := nI i) hC dL_law_451 rfl ?_
  refine sg_iconst (pc := 453) (nI 1) hC dL_law_453 (by decide) ?_
  refine sg_iaddN (pc := 454) (a := i) (b := 1) hC dL_law_454 ?_
  refine sg_iald (pc := 455) (i := nI (i + 1)) hC dL_law_455 hB1 (vp_in_nI (by omega) (by omega)) ?_
  rw [nI_clamp (by omega)]
  refine sg_aload_n (pc := 456) (v := .ref b) hC dL_law_456 rfl rfl ?_
  refine sg_iload (pc := 457) (x := nI i) hC dL_law_457 rfl ?_
  refine sg_iconst (pc := 459) (nI 2) hC dL_law_459 (by decide) ?_
  refine sg_iaddN (pc := 460) (a := i) (b := 2) hC dL_law_460 ?_
  refine sg_iald (pc := 461) (i := nI (i + 2)) hC dL_law_461 hB1 (vp_in_nI (by omega) (by omega)) ?_
  rw [nI_clamp (by omega)]
  refine sg_callV (pc := 462) (As := [.int (xs (i + 1)), .int (xs (i + 2))]) (rest := []) (mc := 0) (ms := 0) hC tw_1381 tw_1382 tw_1383 tw_72 tw_1384 yq_X7_revoke (by decide) (ci := 10) rfl dL_law_462 hRep1.1 rfl (Nat.le_of_ble_eq_true rfl) (Nat.zero_le _) (Nat.zero_le _) ?_
  refine mm_revoke htr hRep1.I (xs (i + 1)) (xs (i + 2)) (hw 4) (hw 12) (fun M2 hI2 => ?_)
  have hkp := hI2.2.kp
  have hB2 : M2 b = some (0, .inl (.int, n, .inl xs)) := hkp _ _ _ hB1 (by decide)
  have hWB2 := (WB_revoke hWB (xs (i + 1)) (xs (i + 2)))
  refine sg_istore (pc := 465) (x := nI (md_revoke N (xs (i + 1)) (xs (i + 2))).1) hC dL_law_465 (by decide) ?_
  show sg_W X M2 _ _ 467 [some (.ref b), some (.ref ca), some (.ref x), some (.ref oa), some (.ref od), some (.int (nI i)), some (.int (nI c)), some (.int (nI (md_revoke N (xs (i + 1)) (xs (i + 2))).1))] []
  refine sg_aload_n (pc := 467) (v := .ref x) hC dL_law_467 rfl rfl ?_
  refine sg_callV (pc := 468) (As := []) (rest := []) (mc := 0) (ms := 0) hC tw_1258 tw_1259 tw_1260 tw_72 tw_1261 yq_X7_thrown (by decide) (ci := 10) rfl dL_law_468 hI2.1.1 rfl (Nat.le_of_ble_eq_true rfl) (Nat.zero_le _) (Nat.zero_le _) ?_
  refine mm_thrown htr hI2 ?_
  refine sg_iload (pc := 471) (x := nI c) hC dL_law_471 rfl ?_
  refine sg_icmp_eq (pc := 473) (x := nI (md_thrown (md_revoke N (xs (i + 1)) (xs (i + 2))).2)) (y := nI c) 478 hC dL_law_473 (by decide) (fun _ => ?_) (fun h9 => absurd (congrArg nI hz) h9)
  refine sg_iload (pc := 478) (x := nI c) hC dL_law_478 rfl ?_
  have hc9 : c < 65536 := by rw [← hz]; exact hI2.1.2.2 0 0
  refine sg_ifN_ne (pc := 480) (a := c) 495 hC dL_law_480 (by decide) (by omega) (fun hc => ?_) (fun hc => ?_)
  · skip
    refine sg_goto (pc := 495) 1331 hC dL_law_495 (by decide) ?_
    refine sg_iincN (pc := 1331) (a := i) (b := i + 4) hC dL_law_1331 rfl (nI_4 i) (by decide) ?_
    refine sg_goto (pc := 1334) 28 hC dL_law_1334 (by decide) ?_
    refine sg_loc (L' := [some (.ref b), some (.ref ca), some (.ref x), some (.ref oa), some (.ref od), some (.int (nI (i + 4))), none, none]) ⟨rfl, rfl, rfl, rfl, rfl, rfl, trivial⟩ ?_
    refine sg_less (cb' := cb) (sb' := sb) (by omega) (by omega) ?_
    exact kk M2 g1 gd _ (hP.step hj hf9 hO1 hOd1 hWB2 hI2)
  · subst hc
    refine sg_aload_n (pc := 483) (v := .ref oa) hC dL_law_483 rfl rfl ?_
    refine sg_iconst (pc := 484) (nI 0) hC dL_law_484 (by decide) ?_
    have hO2 : M2 oa = some (90, .inl (.long, 1, .inr (.inl g1))) := hkp _ _ _ hO1 (by decide)
    refine sg_lald (pc := 485) (i := nI 0) hC dL_law_485 hO2 (vp_in_nI (by decide) (by decide)) ?_
    rw [nI_clamp (by decide)]
    refine sg_iload (pc := 486) (x := nI (md_revoke N (xs (i + 1)) (xs (i + 2))).1) hC dL_law_486 rfl ?_
    refine sg_i2l (pc := 488) (x := nI (md_revoke N (xs (i + 1)) (xs (i + 2))).1) ((nI (md_revoke N (xs (i + 1)) (xs (i + 2))).1).toInt64) hC dL_law_488 rfl ?_
    rw [hv rfl]
    refine sg_lcmp0 (pc := 489) hC dL_law_489 ?_
    refine sg_ifN_eq (pc := 490) (a := 0) 495 hC dL_law_490 (by decide) (by decide) (fun _ => ?_) (fun h9 => absurd rfl h9)
    refine sg_goto (pc := 495) 1331 hC dL_law_495 (by decide) ?_
    refine sg_iincN (pc := 1331) (a := i) (b := i + 4) hC dL_law_1331 rfl (nI_4 i) (by decide) ?_
    refine sg_goto (pc := 1334) 28 hC dL_law_1334 (by decide) ?_
    refine sg_loc (L' := [some (.ref b), some (.ref ca), some (.ref x), some (.ref oa), some (.ref od), some (.int (nI (i + 4))), none, none]) ⟨rfl, rfl, rfl, rfl, rfl, rfl, trivial⟩ ?_
    refine sg_less (cb' := cb) (sb' := sb) (by omega) (by omega) ?_
    exact kk M2 g1 gd _ (hP.step hj hf9 hO1 hOd1 hWB2 hI2)

set_option maxHeartbeats 1000000 in
set_option maxRecDepth 100000 in
theorem lw_c6 {X : sg_X} {l : Launch} {G : sg_G} {d : Nat} {M : sg_M} {cb sb : Nat} {ca pb sl so th cx nt x oa od b n i : Nat} {ad : Nat → Nat} {xs : Nat → Int32} {g : Nat → Int64} {gd : Nat → UInt64} {N : Nat → Nat → Nat} (htr : l.stackTraces = false) (hC : sg_C X l G cL_law RL 8 (d + 12)) (hP : lp G M ca pb sl so th cx nt x oa od b n ad xs g gd N) (hi : i + 4 ≤ n) (hn : n ≤ 256) (kk : ∀ M' g' gd' N', lp G M' ca pb sl so th cx nt x oa od b n ad xs g' gd' N' → sg_W X M' cb sb 28 [some (.ref b), some (.ref ca), some (.ref x), some (.ref oa), some (.ref od), some (.int (nI (i + 4))), none, none] []) : sg_W X M (cb + 14) (sb + 127) 498 [some (.ref b), some (.ref ca), some (.ref x), some (.ref oa), some (.ref od), some (.int (nI i)), none, none] [] := by
  obtain ⟨hJ, hRep, hWB, hO, hOd, hEv, hB⟩ := id hP
  have hW : WN N := hRep.wn hWB
  have hw : ∀ i j, N i j ≤ wb i := hW
  have hw16 : ∀ r, N 16 r < 6 := fun r => Nat.lt_succ_of_le (hW 16 r)
  have hw18 : ∀ r, N 18 r < 64 := fun r => Nat.lt_succ_of_le (hW 18 r)
  have hw14 : ∀ r, N 14 r < 64 := fun r => Nat.lt_succ_of_le (hW 14 r)
  have hw20 : ∀ r, N 20 r < 64 := fun r => Nat.lt_succ_of_le (hW 20 r)
  refine sg_aload_n (pc := 498) (v := .ref ca) hC dL_law_498 rfl rfl ?_
  refine sg_aload_n (pc := 499) (v := .ref b) hC dL_law_499 rfl rfl ?_
  refine sg_iload (pc := 500) (x := nI i) hC dL_law_500 rfl ?_
  refine sg_iconst (pc := 502) (nI 1) hC dL_law_502 (by decide) ?_
  refine sg_iaddN (pc := 503) (a := i) (b := 1) hC dL_law_503 ?_
  refine sg_iald (pc := 504) (i := nI (i + 1)) hC dL_law_504 hB (vp_in_nI (by omega) (by omega)) ?_
  rw [nI_clamp (by omega)]
  refine sg_aload_n (pc := 505) (v := .ref b) hC dL_law_505 rfl rfl ?_
  refine sg_iload (pc := 506) (x := nI i) hC dL_law_506 rfl ?_
  refine sg_iconst (pc := 508) (nI 2) hC dL_law_508 (by decide) ?_
  refine sg_iaddN (pc := 509) (a := i) (b := 2) hC dL_law_509 ?_
  refine sg_iald (pc := 510) (i := nI (i + 2)) hC dL_law_510 hB (vp_in_nI (by omega) (by omega)) ?_
  rw [nI_clamp (by omega)]
  refine sg_aload_n (pc := 511) (v := .ref oa) hC dL_law_511 rfl rfl ?_
  refine sg_callSH (pc := 512) (As := [.ref ca, .int (xs (i + 1)), .int (xs (i + 2)), .ref oa]) (rest := []) (mc := 2) (ms := 12) hC tw_958 tw_959 tw_61 tw_960 yd_L_may (by decide) dL_law_512 rfl (by decide) (by omega) (by omega) ?_
  refine h_may htr hJ hW hO (fun M1 c g1 hj hf hO1 hz hv => ?_)
  have hf9 := c90.o hf
  have hOd1 := hf.k hOd (by simp [c90, cm])
  have hB1 : M1 b = some (0, .inl (.int, n, .inl xs)) := hf9.k hB (by simp [cl9, cm])
  have hRep1 := hRep.sf9 hf9
  refine sg_istore (pc := 515) (x := nI c) hC dL_law_515 (by decide) ?_
  show sg_W X M1 _ _ 517 [some (.ref b), some (.ref ca), some (.ref x), some (.ref oa), some (.ref od), some (.int (nI i)), some (.int (nI c)), none] []
  refine sg_aload_n (pc := 517) (v := .ref x) hC dL_law_517 rfl rfl ?_
  refine sg_aload_n (pc := 518) (v := .ref b) hC dL_law_518 rfl rfl ?_
  refine sg_iload (pc := 519) (x := nI i) hC dL_law_519 rfl ?_
  refine sg_iconst (pc := 521) (nI 1) hC dL_law_521 (by decide) ?_
  refine sg_iaddN (pc := 522) (a := i) (b := 1) hC dL_law_522 ?_
  refine sg_iald (pc := 523) (i := nI (i + 1)) hC dL_law_523 hB1 (vp_in_nI (by omega) (by omega)) ?_
  rw [nI_clamp (by omega)]
  refine sg_aload_n (pc := 524) (v := .ref b) hC dL_law_524 rfl rfl ?_
  refine sg_iload (pc := 525) (x := nI i) hC dL_law_525 rfl ?_
  refine sg_iconst (pc := 527) (nI 2) hC dL_law_527 (by decide) ?_
  refine sg_iaddN (pc := 528) (a := i) (b := 2) hC dL_law_528 ?_
  refine sg_iald (pc := 529) (i := nI (i + 2)) hC dL_law_529 hB1 (vp_in_nI (by omega) (by omega)) ?_
  rw [nI_clamp (by omega)]
  refine sg_callV (pc := 530) (As := [.int (xs (i + 1)), .int (xs (i + 2))]) (rest := []) (mc := 0) (ms := 0) hC tw_1385 tw_1386 tw_1387 tw_72 tw_1388 yq_X7_may (by decide) (ci := 10) rfl dL_law_530 hRep1.1 rfl (Nat.le_of_ble_eq_true rfl) (Nat.zero_le _) (Nat.zero_le _) ?_
  refine mm_may htr hRep1.I (xs (i + 1)) (xs (i + 2)) (hw 4) (hw 12) (fun M2 hI2 => ?_)
  have hkp := hI2.2.kp
  have hB2 : M2 b = some (0, .inl (.int, n, .inl xs)) := hkp _ _ _ hB1 (by decide)
  have hWB2 := (WB_may hWB (xs (i + 1)) (xs (i + 2)))
  refine sg_istore (pc := 533) (x := md_b (md_may N (xs (i + 1)) (xs (i + 2))).1) hC dL_law_533 (by decide) ?_
  show sg_W X M2 _ _ 535 [some (.ref b), some (.ref ca), some (.ref x), some (.ref oa), some (.ref od), some (.int (nI i)), some (.int (nI c)), some (.int (md_b (md_may N (xs (i + 1)) (xs (i + 2))).1))] []
  refine sg_aload_n (pc := 535) (v := .ref x) hC dL_law_535 rfl rfl ?_
  refine sg_callV (pc := 536) (As := []) (rest := []) (mc := 0) (ms := 0) hC tw_1258 tw_1259 tw_1260 tw_72 tw_1261 yq_X7_thrown (by decide) (ci := 10) rfl dL_law_536 hI2.1.1 rfl (Nat.le_of_ble_eq_true rfl) (Nat.zero_le _) (Nat.zero_le _) ?_
  refine mm_thrown htr hI2 ?_
  refine sg_iload (pc := 539) (x := nI c) hC dL_law_539 rfl ?_
  refine sg_icmp_eq (pc := 541) (x := nI (md_thrown (md_may N (xs (i + 1)) (xs (i + 2))).2)) (y := nI c) 546 hC dL_law_541 (by decide) (fun _ => ?_) (fun h9 => absurd (congrArg nI hz) h9)
  refine sg_iload (pc := 546) (x := nI c) hC dL_law_546 rfl ?_
  have hc9 : c < 65536 := by rw [← hz]; exact hI2.1.2.2 0 0
  refine sg_ifN_ne (pc := 548) (a := c) 570 hC dL_law_548 (by decide) (by omega) (fun hc => ?_) (fun hc => ?_)
  · skip
    refine sg_goto (pc := 570) 1331 hC dL_law_570 (by decide) ?_
    refine sg_iincN (pc := 1331) (a := i) (b := i + 4) hC dL_law_1331 rfl (nI_4 i) (by decide) ?_
    refine sg_goto (pc := 1334) 28 hC dL_law_1334 (by decide) ?_
    refine sg_loc (L' := [some (.ref b), some (.ref ca), some (.ref x), some (.ref oa), some (.ref od), some (.int (nI (i + 4))), none, none]) ⟨rfl, rfl, rfl, rfl, rfl, rfl, trivial⟩ ?_
    refine sg_less (cb' := cb) (sb' := sb) (by omega) (by omega) ?_
    exact kk M2 g1 gd _ (hP.step hj hf9 hO1 hOd1 hWB2 hI2)
  · subst hc
    refine sg_aload_n (pc := 551) (v := .ref oa) hC dL_law_551 rfl rfl ?_
    refine sg_iconst (pc := 552) (nI 0) hC dL_law_552 (by decide) ?_
    have hO2 : M2 oa = some (90, .inl (.long, 1, .inr (.inl g1))) := hkp _ _ _ hO1 (by decide)
    refine sg_lald (pc := 553) (i := nI 0) hC dL_law_553 hO2 (vp_in_nI (by decide) (by decide)) ?_
    rw [nI_clamp (by decide)]
    refine sg_iload (pc := 554) (x := md_b (md_may N (xs (i + 1)) (xs (i + 2))).1) hC dL_law_554 rfl ?_
    refine sg_ifB_eq (pc := 556) (b := (md_may N (xs (i + 1)) (xs (i + 2))).1) 563 hC dL_law_556 (by decide) (fun hb => ?_) (fun hb => ?_)
    · skip
      refine sg_lconst (pc := 563) (0) hC dL_law_563 (by decide) ?_
      rw [show g1 0 = (0 : Int64) from by rw [hv rfl, hb]; rfl]
      refine sg_lcmp0 (pc := 564) hC dL_law_564 ?_
      refine sg_ifN_eq (pc := 565) (a := 0) 570 hC dL_law_565 (by decide) (by decide) (fun _ => ?_) (fun h9 => absurd rfl h9)
      refine sg_goto (pc := 570) 1331 hC dL_law_570 (by decide) ?_
      refine sg_iincN (pc := 1331) (a := i) (b := i + 4) hC dL_law_1331 rfl (nI_4 i) (by decide) ?_
      refine sg_goto (pc := 1334) 28 hC dL_law_1334 (by decide) ?_
      refine sg_loc (L' := [some (.ref b), some (.ref ca), some (.ref x), some (.ref oa), some (.ref od), some (.int (nI (i + 4))), none, none]) ⟨rfl, rfl, rfl, rfl, rfl, rfl, trivial⟩ ?_
      refine sg_less (cb' := cb) (sb' := sb) (by omega) (by omega) ?_
      exact kk M2 g1 gd _ (hP.step hj hf9 hO1 hOd1 hWB2 hI2)
    · skip
      refine sg_lconst (pc := 559) (1) hC dL_law_559 (by decide) ?_
      refine sg_goto (pc := 560) 564 hC dL_law_560 (by decide) ?_
      rw [show g1 0 = (1 : Int64) from by rw [hv rfl, hb]; rfl]
      refine sg_lcmp0 (pc := 564) hC dL_law_564 ?_
      refine sg_ifN_eq (pc := 565) (a := 0) 570 hC dL_law_565 (by decide) (by decide) (fun _ => ?_) (fun h9 => absurd rfl h9)
      refine sg_goto (pc := 570) 1331 hC dL_law_570 (by decide) ?_
      refine sg_iincN (pc := 1331) (a := i) (b := i + 4) hC dL_law_1331 rfl (nI_4 i) (by decide) ?_
      refine sg_goto (pc := 1334) 28 hC dL_law_1334 (by decide) ?_
      refine sg_loc (L' := [some (.ref b), some (.ref ca), some (.ref x), some (.ref oa), some (.ref od), some (.int (nI (i + 4))), none, none]) ⟨rfl, rfl, rfl, rfl, rfl, rfl, trivial⟩ ?_
      refine sg_less (cb' := cb) (sb' := sb) (by omega) (by omega) ?_
      exact kk M2 g1 gd _ (hP.step hj hf9 hO1 hOd1 hWB2 hI2)

set_option maxHeartbeats 1000000 in
set_option maxRecDepth 100000 in
theorem lw_c7 {X : sg_X} {l : Launch} {G : sg_G} {d : Nat} {M : sg_M} {cb sb : Nat} {ca pb sl so th cx nt x oa od b n i : Nat} {ad : Nat → Nat} {xs : Nat → Int32} {g : Nat → Int64} {gd : Nat → UInt64} {N : Nat → Nat → Nat} (htr : l.stackTraces = false) (hC : sg_C X l G cL_law RL 8 (d + 12)) (hP : lp G M ca pb sl so th cx nt x oa od b n ad xs g gd N) (hi : i + 4 ≤ n) (hn : n ≤ 256) (kk : ∀ M' g' gd' N', lp G M' ca pb sl so th cx nt x oa od b n ad xs g' gd' N' → sg_W X M' cb sb 28 [some (.ref b), some (.ref ca), some (.ref x), some (.ref oa), some (.ref od), some (.int (nI (i + 4))), none, none] []) : sg_W X M (cb + 14) (sb + 127) 573 [some (.ref b), some (.ref ca), some (.ref x), some (.ref oa), some (.ref od), some (.int (nI i)), none, none] [] := by
  obtain ⟨hJ, hRep, hWB, hO, hOd, hEv, hB⟩ := id hP
  have hW : WN N := hRep.wn hWB
  have hw : ∀ i j, N i j ≤ wb i := hW
  have hw16 : ∀ r, N 16 r < 6 := fun r => Nat.lt_succ_of_le (hW 16 r)
  have hw18 : ∀ r, N 18 r < 64 := fun r => Nat.lt_succ_of_le (hW 18 r)
  have hw14 : ∀ r, N 14 r < 64 := fun r => Nat.lt_succ_of_le (hW 14 r)
  have hw20 : ∀ r, N 20 r < 64 := fun r => Nat.lt_succ_of_le (hW 20 r)
  refine sg_aload_n (pc := 573) (v := .ref ca) hC dL_law_573 rfl rfl ?_
  refine sg_aload_n (pc := 574) (v := .ref b) hC dL_law_574 rfl rfl ?_
  refine sg_iload (pc := 575) (x := nI i) hC dL_law_575 rfl ?_
  refine sg_iconst (pc := 577) (nI 1) hC dL_law_577 (by decide) ?_
  refine sg_iaddN (pc := 578) (a := i) (b := 1) hC dL_law_578 ?_
  refine sg_iald (pc := 579) (i := nI (i + 1)) hC dL_law_579 hB (vp_in_nI (by omega) (by omega)) ?_
  rw [nI_clamp (by omega)]
  refine sg_aload_n (pc := 580) (v := .ref b) hC dL_law_580 rfl rfl ?_
  refine sg_iload (pc := 581) (x := nI i) hC dL_law_581 rfl ?_
  refine sg_iconst (pc := 583) (nI 2) hC dL_law_583 (by decide) ?_
  refine sg_iaddN (pc := 584) (a := i) (b := 2) hC dL_law_584 ?_
  refine sg_iald (pc := 585) (i := nI (i + 2)) hC dL_law_585 hB (vp_in_nI (by omega) (by omega)) ?_
  rw [nI_clamp (by omega)]
  refine sg_aload_n (pc := 586) (v := .ref oa) hC dL_law_586 rfl rfl ?_
  refine sg_callSH (pc := 587) (As := [.ref ca, .int (xs (i + 1)), .int (xs (i + 2)), .ref oa]) (rest := []) (mc := 4) (ms := 26) hC tw_981 tw_982 tw_61 tw_983 yd_L_enter (by decide) dL_law_587 rfl (by decide) (by omega) (by omega) ?_
  refine h_enter htr hJ hW hO (fun M1 c g1 hj hf hO1 hz hv => ?_)
  have hf9 := c90.o hf
  have hOd1 := hf.k hOd (by simp [c90, cm])
  have hB1 : M1 b = some (0, .inl (.int, n, .inl xs)) := hf9.k hB (by simp [cl9, cm])
  have hRep1 := hRep.sf9 hf9
  refine sg_istore (pc := 590) (x := nI c) hC dL_law_590 (by decide) ?_
  show sg_W X M1 _ _ 592 [some (.ref b), some (.ref ca), some (.ref x), some (.ref oa), some (.ref od), some (.int (nI i)), some (.int (nI c)), none] []
  refine sg_aload_n (pc := 592) (v := .ref x) hC dL_law_592 rfl rfl ?_
  refine sg_aload_n (pc := 593) (v := .ref b) hC dL_law_593 rfl rfl ?_
  refine sg_iload (pc := 594) (x := nI i) hC dL_law_594 rfl ?_
  refine sg_iconst (pc := 596) (nI 1) hC dL_law_596 (by decide) ?_
  refine sg_iaddN (pc := 597) (a := i) (b := 1) hC dL_law_597 ?_
  refine sg_iald (pc := 598) (i := nI (i + 1)) hC dL_law_598 hB1 (vp_in_nI (by omega) (by omega)) ?_
  rw [nI_clamp (by omega)]
  refine sg_aload_n (pc := 599) (v := .ref b) hC dL_law_599 rfl rfl ?_
  refine sg_iload (pc := 600) (x := nI i) hC dL_law_600 rfl ?_
  refine sg_iconst (pc := 602) (nI 2) hC dL_law_602 (by decide) ?_
  refine sg_iaddN (pc := 603) (a := i) (b := 2) hC dL_law_603 ?_
  refine sg_iald (pc := 604) (i := nI (i + 2)) hC dL_law_604 hB1 (vp_in_nI (by omega) (by omega)) ?_
  rw [nI_clamp (by omega)]
  refine sg_callV (pc := 605) (As := [.int (xs (i + 1)), .int (xs (i + 2))]) (rest := []) (mc := 0) (ms := 0) hC tw_1397 tw_1398 tw_1399 tw_72 tw_1400 yq_X7_enter (by decide) (ci := 10) rfl dL_law_605 hRep1.1 rfl (Nat.le_of_ble_eq_true rfl) (Nat.zero_le _) (Nat.zero_le _) ?_
  refine mm_enter htr hRep1.I (xs (i + 1)) (xs (i + 2)) (hw 15) (fun M2 hI2 => ?_)
  have hkp := hI2.2.kp
  have hB2 : M2 b = some (0, .inl (.int, n, .inl xs)) := hkp _ _ _ hB1 (by decide)
  have hWB2 := (WB_enter hWB (xs (i + 1)) (xs (i + 2)))
  refine sg_istore (pc := 608) (x := nI (md_enter N (xs (i + 1)) (xs (i + 2))).1) hC dL_law_608 (by decide) ?_
  show sg_W X M2 _ _ 610 [some (.ref b), some (.ref ca), some (.ref x), some (.ref oa), some (.ref od), some (.int (nI i)), some (.int (nI c)), some (.int (nI (md_enter N (xs (i + 1)) (xs (i + 2))).1))] []
  refine sg_aload_n (pc := 610) (v := .ref x) hC dL_law_610 rfl rfl ?_
  refine sg_callV (pc := 611) (As := []) (rest := []) (mc := 0) (ms := 0) hC tw_1258 tw_1259 tw_1260 tw_72 tw_1261 yq_X7_thrown (by decide) (ci := 10) rfl dL_law_611 hI2.1.1 rfl (Nat.le_of_ble_eq_true rfl) (Nat.zero_le _) (Nat.zero_le _) ?_
  refine mm_thrown htr hI2 ?_
  refine sg_iload (pc := 614) (x := nI c) hC dL_law_614 rfl ?_
  refine sg_icmp_eq (pc := 616) (x := nI (md_thrown (md_enter N (xs (i + 1)) (xs (i + 2))).2)) (y := nI c) 621 hC dL_law_616 (by decide) (fun _ => ?_) (fun h9 => absurd (congrArg nI hz) h9)
  refine sg_iload (pc := 621) (x := nI c) hC dL_law_621 rfl ?_
  have hc9 : c < 65536 := by rw [← hz]; exact hI2.1.2.2 0 0
  refine sg_ifN_ne (pc := 623) (a := c) 638 hC dL_law_623 (by decide) (by omega) (fun hc => ?_) (fun hc => ?_)
  · skip
    refine sg_goto (pc := 638) 1331 hC dL_law_638 (by decide) ?_
    refine sg_iincN (pc := 1331) (a := i) (b := i + 4) hC dL_law_1331 rfl (nI_4 i) (by decide) ?_
    refine sg_goto (pc := 1334) 28 hC dL_law_1334 (by decide) ?_
    refine sg_loc (L' := [some (.ref b), some (.ref ca), some (.ref x), some (.ref oa), some (.ref od), some (.int (nI (i + 4))), none, none]) ⟨rfl, rfl, rfl, rfl, rfl, rfl, trivial⟩ ?_
    refine sg_less (cb' := cb) (sb' := sb) (by omega) (by omega) ?_
    exact kk M2 g1 gd _ (hP.step hj hf9 hO1 hOd1 hWB2 hI2)
  · subst hc
    refine sg_aload_n (pc := 626) (v := .ref oa) hC dL_law_626 rfl rfl ?_
    refine sg_iconst (pc := 627) (nI 0) hC dL_law_627 (by decide) ?_
    have hO2 : M2 oa = some (90, .inl (.long, 1, .inr (.inl g1))) := hkp _ _ _ hO1 (by decide)
    refine sg_lald (pc := 628) (i := nI 0) hC dL_law_628 hO2 (vp_in_nI (by decide) (by decide)) ?_
    rw [nI_clamp (by decide)]
    refine sg_iload (pc := 629) (x := nI (md_enter N (xs (i + 1)) (xs (i + 2))).1) hC dL_law_629 rfl ?_
    refine sg_i2l (pc := 631) (x := nI (md_enter N (xs (i + 1)) (xs (i + 2))).1) ((nI (md_enter N (xs (i + 1)) (xs (i + 2))).1).toInt64) hC dL_law_631 rfl ?_
    rw [hv rfl]
    refine sg_lcmp0 (pc := 632) hC dL_law_632 ?_
    refine sg_ifN_eq (pc := 633) (a := 0) 638 hC dL_law_633 (by decide) (by decide) (fun _ => ?_) (fun h9 => absurd rfl h9)
    refine sg_goto (pc := 638) 1331 hC dL_law_638 (by decide) ?_
    refine sg_iincN (pc := 1331) (a := i) (b := i + 4) hC dL_law_1331 rfl (nI_4 i) (by decide) ?_
    refine sg_goto (pc := 1334) 28 hC dL_law_1334 (by decide) ?_
    refine sg_loc (L' := [some (.ref b), some (.ref ca), some (.ref x), some (.ref oa), some (.ref od), some (.int (nI (i + 4))), none, none]) ⟨rfl, rfl, rfl, rfl, rfl, rfl, trivial⟩ ?_
    refine sg_less (cb' := cb) (sb' := sb) (by omega) (by omega) ?_
    exact kk M2 g1 gd _ (hP.step hj hf9 hO1 hOd1 hWB2 hI2)

set_option maxHeartbeats 1000000 in
set_option maxRecDepth 100000 in
theorem lw_c8 {X : sg_X} {l : Launch} {G : sg_G} {d : Nat} {M : sg_M} {cb sb : Nat} {ca pb sl so th cx nt x oa od b n i : Nat} {ad : Nat → Nat} {xs : Nat → Int32} {g : Nat → Int64} {gd : Nat → UInt64} {N : Nat → Nat → Nat} (htr : l.stackTraces = false) (hC : sg_C X l G cL_law RL 8 (d + 12)) (hP : lp G M ca pb sl so th cx nt x oa od b n ad xs g gd N) (hi : i + 4 ≤ n) (hn : n ≤ 256) (kk : ∀ M' g' gd' N', lp G M' ca pb sl so th cx nt x oa od b n ad xs g' gd' N' → sg_W X M' cb sb 28 [some (.ref b), some (.ref ca), some (.ref x), some (.ref oa), some (.ref od), some (.int (nI (i + 4))), none, none] []) : sg_W X M (cb + 14) (sb + 127) 641 [some (.ref b), some (.ref ca), some (.ref x), some (.ref oa), some (.ref od), some (.int (nI i)), none, none] [] := by
  obtain ⟨hJ, hRep, hWB, hO, hOd, hEv, hB⟩ := id hP
  have hW : WN N := hRep.wn hWB
  have hw : ∀ i j, N i j ≤ wb i := hW
  have hw16 : ∀ r, N 16 r < 6 := fun r => Nat.lt_succ_of_le (hW 16 r)
  have hw18 : ∀ r, N 18 r < 64 := fun r => Nat.lt_succ_of_le (hW 18 r)
  have hw14 : ∀ r, N 14 r < 64 := fun r => Nat.lt_succ_of_le (hW 14 r)
  have hw20 : ∀ r, N 20 r < 64 := fun r => Nat.lt_succ_of_le (hW 20 r)
  refine sg_aload_n (pc := 641) (v := .ref ca) hC dL_law_641 rfl rfl ?_
  refine sg_aload_n (pc := 642) (v := .ref b) hC dL_law_642 rfl rfl ?_
  refine sg_iload (pc := 643) (x := nI i) hC dL_law_643 rfl ?_
  refine sg_iconst (pc := 645) (nI 1) hC dL_law_645 (by decide) ?_
  refine sg_iaddN (pc := 646) (a := i) (b := 1) hC dL_law_646 ?_
  refine sg_iald (pc := 647) (i := nI (i + 1)) hC dL_law_647 hB (vp_in_nI (by omega) (by omega)) ?_
  rw [nI_clamp (by omega)]
  refine sg_aload_n (pc := 648) (v := .ref oa) hC dL_law_648 rfl rfl ?_
  refine sg_callSH (pc := 649) (As := [.ref ca, .int (xs (i + 1)), .ref oa]) (rest := []) (mc := 2) (ms := 12) hC tw_1014 tw_1015 tw_61 tw_1016 yd_L_leave (by decide) dL_law_649 rfl (by decide) (by omega) (by omega) ?_
  refine h_leave htr hJ hW hO (fun M1 c g1 hj hf hO1 hz hv => ?_)
  have hf9 := c90.o hf
  have hOd1 := hf.k hOd (by simp [c90, cm])
  have hB1 : M1 b = some (0, .inl (.int, n, .inl xs)) := hf9.k hB (by simp [cl9, cm])
  have hRep1 := hRep.sf9 hf9
  refine sg_istore (pc := 652) (x := nI c) hC dL_law_652 (by decide) ?_
  show sg_W X M1 _ _ 654 [some (.ref b), some (.ref ca), some (.ref x), some (.ref oa), some (.ref od), some (.int (nI i)), some (.int (nI c)), none] []
  refine sg_aload_n (pc := 654) (v := .ref x) hC dL_law_654 rfl rfl ?_
  refine sg_aload_n (pc := 655) (v := .ref b) hC dL_law_655 rfl rfl ?_
  refine sg_iload (pc := 656) (x := nI i) hC dL_law_656 rfl ?_
  refine sg_iconst (pc := 658) (nI 1) hC dL_law_658 (by decide) ?_
  refine sg_iaddN (pc := 659) (a := i) (b := 1) hC dL_law_659 ?_
  refine sg_iald (pc := 660) (i := nI (i + 1)) hC dL_law_660 hB1 (vp_in_nI (by omega) (by omega)) ?_
  rw [nI_clamp (by omega)]
  refine sg_callV (pc := 661) (As := [.int (xs (i + 1))]) (rest := []) (mc := 0) (ms := 0) hC tw_1405 tw_1406 tw_1407 tw_72 tw_1408 yq_X7_leave (by decide) (ci := 10) rfl dL_law_661 hRep1.1 rfl (Nat.le_of_ble_eq_true rfl) (Nat.zero_le _) (Nat.zero_le _) ?_
  refine mm_leave htr hRep1.I (xs (i + 1)) (hw 15) hw16 (fun M2 hI2 => ?_)
  have hkp := hI2.2.kp
  have hB2 : M2 b = some (0, .inl (.int, n, .inl xs)) := hkp _ _ _ hB1 (by decide)
  have hWB2 := (WB_leave hWB (xs (i + 1)))
  refine sg_istore (pc := 664) (x := nI (md_leave N (xs (i + 1))).1) hC dL_law_664 (by decide) ?_
  show sg_W X M2 _ _ 666 [some (.ref b), some (.ref ca), some (.ref x), some (.ref oa), some (.ref od), some (.int (nI i)), some (.int (nI c)), some (.int (nI (md_leave N (xs (i + 1))).1))] []
  refine sg_aload_n (pc := 666) (v := .ref x) hC dL_law_666 rfl rfl ?_
  refine sg_callV (pc := 667) (As := []) (rest := []) (mc := 0) (ms := 0) hC tw_1258 tw_1259 tw_1260 tw_72 tw_1261 yq_X7_thrown (by decide) (ci := 10) rfl dL_law_667 hI2.1.1 rfl (Nat.le_of_ble_eq_true rfl) (Nat.zero_le _) (Nat.zero_le _) ?_
  refine mm_thrown htr hI2 ?_
  refine sg_iload (pc := 670) (x := nI c) hC dL_law_670 rfl ?_
  refine sg_icmp_eq (pc := 672) (x := nI (md_thrown (md_leave N (xs (i + 1))).2)) (y := nI c) 677 hC dL_law_672 (by decide) (fun _ => ?_) (fun h9 => absurd (congrArg nI hz) h9)
  refine sg_iload (pc := 677) (x := nI c) hC dL_law_677 rfl ?_
  have hc9 : c < 65536 := by rw [← hz]; exact hI2.1.2.2 0 0
  refine sg_ifN_ne (pc := 679) (a := c) 694 hC dL_law_679 (by decide) (by omega) (fun hc => ?_) (fun hc => ?_)
  · skip
    refine sg_goto (pc := 694) 1331 hC dL_law_694 (by decide) ?_
    refine sg_iincN (pc := 1331) (a := i) (b := i + 4) hC dL_law_1331 rfl (nI_4 i) (by decide) ?_
    refine sg_goto (pc := 1334) 28 hC dL_law_1334 (by decide) ?_
    refine sg_loc (L' := [some (.ref b), some (.ref ca), some (.ref x), some (.ref oa), some (.ref od), some (.int (nI (i + 4))), none, none]) ⟨rfl, rfl, rfl, rfl, rfl, rfl, trivial⟩ ?_
    refine sg_less (cb' := cb) (sb' := sb) (by omega) (by omega) ?_
    exact kk M2 g1 gd _ (hP.step hj hf9 hO1 hOd1 hWB2 hI2)
  · subst hc
    refine sg_aload_n (pc := 682) (v := .ref oa) hC dL_law_682 rfl rfl ?_
    refine sg_iconst (pc := 683) (nI 0) hC dL_law_683 (by decide) ?_
    have hO2 : M2 oa = some (90, .inl (.long, 1, .inr (.inl g1))) := hkp _ _ _ hO1 (by decide)
    refine sg_lald (pc := 684) (i := nI 0) hC dL_law_684 hO2 (vp_in_nI (by decide) (by decide)) ?_
    rw [nI_clamp (by decide)]
    refine sg_iload (pc := 685) (x := nI (md_leave N (xs (i + 1))).1) hC dL_law_685 rfl ?_
    refine sg_i2l (pc := 687) (x := nI (md_leave N (xs (i + 1))).1) ((nI (md_leave N (xs (i + 1))).1).toInt64) hC dL_law_687 rfl ?_
    rw [hv rfl]
    refine sg_lcmp0 (pc := 688) hC dL_law_688 ?_
    refine sg_ifN_eq (pc := 689) (a := 0) 694 hC dL_law_689 (by decide) (by decide) (fun _ => ?_) (fun h9 => absurd rfl h9)
    refine sg_goto (pc := 694) 1331 hC dL_law_694 (by decide) ?_
    refine sg_iincN (pc := 1331) (a := i) (b := i + 4) hC dL_law_1331 rfl (nI_4 i) (by decide) ?_
    refine sg_goto (pc := 1334) 28 hC dL_law_1334 (by decide) ?_
    refine sg_loc (L' := [some (.ref b), some (.ref ca), some (.ref x), some (.ref oa), some (.ref od), some (.int (nI (i + 4))), none, none]) ⟨rfl, rfl, rfl, rfl, rfl, rfl, trivial⟩ ?_
    refine sg_less (cb' := cb) (sb' := sb) (by omega) (by omega) ?_
    exact kk M2 g1 gd _ (hP.step hj hf9 hO1 hOd1 hWB2 hI2)

set_option maxHeartbeats 1000000 in
set_option maxRecDepth 100000 in
theorem lw_c9 {X : sg_X} {l : Launch} {G : sg_G} {d : Nat} {M : sg_M} {cb sb : Nat} {ca pb sl so th cx nt x oa od b n i : Nat} {ad : Nat → Nat} {xs : Nat → Int32} {g : Nat → Int64} {gd : Nat → UInt64} {N : Nat → Nat → Nat} (htr : l.stackTraces = false) (hC : sg_C X l G cL_law RL 8 (d + 12)) (hP : lp G M ca pb sl so th cx nt x oa od b n ad xs g gd N) (hi : i + 4 ≤ n) (hn : n ≤ 256) (kk : ∀ M' g' gd' N', lp G M' ca pb sl so th cx nt x oa od b n ad xs g' gd' N' → sg_W X M' cb sb 28 [some (.ref b), some (.ref ca), some (.ref x), some (.ref oa), some (.ref od), some (.int (nI (i + 4))), none, none] []) : sg_W X M (cb + 14) (sb + 127) 697 [some (.ref b), some (.ref ca), some (.ref x), some (.ref oa), some (.ref od), some (.int (nI i)), none, none] [] := by
  obtain ⟨hJ, hRep, hWB, hO, hOd, hEv, hB⟩ := id hP
  have hW : WN N := hRep.wn hWB
  have hw : ∀ i j, N i j ≤ wb i := hW
  have hw16 : ∀ r, N 16 r < 6 := fun r => Nat.lt_succ_of_le (hW 16 r)
  have hw18 : ∀ r, N 18 r < 64 := fun r => Nat.lt_succ_of_le (hW 18 r)
  have hw14 : ∀ r, N 14 r < 64 := fun r => Nat.lt_succ_of_le (hW 14 r)
  have hw20 : ∀ r, N 20 r < 64 := fun r => Nat.lt_succ_of_le (hW 20 r)
  refine sg_aload_n (pc := 697) (v := .ref ca) hC dL_law_697 rfl rfl ?_
  refine sg_aload_n (pc := 698) (v := .ref b) hC dL_law_698 rfl rfl ?_
  refine sg_iload (pc := 699) (x := nI i) hC dL_law_699 rfl ?_
  refine sg_iconst (pc := 701) (nI 1) hC dL_law_701 (by decide) ?_
  refine sg_iaddN (pc := 702) (a := i) (b := 1) hC dL_law_702 ?_
  refine sg_iald (pc := 703) (i := nI (i + 1)) hC dL_law_703 hB (vp_in_nI (by omega) (by omega)) ?_
  rw [nI_clamp (by omega)]
  refine sg_aload_n (pc := 704) (v := .ref b) hC dL_law_704 rfl rfl ?_
  refine sg_iload (pc := 705) (x := nI i) hC dL_law_705 rfl ?_
  refine sg_iconst (pc := 707) (nI 2) hC dL_law_707 (by decide) ?_
  refine sg_iaddN (pc := 708) (a := i) (b := 2) hC dL_law_708 ?_
  refine sg_iald (pc := 709) (i := nI (i + 2)) hC dL_law_709 hB (vp_in_nI (by omega) (by omega)) ?_
  rw [nI_clamp (by omega)]
  refine sg_aload_n (pc := 710) (v := .ref b) hC dL_law_710 rfl rfl ?_
  refine sg_iload (pc := 711) (x := nI i) hC dL_law_711 rfl ?_
  refine sg_iconst (pc := 713) (nI 3) hC dL_law_713 (by decide) ?_
  refine sg_iaddN (pc := 714) (a := i) (b := 3) hC dL_law_714 ?_
  refine sg_iald (pc := 715) (i := nI (i + 3)) hC dL_law_715 hB (vp_in_nI (by omega) (by omega)) ?_
  rw [nI_clamp (by omega)]
  refine sg_callSH (pc := 716) (As := [.ref ca, .int (xs (i + 1)), .int (xs (i + 2)), .int (xs (i + 3))]) (rest := []) (mc := 4) (ms := 24) hC tw_1026 tw_1027 tw_61 tw_1028 yd_L_guard (by decide) dL_law_716 rfl (by decide) (by omega) (by omega) ?_
  refine h_guard htr hJ hW (fun M1 c hj hf hz => ?_)
  have hf9 := cf9 hf
  have hO1 := hf.k hO (by simp [cf, cm])
  have hOd1 := hf.k hOd (by simp [cf, cm])
  have hB1 : M1 b = some (0, .inl (.int, n, .inl xs)) := hf9.k hB (by simp [cl9, cm])
  have hRep1 := hRep.sf9 hf9
  refine sg_istore (pc := 719) (x := nI c) hC dL_law_719 (by decide) ?_
  show sg_W X M1 _ _ 721 [some (.ref b), some (.ref ca), some (.ref x), some (.ref oa), some (.ref od), some (.int (nI i)), some (.int (nI c)), none] []
  refine sg_aload_n (pc := 721) (v := .ref x) hC dL_law_721 rfl rfl ?_
  refine sg_aload_n (pc := 722) (v := .ref b) hC dL_law_722 rfl rfl ?_
  refine sg_iload (pc := 723) (x := nI i) hC dL_law_723 rfl ?_
  refine sg_iconst (pc := 725) (nI 1) hC dL_law_725 (by decide) ?_
  refine sg_iaddN (pc := 726) (a := i) (b := 1) hC dL_law_726 ?_
  refine sg_iald (pc := 727) (i := nI (i + 1)) hC dL_law_727 hB1 (vp_in_nI (by omega) (by omega)) ?_
  rw [nI_clamp (by omega)]
  refine sg_aload_n (pc := 728) (v := .ref b) hC dL_law_728 rfl rfl ?_
  refine sg_iload (pc := 729) (x := nI i) hC dL_law_729 rfl ?_
  refine sg_iconst (pc := 731) (nI 2) hC dL_law_731 (by decide) ?_
  refine sg_iaddN (pc := 732) (a := i) (b := 2) hC dL_law_732 ?_
  refine sg_iald (pc := 733) (i := nI (i + 2)) hC dL_law_733 hB1 (vp_in_nI (by omega) (by omega)) ?_
  rw [nI_clamp (by omega)]
  refine sg_aload_n (pc := 734) (v := .ref b) hC dL_law_734 rfl rfl ?_
  refine sg_iload (pc := 735) (x := nI i) hC dL_law_735 rfl ?_
  refine sg_iconst (pc := 737) (nI 3) hC dL_law_737 (by decide) ?_
  refine sg_iaddN (pc := 738) (a := i) (b := 3) hC dL_law_738 ?_
  refine sg_iald (pc := 739) (i := nI (i + 3)) hC dL_law_739 hB1 (vp_in_nI (by omega) (by omega)) ?_
  rw [nI_clamp (by omega)]
  refine sg_callV (pc := 740) (As := [.int (xs (i + 1)), .int (xs (i + 2)), .int (xs (i + 3))]) (rest := []) (mc := 0) (ms := 0) hC tw_1409 tw_1410 tw_1411 tw_72 tw_1412 yq_X7_guard (by decide) (ci := 10) rfl dL_law_740 hRep1.1 rfl (Nat.le_of_ble_eq_true rfl) (Nat.zero_le _) (Nat.zero_le _) ?_
  refine mm_guard htr hRep1.I (xs (i + 1)) (xs (i + 2)) (xs (i + 3)) (hw 4) (hw 12) (hw 15) hw20 (fun M2 hI2 => ?_)
  have hkp := hI2.2.kp
  have hB2 : M2 b = some (0, .inl (.int, n, .inl xs)) := hkp _ _ _ hB1 (by decide)
  have hWB2 := (WB_guard hWB (xs (i + 1)) (xs (i + 2)) (xs (i + 3)))
  refine sg_aload_n (pc := 743) (v := .ref x) hC dL_law_743 rfl rfl ?_
  refine sg_callV (pc := 744) (As := []) (rest := []) (mc := 0) (ms := 0) hC tw_1258 tw_1259 tw_1260 tw_72 tw_1261 yq_X7_thrown (by decide) (ci := 10) rfl dL_law_744 hI2.1.1 rfl (Nat.le_of_ble_eq_true rfl) (Nat.zero_le _) (Nat.zero_le _) ?_
  refine mm_thrown htr hI2 ?_
  refine sg_iload (pc := 747) (x := nI c) hC dL_law_747 rfl ?_
  refine sg_icmp_eq (pc := 749) (x := nI (md_thrown (md_guard N (xs (i + 1)) (xs (i + 2)) (xs (i + 3))))) (y := nI c) 754 hC dL_law_749 (by decide) (fun _ => ?_) (fun h9 => absurd (congrArg nI hz) h9)
  refine sg_goto (pc := 754) 1331 hC dL_law_754 (by decide) ?_
  refine sg_iincN (pc := 1331) (a := i) (b := i + 4) hC dL_law_1331 rfl (nI_4 i) (by decide) ?_
  refine sg_goto (pc := 1334) 28 hC dL_law_1334 (by decide) ?_
  refine sg_loc (L' := [some (.ref b), some (.ref ca), some (.ref x), some (.ref oa), some (.ref od), some (.int (nI (i + 4))), none, none]) ⟨rfl, rfl, rfl, rfl, rfl, rfl, trivial⟩ ?_
  refine sg_less (cb' := cb) (sb' := sb) (by omega) (by omega) ?_
  exact kk M2 g gd _ (hP.step hj hf9 hO1 hOd1 hWB2 hI2)

set_option maxHeartbeats 1000000 in
set_option maxRecDepth 100000 in
theorem lw_c10 {X : sg_X} {l : Launch} {G : sg_G} {d : Nat} {M : sg_M} {cb sb : Nat} {ca pb sl so th cx nt x oa od b n i : Nat} {ad : Nat → Nat} {xs : Nat → Int32} {g : Nat → Int64} {gd : Nat → UInt64} {N : Nat → Nat → Nat} (htr : l.stackTraces = false) (hC : sg_C X l G cL_law RL 8 (d + 12)) (hP : lp G M ca pb sl so th cx nt x oa od b n ad xs g gd N) (hi : i + 4 ≤ n) (hn : n ≤ 256) (kk : ∀ M' g' gd' N', lp G M' ca pb sl so th cx nt x oa od b n ad xs g' gd' N' → sg_W X M' cb sb 28 [some (.ref b), some (.ref ca), some (.ref x), some (.ref oa), some (.ref od), some (.int (nI (i + 4))), none, none] []) : sg_W X M (cb + 14) (sb + 127) 757 [some (.ref b), some (.ref ca), some (.ref x), some (.ref oa), some (.ref od), some (.int (nI i)), none, none] [] := by
  obtain ⟨hJ, hRep, hWB, hO, hOd, hEv, hB⟩ := id hP
  have hW : WN N := hRep.wn hWB
  have hw : ∀ i j, N i j ≤ wb i := hW
  have hw16 : ∀ r, N 16 r < 6 := fun r => Nat.lt_succ_of_le (hW 16 r)
  have hw18 : ∀ r, N 18 r < 64 := fun r => Nat.lt_succ_of_le (hW 18 r)
  have hw14 : ∀ r, N 14 r < 64 := fun r => Nat.lt_succ_of_le (hW 14 r)
  have hw20 : ∀ r, N 20 r < 64 := fun r => Nat.lt_succ_of_le (hW 20 r)
  refine sg_aload_n (pc := 757) (v := .ref ca) hC dL_law_757 rfl rfl ?_
  refine sg_aload_n (pc := 758) (v := .ref b) hC dL_law_758 rfl rfl ?_
  refine sg_iload (pc := 759) (x := nI i) hC dL_law_759 rfl ?_
  refine sg_iconst (pc := 761) (nI 1) hC dL_law_761 (by decide) ?_
  refine sg_iaddN (pc := 762) (a := i) (b := 1) hC dL_law_762 ?_
  refine sg_iald (pc := 763) (i := nI (i + 1)) hC dL_law_763 hB (vp_in_nI (by omega) (by omega)) ?_
  rw [nI_clamp (by omega)]
  refine sg_aload_n (pc := 764) (v := .ref b) hC dL_law_764 rfl rfl ?_
  refine sg_iload (pc := 765) (x := nI i) hC dL_law_765 rfl ?_
  refine sg_iconst (pc := 767) (nI 2) hC dL_law_767 (by decide) ?_
  refine sg_iaddN (pc := 768) (a := i) (b := 2) hC dL_law_768 ?_
  refine sg_iald (pc := 769) (i := nI (i + 2)) hC dL_law_769 hB (vp_in_nI (by omega) (by omega)) ?_
  rw [nI_clamp (by omega)]
  refine sg_aload_n (pc := 770) (v := .ref oa) hC dL_law_770 rfl rfl ?_
  refine sg_callSH (pc := 771) (As := [.ref ca, .int (xs (i + 1)), .int (xs (i + 2)), .ref oa]) (rest := []) (mc := 2) (ms := 12) hC tw_1049 tw_1050 tw_61 tw_1051 yd_L_walk (by decide) dL_law_771 rfl (by decide) (by omega) (by omega) ?_
  refine h_walk htr hJ hW hO (fun M1 c g1 hj hf hO1 hz hv => ?_)
  have hf9 := c90.o hf
  have hOd1 := hf.k hOd (by simp [c90, cm])
  have hB1 : M1 b = some (0, .inl (.int, n, .inl xs)) := hf9.k hB (by simp [cl9, cm])
  have hRep1 := hRep.sf9 hf9
  refine sg_istore (pc := 774) (x := nI c) hC dL_law_774 (by decide) ?_
  show sg_W X M1 _ _ 776 [some (.ref b), some (.ref ca), some (.ref x), some (.ref oa), some (.ref od), some (.int (nI i)), some (.int (nI c)), none] []
  refine sg_aload_n (pc := 776) (v := .ref x) hC dL_law_776 rfl rfl ?_
  refine sg_aload_n (pc := 777) (v := .ref b) hC dL_law_777 rfl rfl ?_
  refine sg_iload (pc := 778) (x := nI i) hC dL_law_778 rfl ?_
  refine sg_iconst (pc := 780) (nI 1) hC dL_law_780 (by decide) ?_
  refine sg_iaddN (pc := 781) (a := i) (b := 1) hC dL_law_781 ?_
  refine sg_iald (pc := 782) (i := nI (i + 1)) hC dL_law_782 hB1 (vp_in_nI (by omega) (by omega)) ?_
  rw [nI_clamp (by omega)]
  refine sg_aload_n (pc := 783) (v := .ref b) hC dL_law_783 rfl rfl ?_
  refine sg_iload (pc := 784) (x := nI i) hC dL_law_784 rfl ?_
  refine sg_iconst (pc := 786) (nI 2) hC dL_law_786 (by decide) ?_
  refine sg_iaddN (pc := 787) (a := i) (b := 2) hC dL_law_787 ?_
  refine sg_iald (pc := 788) (i := nI (i + 2)) hC dL_law_788 hB1 (vp_in_nI (by omega) (by omega)) ?_
  rw [nI_clamp (by omega)]
  refine sg_callV (pc := 789) (As := [.int (xs (i + 1)), .int (xs (i + 2))]) (rest := []) (mc := 0) (ms := 0) hC tw_1417 tw_1418 tw_1419 tw_72 tw_1420 yq_X7_walk (by decide) (ci := 10) rfl dL_law_789 hRep1.1 rfl (Nat.le_of_ble_eq_true rfl) (Nat.zero_le _) (Nat.zero_le _) ?_
  refine mm_walk htr hRep1.I (xs (i + 1)) (xs (i + 2)) (hw 4) (hw 15) hw16 hw18 hw14 (fun M2 hI2 => ?_)
  have hkp := hI2.2.kp
  have hB2 : M2 b = some (0, .inl (.int, n, .inl xs)) := hkp _ _ _ hB1 (by decide)
  have hWB2 := (WB_walk hWB (xs (i + 1)) (xs (i + 2)))
  refine sg_istore (pc := 792) (x := nI (md_walk N (xs (i + 1)) (xs (i + 2))).1) hC dL_law_792 (by decide) ?_
  show sg_W X M2 _ _ 794 [some (.ref b), some (.ref ca), some (.ref x), some (.ref oa), some (.ref od), some (.int (nI i)), some (.int (nI c)), some (.int (nI (md_walk N (xs (i + 1)) (xs (i + 2))).1))] []
  refine sg_aload_n (pc := 794) (v := .ref x) hC dL_law_794 rfl rfl ?_
  refine sg_callV (pc := 795) (As := []) (rest := []) (mc := 0) (ms := 0) hC tw_1258 tw_1259 tw_1260 tw_72 tw_1261 yq_X7_thrown (by decide) (ci := 10) rfl dL_law_795 hI2.1.1 rfl (Nat.le_of_ble_eq_true rfl) (Nat.zero_le _) (Nat.zero_le _) ?_
  refine mm_thrown htr hI2 ?_
  refine sg_iload (pc := 798) (x := nI c) hC dL_law_798 rfl ?_
  refine sg_icmp_eq (pc := 800) (x := nI (md_thrown (md_walk N (xs (i + 1)) (xs (i + 2))).2)) (y := nI c) 805 hC dL_law_800 (by decide) (fun _ => ?_) (fun h9 => absurd (congrArg nI hz) h9)
  refine sg_iload (pc := 805) (x := nI c) hC dL_law_805 rfl ?_
  have hc9 : c < 65536 := by rw [← hz]; exact hI2.1.2.2 0 0
  refine sg_ifN_ne (pc := 807) (a := c) 822 hC dL_law_807 (by decide) (by omega) (fun hc => ?_) (fun hc => ?_)
  · skip
    refine sg_goto (pc := 822) 1331 hC dL_law_822 (by decide) ?_
    refine sg_iincN (pc := 1331) (a := i) (b := i + 4) hC dL_law_1331 rfl (nI_4 i) (by decide) ?_
    refine sg_goto (pc := 1334) 28 hC dL_law_1334 (by decide) ?_
    refine sg_loc (L' := [some (.ref b), some (.ref ca), some (.ref x), some (.ref oa), some (.ref od), some (.int (nI (i + 4))), none, none]) ⟨rfl, rfl, rfl, rfl, rfl, rfl, trivial⟩ ?_
    refine sg_less (cb' := cb) (sb' := sb) (by omega) (by omega) ?_
    exact kk M2 g1 gd _ (hP.step hj hf9 hO1 hOd1 hWB2 hI2)
  · subst hc
    refine sg_aload_n (pc := 810) (v := .ref oa) hC dL_law_810 rfl rfl ?_
    refine sg_iconst (pc := 811) (nI 0) hC dL_law_811 (by decide) ?_
    have hO2 : M2 oa = some (90, .inl (.long, 1, .inr (.inl g1))) := hkp _ _ _ hO1 (by decide)
    refine sg_lald (pc := 812) (i := nI 0) hC dL_law_812 hO2 (vp_in_nI (by decide) (by decide)) ?_
    rw [nI_clamp (by decide)]
    refine sg_iload (pc := 813) (x := nI (md_walk N (xs (i + 1)) (xs (i + 2))).1) hC dL_law_813 rfl ?_
    refine sg_i2l (pc := 815) (x := nI (md_walk N (xs (i + 1)) (xs (i + 2))).1) ((nI (md_walk N (xs (i + 1)) (xs (i + 2))).1).toInt64) hC dL_law_815 rfl ?_
    rw [hv rfl]
    refine sg_lcmp0 (pc := 816) hC dL_law_816 ?_
    refine sg_ifN_eq (pc := 817) (a := 0) 822 hC dL_law_817 (by decide) (by decide) (fun _ => ?_) (fun h9 => absurd rfl h9)
    refine sg_goto (pc := 822) 1331 hC dL_law_822 (by decide) ?_
    refine sg_iincN (pc := 1331) (a := i) (b := i + 4) hC dL_law_1331 rfl (nI_4 i) (by decide) ?_
    refine sg_goto (pc := 1334) 28 hC dL_law_1334 (by decide) ?_
    refine sg_loc (L' := [some (.ref b), some (.ref ca), some (.ref x), some (.ref oa), some (.ref od), some (.int (nI (i + 4))), none, none]) ⟨rfl, rfl, rfl, rfl, rfl, rfl, trivial⟩ ?_
    refine sg_less (cb' := cb) (sb' := sb) (by omega) (by omega) ?_
    exact kk M2 g1 gd _ (hP.step hj hf9 hO1 hOd1 hWB2 hI2)

set_option maxHeartbeats 1000000 in
set_option maxRecDepth 100000 in
theorem lw_c11 {X : sg_X} {l : Launch} {G : sg_G} {d : Nat} {M : sg_M} {cb sb : Nat} {ca pb sl so th cx nt x oa od b n i : Nat} {ad : Nat → Nat} {xs : Nat → Int32} {g : Nat → Int64} {gd : Nat → UInt64} {N : Nat → Nat → Nat} (htr : l.stackTraces = false) (hC : sg_C X l G cL_law RL 8 (d + 12)) (hP : lp G M ca pb sl so th cx nt x oa od b n ad xs g gd N) (hi : i + 4 ≤ n) (hn : n ≤ 256) (kk : ∀ M' g' gd' N', lp G M' ca pb sl so th cx nt x oa od b n ad xs g' gd' N' → sg_W X M' cb sb 28 [some (.ref b), some (.ref ca), some (.ref x), some (.ref oa), some (.ref od), some (.int (nI (i + 4))), none, none] []) : sg_W X M (cb + 14) (sb + 127) 825 [some (.ref b), some (.ref ca), some (.ref x), some (.ref oa), some (.ref od), some (.int (nI i)), none, none] [] := by
  obtain ⟨hJ, hRep, hWB, hO, hOd, hEv, hB⟩ := id hP
  have hW : WN N := hRep.wn hWB
  have hw : ∀ i j, N i j ≤ wb i := hW
  have hw16 : ∀ r, N 16 r < 6 := fun r => Nat.lt_succ_of_le (hW 16 r)
  have hw18 : ∀ r, N 18 r < 64 := fun r => Nat.lt_succ_of_le (hW 18 r)
  have hw14 : ∀ r, N 14 r < 64 := fun r => Nat.lt_succ_of_le (hW 14 r)
  have hw20 : ∀ r, N 20 r < 64 := fun r => Nat.lt_succ_of_le (hW 20 r)
  refine sg_aload_n (pc := 825) (v := .ref ca) hC dL_law_825 rfl rfl ?_
  refine sg_aload_n (pc := 826) (v := .ref b) hC dL_law_826 rfl rfl ?_
  refine sg_iload (pc := 827) (x := nI i) hC dL_law_827 rfl ?_
  refine sg_iconst (pc := 829) (nI 1) hC dL_law_829 (by decide) ?_
  refine sg_iaddN (pc := 830) (a := i) (b := 1) hC dL_law_830 ?_
  refine sg_iald (pc := 831) (i := nI (i + 1)) hC dL_law_831 hB (vp_in_nI (by omega) (by omega)) ?_
  rw [nI_clamp (by omega)]
  refine sg_aload_n (pc := 832) (v := .ref oa) hC dL_law_832 rfl rfl ?_
  refine sg_callSH (pc := 833) (As := [.ref ca, .int (xs (i + 1)), .ref oa]) (rest := []) (mc := 2) (ms := 12) hC tw_1068 tw_1069 tw_61 tw_1070 yd_L_capture (by decide) dL_law_833 rfl (by decide) (by omega) (by omega) ?_
  refine h_capture htr hJ hW hO (fun M1 c g1 hj hf hO1 hz hv => ?_)
  have hf9 := c90.o hf
  have hOd1 := hf.k hOd (by simp [c90, cm])
  have hB1 : M1 b = some (0, .inl (.int, n, .inl xs)) := hf9.k hB (by simp [cl9, cm])
  have hRep1 := hRep.sf9 hf9
  refine sg_istore (pc := 836) (x := nI c) hC dL_law_836 (by decide) ?_
  show sg_W X M1 _ _ 838 [some (.ref b), some (.ref ca), some (.ref x), some (.ref oa), some (.ref od), some (.int (nI i)), some (.int (nI c)), none] []
  refine sg_aload_n (pc := 838) (v := .ref x) hC dL_law_838 rfl rfl ?_
  refine sg_aload_n (pc := 839) (v := .ref b) hC dL_law_839 rfl rfl ?_
  refine sg_iload (pc := 840) (x := nI i) hC dL_law_840 rfl ?_
  refine sg_iconst (pc := 842) (nI 1) hC dL_law_842 (by decide) ?_
  refine sg_iaddN (pc := 843) (a := i) (b := 1) hC dL_law_843 ?_
  refine sg_iald (pc := 844) (i := nI (i + 1)) hC dL_law_844 hB1 (vp_in_nI (by omega) (by omega)) ?_
  rw [nI_clamp (by omega)]
  refine sg_callV (pc := 845) (As := [.int (xs (i + 1))]) (rest := []) (mc := 0) (ms := 0) hC tw_1425 tw_1426 tw_1427 tw_72 tw_1428 yq_X7_capture (by decide) (ci := 10) rfl dL_law_845 hRep1.1 rfl (Nat.le_of_ble_eq_true rfl) (Nat.zero_le _) (Nat.zero_le _) ?_
  refine mm_capture htr hRep1.I (xs (i + 1)) (hw 4) (hw 15) hw16 hw18 hw14 (fun M2 hI2 => ?_)
  have hkp := hI2.2.kp
  have hB2 : M2 b = some (0, .inl (.int, n, .inl xs)) := hkp _ _ _ hB1 (by decide)
  have hWB2 := (WB_capture hWB hW (xs (i + 1)))
  refine sg_istore (pc := 848) (x := nI (md_capture N (xs (i + 1))).1) hC dL_law_848 (by decide) ?_
  show sg_W X M2 _ _ 850 [some (.ref b), some (.ref ca), some (.ref x), some (.ref oa), some (.ref od), some (.int (nI i)), some (.int (nI c)), some (.int (nI (md_capture N (xs (i + 1))).1))] []
  refine sg_aload_n (pc := 850) (v := .ref x) hC dL_law_850 rfl rfl ?_
  refine sg_callV (pc := 851) (As := []) (rest := []) (mc := 0) (ms := 0) hC tw_1258 tw_1259 tw_1260 tw_72 tw_1261 yq_X7_thrown (by decide) (ci := 10) rfl dL_law_851 hI2.1.1 rfl (Nat.le_of_ble_eq_true rfl) (Nat.zero_le _) (Nat.zero_le _) ?_
  refine mm_thrown htr hI2 ?_
  refine sg_iload (pc := 854) (x := nI c) hC dL_law_854 rfl ?_
  refine sg_icmp_eq (pc := 856) (x := nI (md_thrown (md_capture N (xs (i + 1))).2)) (y := nI c) 861 hC dL_law_856 (by decide) (fun _ => ?_) (fun h9 => absurd (congrArg nI hz) h9)
  refine sg_iload (pc := 861) (x := nI c) hC dL_law_861 rfl ?_
  have hc9 : c < 65536 := by rw [← hz]; exact hI2.1.2.2 0 0
  refine sg_ifN_ne (pc := 863) (a := c) 878 hC dL_law_863 (by decide) (by omega) (fun hc => ?_) (fun hc => ?_)
  · skip
    refine sg_goto (pc := 878) 1331 hC dL_law_878 (by decide) ?_
    refine sg_iincN (pc := 1331) (a := i) (b := i + 4) hC dL_law_1331 rfl (nI_4 i) (by decide) ?_
    refine sg_goto (pc := 1334) 28 hC dL_law_1334 (by decide) ?_
    refine sg_loc (L' := [some (.ref b), some (.ref ca), some (.ref x), some (.ref oa), some (.ref od), some (.int (nI (i + 4))), none, none]) ⟨rfl, rfl, rfl, rfl, rfl, rfl, trivial⟩ ?_
    refine sg_less (cb' := cb) (sb' := sb) (by omega) (by omega) ?_
    exact kk M2 g1 gd _ (hP.step hj hf9 hO1 hOd1 hWB2 hI2)
  · subst hc
    refine sg_aload_n (pc := 866) (v := .ref oa) hC dL_law_866 rfl rfl ?_
    refine sg_iconst (pc := 867) (nI 0) hC dL_law_867 (by decide) ?_
    have hO2 : M2 oa = some (90, .inl (.long, 1, .inr (.inl g1))) := hkp _ _ _ hO1 (by decide)
    refine sg_lald (pc := 868) (i := nI 0) hC dL_law_868 hO2 (vp_in_nI (by decide) (by decide)) ?_
    rw [nI_clamp (by decide)]
    refine sg_iload (pc := 869) (x := nI (md_capture N (xs (i + 1))).1) hC dL_law_869 rfl ?_
    refine sg_i2l (pc := 871) (x := nI (md_capture N (xs (i + 1))).1) ((nI (md_capture N (xs (i + 1))).1).toInt64) hC dL_law_871 rfl ?_
    rw [hv rfl]
    refine sg_lcmp0 (pc := 872) hC dL_law_872 ?_
    refine sg_ifN_eq (pc := 873) (a := 0) 878 hC dL_law_873 (by decide) (by decide) (fun _ => ?_) (fun h9 => absurd rfl h9)
    refine sg_goto (pc := 878) 1331 hC dL_law_878 (by decide) ?_
    refine sg_iincN (pc := 1331) (a := i) (b := i + 4) hC dL_law_1331 rfl (nI_4 i) (by decide) ?_
    refine sg_goto (pc := 1334) 28 hC dL_law_1334 (by decide) ?_
    refine sg_loc (L' := [some (.ref b), some (.ref ca), some (.ref x), some (.ref oa), some (.ref od), some (.int (nI (i + 4))), none, none]) ⟨rfl, rfl, rfl, rfl, rfl, rfl, trivial⟩ ?_
    refine sg_less (cb' := cb) (sb' := sb) (by omega) (by omega) ?_
    exact kk M2 g1 gd _ (hP.step hj hf9 hO1 hOd1 hWB2 hI2)

set_option maxHeartbeats 1000000 in
set_option maxRecDepth 100000 in
theorem lw_c12 {X : sg_X} {l : Launch} {G : sg_G} {d : Nat} {M : sg_M} {cb sb : Nat} {ca pb sl so th cx nt x oa od b n i : Nat} {ad : Nat → Nat} {xs : Nat → Int32} {g : Nat → Int64} {gd : Nat → UInt64} {N : Nat → Nat → Nat} (htr : l.stackTraces = false) (hC : sg_C X l G cL_law RL 8 (d + 12)) (hP : lp G M ca pb sl so th cx nt x oa od b n ad xs g gd N) (hi : i + 4 ≤ n) (hn : n ≤ 256) (kk : ∀ M' g' gd' N', lp G M' ca pb sl so th cx nt x oa od b n ad xs g' gd' N' → sg_W X M' cb sb 28 [some (.ref b), some (.ref ca), some (.ref x), some (.ref oa), some (.ref od), some (.int (nI (i + 4))), none, none] []) : sg_W X M (cb + 14) (sb + 127) 881 [some (.ref b), some (.ref ca), some (.ref x), some (.ref oa), some (.ref od), some (.int (nI i)), none, none] [] := by
  obtain ⟨hJ, hRep, hWB, hO, hOd, hEv, hB⟩ := id hP
  have hW : WN N := hRep.wn hWB
  have hw : ∀ i j, N i j ≤ wb i := hW
  have hw16 : ∀ r, N 16 r < 6 := fun r => Nat.lt_succ_of_le (hW 16 r)
  have hw18 : ∀ r, N 18 r < 64 := fun r => Nat.lt_succ_of_le (hW 18 r)
  have hw14 : ∀ r, N 14 r < 64 := fun r => Nat.lt_succ_of_le (hW 14 r)
  have hw20 : ∀ r, N 20 r < 64 := fun r => Nat.lt_succ_of_le (hW 20 r)
  refine sg_aload_n (pc := 881) (v := .ref ca) hC dL_law_881 rfl rfl ?_
  refine sg_aload_n (pc := 882) (v := .ref b) hC dL_law_882 rfl rfl ?_
  refine sg_iload (pc := 883) (x := nI i) hC dL_law_883 rfl ?_
  refine sg_iconst (pc := 885) (nI 1) hC dL_law_885 (by decide) ?_
  refine sg_iaddN (pc := 886) (a := i) (b := 1) hC dL_law_886 ?_
  refine sg_iald (pc := 887) (i := nI (i + 1)) hC dL_law_887 hB (vp_in_nI (by omega) (by omega)) ?_
  rw [nI_clamp (by omega)]
  refine sg_aload_n (pc := 888) (v := .ref b) hC dL_law_888 rfl rfl ?_
  refine sg_iload (pc := 889) (x := nI i) hC dL_law_889 rfl ?_
  refine sg_iconst (pc := 891) (nI 2) hC dL_law_891 (by decide) ?_
  refine sg_iaddN (pc := 892) (a := i) (b := 2) hC dL_law_892 ?_
  refine sg_iald (pc := 893) (i := nI (i + 2)) hC dL_law_893 hB (vp_in_nI (by omega) (by omega)) ?_
  rw [nI_clamp (by omega)]
  refine sg_aload_n (pc := 894) (v := .ref oa) hC dL_law_894 rfl rfl ?_
  refine sg_callSH (pc := 895) (As := [.ref ca, .int (xs (i + 1)), .int (xs (i + 2)), .ref oa]) (rest := []) (mc := 3) (ms := 18) hC tw_1079 tw_1080 tw_61 tw_1081 yd_L_combine (by decide) dL_law_895 rfl (by decide) (by omega) (by omega) ?_
  refine h_combine htr hJ hW hO (fun M1 c g1 hj hf hO1 hz hv => ?_)
  have hf9 := c90.o hf
  have hOd1 := hf.k hOd (by simp [c90, cm])
  have hB1 : M1 b = some (0, .inl (.int, n, .inl xs)) := hf9.k hB (by simp [cl9, cm])
  have hRep1 := hRep.sf9 hf9
  refine sg_istore (pc := 898) (x := nI c) hC dL_law_898 (by decide) ?_
  show sg_W X M1 _ _ 900 [some (.ref b), some (.ref ca), some (.ref x), some (.ref oa), some (.ref od), some (.int (nI i)), some (.int (nI c)), none] []
  refine sg_aload_n (pc := 900) (v := .ref x) hC dL_law_900 rfl rfl ?_
  refine sg_aload_n (pc := 901) (v := .ref b) hC dL_law_901 rfl rfl ?_
  refine sg_iload (pc := 902) (x := nI i) hC dL_law_902 rfl ?_
  refine sg_iconst (pc := 904) (nI 1) hC dL_law_904 (by decide) ?_
  refine sg_iaddN (pc := 905) (a := i) (b := 1) hC dL_law_905 ?_
  refine sg_iald (pc := 906) (i := nI (i + 1)) hC dL_law_906 hB1 (vp_in_nI (by omega) (by omega)) ?_
  rw [nI_clamp (by omega)]
  refine sg_aload_n (pc := 907) (v := .ref b) hC dL_law_907 rfl rfl ?_
  refine sg_iload (pc := 908) (x := nI i) hC dL_law_908 rfl ?_
  refine sg_iconst (pc := 910) (nI 2) hC dL_law_910 (by decide) ?_
  refine sg_iaddN (pc := 911) (a := i) (b := 2) hC dL_law_911 ?_
  refine sg_iald (pc := 912) (i := nI (i + 2)) hC dL_law_912 hB1 (vp_in_nI (by omega) (by omega)) ?_
  rw [nI_clamp (by omega)]
  refine sg_callV (pc := 913) (As := [.int (xs (i + 1)), .int (xs (i + 2))]) (rest := []) (mc := 0) (ms := 0) hC tw_1429 tw_1430 tw_1431 tw_72 tw_1432 yq_X7_combine (by decide) (ci := 10) rfl dL_law_913 hRep1.1 rfl (Nat.le_of_ble_eq_true rfl) (Nat.zero_le _) (Nat.zero_le _) ?_
  refine mm_combine htr hRep1.I (xs (i + 1)) (xs (i + 2)) hw20 (fun M2 hI2 => ?_)
  have hkp := hI2.2.kp
  have hB2 : M2 b = some (0, .inl (.int, n, .inl xs)) := hkp _ _ _ hB1 (by decide)
  have hWB2 := (WB_combine hWB (xs (i + 1)) (xs (i + 2)))
  refine sg_istore (pc := 916) (x := nI (md_combine N (xs (i + 1)) (xs (i + 2))).1) hC dL_law_916 (by decide) ?_
  show sg_W X M2 _ _ 918 [some (.ref b), some (.ref ca), some (.ref x), some (.ref oa), some (.ref od), some (.int (nI i)), some (.int (nI c)), some (.int (nI (md_combine N (xs (i + 1)) (xs (i + 2))).1))] []
  refine sg_aload_n (pc := 918) (v := .ref x) hC dL_law_918 rfl rfl ?_
  refine sg_callV (pc := 919) (As := []) (rest := []) (mc := 0) (ms := 0) hC tw_1258 tw_1259 tw_1260 tw_72 tw_1261 yq_X7_thrown (by decide) (ci := 10) rfl dL_law_919 hI2.1.1 rfl (Nat.le_of_ble_eq_true rfl) (Nat.zero_le _) (Nat.zero_le _) ?_
  refine mm_thrown htr hI2 ?_
  refine sg_iload (pc := 922) (x := nI c) hC dL_law_922 rfl ?_
  refine sg_icmp_eq (pc := 924) (x := nI (md_thrown (md_combine N (xs (i + 1)) (xs (i + 2))).2)) (y := nI c) 929 hC dL_law_924 (by decide) (fun _ => ?_) (fun h9 => absurd (congrArg nI hz) h9)
  refine sg_iload (pc := 929) (x := nI c) hC dL_law_929 rfl ?_
  have hc9 : c < 65536 := by rw [← hz]; exact hI2.1.2.2 0 0
  refine sg_ifN_ne (pc := 931) (a := c) 946 hC dL_law_931 (by decide) (by omega) (fun hc => ?_) (fun hc => ?_)
  · skip
    refine sg_goto (pc := 946) 1331 hC dL_law_946 (by decide) ?_
    refine sg_iincN (pc := 1331) (a := i) (b := i + 4) hC dL_law_1331 rfl (nI_4 i) (by decide) ?_
    refine sg_goto (pc := 1334) 28 hC dL_law_1334 (by decide) ?_
    refine sg_loc (L' := [some (.ref b), some (.ref ca), some (.ref x), some (.ref oa), some (.ref od), some (.int (nI (i + 4))), none, none]) ⟨rfl, rfl, rfl, rfl, rfl, rfl, trivial⟩ ?_
    refine sg_less (cb' := cb) (sb' := sb) (by omega) (by omega) ?_
    exact kk M2 g1 gd _ (hP.step hj hf9 hO1 hOd1 hWB2 hI2)
  · subst hc
    refine sg_aload_n (pc := 934) (v := .ref oa) hC dL_law_934 rfl rfl ?_
    refine sg_iconst (pc := 935) (nI 0) hC dL_law_935 (by decide) ?_
    have hO2 : M2 oa = some (90, .inl (.long, 1, .inr (.inl g1))) := hkp _ _ _ hO1 (by decide)
    refine sg_lald (pc := 936) (i := nI 0) hC dL_law_936 hO2 (vp_in_nI (by decide) (by decide)) ?_
    rw [nI_clamp (by decide)]
    refine sg_iload (pc := 937) (x := nI (md_combine N (xs (i + 1)) (xs (i + 2))).1) hC dL_law_937 rfl ?_
    refine sg_i2l (pc := 939) (x := nI (md_combine N (xs (i + 1)) (xs (i + 2))).1) ((nI (md_combine N (xs (i + 1)) (xs (i + 2))).1).toInt64) hC dL_law_939 rfl ?_
    rw [hv rfl]
    refine sg_lcmp0 (pc := 940) hC dL_law_940 ?_
    refine sg_ifN_eq (pc := 941) (a := 0) 946 hC dL_law_941 (by decide) (by decide) (fun _ => ?_) (fun h9 => absurd rfl h9)
    refine sg_goto (pc := 946) 1331 hC dL_law_946 (by decide) ?_
    refine sg_iincN (pc := 1331) (a := i) (b := i + 4) hC dL_law_1331 rfl (nI_4 i) (by decide) ?_
    refine sg_goto (pc := 1334) 28 hC dL_law_1334 (by decide) ?_
    refine sg_loc (L' := [some (.ref b), some (.ref ca), some (.ref x), some (.ref oa), some (.ref od), some (.int (nI (i + 4))), none, none]) ⟨rfl, rfl, rfl, rfl, rfl, rfl, trivial⟩ ?_
    refine sg_less (cb' := cb) (sb' := sb) (by omega) (by omega) ?_
    exact kk M2 g1 gd _ (hP.step hj hf9 hO1 hOd1 hWB2 hI2)

set_option maxHeartbeats 1000000 in
set_option maxRecDepth 100000 in
theorem lw_c13 {X : sg_X} {l : Launch} {G : sg_G} {d : Nat} {M : sg_M} {cb sb : Nat} {ca pb sl so th cx nt x oa od b n i : Nat} {ad : Nat → Nat} {xs : Nat → Int32} {g : Nat → Int64} {gd : Nat → UInt64} {N : Nat → Nat → Nat} (htr : l.stackTraces = false) (hC : sg_C X l G cL_law RL 8 (d + 12)) (hP : lp G M ca pb sl so th cx nt x oa od b n ad xs g gd N) (hi : i + 4 ≤ n) (hn : n ≤ 256) (kk : ∀ M' g' gd' N', lp G M' ca pb sl so th cx nt x oa od b n ad xs g' gd' N' → sg_W X M' cb sb 28 [some (.ref b), some (.ref ca), some (.ref x), some (.ref oa), some (.ref od), some (.int (nI (i + 4))), none, none] []) : sg_W X M (cb + 14) (sb + 127) 949 [some (.ref b), some (.ref ca), some (.ref x), some (.ref oa), some (.ref od), some (.int (nI i)), none, none] [] := by
  obtain ⟨hJ, hRep, hWB, hO, hOd, hEv, hB⟩ := id hP
  have hW : WN N := hRep.wn hWB
  have hw : ∀ i j, N i j ≤ wb i := hW
  have hw16 : ∀ r, N 16 r < 6 := fun r => Nat.lt_succ_of_le (hW 16 r)
  have hw18 : ∀ r, N 18 r < 64 := fun r => Nat.lt_succ_of_le (hW 18 r)
  have hw14 : ∀ r, N 14 r < 64 := fun r => Nat.lt_succ_of_le (hW 14 r)
  have hw20 : ∀ r, N 20 r < 64 := fun r => Nat.lt_succ_of_le (hW 20 r)
  refine sg_aload_n (pc := 949) (v := .ref ca) hC dL_law_949 rfl rfl ?_
  refine sg_aload_n (pc := 950) (v := .ref b) hC dL_law_950 rfl rfl ?_
  refine sg_iload (pc := 951) (x := nI i) hC dL_law_951 rfl ?_
  refine sg_iconst (pc := 953) (nI 1) hC dL_law_953 (by decide) ?_
  refine sg_iaddN (pc := 954) (a := i) (b := 1) hC dL_law_954 ?_
  refine sg_iald (pc := 955) (i := nI (i + 1)) hC dL_law_955 hB (vp_in_nI (by omega) (by omega)) ?_
  rw [nI_clamp (by omega)]
  refine sg_aload_n (pc := 956) (v := .ref oa) hC dL_law_956 rfl rfl ?_
  refine sg_callSH (pc := 957) (As := [.ref ca, .int (xs (i + 1)), .ref oa]) (rest := []) (mc := 4) (ms := 18) hC tw_1094 tw_1095 tw_61 tw_1096 yd_L_spawn (by decide) dL_law_957 rfl (by decide) (by omega) (by omega) ?_
  refine h_spawn htr hJ hW hEv hO (fun M1 c g1 hj hf hO1 hz hv => ?_)
  have hf9 := c90.o hf
  have hOd1 := hf.k hOd (by simp [c90, cm])
  have hB1 : M1 b = some (0, .inl (.int, n, .inl xs)) := hf9.k hB (by simp [cl9, cm])
  have hRep1 := hRep.sf9 hf9
  refine sg_istore (pc := 960) (x := nI c) hC dL_law_960 (by decide) ?_
  show sg_W X M1 _ _ 962 [some (.ref b), some (.ref ca), some (.ref x), some (.ref oa), some (.ref od), some (.int (nI i)), some (.int (nI c)), none] []
  refine sg_aload_n (pc := 962) (v := .ref x) hC dL_law_962 rfl rfl ?_
  refine sg_aload_n (pc := 963) (v := .ref b) hC dL_law_963 rfl rfl ?_
  refine sg_iload (pc := 964) (x := nI i) hC dL_law_964 rfl ?_
  refine sg_iconst (pc := 966) (nI 1) hC dL_law_966 (by decide) ?_
  refine sg_iaddN (pc := 967) (a := i) (b := 1) hC dL_law_967 ?_
  refine sg_iald (pc := 968) (i := nI (i + 1)) hC dL_law_968 hB1 (vp_in_nI (by omega) (by omega)) ?_
  rw [nI_clamp (by omega)]
  refine sg_callV (pc := 969) (As := [.int (xs (i + 1))]) (rest := []) (mc := 0) (ms := 0) hC tw_1436 tw_1437 tw_1438 tw_72 tw_1439 yq_X7_spawn (by decide) (ci := 10) rfl dL_law_969 hRep1.1 rfl (Nat.le_of_ble_eq_true rfl) (Nat.zero_le _) (Nat.zero_le _) ?_
  refine mm_spawn htr hRep1.I (xs (i + 1)) (hw 4) (hw 15) hw16 hw18 hw14 (fun M2 hI2 => ?_)
  have hkp := hI2.2.kp
  have hB2 : M2 b = some (0, .inl (.int, n, .inl xs)) := hkp _ _ _ hB1 (by decide)
  have hWB2 := (WB_spawn hWB hW (xs (i + 1)))
  refine sg_istore (pc := 972) (x := nI (md_spawn N (xs (i + 1))).1) hC dL_law_972 (by decide) ?_
  show sg_W X M2 _ _ 974 [some (.ref b), some (.ref ca), some (.ref x), some (.ref oa), some (.ref od), some (.int (nI i)), some (.int (nI c)), some (.int (nI (md_spawn N (xs (i + 1))).1))] []
  refine sg_aload_n (pc := 974) (v := .ref x) hC dL_law_974 rfl rfl ?_
  refine sg_callV (pc := 975) (As := []) (rest := []) (mc := 0) (ms := 0) hC tw_1258 tw_1259 tw_1260 tw_72 tw_1261 yq_X7_thrown (by decide) (ci := 10) rfl dL_law_975 hI2.1.1 rfl (Nat.le_of_ble_eq_true rfl) (Nat.zero_le _) (Nat.zero_le _) ?_
  refine mm_thrown htr hI2 ?_
  refine sg_iload (pc := 978) (x := nI c) hC dL_law_978 rfl ?_
  refine sg_icmp_eq (pc := 980) (x := nI (md_thrown (md_spawn N (xs (i + 1))).2)) (y := nI c) 985 hC dL_law_980 (by decide) (fun _ => ?_) (fun h9 => absurd (congrArg nI hz) h9)
  refine sg_iload (pc := 985) (x := nI c) hC dL_law_985 rfl ?_
  have hc9 : c < 65536 := by rw [← hz]; exact hI2.1.2.2 0 0
  refine sg_ifN_ne (pc := 987) (a := c) 1002 hC dL_law_987 (by decide) (by omega) (fun hc => ?_) (fun hc => ?_)
  · skip
    refine sg_goto (pc := 1002) 1331 hC dL_law_1002 (by decide) ?_
    refine sg_iincN (pc := 1331) (a := i) (b := i + 4) hC dL_law_1331 rfl (nI_4 i) (by decide) ?_
    refine sg_goto (pc := 1334) 28 hC dL_law_1334 (by decide) ?_
    refine sg_loc (L' := [some (.ref b), some (.ref ca), some (.ref x), some (.ref oa), some (.ref od), some (.int (nI (i + 4))), none, none]) ⟨rfl, rfl, rfl, rfl, rfl, rfl, trivial⟩ ?_
    refine sg_less (cb' := cb) (sb' := sb) (by omega) (by omega) ?_
    exact kk M2 g1 gd _ (hP.step hj hf9 hO1 hOd1 hWB2 hI2)
  · subst hc
    refine sg_aload_n (pc := 990) (v := .ref oa) hC dL_law_990 rfl rfl ?_
    refine sg_iconst (pc := 991) (nI 0) hC dL_law_991 (by decide) ?_
    have hO2 : M2 oa = some (90, .inl (.long, 1, .inr (.inl g1))) := hkp _ _ _ hO1 (by decide)
    refine sg_lald (pc := 992) (i := nI 0) hC dL_law_992 hO2 (vp_in_nI (by decide) (by decide)) ?_
    rw [nI_clamp (by decide)]
    refine sg_iload (pc := 993) (x := nI (md_spawn N (xs (i + 1))).1) hC dL_law_993 rfl ?_
    refine sg_i2l (pc := 995) (x := nI (md_spawn N (xs (i + 1))).1) ((nI (md_spawn N (xs (i + 1))).1).toInt64) hC dL_law_995 rfl ?_
    rw [hv rfl]
    refine sg_lcmp0 (pc := 996) hC dL_law_996 ?_
    refine sg_ifN_eq (pc := 997) (a := 0) 1002 hC dL_law_997 (by decide) (by decide) (fun _ => ?_) (fun h9 => absurd rfl h9)
    refine sg_goto (pc := 1002) 1331 hC dL_law_1002 (by decide) ?_
    refine sg_iincN (pc := 1331) (a := i) (b := i + 4) hC dL_law_1331 rfl (nI_4 i) (by decide) ?_
    refine sg_goto (pc := 1334) 28 hC dL_law_1334 (by decide) ?_
    refine sg_loc (L' := [some (.ref b), some (.ref ca), some (.ref x), some (.ref oa), some (.ref od), some (.int (nI (i + 4))), none, none]) ⟨rfl, rfl, rfl, rfl, rfl, rfl, trivial⟩ ?_
    refine sg_less (cb' := cb) (sb' := sb) (by omega) (by omega) ?_
    exact kk M2 g1 gd _ (hP.step hj hf9 hO1 hOd1 hWB2 hI2)

set_option maxHeartbeats 1000000 in
set_option maxRecDepth 100000 in
theorem lw_c14 {X : sg_X} {l : Launch} {G : sg_G} {d : Nat} {M : sg_M} {cb sb : Nat} {ca pb sl so th cx nt x oa od b n i : Nat} {ad : Nat → Nat} {xs : Nat → Int32} {g : Nat → Int64} {gd : Nat → UInt64} {N : Nat → Nat → Nat} (htr : l.stackTraces = false) (hC : sg_C X l G cL_law RL 8 (d + 12)) (hP : lp G M ca pb sl so th cx nt x oa od b n ad xs g gd N) (hi : i + 4 ≤ n) (hn : n ≤ 256) (kk : ∀ M' g' gd' N', lp G M' ca pb sl so th cx nt x oa od b n ad xs g' gd' N' → sg_W X M' cb sb 28 [some (.ref b), some (.ref ca), some (.ref x), some (.ref oa), some (.ref od), some (.int (nI (i + 4))), none, none] []) : sg_W X M (cb + 14) (sb + 127) 1005 [some (.ref b), some (.ref ca), some (.ref x), some (.ref oa), some (.ref od), some (.int (nI i)), none, none] [] := by
  obtain ⟨hJ, hRep, hWB, hO, hOd, hEv, hB⟩ := id hP
  have hW : WN N := hRep.wn hWB
  have hw : ∀ i j, N i j ≤ wb i := hW
  have hw16 : ∀ r, N 16 r < 6 := fun r => Nat.lt_succ_of_le (hW 16 r)
  have hw18 : ∀ r, N 18 r < 64 := fun r => Nat.lt_succ_of_le (hW 18 r)
  have hw14 : ∀ r, N 14 r < 64 := fun r => Nat.lt_succ_of_le (hW 14 r)
  have hw20 : ∀ r, N 20 r < 64 := fun r => Nat.lt_succ_of_le (hW 20 r)
  refine sg_aload_n (pc := 1005) (v := .ref ca) hC dL_law_1005 rfl rfl ?_
  refine sg_aload_n (pc := 1006) (v := .ref b) hC dL_law_1006 rfl rfl ?_
  refine sg_iload (pc := 1007) (x := nI i) hC dL_law_1007 rfl ?_
  refine sg_iconst (pc := 1009) (nI 1) hC dL_law_1009 (by decide) ?_
  refine sg_iaddN (pc := 1010) (a := i) (b := 1) hC dL_law_1010 ?_
  refine sg_iald (pc := 1011) (i := nI (i + 1)) hC dL_law_1011 hB (vp_in_nI (by omega) (by omega)) ?_
  rw [nI_clamp (by omega)]
  refine sg_aload_n (pc := 1012) (v := .ref oa) hC dL_law_1012 rfl rfl ?_
  refine sg_callSH (pc := 1013) (As := [.ref ca, .int (xs (i + 1)), .ref oa]) (rest := []) (mc := 2) (ms := 12) hC tw_1105 tw_1106 tw_61 tw_1107 yd_L_end (by decide) dL_law_1013 rfl (by decide) (by omega) (by omega) ?_
  refine h_end htr hJ hW hO (fun M1 c g1 hj hf hO1 hz hv => ?_)
  have hf9 := c90.o hf
  have hOd1 := hf.k hOd (by simp [c90, cm])
  have hB1 : M1 b = some (0, .inl (.int, n, .inl xs)) := hf9.k hB (by simp [cl9, cm])
  have hRep1 := hRep.sf9 hf9
  refine sg_istore (pc := 1016) (x := nI c) hC dL_law_1016 (by decide) ?_
  show sg_W X M1 _ _ 1018 [some (.ref b), some (.ref ca), some (.ref x), some (.ref oa), some (.ref od), some (.int (nI i)), some (.int (nI c)), none] []
  refine sg_aload_n (pc := 1018) (v := .ref x) hC dL_law_1018 rfl rfl ?_
  refine sg_aload_n (pc := 1019) (v := .ref b) hC dL_law_1019 rfl rfl ?_
  refine sg_iload (pc := 1020) (x := nI i) hC dL_law_1020 rfl ?_
  refine sg_iconst (pc := 1022) (nI 1) hC dL_law_1022 (by decide) ?_
  refine sg_iaddN (pc := 1023) (a := i) (b := 1) hC dL_law_1023 ?_
  refine sg_iald (pc := 1024) (i := nI (i + 1)) hC dL_law_1024 hB1 (vp_in_nI (by omega) (by omega)) ?_
  rw [nI_clamp (by omega)]
  refine sg_callV (pc := 1025) (As := [.int (xs (i + 1))]) (rest := []) (mc := 0) (ms := 0) hC tw_1440 tw_1441 tw_1442 tw_72 tw_1443 yq_X7_end (by decide) (ci := 10) rfl dL_law_1025 hRep1.1 rfl (Nat.le_of_ble_eq_true rfl) (Nat.zero_le _) (Nat.zero_le _) ?_
  refine mm_end htr hRep1.I (xs (i + 1)) (hw 15) (fun M2 hI2 => ?_)
  have hkp := hI2.2.kp
  have hB2 : M2 b = some (0, .inl (.int, n, .inl xs)) := hkp _ _ _ hB1 (by decide)
  have hWB2 := (WB_end hWB (xs (i + 1)))
  refine sg_istore (pc := 1028) (x := nI (md_end N (xs (i + 1))).1) hC dL_law_1028 (by decide) ?_
  show sg_W X M2 _ _ 1030 [some (.ref b), some (.ref ca), some (.ref x), some (.ref oa), some (.ref od), some (.int (nI i)), some (.int (nI c)), some (.int (nI (md_end N (xs (i + 1))).1))] []
  refine sg_aload_n (pc := 1030) (v := .ref x) hC dL_law_1030 rfl rfl ?_
  refine sg_callV (pc := 1031) (As := []) (rest := []) (mc := 0) (ms := 0) hC tw_1258 tw_1259 tw_1260 tw_72 tw_1261 yq_X7_thrown (by decide) (ci := 10) rfl dL_law_1031 hI2.1.1 rfl (Nat.le_of_ble_eq_true rfl) (Nat.zero_le _) (Nat.zero_le _) ?_
  refine mm_thrown htr hI2 ?_
  refine sg_iload (pc := 1034) (x := nI c) hC dL_law_1034 rfl ?_
  refine sg_icmp_eq (pc := 1036) (x := nI (md_thrown (md_end N (xs (i + 1))).2)) (y := nI c) 1041 hC dL_law_1036 (by decide) (fun _ => ?_) (fun h9 => absurd (congrArg nI hz) h9)
  refine sg_iload (pc := 1041) (x := nI c) hC dL_law_1041 rfl ?_
  have hc9 : c < 65536 := by rw [← hz]; exact hI2.1.2.2 0 0
  refine sg_ifN_ne (pc := 1043) (a := c) 1058 hC dL_law_1043 (by decide) (by omega) (fun hc => ?_) (fun hc => ?_)
  · skip
    refine sg_goto (pc := 1058) 1331 hC dL_law_1058 (by decide) ?_
    refine sg_iincN (pc := 1331) (a := i) (b := i + 4) hC dL_law_1331 rfl (nI_4 i) (by decide) ?_
    refine sg_goto (pc := 1334) 28 hC dL_law_1334 (by decide) ?_
    refine sg_loc (L' := [some (.ref b), some (.ref ca), some (.ref x), some (.ref oa), some (.ref od), some (.int (nI (i + 4))), none, none]) ⟨rfl, rfl, rfl, rfl, rfl, rfl, trivial⟩ ?_
    refine sg_less (cb' := cb) (sb' := sb) (by omega) (by omega) ?_
    exact kk M2 g1 gd _ (hP.step hj hf9 hO1 hOd1 hWB2 hI2)
  · subst hc
    refine sg_aload_n (pc := 1046) (v := .ref oa) hC dL_law_1046 rfl rfl ?_
    refine sg_iconst (pc := 1047) (nI 0) hC dL_law_1047 (by decide) ?_
    have hO2 : M2 oa = some (90, .inl (.long, 1, .inr (.inl g1))) := hkp _ _ _ hO1 (by decide)
    refine sg_lald (pc := 1048) (i := nI 0) hC dL_law_1048 hO2 (vp_in_nI (by decide) (by decide)) ?_
    rw [nI_clamp (by decide)]
    refine sg_iload (pc := 1049) (x := nI (md_end N (xs (i + 1))).1) hC dL_law_1049 rfl ?_
    refine sg_i2l (pc := 1051) (x := nI (md_end N (xs (i + 1))).1) ((nI (md_end N (xs (i + 1))).1).toInt64) hC dL_law_1051 rfl ?_
    rw [hv rfl]
    refine sg_lcmp0 (pc := 1052) hC dL_law_1052 ?_
    refine sg_ifN_eq (pc := 1053) (a := 0) 1058 hC dL_law_1053 (by decide) (by decide) (fun _ => ?_) (fun h9 => absurd rfl h9)
    refine sg_goto (pc := 1058) 1331 hC dL_law_1058 (by decide) ?_
    refine sg_iincN (pc := 1331) (a := i) (b := i + 4) hC dL_law_1331 rfl (nI_4 i) (by decide) ?_
    refine sg_goto (pc := 1334) 28 hC dL_law_1334 (by decide) ?_
    refine sg_loc (L' := [some (.ref b), some (.ref ca), some (.ref x), some (.ref oa), some (.ref od), some (.int (nI (i + 4))), none, none]) ⟨rfl, rfl, rfl, rfl, rfl, rfl, trivial⟩ ?_
    refine sg_less (cb' := cb) (sb' := sb) (by omega) (by omega) ?_
    exact kk M2 g1 gd _ (hP.step hj hf9 hO1 hOd1 hWB2 hI2)

set_option maxHeartbeats 1000000 in
set_option maxRecDepth 100000 in
theorem lw_c15 {X : sg_X} {l : Launch} {G : sg_G} {d : Nat} {M : sg_M} {cb sb : Nat} {ca pb sl so th cx nt x oa od b n i : Nat} {ad : Nat → Nat} {xs : Nat → Int32} {g : Nat → Int64} {gd : Nat → UInt64} {N : Nat → Nat → Nat} (htr : l.stackTraces = false) (hC : sg_C X l G cL_law RL 8 (d + 12)) (hP : lp G M ca pb sl so th cx nt x oa od b n ad xs g gd N) (hi : i + 4 ≤ n) (hn : n ≤ 256) (kk : ∀ M' g' gd' N', lp G M' ca pb sl so th cx nt x oa od b n ad xs g' gd' N' → sg_W X M' cb sb 28 [some (.ref b), some (.ref ca), some (.ref x), some (.ref oa), some (.ref od), some (.int (nI (i + 4))), none, none] []) : sg_W X M (cb + 14) (sb + 127) 1061 [some (.ref b), some (.ref ca), some (.ref x), some (.ref oa), some (.ref od), some (.int (nI i)), none, none] [] := by
  obtain ⟨hJ, hRep, hWB, hO, hOd, hEv, hB⟩ := id hP
  have hW : WN N := hRep.wn hWB
  have hw : ∀ i j, N i j ≤ wb i := hW
  have hw16 : ∀ r, N 16 r < 6 := fun r => Nat.lt_succ_of_le (hW 16 r)
  have hw18 : ∀ r, N 18 r < 64 := fun r => Nat.lt_succ_of_le (hW 18 r)
  have hw14 : ∀ r, N 14 r < 64 := fun r => Nat.lt_succ_of_le (hW 14 r)
  have hw20 : ∀ r, N 20 r < 64 := fun r => Nat.lt_succ_of_le (hW 20 r)
  refine sg_aload_n (pc := 1061) (v := .ref ca) hC dL_law_1061 rfl rfl ?_
  refine sg_aload_n (pc := 1062) (v := .ref b) hC dL_law_1062 rfl rfl ?_
  refine sg_iload (pc := 1063) (x := nI i) hC dL_law_1063 rfl ?_
  refine sg_iconst (pc := 1065) (nI 1) hC dL_law_1065 (by decide) ?_
  refine sg_iaddN (pc := 1066) (a := i) (b := 1) hC dL_law_1066 ?_
  refine sg_iald (pc := 1067) (i := nI (i + 1)) hC dL_law_1067 hB (vp_in_nI (by omega) (by omega)) ?_
  rw [nI_clamp (by omega)]
  refine sg_aload_n (pc := 1068) (v := .ref b) hC dL_law_1068 rfl rfl ?_
  refine sg_iload (pc := 1069) (x := nI i) hC dL_law_1069 rfl ?_
  refine sg_iconst (pc := 1071) (nI 2) hC dL_law_1071 (by decide) ?_
  refine sg_iaddN (pc := 1072) (a := i) (b := 2) hC dL_law_1072 ?_
  refine sg_iald (pc := 1073) (i := nI (i + 2)) hC dL_law_1073 hB (vp_in_nI (by omega) (by omega)) ?_
  rw [nI_clamp (by omega)]
  refine sg_aload_n (pc := 1074) (v := .ref oa) hC dL_law_1074 rfl rfl ?_
  refine sg_callSH (pc := 1075) (As := [.ref ca, .int (xs (i + 1)), .int (xs (i + 2)), .ref oa]) (rest := []) (mc := 5) (ms := 30) hC tw_1112 tw_1113 tw_61 tw_1114 yd_L_check (by decide) dL_law_1075 rfl (by decide) (by omega) (by omega) ?_
  refine h_check htr hJ hW hO (fun M1 c g1 hj hf hO1 hz hv => ?_)
  have hf9 := c90.o hf
  have hOd1 := hf.k hOd (by simp [c90, cm])
  have hB1 : M1 b = some (0, .inl (.int, n, .inl xs)) := hf9.k hB (by simp [cl9, cm])
  have hRep1 := hRep.sf9 hf9
  refine sg_istore (pc := 1078) (x := nI c) hC dL_law_1078 (by decide) ?_
  show sg_W X M1 _ _ 1080 [some (.ref b), some (.ref ca), some (.ref x), some (.ref oa), some (.ref od), some (.int (nI i)), some (.int (nI c)), none] []
  refine sg_aload_n (pc := 1080) (v := .ref x) hC dL_law_1080 rfl rfl ?_
  refine sg_aload_n (pc := 1081) (v := .ref b) hC dL_law_1081 rfl rfl ?_
  refine sg_iload (pc := 1082) (x := nI i) hC dL_law_1082 rfl ?_
  refine sg_iconst (pc := 1084) (nI 1) hC dL_law_1084 (by decide) ?_
  refine sg_iaddN (pc := 1085) (a := i) (b := 1) hC dL_law_1085 ?_
  refine sg_iald (pc := 1086) (i := nI (i + 1)) hC dL_law_1086 hB1 (vp_in_nI (by omega) (by omega)) ?_
  rw [nI_clamp (by omega)]
  refine sg_aload_n (pc := 1087) (v := .ref b) hC dL_law_1087 rfl rfl ?_
  refine sg_iload (pc := 1088) (x := nI i) hC dL_law_1088 rfl ?_
  refine sg_iconst (pc := 1090) (nI 2) hC dL_law_1090 (by decide) ?_
  refine sg_iaddN (pc := 1091) (a := i) (b := 2) hC dL_law_1091 ?_
  refine sg_iald (pc := 1092) (i := nI (i + 2)) hC dL_law_1092 hB1 (vp_in_nI (by omega) (by omega)) ?_
  rw [nI_clamp (by omega)]
  refine sg_callV (pc := 1093) (As := [.int (xs (i + 1)), .int (xs (i + 2))]) (rest := []) (mc := 0) (ms := 0) hC tw_1444 tw_1445 tw_1446 tw_72 tw_1447 yq_X7_check (by decide) (ci := 10) rfl dL_law_1093 hRep1.1 rfl (Nat.le_of_ble_eq_true rfl) (Nat.zero_le _) (Nat.zero_le _) ?_
  refine mm_check htr hRep1.I (xs (i + 1)) (xs (i + 2)) (hw 4) (hw 15) hw16 hw18 hw14 (hw 12) (fun M2 hI2 => ?_)
  have hkp := hI2.2.kp
  have hB2 : M2 b = some (0, .inl (.int, n, .inl xs)) := hkp _ _ _ hB1 (by decide)
  have hWB2 := (WB_check hWB (xs (i + 1)) (xs (i + 2)))
  refine sg_istore (pc := 1096) (x := nI (md_check N (xs (i + 1)) (xs (i + 2))).1) hC dL_law_1096 (by decide) ?_
  show sg_W X M2 _ _ 1098 [some (.ref b), some (.ref ca), some (.ref x), some (.ref oa), some (.ref od), some (.int (nI i)), some (.int (nI c)), some (.int (nI (md_check N (xs (i + 1)) (xs (i + 2))).1))] []
  refine sg_aload_n (pc := 1098) (v := .ref x) hC dL_law_1098 rfl rfl ?_
  refine sg_callV (pc := 1099) (As := []) (rest := []) (mc := 0) (ms := 0) hC tw_1258 tw_1259 tw_1260 tw_72 tw_1261 yq_X7_thrown (by decide) (ci := 10) rfl dL_law_1099 hI2.1.1 rfl (Nat.le_of_ble_eq_true rfl) (Nat.zero_le _) (Nat.zero_le _) ?_
  refine mm_thrown htr hI2 ?_
  refine sg_iload (pc := 1102) (x := nI c) hC dL_law_1102 rfl ?_
  refine sg_icmp_eq (pc := 1104) (x := nI (md_thrown (md_check N (xs (i + 1)) (xs (i + 2))).2)) (y := nI c) 1109 hC dL_law_1104 (by decide) (fun _ => ?_) (fun h9 => absurd (congrArg nI hz) h9)
  refine sg_iload (pc := 1109) (x := nI c) hC dL_law_1109 rfl ?_
  have hc9 : c < 65536 := by rw [← hz]; exact hI2.1.2.2 0 0
  refine sg_ifN_ne (pc := 1111) (a := c) 1126 hC dL_law_1111 (by decide) (by omega) (fun hc => ?_) (fun hc => ?_)
  · skip
    refine sg_goto (pc := 1126) 1331 hC dL_law_1126 (by decide) ?_
    refine sg_iincN (pc := 1331) (a := i) (b := i + 4) hC dL_law_1331 rfl (nI_4 i) (by decide) ?_
    refine sg_goto (pc := 1334) 28 hC dL_law_1334 (by decide) ?_
    refine sg_loc (L' := [some (.ref b), some (.ref ca), some (.ref x), some (.ref oa), some (.ref od), some (.int (nI (i + 4))), none, none]) ⟨rfl, rfl, rfl, rfl, rfl, rfl, trivial⟩ ?_
    refine sg_less (cb' := cb) (sb' := sb) (by omega) (by omega) ?_
    exact kk M2 g1 gd _ (hP.step hj hf9 hO1 hOd1 hWB2 hI2)
  · subst hc
    refine sg_aload_n (pc := 1114) (v := .ref oa) hC dL_law_1114 rfl rfl ?_
    refine sg_iconst (pc := 1115) (nI 0) hC dL_law_1115 (by decide) ?_
    have hO2 : M2 oa = some (90, .inl (.long, 1, .inr (.inl g1))) := hkp _ _ _ hO1 (by decide)
    refine sg_lald (pc := 1116) (i := nI 0) hC dL_law_1116 hO2 (vp_in_nI (by decide) (by decide)) ?_
    rw [nI_clamp (by decide)]
    refine sg_iload (pc := 1117) (x := nI (md_check N (xs (i + 1)) (xs (i + 2))).1) hC dL_law_1117 rfl ?_
    refine sg_i2l (pc := 1119) (x := nI (md_check N (xs (i + 1)) (xs (i + 2))).1) ((nI (md_check N (xs (i + 1)) (xs (i + 2))).1).toInt64) hC dL_law_1119 rfl ?_
    rw [hv rfl]
    refine sg_lcmp0 (pc := 1120) hC dL_law_1120 ?_
    refine sg_ifN_eq (pc := 1121) (a := 0) 1126 hC dL_law_1121 (by decide) (by decide) (fun _ => ?_) (fun h9 => absurd rfl h9)
    refine sg_goto (pc := 1126) 1331 hC dL_law_1126 (by decide) ?_
    refine sg_iincN (pc := 1331) (a := i) (b := i + 4) hC dL_law_1331 rfl (nI_4 i) (by decide) ?_
    refine sg_goto (pc := 1334) 28 hC dL_law_1334 (by decide) ?_
    refine sg_loc (L' := [some (.ref b), some (.ref ca), some (.ref x), some (.ref oa), some (.ref od), some (.int (nI (i + 4))), none, none]) ⟨rfl, rfl, rfl, rfl, rfl, rfl, trivial⟩ ?_
    refine sg_less (cb' := cb) (sb' := sb) (by omega) (by omega) ?_
    exact kk M2 g1 gd _ (hP.step hj hf9 hO1 hOd1 hWB2 hI2)

set_option maxHeartbeats 1000000 in
set_option maxRecDepth 100000 in
theorem lw_c16 {X : sg_X} {l : Launch} {G : sg_G} {d : Nat} {M : sg_M} {cb sb : Nat} {ca pb sl so th cx nt x oa od b n i : Nat} {ad : Nat → Nat} {xs : Nat → Int32} {g : Nat → Int64} {gd : Nat → UInt64} {N : Nat → Nat → Nat} (htr : l.stackTraces = false) (hC : sg_C X l G cL_law RL 8 (d + 12)) (hP : lp G M ca pb sl so th cx nt x oa od b n ad xs g gd N) (hi : i + 4 ≤ n) (hn : n ≤ 256) (kk : ∀ M' g' gd' N', lp G M' ca pb sl so th cx nt x oa od b n ad xs g' gd' N' → sg_W X M' cb sb 28 [some (.ref b), some (.ref ca), some (.ref x), some (.ref oa), some (.ref od), some (.int (nI (i + 4))), none, none] []) : sg_W X M (cb + 14) (sb + 127) 1129 [some (.ref b), some (.ref ca), some (.ref x), some (.ref oa), some (.ref od), some (.int (nI i)), none, none] [] := by
  obtain ⟨hJ, hRep, hWB, hO, hOd, hEv, hB⟩ := id hP
  have hW : WN N := hRep.wn hWB
  have hw : ∀ i j, N i j ≤ wb i := hW
  have hw16 : ∀ r, N 16 r < 6 := fun r => Nat.lt_succ_of_le (hW 16 r)
  have hw18 : ∀ r, N 18 r < 64 := fun r => Nat.lt_succ_of_le (hW 18 r)
  have hw14 : ∀ r, N 14 r < 64 := fun r => Nat.lt_succ_of_le (hW 14 r)
  have hw20 : ∀ r, N 20 r < 64 := fun r => Nat.lt_succ_of_le (hW 20 r)
  refine sg_aload_n (pc := 1129) (v := .ref ca) hC dL_law_1129 rfl rfl ?_
  refine sg_aload_n (pc := 1130) (v := .ref b) hC dL_law_1130 rfl rfl ?_
  refine sg_iload (pc := 1131) (x := nI i) hC dL_law_1131 rfl ?_
  refine sg_iconst (pc := 1133) (nI 1) hC dL_law_1133 (by decide) ?_
  refine sg_iaddN (pc := 1134) (a := i) (b := 1) hC dL_law_1134 ?_
  refine sg_iald (pc := 1135) (i := nI (i + 1)) hC dL_law_1135 hB (vp_in_nI (by omega) (by omega)) ?_
  rw [nI_clamp (by omega)]
  refine sg_aload_n (pc := 1136) (v := .ref oa) hC dL_law_1136 rfl rfl ?_
  refine sg_callSH (pc := 1137) (As := [.ref ca, .int (xs (i + 1)), .ref oa]) (rest := []) (mc := 1) (ms := 6) hC tw_1150 tw_1151 tw_61 tw_1152 yd_L_allowed (by decide) dL_law_1137 rfl (by decide) (by omega) (by omega) ?_
  refine h_allowed htr hJ hW hO (fun M1 c g1 hj hf hO1 hz hv => ?_)
  have hf9 := c90.o hf
  have hOd1 := hf.k hOd (by simp [c90, cm])
  have hB1 : M1 b = some (0, .inl (.int, n, .inl xs)) := hf9.k hB (by simp [cl9, cm])
  have hRep1 := hRep.sf9 hf9
  refine sg_istore (pc := 1140) (x := nI c) hC dL_law_1140 (by decide) ?_
  show sg_W X M1 _ _ 1142 [some (.ref b), some (.ref ca), some (.ref x), some (.ref oa), some (.ref od), some (.int (nI i)), some (.int (nI c)), none] []
  refine sg_aload_n (pc := 1142) (v := .ref x) hC dL_law_1142 rfl rfl ?_
  refine sg_aload_n (pc := 1143) (v := .ref b) hC dL_law_1143 rfl rfl ?_
  refine sg_iload (pc := 1144) (x := nI i) hC dL_law_1144 rfl ?_
  refine sg_iconst (pc := 1146) (nI 1) hC dL_law_1146 (by decide) ?_
  refine sg_iaddN (pc := 1147) (a := i) (b := 1) hC dL_law_1147 ?_
  refine sg_iald (pc := 1148) (i := nI (i + 1)) hC dL_law_1148 hB1 (vp_in_nI (by omega) (by omega)) ?_
  rw [nI_clamp (by omega)]
  refine sg_callV (pc := 1149) (As := [.int (xs (i + 1))]) (rest := []) (mc := 0) (ms := 0) hC tw_1456 tw_1457 tw_1458 tw_72 tw_1459 yq_X7_allowed (by decide) (ci := 10) rfl dL_law_1149 hRep1.1 rfl (Nat.le_of_ble_eq_true rfl) (Nat.zero_le _) (Nat.zero_le _) ?_
  refine mm_allowed htr hRep1.I (xs (i + 1)) (hw 4) (hw 15) hw16 hw18 hw14 (hw 12) (fun M2 hI2 => ?_)
  have hkp := hI2.2.kp
  have hB2 : M2 b = some (0, .inl (.int, n, .inl xs)) := hkp _ _ _ hB1 (by decide)
  have hWB2 := (WB_allowed hWB (xs (i + 1)))
  refine sg_istore (pc := 1152) (x := nI (md_allowed N (xs (i + 1))).1) hC dL_law_1152 (by decide) ?_
  show sg_W X M2 _ _ 1154 [some (.ref b), some (.ref ca), some (.ref x), some (.ref oa), some (.ref od), some (.int (nI i)), some (.int (nI c)), some (.int (nI (md_allowed N (xs (i + 1))).1))] []
  refine sg_aload_n (pc := 1154) (v := .ref x) hC dL_law_1154 rfl rfl ?_
  refine sg_callV (pc := 1155) (As := []) (rest := []) (mc := 0) (ms := 0) hC tw_1258 tw_1259 tw_1260 tw_72 tw_1261 yq_X7_thrown (by decide) (ci := 10) rfl dL_law_1155 hI2.1.1 rfl (Nat.le_of_ble_eq_true rfl) (Nat.zero_le _) (Nat.zero_le _) ?_
  refine mm_thrown htr hI2 ?_
  refine sg_iload (pc := 1158) (x := nI c) hC dL_law_1158 rfl ?_
  refine sg_icmp_eq (pc := 1160) (x := nI (md_thrown (md_allowed N (xs (i + 1))).2)) (y := nI c) 1165 hC dL_law_1160 (by decide) (fun _ => ?_) (fun h9 => absurd (congrArg nI hz) h9)
  refine sg_iload (pc := 1165) (x := nI c) hC dL_law_1165 rfl ?_
  have hc9 : c < 65536 := by rw [← hz]; exact hI2.1.2.2 0 0
  refine sg_ifN_ne (pc := 1167) (a := c) 1182 hC dL_law_1167 (by decide) (by omega) (fun hc => ?_) (fun hc => ?_)
  · skip
    refine sg_goto (pc := 1182) 1331 hC dL_law_1182 (by decide) ?_
    refine sg_iincN (pc := 1331) (a := i) (b := i + 4) hC dL_law_1331 rfl (nI_4 i) (by decide) ?_
    refine sg_goto (pc := 1334) 28 hC dL_law_1334 (by decide) ?_
    refine sg_loc (L' := [some (.ref b), some (.ref ca), some (.ref x), some (.ref oa), some (.ref od), some (.int (nI (i + 4))), none, none]) ⟨rfl, rfl, rfl, rfl, rfl, rfl, trivial⟩ ?_
    refine sg_less (cb' := cb) (sb' := sb) (by omega) (by omega) ?_
    exact kk M2 g1 gd _ (hP.step hj hf9 hO1 hOd1 hWB2 hI2)
  · subst hc
    refine sg_aload_n (pc := 1170) (v := .ref oa) hC dL_law_1170 rfl rfl ?_
    refine sg_iconst (pc := 1171) (nI 0) hC dL_law_1171 (by decide) ?_
    have hO2 : M2 oa = some (90, .inl (.long, 1, .inr (.inl g1))) := hkp _ _ _ hO1 (by decide)
    refine sg_lald (pc := 1172) (i := nI 0) hC dL_law_1172 hO2 (vp_in_nI (by decide) (by decide)) ?_
    rw [nI_clamp (by decide)]
    refine sg_iload (pc := 1173) (x := nI (md_allowed N (xs (i + 1))).1) hC dL_law_1173 rfl ?_
    refine sg_i2l (pc := 1175) (x := nI (md_allowed N (xs (i + 1))).1) ((nI (md_allowed N (xs (i + 1))).1).toInt64) hC dL_law_1175 rfl ?_
    rw [hv rfl]
    refine sg_lcmp0 (pc := 1176) hC dL_law_1176 ?_
    refine sg_ifN_eq (pc := 1177) (a := 0) 1182 hC dL_law_1177 (by decide) (by decide) (fun _ => ?_) (fun h9 => absurd rfl h9)
    refine sg_goto (pc := 1182) 1331 hC dL_law_1182 (by decide) ?_
    refine sg_iincN (pc := 1331) (a := i) (b := i + 4) hC dL_law_1331 rfl (nI_4 i) (by decide) ?_
    refine sg_goto (pc := 1334) 28 hC dL_law_1334 (by decide) ?_
    refine sg_loc (L' := [some (.ref b), some (.ref ca), some (.ref x), some (.ref oa), some (.ref od), some (.int (nI (i + 4))), none, none]) ⟨rfl, rfl, rfl, rfl, rfl, rfl, trivial⟩ ?_
    refine sg_less (cb' := cb) (sb' := sb) (by omega) (by omega) ?_
    exact kk M2 g1 gd _ (hP.step hj hf9 hO1 hOd1 hWB2 hI2)

set_option maxHeartbeats 1000000 in
set_option maxRecDepth 100000 in
theorem lw_c17 {X : sg_X} {l : Launch} {G : sg_G} {d : Nat} {M : sg_M} {cb sb : Nat} {ca pb sl so th cx nt x oa od b n i : Nat} {ad : Nat → Nat} {xs : Nat → Int32} {g : Nat → Int64} {gd : Nat → UInt64} {N : Nat → Nat → Nat} (htr : l.stackTraces = false) (hC : sg_C X l G cL_law RL 8 (d + 12)) (hP : lp G M ca pb sl so th cx nt x oa od b n ad xs g gd N) (hi : i + 4 ≤ n) (hn : n ≤ 256) (kk : ∀ M' g' gd' N', lp G M' ca pb sl so th cx nt x oa od b n ad xs g' gd' N' → sg_W X M' cb sb 28 [some (.ref b), some (.ref ca), some (.ref x), some (.ref oa), some (.ref od), some (.int (nI (i + 4))), none, none] []) : sg_W X M (cb + 14) (sb + 127) 1185 [some (.ref b), some (.ref ca), some (.ref x), some (.ref oa), some (.ref od), some (.int (nI i)), none, none] [] := by
  obtain ⟨hJ, hRep, hWB, hO, hOd, hEv, hB⟩ := id hP
  have hW : WN N := hRep.wn hWB
  have hw : ∀ i j, N i j ≤ wb i := hW
  have hw16 : ∀ r, N 16 r < 6 := fun r => Nat.lt_succ_of_le (hW 16 r)
  have hw18 : ∀ r, N 18 r < 64 := fun r => Nat.lt_succ_of_le (hW 18 r)
  have hw14 : ∀ r, N 14 r < 64 := fun r => Nat.lt_succ_of_le (hW 14 r)
  have hw20 : ∀ r, N 20 r < 64 := fun r => Nat.lt_succ_of_le (hW 20 r)
  refine sg_aload_n (pc := 1185) (v := .ref ca) hC dL_law_1185 rfl rfl ?_
  refine sg_aload_n (pc := 1186) (v := .ref b) hC dL_law_1186 rfl rfl ?_
  refine sg_iload (pc := 1187) (x := nI i) hC dL_law_1187 rfl ?_
  refine sg_iconst (pc := 1189) (nI 1) hC dL_law_1189 (by decide) ?_
  refine sg_iaddN (pc := 1190) (a := i) (b := 1) hC dL_law_1190 ?_
  refine sg_iald (pc := 1191) (i := nI (i + 1)) hC dL_law_1191 hB (vp_in_nI (by omega) (by omega)) ?_
  rw [nI_clamp (by omega)]
  refine sg_aload_n (pc := 1192) (v := .ref b) hC dL_law_1192 rfl rfl ?_
  refine sg_iload (pc := 1193) (x := nI i) hC dL_law_1193 rfl ?_
  refine sg_iconst (pc := 1195) (nI 2) hC dL_law_1195 (by decide) ?_
  refine sg_iaddN (pc := 1196) (a := i) (b := 2) hC dL_law_1196 ?_
  refine sg_iald (pc := 1197) (i := nI (i + 2)) hC dL_law_1197 hB (vp_in_nI (by omega) (by omega)) ?_
  rw [nI_clamp (by omega)]
  refine sg_aload_n (pc := 1198) (v := .ref oa) hC dL_law_1198 rfl rfl ?_
  refine sg_callSH (pc := 1199) (As := [.ref ca, .int (xs (i + 1)), .int (xs (i + 2)), .ref oa]) (rest := []) (mc := 1) (ms := 6) hC tw_1157 tw_1158 tw_61 tw_1159 yd_L_note (by decide) dL_law_1199 rfl (by decide) (by omega) (by omega) ?_
  refine h_note htr hJ hW hO (fun M1 c g1 hj hf hO1 hz hv => ?_)
  have hf9 := c90.o hf
  have hOd1 := hf.k hOd (by simp [c90, cm])
  have hB1 : M1 b = some (0, .inl (.int, n, .inl xs)) := hf9.k hB (by simp [cl9, cm])
  have hRep1 := hRep.sf9 hf9
  refine sg_istore (pc := 1202) (x := nI c) hC dL_law_1202 (by decide) ?_
  show sg_W X M1 _ _ 1204 [some (.ref b), some (.ref ca), some (.ref x), some (.ref oa), some (.ref od), some (.int (nI i)), some (.int (nI c)), none] []
  refine sg_aload_n (pc := 1204) (v := .ref x) hC dL_law_1204 rfl rfl ?_
  refine sg_aload_n (pc := 1205) (v := .ref b) hC dL_law_1205 rfl rfl ?_
  refine sg_iload (pc := 1206) (x := nI i) hC dL_law_1206 rfl ?_
  refine sg_iconst (pc := 1208) (nI 1) hC dL_law_1208 (by decide) ?_
  refine sg_iaddN (pc := 1209) (a := i) (b := 1) hC dL_law_1209 ?_
  refine sg_iald (pc := 1210) (i := nI (i + 1)) hC dL_law_1210 hB1 (vp_in_nI (by omega) (by omega)) ?_
  rw [nI_clamp (by omega)]
  refine sg_aload_n (pc := 1211) (v := .ref b) hC dL_law_1211 rfl rfl ?_
  refine sg_iload (pc := 1212) (x := nI i) hC dL_law_1212 rfl ?_
  refine sg_iconst (pc := 1214) (nI 2) hC dL_law_1214 (by decide) ?_
  refine sg_iaddN (pc := 1215) (a := i) (b := 2) hC dL_law_1215 ?_
  refine sg_iald (pc := 1216) (i := nI (i + 2)) hC dL_law_1216 hB1 (vp_in_nI (by omega) (by omega)) ?_
  rw [nI_clamp (by omega)]
  refine sg_callV (pc := 1217) (As := [.int (xs (i + 1)), .int (xs (i + 2))]) (rest := []) (mc := 0) (ms := 0) hC tw_1460 tw_1461 tw_1462 tw_72 tw_1463 yq_X7_note (by decide) (ci := 10) rfl dL_law_1217 hRep1.1 rfl (Nat.le_of_ble_eq_true rfl) (Nat.zero_le _) (Nat.zero_le _) ?_
  refine mm_note htr hRep1.I (xs (i + 1)) (xs (i + 2)) (hw 21 0) (fun M2 hI2 => ?_)
  have hkp := hI2.2.kp
  have hB2 : M2 b = some (0, .inl (.int, n, .inl xs)) := hkp _ _ _ hB1 (by decide)
  have hWB2 := (WB_note hWB (xs (i + 1)) (xs (i + 2)))
  refine sg_istore (pc := 1220) (x := nI (md_note N (xs (i + 1)) (xs (i + 2))).1) hC dL_law_1220 (by decide) ?_
  show sg_W X M2 _ _ 1222 [some (.ref b), some (.ref ca), some (.ref x), some (.ref oa), some (.ref od), some (.int (nI i)), some (.int (nI c)), some (.int (nI (md_note N (xs (i + 1)) (xs (i + 2))).1))] []
  refine sg_aload_n (pc := 1222) (v := .ref x) hC dL_law_1222 rfl rfl ?_
  refine sg_callV (pc := 1223) (As := []) (rest := []) (mc := 0) (ms := 0) hC tw_1258 tw_1259 tw_1260 tw_72 tw_1261 yq_X7_thrown (by decide) (ci := 10) rfl dL_law_1223 hI2.1.1 rfl (Nat.le_of_ble_eq_true rfl) (Nat.zero_le _) (Nat.zero_le _) ?_
  refine mm_thrown htr hI2 ?_
  refine sg_iload (pc := 1226) (x := nI c) hC dL_law_1226 rfl ?_
  refine sg_icmp_eq (pc := 1228) (x := nI (md_thrown (md_note N (xs (i + 1)) (xs (i + 2))).2)) (y := nI c) 1233 hC dL_law_1228 (by decide) (fun _ => ?_) (fun h9 => absurd (congrArg nI hz) h9)
  refine sg_iload (pc := 1233) (x := nI c) hC dL_law_1233 rfl ?_
  have hc9 : c < 65536 := by rw [← hz]; exact hI2.1.2.2 0 0
  refine sg_ifN_ne (pc := 1235) (a := c) 1250 hC dL_law_1235 (by decide) (by omega) (fun hc => ?_) (fun hc => ?_)
  · skip
    refine sg_goto (pc := 1250) 1331 hC dL_law_1250 (by decide) ?_
    refine sg_iincN (pc := 1331) (a := i) (b := i + 4) hC dL_law_1331 rfl (nI_4 i) (by decide) ?_
    refine sg_goto (pc := 1334) 28 hC dL_law_1334 (by decide) ?_
    refine sg_loc (L' := [some (.ref b), some (.ref ca), some (.ref x), some (.ref oa), some (.ref od), some (.int (nI (i + 4))), none, none]) ⟨rfl, rfl, rfl, rfl, rfl, rfl, trivial⟩ ?_
    refine sg_less (cb' := cb) (sb' := sb) (by omega) (by omega) ?_
    exact kk M2 g1 gd _ (hP.step hj hf9 hO1 hOd1 hWB2 hI2)
  · subst hc
    refine sg_aload_n (pc := 1238) (v := .ref oa) hC dL_law_1238 rfl rfl ?_
    refine sg_iconst (pc := 1239) (nI 0) hC dL_law_1239 (by decide) ?_
    have hO2 : M2 oa = some (90, .inl (.long, 1, .inr (.inl g1))) := hkp _ _ _ hO1 (by decide)
    refine sg_lald (pc := 1240) (i := nI 0) hC dL_law_1240 hO2 (vp_in_nI (by decide) (by decide)) ?_
    rw [nI_clamp (by decide)]
    refine sg_iload (pc := 1241) (x := nI (md_note N (xs (i + 1)) (xs (i + 2))).1) hC dL_law_1241 rfl ?_
    refine sg_i2l (pc := 1243) (x := nI (md_note N (xs (i + 1)) (xs (i + 2))).1) ((nI (md_note N (xs (i + 1)) (xs (i + 2))).1).toInt64) hC dL_law_1243 rfl ?_
    rw [hv rfl]
    refine sg_lcmp0 (pc := 1244) hC dL_law_1244 ?_
    refine sg_ifN_eq (pc := 1245) (a := 0) 1250 hC dL_law_1245 (by decide) (by decide) (fun _ => ?_) (fun h9 => absurd rfl h9)
    refine sg_goto (pc := 1250) 1331 hC dL_law_1250 (by decide) ?_
    refine sg_iincN (pc := 1331) (a := i) (b := i + 4) hC dL_law_1331 rfl (nI_4 i) (by decide) ?_
    refine sg_goto (pc := 1334) 28 hC dL_law_1334 (by decide) ?_
    refine sg_loc (L' := [some (.ref b), some (.ref ca), some (.ref x), some (.ref oa), some (.ref od), some (.int (nI (i + 4))), none, none]) ⟨rfl, rfl, rfl, rfl, rfl, rfl, trivial⟩ ?_
    refine sg_less (cb' := cb) (sb' := sb) (by omega) (by omega) ?_
    exact kk M2 g1 gd _ (hP.step hj hf9 hO1 hOd1 hWB2 hI2)

set_option maxHeartbeats 1000000 in
set_option maxRecDepth 100000 in
theorem lw_c18 {X : sg_X} {l : Launch} {G : sg_G} {d : Nat} {M : sg_M} {cb sb : Nat} {ca pb sl so th cx nt x oa od b n i : Nat} {ad : Nat → Nat} {xs : Nat → Int32} {g : Nat → Int64} {gd : Nat → UInt64} {N : Nat → Nat → Nat} (htr : l.stackTraces = false) (hC : sg_C X l G cL_law RL 8 (d + 12)) (hP : lp G M ca pb sl so th cx nt x oa od b n ad xs g gd N) (hi : i + 4 ≤ n) (hn : n ≤ 256) (kk : ∀ M' g' gd' N', lp G M' ca pb sl so th cx nt x oa od b n ad xs g' gd' N' → sg_W X M' cb sb 28 [some (.ref b), some (.ref ca), some (.ref x), some (.ref oa), some (.ref od), some (.int (nI (i + 4))), none, none] []) : sg_W X M (cb + 14) (sb + 127) 1253 [some (.ref b), some (.ref ca), some (.ref x), some (.ref oa), some (.ref od), some (.int (nI i)), none, none] [] := by
  obtain ⟨hJ, hRep, hWB, hO, hOd, hEv, hB⟩ := id hP
  have hW : WN N := hRep.wn hWB
  have hw : ∀ i j, N i j ≤ wb i := hW
  have hw16 : ∀ r, N 16 r < 6 := fun r => Nat.lt_succ_of_le (hW 16 r)
  have hw18 : ∀ r, N 18 r < 64 := fun r => Nat.lt_succ_of_le (hW 18 r)
  have hw14 : ∀ r, N 14 r < 64 := fun r => Nat.lt_succ_of_le (hW 14 r)
  have hw20 : ∀ r, N 20 r < 64 := fun r => Nat.lt_succ_of_le (hW 20 r)
  refine sg_aload_n (pc := 1253) (v := .ref ca) hC dL_law_1253 rfl rfl ?_
  refine sg_aload_n (pc := 1254) (v := .ref b) hC dL_law_1254 rfl rfl ?_
  refine sg_iload (pc := 1255) (x := nI i) hC dL_law_1255 rfl ?_
  refine sg_iconst (pc := 1257) (nI 1) hC dL_law_1257 (by decide) ?_
  refine sg_iaddN (pc := 1258) (a := i) (b := 1) hC dL_law_1258 ?_
  refine sg_iald (pc := 1259) (i := nI (i + 1)) hC dL_law_1259 hB (vp_in_nI (by omega) (by omega)) ?_
  rw [nI_clamp (by omega)]
  refine sg_aload (pc := 1260) (v := .ref od) hC dL_law_1260 rfl rfl ?_
  refine sg_callSH (pc := 1262) (As := [.ref ca, .int (xs (i + 1)), .ref od]) (rest := []) (mc := 1) (ms := 6) hC tw_1164 tw_1165 tw_61 tw_1166 yd_L_idle (by decide) dL_law_1262 rfl (by decide) (by omega) (by omega) ?_
  refine h_idle htr hJ hW hOd (fun M1 c g1 hj hf hOd1 hz hv => ?_)
  have hf9 := c91.o hf
  have hO1 := hf.k hO (by simp [c91, cm])
  have hB1 : M1 b = some (0, .inl (.int, n, .inl xs)) := hf9.k hB (by simp [cl9, cm])
  have hRep1 := hRep.sf9 hf9
  refine sg_istore (pc := 1265) (x := nI c) hC dL_law_1265 (by decide) ?_
  show sg_W X M1 _ _ 1267 [some (.ref b), some (.ref ca), some (.ref x), some (.ref oa), some (.ref od), some (.int (nI i)), some (.int (nI c)), none] []
  refine sg_aload_n (pc := 1267) (v := .ref x) hC dL_law_1267 rfl rfl ?_
  refine sg_aload_n (pc := 1268) (v := .ref b) hC dL_law_1268 rfl rfl ?_
  refine sg_iload (pc := 1269) (x := nI i) hC dL_law_1269 rfl ?_
  refine sg_iconst (pc := 1271) (nI 1) hC dL_law_1271 (by decide) ?_
  refine sg_iaddN (pc := 1272) (a := i) (b := 1) hC dL_law_1272 ?_
  refine sg_iald (pc := 1273) (i := nI (i + 1)) hC dL_law_1273 hB1 (vp_in_nI (by omega) (by omega)) ?_
  rw [nI_clamp (by omega)]
  refine sg_callV (pc := 1274) (As := [.int (xs (i + 1))]) (rest := []) (mc := 0) (ms := 0) hC tw_1464 tw_1465 tw_1466 tw_72 tw_1467 yq_X7_idle (by decide) (ci := 10) rfl dL_law_1274 hRep1.1 rfl (Nat.le_of_ble_eq_true rfl) (Nat.zero_le _) (Nat.zero_le _) ?_
  refine mm_idle htr hRep1.I (xs (i + 1)) (hw 4) (hw 12) (fun M2 hI2 => ?_)
  have hkp := hI2.2.kp
  have hB2 : M2 b = some (0, .inl (.int, n, .inl xs)) := hkp _ _ _ hB1 (by decide)
  have hWB2 := (WB_idle hWB (xs (i + 1)))
  refine sg_fstore (pc := 1277) (x := (md_idle N (xs (i + 1))).1) hC dL_law_1277 (by decide) ?_
  show sg_W X M2 _ _ 1279 [some (.ref b), some (.ref ca), some (.ref x), some (.ref oa), some (.ref od), some (.int (nI i)), some (.int (nI c)), some (.float ((md_idle N (xs (i + 1))).1))] []
  refine sg_aload_n (pc := 1279) (v := .ref x) hC dL_law_1279 rfl rfl ?_
  refine sg_callV (pc := 1280) (As := []) (rest := []) (mc := 0) (ms := 0) hC tw_1258 tw_1259 tw_1260 tw_72 tw_1261 yq_X7_thrown (by decide) (ci := 10) rfl dL_law_1280 hI2.1.1 rfl (Nat.le_of_ble_eq_true rfl) (Nat.zero_le _) (Nat.zero_le _) ?_
  refine mm_thrown htr hI2 ?_
  refine sg_iload (pc := 1283) (x := nI c) hC dL_law_1283 rfl ?_
  refine sg_icmp_eq (pc := 1285) (x := nI (md_thrown (md_idle N (xs (i + 1))).2)) (y := nI c) 1290 hC dL_law_1285 (by decide) (fun _ => ?_) (fun h9 => absurd (congrArg nI hz) h9)
  refine sg_iload (pc := 1290) (x := nI c) hC dL_law_1290 rfl ?_
  have hc9 : c < 65536 := by rw [← hz]; exact hI2.1.2.2 0 0
  refine sg_ifN_ne (pc := 1292) (a := c) 1328 hC dL_law_1292 (by decide) (by omega) (fun hc => ?_) (fun hc => ?_)
  · skip
    refine sg_goto (pc := 1328) 1331 hC dL_law_1328 (by decide) ?_
    refine sg_iincN (pc := 1331) (a := i) (b := i + 4) hC dL_law_1331 rfl (nI_4 i) (by decide) ?_
    refine sg_goto (pc := 1334) 28 hC dL_law_1334 (by decide) ?_
    refine sg_loc (L' := [some (.ref b), some (.ref ca), some (.ref x), some (.ref oa), some (.ref od), some (.int (nI (i + 4))), none, none]) ⟨rfl, rfl, rfl, rfl, rfl, rfl, trivial⟩ ?_
    refine sg_less (cb' := cb) (sb' := sb) (by omega) (by omega) ?_
    exact kk M2 g g1 _ (hP.step hj hf9 hO1 hOd1 hWB2 hI2)
  · subst hc
    refine sg_aload (pc := 1295) (v := .ref od) hC dL_law_1295 rfl rfl ?_
    refine sg_iconst (pc := 1297) (nI 0) hC dL_law_1297 (by decide) ?_
    have hO2 : M2 od = some (91, .inl (.double, 1, .inr (.inr (.inr (.inl g1))))) := hkp _ _ _ hOd1 (by decide)
    refine sg_dald (pc := 1298) (i := nI 0) hC dL_law_1298 hO2 (vp_in_nI (by decide) (by decide)) ?_
    rw [nI_clamp (by decide), hv rfl]
    refine sg_fload (pc := 1299) (x := (md_idle N (xs (i + 1))).1) hC dL_law_1299 rfl ?_
    refine sg_f2d (pc := 1301) (x := (md_idle N (xs (i + 1))).1) hC dL_law_1301 (idle_n hJ hW hz).1 ?_
    refine sg_dcmp (pc := 1302) hC dL_law_1302 ?_
    rw [(idle_n hJ hW hz).2]
    show sg_W X M2 _ _ 1303 [some (.ref b), some (.ref ca), some (.ref x), some (.ref oa), some (.ref od), some (.int (nI i)), some (.int (nI 0)), some (.float ((md_idle N (xs (i + 1))).1))] [.int (nI 0)]
    refine sg_ifN_eq (pc := 1303) (a := 0) 1328 hC dL_law_1303 (by decide) (by decide) (fun _ => ?_) (fun h9 => absurd rfl h9)
    refine sg_goto (pc := 1328) 1331 hC dL_law_1328 (by decide) ?_
    refine sg_iincN (pc := 1331) (a := i) (b := i + 4) hC dL_law_1331 rfl (nI_4 i) (by decide) ?_
    refine sg_goto (pc := 1334) 28 hC dL_law_1334 (by decide) ?_
    refine sg_loc (L' := [some (.ref b), some (.ref ca), some (.ref x), some (.ref oa), some (.ref od), some (.int (nI (i + 4))), none, none]) ⟨rfl, rfl, rfl, rfl, rfl, rfl, trivial⟩ ?_
    refine sg_less (cb' := cb) (sb' := sb) (by omega) (by omega) ?_
    exact kk M2 g g1 _ (hP.step hj hf9 hO1 hOd1 hWB2 hI2)
