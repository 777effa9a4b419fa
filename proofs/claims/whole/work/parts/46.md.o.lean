/-- the reference's object while its constructor runs -/
def md_J (M0 M : sg_M) (x : Nat) (fs : List Value) (Q : List (Nat × Nat × sg_E)) : Prop := M x = some (100, .inr (10, fs)) ∧ (∀ p ∈ Q, M p.1 = some p.2 ∧ 100 < p.2.1) ∧ md_fr M0 M
theorem md_J.step {M0 M : sg_M} {x : Nat} {fs : List Value} {Q : List (Nat × Nat × sg_E)} (h : md_J M0 M x fs Q) {q t i : Nat} {e : sg_E} (hq : M q = none) (h1 : 100 < t) : md_J M0 (sg_up (sg_up M q (t, e)) x (100, .inr (10, fs.set i (.ref q)))) x (fs.set i (.ref q)) ((q, t, e) :: Q) := by
  have hxq : x ≠ q := sg_fresh h.1 hq
  refine ⟨sg_up_s _ _ _, fun p hp => ?_, fun a u y ha hu => ?_⟩
  · rcases List.mem_cons.mp hp with rfl | hp
    · refine ⟨?_, h1⟩
      show sg_up (sg_up M q (t, e)) x _ q = some (t, e)
      rw [sg_up_n (fun e9 => hxq e9.symm), sg_up_s]
    · obtain ⟨h2, h4⟩ := h.2.1 p hp
      refine ⟨?_, h4⟩
      have hpq : p.1 ≠ q := sg_fresh h2 hq
      have hpx : p.1 ≠ x := sg_net (t := p.2.1) (e := p.2.2) h2 h.1 (by omega)
      rw [sg_up_n hpx, sg_up_n hpq]
      exact h2
  · have h3 := h.2.2 a u y ha hu
    rw [sg_up_n (sg_net h3 h.1 (by omega)), sg_up_n (sg_fresh h3 hq)]
    exact h3
theorem md_arr_cases {i : Nat} {ty : FieldType} {n : Nat} (h : md_arr i = some (ty, n)) : i = 2 ∨ i = 3 ∨ i = 4 ∨ i = 5 ∨ i = 6 ∨ i = 7 ∨ i = 8 ∨ i = 9 ∨ i = 11 ∨ i = 12 ∨ i = 13 ∨ i = 14 ∨ i = 15 ∨ i = 16 ∨ i = 17 ∨ i = 18 ∨ i = 19 ∨ i = 20 ∨ i = 22 := by
  unfold md_arr at h
  split at h
  all_goals first | omega | cases h
section MDI
variable {X : sg_X} {l : Launch} {G : sg_G} {cc : ByteArray} {nL d : Nat} {M0 M : sg_M} {cb sb pc : Nat} {L : List (Option Value)} {st : List Value} {x : Nat} {fs : List Value} {Q : List (Nat × Nat × sg_E)} {y : MethodName} {kr : Option Value → sg_M → Prop} {kx : String → sg_M → Prop}

theorem md_mk_int {i n index : Nat} (hC : sg_C X l G cc RX7 nL d) (hR : sg_R X y kr kx none) (hy : y.name = "<init>") (w1 : Cond.arrayClass .int ∈ sg_tb) (hd1 : decode cc pc = .ok (.newarray .int, 2)) (hd2 : decode cc (pc + 2) = .ok (.putfield index, 3)) (hi : i < 23) (hw : Cond.fieldLink RX7 index (TX7 i).1 (TX7 i).2.1 (TX7 i).2.2.1 ∈ sg_tb) (hfin : (TX7 i).2.2.2 = true) (hdecl : (TX7 i).1 = RX7) (hdt : parseFieldDescriptor (TX7 i).2.2.1 = some (.array .int)) (hl : i < fs.length) (hn : n ≤ 65536) (h1 : 1 ≤ cb) (h2 : n ≤ sb) (hi0 : 0 < i) (hJ : md_J M0 M x fs Q) (k : ∀ q M', md_J M0 M' x (fs.set i (.ref q)) ((q, 100 + i, .inl (.int, n, .inl (fun _ => 0))) :: Q) → sg_W X M' (cb - 1) (sb - n) (pc + 2 + 3) L st) : sg_W X M cb sb pc L (.int (nI n) :: .ref x :: st) := by
  refine sg_new_int (N := n) (100 + i) hC w1 hd1 rfl hn (by omega) h1 h2 (fun q hq => ?_)
  exact sg_putF i hC hR hy rfl inw_X7 tyX7 tyX7_ok nmX7 hi hw hfin hdecl hdt rfl rfl hd2 (sg_rd hJ.1 (sg_fresh hJ.1 hq)) (by decide) hl (k q _ (hJ.step hq (by omega)))

theorem md_mk_char {i n index : Nat} (hC : sg_C X l G cc RX7 nL d) (hR : sg_R X y kr kx none) (hy : y.name = "<init>") (w1 : Cond.arrayClass .char ∈ sg_tb) (hd1 : decode cc pc = .ok (.newarray .char, 2)) (hd2 : decode cc (pc + 2) = .ok (.putfield index, 3)) (hi : i < 23) (hw : Cond.fieldLink RX7 index (TX7 i).1 (TX7 i).2.1 (TX7 i).2.2.1 ∈ sg_tb) (hfin : (TX7 i).2.2.2 = true) (hdecl : (TX7 i).1 = RX7) (hdt : parseFieldDescriptor (TX7 i).2.2.1 = some (.array .char)) (hl : i < fs.length) (hn : n ≤ 65536) (h1 : 1 ≤ cb) (h2 : n ≤ sb) (hi0 : 0 < i) (hJ : md_J M0 M x fs Q) (k : ∀ q M', md_J M0 M' x (fs.set i (.ref q)) ((q, 100 + i, .inl (.char, n, .inl (fun _ => 0))) :: Q) → sg_W X M' (cb - 1) (sb - n) (pc + 2 + 3) L st) : sg_W X M cb sb pc L (.int (nI n) :: .ref x :: st) := by
  refine sg_new_char (N := n) (100 + i) hC w1 hd1 rfl hn (by omega) h1 h2 (fun q hq => ?_)
  exact sg_putF i hC hR hy rfl inw_X7 tyX7 tyX7_ok nmX7 hi hw hfin hdecl hdt rfl rfl hd2 (sg_rd hJ.1 (sg_fresh hJ.1 hq)) (by decide) hl (k q _ (hJ.step hq (by omega)))

theorem md_mk_boolean {i n index : Nat} (hC : sg_C X l G cc RX7 nL d) (hR : sg_R X y kr kx none) (hy : y.name = "<init>") (w1 : Cond.arrayClass .boolean ∈ sg_tb) (hd1 : decode cc pc = .ok (.newarray .boolean, 2)) (hd2 : decode cc (pc + 2) = .ok (.putfield index, 3)) (hi : i < 23) (hw : Cond.fieldLink RX7 index (TX7 i).1 (TX7 i).2.1 (TX7 i).2.2.1 ∈ sg_tb) (hfin : (TX7 i).2.2.2 = true) (hdecl : (TX7 i).1 = RX7) (hdt : parseFieldDescriptor (TX7 i).2.2.1 = some (.array .boolean)) (hl : i < fs.length) (hn : n ≤ 65536) (h1 : 1 ≤ cb) (h2 : n ≤ sb) (hi0 : 0 < i) (hJ : md_J M0 M x fs Q) (k : ∀ q M', md_J M0 M' x (fs.set i (.ref q)) ((q, 100 + i, .inl (.boolean, n, .inl (fun _ => 0))) :: Q) → sg_W X M' (cb - 1) (sb - n) (pc + 2 + 3) L st) : sg_W X M cb sb pc L (.int (nI n) :: .ref x :: st) := by
  refine sg_new_boolean (N := n) (100 + i) hC w1 hd1 rfl hn (by omega) h1 h2 (fun q hq => ?_)
  exact sg_putF i hC hR hy rfl inw_X7 tyX7 tyX7_ok nmX7 hi hw hfin hdecl hdt rfl rfl hd2 (sg_rd hJ.1 (sg_fresh hJ.1 hq)) (by decide) hl (k q _ (hJ.step hq (by omega)))

end MDI

def md_fs0 : List Value := [.int 0, .int 0, .null, .null, .null, .null, .null, .null, .null, .null, .int 0, .null, .null, .null, .null, .null, .null, .null, .null, .null, .null, .int 0, .null]
def md_N0 : Nat → Nat → Nat := md_set (fun _ _ => 0) 13 0 1
set_option maxHeartbeats 4000000 in
set_option maxRecDepth 100000 in
theorem mm_init {l : Launch} {G : sg_G} {d : Nat} {M0 : sg_M} {x : Nat} {kr : Option Value → sg_M → Prop} {kx : String → sg_M → Prop} (htr : l.stackTraces = false) (hx : M0 x = some (100, .inr (10, md_fs0))) (hk : ∀ M' ad, md_I M0 M' x ad md_N0 → kr none M') : sg_Met l G yX7_init cX7_init 1 none (d + 1) 19 978 [.ref x] M0 kr kx := by
  refine sg_enter [some (.ref x)] (by decide) htr (Nat.le_of_ble_eq_true rfl) rfl ?_
  intro X hC hR
  have hC : sg_C X l G cX7_init RX7 1 (d + 1) := hC
  refine sg_aload_n (pc := 0) (v := .ref x) hC dX7_init_0 rfl rfl ?_
  refine sg_objInit (pc := 1) hC tw_1185 tw_98 tw_99 dX7_init_1 (Nat.le_of_ble_eq_true rfl) ?_
  have hJ : md_J M0 M0 x [.int 0, .int 0, .null, .null, .null, .null, .null, .null, .null, .null, .int 0, .null, .null, .null, .null, .null, .null, .null, .null, .null, .null, .int 0, .null] [] := ⟨hx, fun p hp => (by cases hp), fun _ _ _ h _ => h⟩
  refine sg_aload_n (pc := 4) (v := .ref x) hC dX7_init_4 rfl rfl ?_
  refine sg_bipush (pc := 5) (nI 16) hC dX7_init_5 (by decide) ?_
  refine md_mk_char (pc := 7) (i := 2) (n := 16) hC hR rfl tw_1256 dX7_init_7 dX7_init_9 (by decide) tw_1188 rfl rfl (by decide +kernel) (Nat.le_of_ble_eq_true rfl) (by decide) (by decide) (by decide) (by decide) hJ (fun q2 M hJ => ?_)
  have hJ : md_J M0 M x [.int 0, .int 0, .ref q2, .null, .null, .null, .null, .null, .null, .null, .int 0, .null, .null, .null, .null, .null, .null, .null, .null, .null, .null, .int 0, .null] [(q2, 102, .inl (.char, 16, .inl (fun _ => 0)))] := hJ
  show sg_W X M 18 962 12 [some (.ref x)] []
  refine sg_aload_n (pc := 12) (v := .ref x) hC dX7_init_12 rfl rfl ?_
  refine sg_bipush (pc := 13) (nI 86) hC dX7_init_13 (by decide) ?_
  refine md_mk_int (pc := 15) (i := 3) (n := 86) hC hR rfl tw_165 dX7_init_15 dX7_init_17 (by decide) tw_1189 rfl rfl (by decide +kernel) (Nat.le_of_ble_eq_true rfl) (by decide) (by decide) (by decide) (by decide) hJ (fun q3 M hJ => ?_)
  have hJ : md_J M0 M x [.int 0, .int 0, .ref q2, .ref q3, .null, .null, .null, .null, .null, .null, .int 0, .null, .null, .null, .null, .null, .null, .null, .null, .null, .null, .int 0, .null] [(q3, 103, .inl (.int, 86, .inl (fun _ => 0))), (q2, 102, .inl (.char, 16, .inl (fun _ => 0)))] := hJ
  show sg_W X M 17 876 20 [some (.ref x)] []
  refine sg_aload_n (pc := 20) (v := .ref x) hC dX7_init_20 rfl rfl ?_
  refine sg_bipush (pc := 21) (nI 86) hC dX7_init_21 (by decide) ?_
  refine md_mk_int (pc := 23) (i := 4) (n := 86) hC hR rfl tw_165 dX7_init_23 dX7_init_25 (by decide) tw_1190 rfl rfl (by decide +kernel) (Nat.le_of_ble_eq_true rfl) (by decide) (by decide) (by decide) (by decide) hJ (fun q4 M hJ => ?_)
  have hJ : md_J M0 M x [.int 0, .int 0, .ref q2, .ref q3, .ref q4, .null, .null, .null, .null, .null, .int 0, .null, .null, .null, .null, .null, .null, .null, .null, .null, .null, .int 0, .null] [(q4, 104, .inl (.int, 86, .inl (fun _ => 0))), (q3, 103, .inl (.int, 86, .inl (fun _ => 0))), (q2, 102, .inl (.char, 16, .inl (fun _ => 0)))] := hJ
  show sg_W X M 16 790 28 [some (.ref x)] []
  refine sg_aload_n (pc := 28) (v := .ref x) hC dX7_init_28 rfl rfl ?_
  refine sg_sipush (pc := 29) (nI 258) hC dX7_init_29 (by decide) ?_
  refine md_mk_int (pc := 32) (i := 5) (n := 258) hC hR rfl tw_165 dX7_init_32 dX7_init_34 (by decide) tw_1191 rfl rfl (by decide +kernel) (Nat.le_of_ble_eq_true rfl) (by decide) (by decide) (by decide) (by decide) hJ (fun q5 M hJ => ?_)
  have hJ : md_J M0 M x [.int 0, .int 0, .ref q2, .ref q3, .ref q4, .ref q5, .null, .null, .null, .null, .int 0, .null, .null, .null, .null, .null, .null, .null, .null, .null, .null, .int 0, .null] [(q5, 105, .inl (.int, 258, .inl (fun _ => 0))), (q4, 104, .inl (.int, 86, .inl (fun _ => 0))), (q3, 103, .inl (.int, 86, .inl (fun _ => 0))), (q2, 102, .inl (.char, 16, .inl (fun _ => 0)))] := hJ
  show sg_W X M 15 532 37 [some (.ref x)] []
  refine sg_aload_n (pc := 37) (v := .ref x) hC dX7_init_37 rfl rfl ?_
  refine sg_bipush (pc := 38) (nI 86) hC dX7_init_38 (by decide) ?_
  refine md_mk_int (pc := 40) (i := 6) (n := 86) hC hR rfl tw_165 dX7_init_40 dX7_init_42 (by decide) tw_1192 rfl rfl (by decide +kernel) (Nat.le_of_ble_eq_true rfl) (by decide) (by decide) (by decide) (by decide) hJ (fun q6 M hJ => ?_)
  have hJ : md_J M0 M x [.int 0, .int 0, .ref q2, .ref q3, .ref q4, .ref q5, .ref q6, .null, .null, .null, .int 0, .null, .null, .null, .null, .null, .null, .null, .null, .null, .null, .int 0, .null] [(q6, 106, .inl (.int, 86, .inl (fun _ => 0))), (q5, 105, .inl (.int, 258, .inl (fun _ => 0))), (q4, 104, .inl (.int, 86, .inl (fun _ => 0))), (q3, 103, .inl (.int, 86, .inl (fun _ => 0))), (q2, 102, .inl (.char, 16, .inl (fun _ => 0)))] := hJ
  show sg_W X M 14 446 45 [some (.ref x)] []
  refine sg_aload_n (pc := 45) (v := .ref x) hC dX7_init_45 rfl rfl ?_
  refine sg_bipush (pc := 46) (nI 86) hC dX7_init_46 (by decide) ?_
  refine md_mk_int (pc := 48) (i := 7) (n := 86) hC hR rfl tw_165 dX7_init_48 dX7_init_50 (by decide) tw_1193 rfl rfl (by decide +kernel) (Nat.le_of_ble_eq_true rfl) (by decide) (by decide) (by decide) (by decide) hJ (fun q7 M hJ => ?_)
  have hJ : md_J M0 M x [.int 0, .int 0, .ref q2, .ref q3, .ref q4, .ref q5, .ref q6, .ref q7, .null, .null, .int 0, .null, .null, .null, .null, .null, .null, .null, .null, .null, .null, .int 0, .null] [(q7, 107, .inl (.int, 86, .inl (fun _ => 0))), (q6, 106, .inl (.int, 86, .inl (fun _ => 0))), (q5, 105, .inl (.int, 258, .inl (fun _ => 0))), (q4, 104, .inl (.int, 86, .inl (fun _ => 0))), (q3, 103, .inl (.int, 86, .inl (fun _ => 0))), (q2, 102, .inl (.char, 16, .inl (fun _ => 0)))] := hJ
  show sg_W X M 13 360 53 [some (.ref x)] []
  refine sg_aload_n (pc := 53) (v := .ref x) hC dX7_init_53 rfl rfl ?_
  refine sg_bipush (pc := 54) (nI 86) hC dX7_init_54 (by decide) ?_
  refine md_mk_int (pc := 56) (i := 8) (n := 86) hC hR rfl tw_165 dX7_init_56 dX7_init_58 (by decide) tw_1194 rfl rfl (by decide +kernel) (Nat.le_of_ble_eq_true rfl) (by decide) (by decide) (by decide) (by decide) hJ (fun q8 M hJ => ?_)
  have hJ : md_J M0 M x [.int 0, .int 0, .ref q2, .ref q3, .ref q4, .ref q5, .ref q6, .ref q7, .ref q8, .null, .int 0, .null, .null, .null, .null, .null, .null, .null, .null, .null, .null, .int 0, .null] [(q8, 108, .inl (.int, 86, .inl (fun _ => 0))), (q7, 107, .inl (.int, 86, .inl (fun _ => 0))), (q6, 106, .inl (.int, 86, .inl (fun _ => 0))), (q5, 105, .inl (.int, 258, .inl (fun _ => 0))), (q4, 104, .inl (.int, 86, .inl (fun _ => 0))), (q3, 103, .inl (.int, 86, .inl (fun _ => 0))), (q2, 102, .inl (.char, 16, .inl (fun _ => 0)))] := hJ
  show sg_W X M 12 274 61 [some (.ref x)] []
  refine sg_aload_n (pc := 61) (v := .ref x) hC dX7_init_61 rfl rfl ?_
  refine sg_bipush (pc := 62) (nI 86) hC dX7_init_62 (by decide) ?_
  refine md_mk_int (pc := 64) (i := 9) (n := 86) hC hR rfl tw_165 dX7_init_64 dX7_init_66 (by decide) tw_1195 rfl rfl (by decide +kernel) (Nat.le_of_ble_eq_true rfl) (by decide) (by decide) (by decide) (by decide) hJ (fun q9 M hJ => ?_)
  have hJ : md_J M0 M x [.int 0, .int 0, .ref q2, .ref q3, .ref q4, .ref q5, .ref q6, .ref q7, .ref q8, .ref q9, .int 0, .null, .null, .null, .null, .null, .null, .null, .null, .null, .null, .int 0, .null] [(q9, 109, .inl (.int, 86, .inl (fun _ => 0))), (q8, 108, .inl (.int, 86, .inl (fun _ => 0))), (q7, 107, .inl (.int, 86, .inl (fun _ => 0))), (q6, 106, .inl (.int, 86, .inl (fun _ => 0))), (q5, 105, .inl (.int, 258, .inl (fun _ => 0))), (q4, 104, .inl (.int, 86, .inl (fun _ => 0))), (q3, 103, .inl (.int, 86, .inl (fun _ => 0))), (q2, 102, .inl (.char, 16, .inl (fun _ => 0)))] := hJ
  show sg_W X M 11 188 69 [some (.ref x)] []
  refine sg_aload_n (pc := 69) (v := .ref x) hC dX7_init_69 rfl rfl ?_
  refine sg_bipush (pc := 70) (nI 20) hC dX7_init_70 (by decide) ?_
  refine md_mk_char (pc := 72) (i := 11) (n := 20) hC hR rfl tw_1256 dX7_init_72 dX7_init_74 (by decide) tw_1197 rfl rfl (by decide +kernel) (Nat.le_of_ble_eq_true rfl) (by decide) (by decide) (by decide) (by decide) hJ (fun q11 M hJ => ?_)
  have hJ : md_J M0 M x [.int 0, .int 0, .ref q2, .ref q3, .ref q4, .ref q5, .ref q6, .ref q7, .ref q8, .ref q9, .int 0, .ref q11, .null, .null, .null, .null, .null, .null, .null, .null, .null, .int 0, .null] [(q11, 111, .inl (.char, 20, .inl (fun _ => 0))), (q9, 109, .inl (.int, 86, .inl (fun _ => 0))), (q8, 108, .inl (.int, 86, .inl (fun _ => 0))), (q7, 107, .inl (.int, 86, .inl (fun _ => 0))), (q6, 106, .inl (.int, 86, .inl (fun _ => 0))), (q5, 105, .inl (.int, 258, .inl (fun _ => 0))), (q4, 104, .inl (.int, 86, .inl (fun _ => 0))), (q3, 103, .inl (.int, 86, .inl (fun _ => 0))), (q2, 102, .inl (.char, 16, .inl (fun _ => 0)))] := hJ
  show sg_W X M 10 168 77 [some (.ref x)] []
  refine sg_aload_n (pc := 77) (v := .ref x) hC dX7_init_77 rfl rfl ?_
  refine sg_bipush (pc := 78) (nI 6) hC dX7_init_78 (by decide) ?_
  refine md_mk_int (pc := 80) (i := 12) (n := 6) hC hR rfl tw_165 dX7_init_80 dX7_init_82 (by decide) tw_1198 rfl rfl (by decide +kernel) (Nat.le_of_ble_eq_true rfl) (by decide) (by decide) (by decide) (by decide) hJ (fun q12 M hJ => ?_)
  have hJ : md_J M0 M x [.int 0, .int 0, .ref q2, .ref q3, .ref q4, .ref q5, .ref q6, .ref q7, .ref q8, .ref q9, .int 0, .ref q11, .ref q12, .null, .null, .null, .null, .null, .null, .null, .null, .int 0, .null] [(q12, 112, .inl (.int, 6, .inl (fun _ => 0))), (q11, 111, .inl (.char, 20, .inl (fun _ => 0))), (q9, 109, .inl (.int, 86, .inl (fun _ => 0))), (q8, 108, .inl (.int, 86, .inl (fun _ => 0))), (q7, 107, .inl (.int, 86, .inl (fun _ => 0))), (q6, 106, .inl (.int, 86, .inl (fun _ => 0))), (q5, 105, .inl (.int, 258, .inl (fun _ => 0))), (q4, 104, .inl (.int, 86, .inl (fun _ => 0))), (q3, 103, .inl (.int, 86, .inl (fun _ => 0))), (q2, 102, .inl (.char, 16, .inl (fun _ => 0)))] := hJ
  show sg_W X M 9 162 85 [some (.ref x)] []
  refine sg_aload_n (pc := 85) (v := .ref x) hC dX7_init_85 rfl rfl ?_
  refine sg_iconst (pc := 86) (nI 4) hC dX7_init_86 (by decide) ?_
  refine md_mk_boolean (pc := 87) (i := 13) (n := 4) hC hR rfl tw_1257 dX7_init_87 dX7_init_89 (by decide) tw_1199 rfl rfl (by decide +kernel) (Nat.le_of_ble_eq_true rfl) (by decide) (by decide) (by decide) (by decide) hJ (fun q13 M hJ => ?_)
  have hJ : md_J M0 M x [.int 0, .int 0, .ref q2, .ref q3, .ref q4, .ref q5, .ref q6, .ref q7, .ref q8, .ref q9, .int 0, .ref q11, .ref q12, .ref q13, .null, .null, .null, .null, .null, .null, .null, .int 0, .null] [(q13, 113, .inl (.boolean, 4, .inl (fun _ => 0))), (q12, 112, .inl (.int, 6, .inl (fun _ => 0))), (q11, 111, .inl (.char, 20, .inl (fun _ => 0))), (q9, 109, .inl (.int, 86, .inl (fun _ => 0))), (q8, 108, .inl (.int, 86, .inl (fun _ => 0))), (q7, 107, .inl (.int, 86, .inl (fun _ => 0))), (q6, 106, .inl (.int, 86, .inl (fun _ => 0))), (q5, 105, .inl (.int, 258, .inl (fun _ => 0))), (q4, 104, .inl (.int, 86, .inl (fun _ => 0))), (q3, 103, .inl (.int, 86, .inl (fun _ => 0))), (q2, 102, .inl (.char, 16, .inl (fun _ => 0)))] := hJ
  show sg_W X M 8 158 92 [some (.ref x)] []
  refine sg_aload_n (pc := 92) (v := .ref x) hC dX7_init_92 rfl rfl ?_
  refine sg_iconst (pc := 93) (nI 4) hC dX7_init_93 (by decide) ?_
  refine md_mk_int (pc := 94) (i := 14) (n := 4) hC hR rfl tw_165 dX7_init_94 dX7_init_96 (by decide) tw_1200 rfl rfl (by decide +kernel) (Nat.le_of_ble_eq_true rfl) (by decide) (by decide) (by decide) (by decide) hJ (fun q14 M hJ => ?_)
  have hJ : md_J M0 M x [.int 0, .int 0, .ref q2, .ref q3, .ref q4, .ref q5, .ref q6, .ref q7, .ref q8, .ref q9, .int 0, .ref q11, .ref q12, .ref q13, .ref q14, .null, .null, .null, .null, .null, .null, .int 0, .null] [(q14, 114, .inl (.int, 4, .inl (fun _ => 0))), (q13, 113, .inl (.boolean, 4, .inl (fun _ => 0))), (q12, 112, .inl (.int, 6, .inl (fun _ => 0))), (q11, 111, .inl (.char, 20, .inl (fun _ => 0))), (q9, 109, .inl (.int, 86, .inl (fun _ => 0))), (q8, 108, .inl (.int, 86, .inl (fun _ => 0))), (q7, 107, .inl (.int, 86, .inl (fun _ => 0))), (q6, 106, .inl (.int, 86, .inl (fun _ => 0))), (q5, 105, .inl (.int, 258, .inl (fun _ => 0))), (q4, 104, .inl (.int, 86, .inl (fun _ => 0))), (q3, 103, .inl (.int, 86, .inl (fun _ => 0))), (q2, 102, .inl (.char, 16, .inl (fun _ => 0)))] := hJ
  show sg_W X M 7 154 99 [some (.ref x)] []
  refine sg_aload_n (pc := 99) (v := .ref x) hC dX7_init_99 rfl rfl ?_
  refine sg_iconst (pc := 100) (nI 4) hC dX7_init_100 (by decide) ?_
  refine md_mk_int (pc := 101) (i := 15) (n := 4) hC hR rfl tw_165 dX7_init_101 dX7_init_103 (by decide) tw_1201 rfl rfl (by decide +kernel) (Nat.le_of_ble_eq_true rfl) (by decide) (by decide) (by decide) (by decide) hJ (fun q15 M hJ => ?_)
  have hJ : md_J M0 M x [.int 0, .int 0, .ref q2, .ref q3, .ref q4, .ref q5, .ref q6, .ref q7, .ref q8, .ref q9, .int 0, .ref q11, .ref q12, .ref q13, .ref q14, .ref q15, .null, .null, .null, .null, .null, .int 0, .null] [(q15, 115, .inl (.int, 4, .inl (fun _ => 0))), (q14, 114, .inl (.int, 4, .inl (fun _ => 0))), (q13, 113, .inl (.boolean, 4, .inl (fun _ => 0))), (q12, 112, .inl (.int, 6, .inl (fun _ => 0))), (q11, 111, .inl (.char, 20, .inl (fun _ => 0))), (q9, 109, .inl (.int, 86, .inl (fun _ => 0))), (q8, 108, .inl (.int, 86, .inl (fun _ => 0))), (q7, 107, .inl (.int, 86, .inl (fun _ => 0))), (q6, 106, .inl (.int, 86, .inl (fun _ => 0))), (q5, 105, .inl (.int, 258, .inl (fun _ => 0))), (q4, 104, .inl (.int, 86, .inl (fun _ => 0))), (q3, 103, .inl (.int, 86, .inl (fun _ => 0))), (q2, 102, .inl (.char, 16, .inl (fun _ => 0)))] := hJ
  show sg_W X M 6 150 106 [some (.ref x)] []
  refine sg_aload_n (pc := 106) (v := .ref x) hC dX7_init_106 rfl rfl ?_
  refine sg_bipush (pc := 107) (nI 40) hC dX7_init_107 (by decide) ?_
  refine md_mk_int (pc := 109) (i := 16) (n := 40) hC hR rfl tw_165 dX7_init_109 dX7_init_111 (by decide) tw_1202 rfl rfl (by decide +kernel) (Nat.le_of_ble_eq_true rfl) (by decide) (by decide) (by decide) (by decide) hJ (fun q16 M hJ => ?_)
  have hJ : md_J M0 M x [.int 0, .int 0, .ref q2, .ref q3, .ref q4, .ref q5, .ref q6, .ref q7, .ref q8, .ref q9, .int 0, .ref q11, .ref q12, .ref q13, .ref q14, .ref q15, .ref q16, .null, .null, .null, .null, .int 0, .null] [(q16, 116, .inl (.int, 40, .inl (fun _ => 0))), (q15, 115, .inl (.int, 4, .inl (fun _ => 0))), (q14, 114, .inl (.int, 4, .inl (fun _ => 0))), (q13, 113, .inl (.boolean, 4, .inl (fun _ => 0))), (q12, 112, .inl (.int, 6, .inl (fun _ => 0))), (q11, 111, .inl (.char, 20, .inl (fun _ => 0))), (q9, 109, .inl (.int, 86, .inl (fun _ => 0))), (q8, 108, .inl (.int, 86, .inl (fun _ => 0))), (q7, 107, .inl (.int, 86, .inl (fun _ => 0))), (q6, 106, .inl (.int, 86, .inl (fun _ => 0))), (q5, 105, .inl (.int, 258, .inl (fun _ => 0))), (q4, 104, .inl (.int, 86, .inl (fun _ => 0))), (q3, 103, .inl (.int, 86, .inl (fun _ => 0))), (q2, 102, .inl (.char, 16, .inl (fun _ => 0)))] := hJ
  show sg_W X M 5 110 114 [some (.ref x)] []
  refine sg_aload_n (pc := 114) (v := .ref x) hC dX7_init_114 rfl rfl ?_
  refine sg_bipush (pc := 115) (nI 40) hC dX7_init_115 (by decide) ?_
  refine md_mk_boolean (pc := 117) (i := 17) (n := 40) hC hR rfl tw_1257 dX7_init_117 dX7_init_119 (by decide) tw_1203 rfl rfl (by decide +kernel) (Nat.le_of_ble_eq_true rfl) (by decide) (by decide) (by decide) (by decide) hJ (fun q17 M hJ => ?_)
  have hJ : md_J M0 M x [.int 0, .int 0, .ref q2, .ref q3, .ref q4, .ref q5, .ref q6, .ref q7, .ref q8, .ref q9, .int 0, .ref q11, .ref q12, .ref q13, .ref q14, .ref q15, .ref q16, .ref q17, .null, .null, .null, .int 0, .null] [(q17, 117, .inl (.boolean, 40, .inl (fun _ => 0))), (q16, 116, .inl (.int, 40, .inl (fun _ => 0))), (q15, 115, .inl (.int, 4, .inl (fun _ => 0))), (q14, 114, .inl (.int, 4, .inl (fun _ => 0))), (q13, 113, .inl (.boolean, 4, .inl (fun _ => 0))), (q12, 112, .inl (.int, 6, .inl (fun _ => 0))), (q11, 111, .inl (.char, 20, .inl (fun _ => 0))), (q9, 109, .inl (.int, 86, .inl (fun _ => 0))), (q8, 108, .inl (.int, 86, .inl (fun _ => 0))), (q7, 107, .inl (.int, 86, .inl (fun _ => 0))), (q6, 106, .inl (.int, 86, .inl (fun _ => 0))), (q5, 105, .inl (.int, 258, .inl (fun _ => 0))), (q4, 104, .inl (.int, 86, .inl (fun _ => 0))), (q3, 103, .inl (.int, 86, .inl (fun _ => 0))), (q2, 102, .inl (.char, 16, .inl (fun _ => 0)))] := hJ
  show sg_W X M 4 70 122 [some (.ref x)] []
  refine sg_aload_n (pc := 122) (v := .ref x) hC dX7_init_122 rfl rfl ?_
  refine sg_bipush (pc := 123) (nI 40) hC dX7_init_123 (by decide) ?_
  refine md_mk_int (pc := 125) (i := 18) (n := 40) hC hR rfl tw_165 dX7_init_125 dX7_init_127 (by decide) tw_1204 rfl rfl (by decide +kernel) (Nat.le_of_ble_eq_true rfl) (by decide) (by decide) (by decide) (by decide) hJ (fun q18 M hJ => ?_)
  have hJ : md_J M0 M x [.int 0, .int 0, .ref q2, .ref q3, .ref q4, .ref q5, .ref q6, .ref q7, .ref q8, .ref q9, .int 0, .ref q11, .ref q12, .ref q13, .ref q14, .ref q15, .ref q16, .ref q17, .ref q18, .null, .null, .int 0, .null] [(q18, 118, .inl (.int, 40, .inl (fun _ => 0))), (q17, 117, .inl (.boolean, 40, .inl (fun _ => 0))), (q16, 116, .inl (.int, 40, .inl (fun _ => 0))), (q15, 115, .inl (.int, 4, .inl (fun _ => 0))), (q14, 114, .inl (.int, 4, .inl (fun _ => 0))), (q13, 113, .inl (.boolean, 4, .inl (fun _ => 0))), (q12, 112, .inl (.int, 6, .inl (fun _ => 0))), (q11, 111, .inl (.char, 20, .inl (fun _ => 0))), (q9, 109, .inl (.int, 86, .inl (fun _ => 0))), (q8, 108, .inl (.int, 86, .inl (fun _ => 0))), (q7, 107, .inl (.int, 86, .inl (fun _ => 0))), (q6, 106, .inl (.int, 86, .inl (fun _ => 0))), (q5, 105, .inl (.int, 258, .inl (fun _ => 0))), (q4, 104, .inl (.int, 86, .inl (fun _ => 0))), (q3, 103, .inl (.int, 86, .inl (fun _ => 0))), (q2, 102, .inl (.char, 16, .inl (fun _ => 0)))] := hJ
  show sg_W X M 3 30 130 [some (.ref x)] []
  refine sg_aload_n (pc := 130) (v := .ref x) hC dX7_init_130 rfl rfl ?_
  refine sg_bipush (pc := 131) (nI 8) hC dX7_init_131 (by decide) ?_
  refine md_mk_boolean (pc := 133) (i := 19) (n := 8) hC hR rfl tw_1257 dX7_init_133 dX7_init_135 (by decide) tw_1205 rfl rfl (by decide +kernel) (Nat.le_of_ble_eq_true rfl) (by decide) (by decide) (by decide) (by decide) hJ (fun q19 M hJ => ?_)
  have hJ : md_J M0 M x [.int 0, .int 0, .ref q2, .ref q3, .ref q4, .ref q5, .ref q6, .ref q7, .ref q8, .ref q9, .int 0, .ref q11, .ref q12, .ref q13, .ref q14, .ref q15, .ref q16, .ref q17, .ref q18, .ref q19, .null, .int 0, .null] [(q19, 119, .inl (.boolean, 8, .inl (fun _ => 0))), (q18, 118, .inl (.int, 40, .inl (fun _ => 0))), (q17, 117, .inl (.boolean, 40, .inl (fun _ => 0))), (q16, 116, .inl (.int, 40, .inl (fun _ => 0))), (q15, 115, .inl (.int, 4, .inl (fun _ => 0))), (q14, 114, .inl (.int, 4, .inl (fun _ => 0))), (q13, 113, .inl (.boolean, 4, .inl (fun _ => 0))), (q12, 112, .inl (.int, 6, .inl (fun _ => 0))), (q11, 111, .inl (.char, 20, .inl (fun _ => 0))), (q9, 109, .inl (.int, 86, .inl (fun _ => 0))), (q8, 108, .inl (.int, 86, .inl (fun _ => 0))), (q7, 107, .inl (.int, 86, .inl (fun _ => 0))), (q6, 106, .inl (.int, 86, .inl (fun _ => 0))), (q5, 105, .inl (.int, 258, .inl (fun _ => 0))), (q4, 104, .inl (.int, 86, .inl (fun _ => 0))), (q3, 103, .inl (.int, 86, .inl (fun _ => 0))), (q2, 102, .inl (.char, 16, .inl (fun _ => 0)))] := hJ
  show sg_W X M 2 22 138 [some (.ref x)] []
  refine sg_aload_n (pc := 138) (v := .ref x) hC dX7_init_138 rfl rfl ?_
  refine sg_bipush (pc := 139) (nI 8) hC dX7_init_139 (by decide) ?_
  refine md_mk_int (pc := 141) (i := 20) (n := 8) hC hR rfl tw_165 dX7_init_141 dX7_init_143 (by decide) tw_1206 rfl rfl (by decide +kernel) (Nat.le_of_ble_eq_true rfl) (by decide) (by decide) (by decide) (by decide) hJ (fun q20 M hJ => ?_)
  have hJ : md_J M0 M x [.int 0, .int 0, .ref q2, .ref q3, .ref q4, .ref q5, .ref q6, .ref q7, .ref q8, .ref q9, .int 0, .ref q11, .ref q12, .ref q13, .ref q14, .ref q15, .ref q16, .ref q17, .ref q18, .ref q19, .ref q20, .int 0, .null] [(q20, 120, .inl (.int, 8, .inl (fun _ => 0))), (q19, 119, .inl (.boolean, 8, .inl (fun _ => 0))), (q18, 118, .inl (.int, 40, .inl (fun _ => 0))), (q17, 117, .inl (.boolean, 40, .inl (fun _ => 0))), (q16, 116, .inl (.int, 40, .inl (fun _ => 0))), (q15, 115, .inl (.int, 4, .inl (fun _ => 0))), (q14, 114, .inl (.int, 4, .inl (fun _ => 0))), (q13, 113, .inl (.boolean, 4, .inl (fun _ => 0))), (q12, 112, .inl (.int, 6, .inl (fun _ => 0))), (q11, 111, .inl (.char, 20, .inl (fun _ => 0))), (q9, 109, .inl (.int, 86, .inl (fun _ => 0))), (q8, 108, .inl (.int, 86, .inl (fun _ => 0))), (q7, 107, .inl (.int, 86, .inl (fun _ => 0))), (q6, 106, .inl (.int, 86, .inl (fun _ => 0))), (q5, 105, .inl (.int, 258, .inl (fun _ => 0))), (q4, 104, .inl (.int, 86, .inl (fun _ => 0))), (q3, 103, .inl (.int, 86, .inl (fun _ => 0))), (q2, 102, .inl (.char, 16, .inl (fun _ => 0)))] := hJ
  show sg_W X M 1 14 146 [some (.ref x)] []
  refine sg_aload_n (pc := 146) (v := .ref x) hC dX7_init_146 rfl rfl ?_
  refine sg_bipush (pc := 147) (nI 14) hC dX7_init_147 (by decide) ?_
  refine md_mk_int (pc := 149) (i := 22) (n := 14) hC hR rfl tw_165 dX7_init_149 dX7_init_151 (by decide) tw_1208 rfl rfl (by decide +kernel) (Nat.le_of_ble_eq_true rfl) (by decide) (by decide) (by decide) (by decide) hJ (fun q22 M hJ => ?_)
  have hJ : md_J M0 M x [.int 0, .int 0, .ref q2, .ref q3, .ref q4, .ref q5, .ref q6, .ref q7, .ref q8, .ref q9, .int 0, .ref q11, .ref q12, .ref q13, .ref q14, .ref q15, .ref q16, .ref q17, .ref q18, .ref q19, .ref q20, .int 0, .ref q22] [(q22, 122, .inl (.int, 14, .inl (fun _ => 0))), (q20, 120, .inl (.int, 8, .inl (fun _ => 0))), (q19, 119, .inl (.boolean, 8, .inl (fun _ => 0))), (q18, 118, .inl (.int, 40, .inl (fun _ => 0))), (q17, 117, .inl (.boolean, 40, .inl (fun _ => 0))), (q16, 116, .inl (.int, 40, .inl (fun _ => 0))), (q15, 115, .inl (.int, 4, .inl (fun _ => 0))), (q14, 114, .inl (.int, 4, .inl (fun _ => 0))), (q13, 113, .inl (.boolean, 4, .inl (fun _ => 0))), (q12, 112, .inl (.int, 6, .inl (fun _ => 0))), (q11, 111, .inl (.char, 20, .inl (fun _ => 0))), (q9, 109, .inl (.int, 86, .inl (fun _ => 0))), (q8, 108, .inl (.int, 86, .inl (fun _ => 0))), (q7, 107, .inl (.int, 86, .inl (fun _ => 0))), (q6, 106, .inl (.int, 86, .inl (fun _ => 0))), (q5, 105, .inl (.int, 258, .inl (fun _ => 0))), (q4, 104, .inl (.int, 86, .inl (fun _ => 0))), (q3, 103, .inl (.int, 86, .inl (fun _ => 0))), (q2, 102, .inl (.char, 16, .inl (fun _ => 0)))] := hJ
  show sg_W X M 0 0 154 [some (.ref x)] []
  have hI : md_I M0 M x (fun i => if i = 2 then q2 else if i = 3 then q3 else if i = 4 then q4 else if i = 5 then q5 else if i = 6 then q6 else if i = 7 then q7 else if i = 8 then q8 else if i = 9 then q9 else if i = 11 then q11 else if i = 12 then q12 else if i = 13 then q13 else if i = 14 then q14 else if i = 15 then q15 else if i = 16 then q16 else if i = 17 then q17 else if i = 18 then q18 else if i = 19 then q19 else if i = 20 then q20 else q22) (fun _ _ => 0) := by
    refine ⟨⟨hJ.1, fun i ty n h => ?_, fun _ _ => Nat.zero_lt_succ _⟩, hJ.2.2⟩
    rcases md_arr_cases h with rfl | rfl | rfl | rfl | rfl | rfl | rfl | rfl | rfl | rfl | rfl | rfl | rfl | rfl | rfl | rfl | rfl | rfl | rfl
    · cases h; exact (hJ.2.1 _ (List.mem_of_getElem? (i := 18) rfl)).1
    · cases h; exact (hJ.2.1 _ (List.mem_of_getElem? (i := 17) rfl)).1
    · cases h; exact (hJ.2.1 _ (List.mem_of_getElem? (i := 16) rfl)).1
    · cases h; exact (hJ.2.1 _ (List.mem_of_getElem? (i := 15) rfl)).1
    · cases h; exact (hJ.2.1 _ (List.mem_of_getElem? (i := 14) rfl)).1
    · cases h; exact (hJ.2.1 _ (List.mem_of_getElem? (i := 13) rfl)).1
    · cases h; exact (hJ.2.1 _ (List.mem_of_getElem? (i := 12) rfl)).1
    · cases h; exact (hJ.2.1 _ (List.mem_of_getElem? (i := 11) rfl)).1
    · cases h; exact (hJ.2.1 _ (List.mem_of_getElem? (i := 10) rfl)).1
    · cases h; exact (hJ.2.1 _ (List.mem_of_getElem? (i := 9) rfl)).1
    · cases h; exact (hJ.2.1 _ (List.mem_of_getElem? (i := 8) rfl)).1
    · cases h; exact (hJ.2.1 _ (List.mem_of_getElem? (i := 7) rfl)).1
    · cases h; exact (hJ.2.1 _ (List.mem_of_getElem? (i := 6) rfl)).1
    · cases h; exact (hJ.2.1 _ (List.mem_of_getElem? (i := 5) rfl)).1
    · cases h; exact (hJ.2.1 _ (List.mem_of_getElem? (i := 4) rfl)).1
    · cases h; exact (hJ.2.1 _ (List.mem_of_getElem? (i := 3) rfl)).1
    · cases h; exact (hJ.2.1 _ (List.mem_of_getElem? (i := 2) rfl)).1
    · cases h; exact (hJ.2.1 _ (List.mem_of_getElem? (i := 1) rfl)).1
    · cases h; exact (hJ.2.1 _ (List.mem_of_getElem? (i := 0) rfl)).1
  generalize (fun i => if i = 2 then q2 else if i = 3 then q3 else if i = 4 then q4 else if i = 5 then q5 else if i = 6 then q6 else if i = 7 then q7 else if i = 8 then q8 else if i = 9 then q9 else if i = 11 then q11 else if i = 12 then q12 else if i = 13 then q13 else if i = 14 then q14 else if i = 15 then q15 else if i = 16 then q16 else if i = 17 then q17 else if i = 18 then q18 else if i = 19 then q19 else if i = 20 then q20 else q22) = ad at hI
  refine sg_aload_n (pc := 154) (v := .ref x) hC dX7_init_154 rfl rfl ?_
  refine md_get (pc := 155) (i := 13) hC (by decide) tw_1199 dX7_init_155 hI rfl ?_
  refine sg_iconst (pc := 158) (nI 0) hC dX7_init_158 (by decide) ?_
  refine sg_iconst (pc := 159) (nI 1) hC dX7_init_159 (by decide) ?_
  refine md_zast (pc := 160) (i := 13) (j := 0) (v := 1) hC dX7_init_160 hI rfl (by decide) (by decide) (by decide) (fun M hI => ?_)
  exact sg_vreturn (st := []) (pc := 161) hC hR dX7_init_161 (hk M ad hI)
