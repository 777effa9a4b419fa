theorem sg_ldcw {X : sg_X} {l : Launch} {G : sg_G} {cc : ByteArray} {own : String} {nL d : Nat} {M : sg_M} {cb sb pc : Nat} {L : List (Option Value)} {st : List Value} {index : Nat} (v : Int32) (hC : sg_C X l G cc own nL d) (hw : Cond.constant own index v ∈ sg_tb) (hd : decode cc pc = .ok (.ldc_w index, 3)) (k : sg_W X M cb sb (pc + 3) L (.int v :: st)) : sg_W X M cb sb pc L st := by
  obtain ⟨p, l', e, R, s, m, args, below, meth, c, G', Q, nL'⟩ := X
  obtain ⟨⟨rfl, rfl, rfl⟩, hx, hb, hml, hown, hts, hE, hlk, hG, htr, hdf, hdl⟩ := hC
  intro H locs cells slots ls hl hH hS hc hs
  exact lv_ldcw hx hb hown (hts _ hw) hd (k H locs cells slots ls hl hH hS hc hs)

set_option maxHeartbeats 400000 in
set_option maxRecDepth 100000 in
theorem c_acInit {l : Launch} {G : sg_G} {d : Nat} {M : sg_M} {kr : Option Value → sg_M → Prop} {kx : String → sg_M → Prop} (htr : l.stackTraces = false) {a : Nat}  (hk : kr none M) : sg_Met l G yJxa1e45_init_da8c8 cJxa1e45_init_da8c8 1 none (d + 1) 0 0 [.ref a] M kr kx := by
  refine sg_enter [some (.ref a)] (by decide) htr (Nat.le_of_ble_eq_true rfl) rfl ?_
  intro X hC hR
  have hC : sg_C X l G cJxa1e45_init_da8c8 RJxa1e45 1 (d + 1) := hC
  refine sg_aload_n (pc := 0) (v := .ref a) hC dJxa1e45_init_da8c8_0 rfl rfl ?_
  refine sg_objInit (pc := 1) hC tw_150 tw_98 tw_99 dJxa1e45_init_da8c8_1 (Nat.le_of_ble_eq_true rfl) ?_
  show sg_W X M 0 0 4 [some (.ref a)] []
  exact sg_vreturn (st := []) (pc := 4) hC hR dJxa1e45_init_da8c8_4 hk

set_option maxHeartbeats 400000 in
set_option maxRecDepth 100000 in
theorem c_abInit {l : Launch} {G : sg_G} {d : Nat} {M : sg_M} {kr : Option Value → sg_M → Prop} {kx : String → sg_M → Prop} (htr : l.stackTraces = false) {a t : Nat} (hA : M a = some (t, .inr (2, [.int (nI 0), .null, .int (nI 0)]))) (ht : t ≠ 0) (hk : ∀ M', sw M a (t, .inr (2, [.int (nI 0), .null, .int (nI 0)])) M' → kr none M') : sg_Met l G yJxc12de_init_da8c8 cJxc12de_init_da8c8 1 none (d + 2) 0 0 [.ref a] M kr kx := by
  refine sg_enter [some (.ref a)] (by decide) htr (Nat.le_of_ble_eq_true rfl) rfl ?_
  intro X hC hR
  have hC : sg_C X l G cJxc12de_init_da8c8 RJxc12de 1 (d + 2) := hC
  refine sg_aload_n (pc := 0) (v := .ref a) hC dJxc12de_init_da8c8_0 rfl rfl ?_
  refine sg_callI (pc := 1) (b := a) (As := []) (rest := []) (mc := 0) (ms := 0) hC tw_147 tw_148 tw_67 tw_149 rfl yd_Jxa1e45_init_da8c8 (by decide) dJxc12de_init_da8c8_1 rfl (Nat.le_of_ble_eq_true rfl) (by first | omega | decide) (by first | omega | decide) ?_
  refine c_acInit htr  ?_
  show sg_W X M 0 0 4 [some (.ref a)] []
  refine sg_aload_n (pc := 4) (v := .ref a) hC dJxc12de_init_da8c8_4 rfl rfl ?_
  refine sg_iconst (pc := 5) (nI 0) hC dJxc12de_init_da8c8_5 (by decide) ?_
  refine sg_put (pc := 6) (a := a) (v := .int (nI 0)) 0 hC rfl inw_Jx4a65c tyJx4a65c tyJx4a65c_ok nmJx4a65c (by decide) tw_155 rfl rfl rfl rfl dJxc12de_init_da8c8_6 hA (by first | omega | decide) (Nat.le_of_ble_eq_true rfl) ?_
  refine sg_nm (fun M1 hw2 => ?_)
  have hA : M1 a = some (t, .inr (2, [.int (nI 0), .null, .int (nI 0)])) := hw2.1
  exact sg_vreturn (st := []) (pc := 9) hC hR dJxc12de_init_da8c8_9 (hk _ hw2)

set_option maxHeartbeats 400000 in
set_option maxRecDepth 100000 in
theorem c_alInit {l : Launch} {G : sg_G} {d : Nat} {M : sg_M} {kr : Option Value → sg_M → Prop} {kx : String → sg_M → Prop} (htr : l.stackTraces = false) {a t : Nat} (hA : M a = some (t, .inr (2, [.int (nI 0), .null, .int (nI 0)]))) (ht : t ≠ 0) (hk : ∀ M', sw M a (t, .inr (2, [.int (nI 0), .ref (G.2.2.2 0), .int (nI 0)])) M' → kr none M') : sg_Met l G yJx4a65c_init_da8c8 cJx4a65c_init_da8c8 1 none (d + 3) 0 0 [.ref a] M kr kx := by
  refine sg_enter [some (.ref a)] (by decide) htr (Nat.le_of_ble_eq_true rfl) rfl ?_
  intro X hC hR
  have hC : sg_C X l G cJx4a65c_init_da8c8 RJx4a65c 1 (d + 3) := hC
  refine sg_aload_n (pc := 0) (v := .ref a) hC dJx4a65c_init_da8c8_0 rfl rfl ?_
  refine sg_callI (pc := 1) (b := a) (As := []) (rest := []) (mc := 0) (ms := 0) hC tw_144 tw_145 tw_68 tw_146 rfl yd_Jxc12de_init_da8c8 (by decide) dJx4a65c_init_da8c8_1 rfl (Nat.le_of_ble_eq_true rfl) (by first | omega | decide) (by first | omega | decide) ?_
  refine c_abInit htr hA (by first | omega | decide) (fun M1 hw2 => ?_)
  have hA : M1 a = some (t, .inr (2, [.int (nI 0), .null, .int (nI 0)])) := hw2.1
  show sg_W X M1 0 0 4 [some (.ref a)] []
  refine sg_aload_n (pc := 4) (v := .ref a) hC dJx4a65c_init_da8c8_4 rfl rfl ?_
  refine sg_gets_de (pc := 5) hC tw_151 dJx4a65c_init_da8c8_5 ?_
  refine sg_put (pc := 8) (a := a) (v := .ref (G.2.2.2 0)) 1 hC rfl inw_Jx4a65c tyJx4a65c tyJx4a65c_ok nmJx4a65c (by decide) tw_153 rfl rfl rfl rfl dJx4a65c_init_da8c8_8 hA (by first | omega | decide) (Nat.le_of_ble_eq_true rfl) ?_
  refine sg_nm (fun M3 hw4 => ?_)
  have hA : M3 a = some (t, .inr (2, [.int (nI 0), .ref (G.2.2.2 0), .int (nI 0)])) := hw4.1
  exact sg_vreturn (st := []) (pc := 11) hC hR dJx4a65c_init_da8c8_11 (hk _ (sw.tt hw2 hw4))

set_option maxHeartbeats 400000 in
set_option maxRecDepth 100000 in
theorem c_alSize {l : Launch} {G : sg_G} {d : Nat} {M : sg_M} {kr : Option Value → sg_M → Prop} {kx : String → sg_M → Prop} (htr : l.stackTraces = false) {t u a n : Nat} {f : Nat → Option Nat}  (hS : al_r G t u M a n f) (hk : kr (some (.int (nI n))) M) : sg_Met l G yJx4a65c_size_8abf5 cJx4a65c_size_8abf5 1 (some .int) (d + 0) 0 0 [.ref a] M kr kx := by
  refine sg_enter [some (.ref a)] (by decide) htr (Nat.le_of_ble_eq_true rfl) rfl ?_
  intro X hC hR
  have hC : sg_C X l G cJx4a65c_size_8abf5 RJx4a65c 1 (d + 0) := hC
  obtain ⟨m, ar, c, v, g, hA, hB, hN, hV, hG⟩ := id hS
  refine sg_aload_n (pc := 0) (v := .ref a) hC dJx4a65c_size_8abf5_0 rfl rfl ?_
  refine sg_get (pc := 1) (a := a) (v := .int (nI n)) 2 hC rfl inw_Jx4a65c (by decide) tw_154 dJx4a65c_size_8abf5_1 hA rfl ?_
  exact sg_ireturn (st := []) (v := nI n) (pc := 4) hC hR dJx4a65c_size_8abf5_4 hk

set_option maxHeartbeats 400000 in
set_option maxRecDepth 100000 in
theorem c_alEmpty {l : Launch} {G : sg_G} {d : Nat} {M : sg_M} {kr : Option Value → sg_M → Prop} {kx : String → sg_M → Prop} (htr : l.stackTraces = false) {t u a n : Nat} {f : Nat → Option Nat}  (hS : al_r G t u M a n f) (hk : kr (some (.int (nI (if n = 0 then 1 else 0)))) M) : sg_Met l G yJx4a65c_isEmpty_aae02 cJx4a65c_isEmpty_aae02 1 (some .boolean) (d + 0) 0 0 [.ref a] M kr kx := by
  refine sg_enter [some (.ref a)] (by decide) htr (Nat.le_of_ble_eq_true rfl) rfl ?_
  intro X hC hR
  have hC : sg_C X l G cJx4a65c_isEmpty_aae02 RJx4a65c 1 (d + 0) := hC
  obtain ⟨m, ar, c, v, g, hA, hB, hN, hV, hG⟩ := id hS
  have hc10 : c ≤ 10 := by omega
  refine sg_aload_n (pc := 0) (v := .ref a) hC dJx4a65c_isEmpty_aae02_0 rfl rfl ?_
  refine sg_get (pc := 1) (a := a) (v := .int (nI n)) 2 hC rfl inw_Jx4a65c (by decide) tw_154 dJx4a65c_isEmpty_aae02_1 hA rfl ?_
  refine sg_ifN_ne (pc := 4) (a := n) 11 hC dJx4a65c_isEmpty_aae02_4 (by decide) (by first | omega | decide) (fun h1 => ?_) (fun h1 => ?_)
  · refine sg_iconst (pc := 11) (nI 0) hC dJx4a65c_isEmpty_aae02_11 (by decide) ?_
    rw [if_neg h1] at hk
    exact sg_zreturn (st := []) (v := nI 0) (pc := 12) (ty := .boolean) hC hR (jp_z (by first | omega | decide)) dJx4a65c_isEmpty_aae02_12 hk
  · refine sg_iconst (pc := 7) (nI 1) hC dJx4a65c_isEmpty_aae02_7 (by decide) ?_
    refine sg_goto (pc := 8) 12 hC dJx4a65c_isEmpty_aae02_8 (by decide) ?_
    rw [if_pos h1] at hk
    exact sg_zreturn (st := []) (v := nI 1) (pc := 12) (ty := .boolean) hC hR (jp_z (by first | omega | decide)) dJx4a65c_isEmpty_aae02_12 hk

set_option maxHeartbeats 400000 in
set_option maxRecDepth 100000 in
theorem c_alElem {l : Launch} {G : sg_G} {d : Nat} {M : sg_M} {kr : Option Value → sg_M → Prop} {kx : String → sg_M → Prop} (htr : l.stackTraces = false) {t u a n : Nat} {f : Nat → Option Nat} {i q : Nat} (hS : al_r G t u M a n f) (hi : i < n) (hq : f i = some q) (hk : kr (some (.ref q)) M) : sg_Met l G yJx4a65c_elementData_915e3 cJx4a65c_elementData_915e3 2 (some (.object "java/lang/Object")) (d + 0) 0 0 [.ref a, .int (nI i)] M kr kx := by
  refine sg_enter [some (.ref a), some (.int (nI i))] (by decide) htr (Nat.le_of_ble_eq_true rfl) rfl ?_
  intro X hC hR
  have hC : sg_C X l G cJx4a65c_elementData_915e3 RJx4a65c 2 (d + 0) := hC
  obtain ⟨m, ar, c, v, g, hA, hB, hN, hV, hG⟩ := id hS
  have hc10 : c ≤ 10 := by omega
  refine sg_aload_n (pc := 0) (v := .ref a) hC dJx4a65c_elementData_915e3_0 rfl rfl ?_
  refine sg_get (pc := 1) (a := a) (v := .ref ar) 1 hC rfl inw_Jx4a65c (by decide) tw_153 dJx4a65c_elementData_915e3_1 hA rfl ?_
  refine sg_iload_n (pc := 4) (x := nI i) hC dJx4a65c_elementData_915e3_4 rfl ?_
  refine sg_aald6 (pc := 5) (i := nI i) hC dJx4a65c_elementData_915e3_5 hB (vp_in_nI (by first | omega | decide) (by first | omega | decide)) ?_
  rw [nI_clamp (by first | omega | decide)]
  rw [show g i = some q from (hG _ hi).trans hq]
  show sg_W X M 0 0 6 [some (.ref a), some (.int (nI i))] [.ref q]
  exact sg_areturn (st := []) (v := .ref q) (pc := 6) hC hR (Or.inl ⟨_, rfl⟩) (Or.inr ⟨_, rfl⟩) dJx4a65c_elementData_915e3_6 hk

set_option maxHeartbeats 400000 in
set_option maxRecDepth 100000 in
theorem c_alGet {l : Launch} {G : sg_G} {d : Nat} {M : sg_M} {kr : Option Value → sg_M → Prop} {kx : String → sg_M → Prop} (htr : l.stackTraces = false) {t u a n : Nat} {f : Nat → Option Nat} {i q : Nat} (hS : al_r G t u M a n f) (hi : i < n) (hq : f i = some q) (hk : kr (some (.ref q)) M) : sg_Met l G yJx4a65c_get_915e3 cJx4a65c_get_915e3 2 (some (.object "java/lang/Object")) (d + 2) 0 0 [.ref a, .int (nI i)] M kr kx := by
  refine sg_enter [some (.ref a), some (.int (nI i))] (by decide) htr (Nat.le_of_ble_eq_true rfl) rfl ?_
  intro X hC hR
  have hC : sg_C X l G cJx4a65c_get_915e3 RJx4a65c 2 (d + 2) := hC
  obtain ⟨m, ar, c, v, g, hA, hB, hN, hV, hG⟩ := id hS
  have hc10 : c ≤ 10 := by omega
  refine sg_iload_n (pc := 0) (x := nI i) hC dJx4a65c_get_915e3_0 rfl ?_
  refine sg_aload_n (pc := 1) (v := .ref a) hC dJx4a65c_get_915e3_1 rfl rfl ?_
  refine sg_get (pc := 2) (a := a) (v := .int (nI n)) 2 hC rfl inw_Jx4a65c (by decide) tw_154 dJx4a65c_get_915e3_2 hA rfl ?_
  refine sg_callS (pc := 5) (As := [.int (nI i), .int (nI n)]) (rest := []) (mc := 0) (ms := 0) hC tw_949 tw_950 tw_89 tw_951 yd_J15_checkIndex_7cf53 (by decide) dJx4a65c_get_915e3_5 rfl (Nat.le_of_ble_eq_true rfl) (by first | omega | decide) (by first | omega | decide) ?_
  refine c_ocheck htr (by first | omega | decide) (by first | omega | decide) ?_
  show sg_W X M 0 0 8 [some (.ref a), some (.int (nI i))] [.int (nI i)]
  refine sg_pop (pc := 8) hC dJx4a65c_get_915e3_8 rfl ?_
  refine sg_aload_n (pc := 9) (v := .ref a) hC dJx4a65c_get_915e3_9 rfl rfl ?_
  refine sg_iload_n (pc := 10) (x := nI i) hC dJx4a65c_get_915e3_10 rfl ?_
  refine sg_callV (pc := 11) (As := [.int (nI i)]) (rest := []) (mc := 0) (ms := 0) hC tw_974 tw_975 tw_976 tw_69 tw_977 yd_Jx4a65c_elementData_915e3 (by decide) (ci := 2) rfl dJx4a65c_get_915e3_11 hA rfl (Nat.le_of_ble_eq_true rfl) (by first | omega | decide) (by first | omega | decide) ?_
  refine c_alElem htr hS hi hq ?_
  show sg_W X M 0 0 14 [some (.ref a), some (.int (nI i))] [.ref q]
  exact sg_areturn (st := []) (v := .ref q) (pc := 14) hC hR (Or.inl ⟨_, rfl⟩) (Or.inr ⟨_, rfl⟩) dJx4a65c_get_915e3_14 hk

set_option maxHeartbeats 400000 in
set_option maxRecDepth 100000 in
theorem c_grow1 {l : Launch} {G : sg_G} {d : Nat} {M : sg_M} {kr : Option Value → sg_M → Prop} {kx : String → sg_M → Prop} (htr : l.stackTraces = false) {t u a : Nat} {m : Int32} {g0 : Nat → Option Nat} (hA : M a = some (t, .inr (2, [.int m, .ref (G.2.2.2 0), .int (nI 0)]))) (hD : M (G.2.2.2 0) = some (0, .inl (.object "java/lang/Object", 0, .inr (.inr (.inr (.inr g0)))))) (ht : t ≠ 0) (hu : u ≠ 0) (htu : t ≠ u) (hk : ∀ q M1 M', M q = none → sw M q (u, .inl (.object "java/lang/Object", 10, .inr (.inr (.inr (.inr (fun _ => none)))))) M1 → sw M1 a (t, .inr (2, [.int m, .ref q, .int (nI 0)])) M' → kr (some (.ref q)) M') : sg_Met l G yJx4a65c_grow_92f84 cJx4a65c_grow_92f84 4 (some (.array (.object "java/lang/Object"))) (d + 1) 1 10 [.ref a, .int (nI 1)] M kr kx := by
  refine sg_enter [some (.ref a), some (.int (nI 1)), none, none] (by decide) htr (Nat.le_of_ble_eq_true rfl) rfl ?_
  intro X hC hR
  have hC : sg_C X l G cJx4a65c_grow_92f84 RJx4a65c 4 (d + 1) := hC
  refine sg_aload_n (pc := 0) (v := .ref a) hC dJx4a65c_grow_92f84_0 rfl rfl ?_
  refine sg_get (pc := 1) (a := a) (v := .ref (G.2.2.2 0)) 1 hC rfl inw_Jx4a65c (by decide) tw_153 dJx4a65c_grow_92f84_1 hA rfl ?_
  refine sg_alen (pc := 4) 6 hC dJx4a65c_grow_92f84_4 hD rfl ?_
  show sg_W X M 1 10 5 [some (.ref a), some (.int (nI 1)), none, none] [.int (nI 0)]
  refine sg_istore_n (pc := 5) (x := nI 0) hC dJx4a65c_grow_92f84_5 (by decide) ?_
  show sg_W X M 1 10 6 [some (.ref a), some (.int (nI 1)), some (.int (nI 0)), none] []
  refine sg_iload_n (pc := 6) (x := nI 0) hC dJx4a65c_grow_92f84_6 rfl ?_
  refine sg_ifN_gt (pc := 7) (a := 0) 20 hC dJx4a65c_grow_92f84_7 (by decide) (by decide) (fun h1 => absurd h1 (by decide)) (fun _ => ?_)
  refine sg_aload_n (pc := 10) (v := .ref a) hC dJx4a65c_grow_92f84_10 rfl rfl ?_
  refine sg_get (pc := 11) (a := a) (v := .ref (G.2.2.2 0)) 1 hC rfl inw_Jx4a65c (by decide) tw_153 dJx4a65c_grow_92f84_11 hA rfl ?_
  refine sg_gets_de (pc := 14) hC tw_151 dJx4a65c_grow_92f84_14 ?_
  refine sg_acmp_eq (pc := 17) (rx := some (G.2.2.2 0)) (ry := some (G.2.2.2 0)) 45 hC dJx4a65c_grow_92f84_17 (by decide) (fun _ => ?_) (fun h => absurd rfl h)
  refine sg_aload_n (pc := 45) (v := .ref a) hC dJx4a65c_grow_92f84_45 rfl rfl ?_
  refine sg_bipush (pc := 46) (nI 10) hC dJx4a65c_grow_92f84_46 (by decide) ?_
  refine sg_iload_n (pc := 48) (x := nI 1) hC dJx4a65c_grow_92f84_48 rfl ?_
  refine sg_mmax (pc := 49) (x := nI 10) (y := nI 1) hC tw_930 tw_242 tw_74 tw_243 dJx4a65c_grow_92f84_49 (Nat.le_of_ble_eq_true rfl) ?_
  rw [jm_max (by omega) (by omega)]
  show sg_W X M 1 10 52 [some (.ref a), some (.int (nI 1)), some (.int (nI 0)), none] [.int (nI 10), .ref a]
  refine sg_newqO (pc := 52) (N := 10) (u) hC tw_931 dJx4a65c_grow_92f84_52 rfl (by first | omega | decide) (by first | omega | decide) (by first | omega | decide) (by first | omega | decide) (fun q2 hq3 => ?_)
  refine sg_nm (fun M4 hw5 => ?_)
  have ne6 : a ≠ q2 := sg_fresh hA hq3
  have hA : M4 a = some (t, .inr (2, [.int m, .ref (G.2.2.2 0), .int (nI 0)])) := hw5.n hA ne6
  have ne7 : (G.2.2.2 0) ≠ q2 := sg_fresh hD hq3
  have hD : M4 (G.2.2.2 0) = some (0, .inl (.object "java/lang/Object", 0, .inr (.inr (.inr (.inr g0))))) := hw5.n hD ne7
  have hF8 : M4 q2 = some (u, .inl (.object "java/lang/Object", 10, .inr (.inr (.inr (.inr (fun _ => none)))))) := hw5.1
  show sg_W X M4 0 0 55 [some (.ref a), some (.int (nI 1)), some (.int (nI 0)), none] [.ref q2, .ref a]
  refine sg_dup_x1 (pc := 55) hC dJx4a65c_grow_92f84_55 rfl rfl ?_
  refine sg_put (pc := 56) (a := a) (v := .ref q2) 1 hC rfl inw_Jx4a65c tyJx4a65c tyJx4a65c_ok nmJx4a65c (by decide) tw_153 rfl rfl rfl rfl dJx4a65c_grow_92f84_56 hA (by first | omega | decide) (Nat.le_of_ble_eq_true rfl) ?_
  refine sg_nm (fun M9 hw10 => ?_)
  have hD : M9 (G.2.2.2 0) = some (0, .inl (.object "java/lang/Object", 0, .inr (.inr (.inr (.inr g0))))) := hw10.n hD (sg_net hD hA (by first | omega | decide))
  have hF8 : M9 q2 = some (u, .inl (.object "java/lang/Object", 10, .inr (.inr (.inr (.inr (fun _ => none)))))) := hw10.n hF8 (Ne.symm ne6)
  have hA : M9 a = some (t, .inr (2, [.int m, .ref q2, .int (nI 0)])) := hw10.1
  exact sg_areturn (st := []) (v := .ref q2) (pc := 59) hC hR (Or.inr ⟨_, rfl⟩) (Or.inr ⟨_, rfl⟩) dJx4a65c_grow_92f84_59 (hk _ _ _ hq3 hw5 hw10)

set_option maxHeartbeats 400000 in
set_option maxRecDepth 100000 in
theorem c_grow0 {l : Launch} {G : sg_G} {d : Nat} {M : sg_M} {kr : Option Value → sg_M → Prop} {kx : String → sg_M → Prop} (htr : l.stackTraces = false) {t u a : Nat} {m : Int32} {g0 : Nat → Option Nat} (hA : M a = some (t, .inr (2, [.int m, .ref (G.2.2.2 0), .int (nI 0)]))) (hD : M (G.2.2.2 0) = some (0, .inl (.object "java/lang/Object", 0, .inr (.inr (.inr (.inr g0)))))) (ht : t ≠ 0) (hu : u ≠ 0) (htu : t ≠ u) (hk : ∀ q M1 M', M q = none → sw M q (u, .inl (.object "java/lang/Object", 10, .inr (.inr (.inr (.inr (fun _ => none)))))) M1 → sw M1 a (t, .inr (2, [.int m, .ref q, .int (nI 0)])) M' → kr (some (.ref q)) M') : sg_Met l G yJx4a65c_grow_d5877 cJx4a65c_grow_d5877 1 (some (.array (.object "java/lang/Object"))) (d + 2) 1 10 [.ref a] M kr kx := by
  refine sg_enter [some (.ref a)] (by decide) htr (Nat.le_of_ble_eq_true rfl) rfl ?_
  intro X hC hR
  have hC : sg_C X l G cJx4a65c_grow_d5877 RJx4a65c 1 (d + 2) := hC
  refine sg_aload_n (pc := 0) (v := .ref a) hC dJx4a65c_grow_d5877_0 rfl rfl ?_
  refine sg_aload_n (pc := 1) (v := .ref a) hC dJx4a65c_grow_d5877_1 rfl rfl ?_
  refine sg_get (pc := 2) (a := a) (v := .int (nI 0)) 2 hC rfl inw_Jx4a65c (by decide) tw_154 dJx4a65c_grow_d5877_2 hA rfl ?_
  refine sg_iconst (pc := 5) (nI 1) hC dJx4a65c_grow_d5877_5 (by decide) ?_
  refine sg_iaddN (pc := 6) (a := 0) (b := 1) hC dJx4a65c_grow_d5877_6 ?_
  refine sg_callV (pc := 7) (As := [.int (nI 1)]) (rest := []) (mc := 1) (ms := 10) hC tw_898 tw_900 tw_22 tw_69 tw_901 yd_Jx4a65c_grow_92f84 (by decide) (ci := 2) rfl dJx4a65c_grow_d5877_7 hA rfl (Nat.le_of_ble_eq_true rfl) (by first | omega | decide) (by first | omega | decide) ?_
  refine c_grow1 (u := u) htr hA hD (by omega) (by omega) (by omega) (fun q1 M2 M3 hq4 hw5 hw6 => ?_)
  have ne7 : a ≠ q1 := sg_fresh hA hq4
  have hA : M2 a = some (t, .inr (2, [.int m, .ref (G.2.2.2 0), .int (nI 0)])) := hw5.n hA ne7
  have ne8 : (G.2.2.2 0) ≠ q1 := sg_fresh hD hq4
  have hD : M2 (G.2.2.2 0) = some (0, .inl (.object "java/lang/Object", 0, .inr (.inr (.inr (.inr g0))))) := hw5.n hD ne8
  have hF9 : M2 q1 = some (u, .inl (.object "java/lang/Object", 10, .inr (.inr (.inr (.inr (fun _ => none)))))) := hw5.1
  have hD : M3 (G.2.2.2 0) = some (0, .inl (.object "java/lang/Object", 0, .inr (.inr (.inr (.inr g0))))) := hw6.n hD (sg_net hD hA (by first | omega | decide))
  have hF9 : M3 q1 = some (u, .inl (.object "java/lang/Object", 10, .inr (.inr (.inr (.inr (fun _ => none)))))) := hw6.n hF9 (Ne.symm ne7)
  have hA : M3 a = some (t, .inr (2, [.int m, .ref q1, .int (nI 0)])) := hw6.1
  show sg_W X M3 0 0 10 [some (.ref a)] [.ref q1]
  exact sg_areturn (st := []) (v := .ref q1) (pc := 10) hC hR (Or.inr ⟨_, rfl⟩) (Or.inr ⟨_, rfl⟩) dJx4a65c_grow_d5877_10 (hk _ _ _ hq4 hw5 hw6)

set_option maxHeartbeats 400000 in
set_option maxRecDepth 100000 in
theorem c_add3 {l : Launch} {G : sg_G} {d : Nat} {M : sg_M} {kr : Option Value → sg_M → Prop} {kx : String → sg_M → Prop} (htr : l.stackTraces = false) {t u a n ar : Nat} {f g : Nat → Option Nat} {m : Int32} {x tx ci : Nat} {vs : List Value}  (hA : M a = some (t, .inr (2, [.int m, .ref ar, .int (nI n)]))) (hB : M ar = some (u, .inl (.object "java/lang/Object", 10, .inr (.inr (.inr (.inr g)))))) (hn : n < 10) (hG : ∀ j, j < n → g j = f j) (ht : t ≠ 0) (hu : u ≠ 0) (htu : t ≠ u) (hX : M x = some (tx, .inr (ci, vs))) (hel : sg_El ci) (hx0 : tx ≠ 0) (hxt : tx ≠ t) (hxu : tx ≠ u) (hk : ∀ M', al_r G t u M' a (n + 1) (va_up f n (some x)) → sf (pk [t, u]) M M' → kr none M') : sg_Met l G yJx4a65c_add_72be8 cJx4a65c_add_72be8 4 none (d + 3) 1 10 [.ref a, .ref x, .ref ar, .int (nI n)] M kr kx := by
  refine sg_enter [some (.ref a), some (.ref x), some (.ref ar), some (.int (nI n))] (by decide) htr (Nat.le_of_ble_eq_true rfl) rfl ?_
  intro X hC hR
  have hC : sg_C X l G cJx4a65c_add_72be8 RJx4a65c 4 (d + 3) := hC
  have hf : sf (pk [t, u]) M M := sf.rf
  refine sg_iload_n (pc := 0) (x := nI n) hC dJx4a65c_add_72be8_0 rfl ?_
  refine sg_aload_n (pc := 1) (v := .ref ar) hC dJx4a65c_add_72be8_1 rfl rfl ?_
  refine sg_alen (pc := 2) 6 hC dJx4a65c_add_72be8_2 hB rfl ?_
  show sg_W X M 1 10 3 [some (.ref a), some (.ref x), some (.ref ar), some (.int (nI n))] [.int (nI 10), .int (nI n)]
  refine sg_icmpN_ne (pc := 3) (a := n) (b := 10) 11 hC dJx4a65c_add_72be8_3 (by decide) (by first | omega | decide) (by first | omega | decide) (fun h1 => ?_) (fun h1 => by exfalso; omega)
  refine sg_aload_n (pc := 11) (v := .ref ar) hC dJx4a65c_add_72be8_11 rfl rfl ?_
  refine sg_iload_n (pc := 12) (x := nI n) hC dJx4a65c_add_72be8_12 rfl ?_
  refine sg_aload_n (pc := 13) (v := .ref x) hC dJx4a65c_add_72be8_13 rfl rfl ?_
  refine sg_aastO (pc := 14) (i := nI n) hC dJx4a65c_add_72be8_14 hB (by first | omega | decide) hX (by first | omega | decide) hel (vp_in_nI (by first | omega | decide) (by first | omega | decide)) ?_
  rw [nI_clamp (by first | omega | decide)]
  refine sg_nm (fun M2 hw3 => ?_)
  have hA : M2 a = some (t, .inr (2, [.int m, .ref ar, .int (nI n)])) := hw3.n hA (sg_net hA hB (by first | omega | decide))
  have hX : M2 x = some (tx, .inr (ci, vs)) := hw3.n hX (sg_net hX hB (by first | omega | decide))
  have hf : sf (pk [t, u]) M M2 := hf.st hw3 hB (by simp [pk])
  have hB : M2 ar = some (u, .inl (.object "java/lang/Object", 10, .inr (.inr (.inr (.inr (va_up g n (some x))))))) := hw3.1
  refine sg_aload_n (pc := 15) (v := .ref a) hC dJx4a65c_add_72be8_15 rfl rfl ?_
  refine sg_iload_n (pc := 16) (x := nI n) hC dJx4a65c_add_72be8_16 rfl ?_
  refine sg_iconst (pc := 17) (nI 1) hC dJx4a65c_add_72be8_17 (by decide) ?_
  refine sg_iaddN (pc := 18) (a := n) (b := 1) hC dJx4a65c_add_72be8_18 ?_
  refine sg_put (pc := 19) (a := a) (v := .int (nI (n + 1))) 2 hC rfl inw_Jx4a65c tyJx4a65c tyJx4a65c_ok nmJx4a65c (by decide) tw_154 rfl rfl rfl rfl dJx4a65c_add_72be8_19 hA (by first | omega | decide) (Nat.le_of_ble_eq_true rfl) ?_
  refine sg_nm (fun M4 hw5 => ?_)
  have hB : M4 ar = some (u, .inl (.object "java/lang/Object", 10, .inr (.inr (.inr (.inr (va_up g n (some x))))))) := hw5.n hB (sg_net hB hA (by first | omega | decide))
  have hX : M4 x = some (tx, .inr (ci, vs)) := hw5.n hX (sg_net hX hA (by first | omega | decide))
  have hf : sf (pk [t, u]) M M4 := hf.st hw5 hA (by simp [pk])
  have hA : M4 a = some (t, .inr (2, [.int m, .ref ar, .int (nI (n + 1))])) := hw5.1
  exact sg_vreturn (st := []) (pc := 22) hC hR dJx4a65c_add_72be8_22 (hk _ ⟨_, ar, 10, u, _, hA, hB, by omega, Or.inr ⟨rfl, rfl⟩, fun j hj => by
    by_cases h9 : j = n
    · subst h9; rw [va_up_self, va_up_self]
    · rw [va_up_ne _ _ h9, va_up_ne _ _ h9]; exact hG j (by omega)⟩ hf)

set_option maxHeartbeats 400000 in
set_option maxRecDepth 100000 in
theorem c_add3d {l : Launch} {G : sg_G} {d : Nat} {M : sg_M} {kr : Option Value → sg_M → Prop} {kx : String → sg_M → Prop} (htr : l.stackTraces = false) {t u a : Nat} {f g0 : Nat → Option Nat} {m : Int32} {x tx ci : Nat} {vs : List Value}  (hA : M a = some (t, .inr (2, [.int m, .ref (G.2.2.2 0), .int (nI 0)]))) (hD : M (G.2.2.2 0) = some (0, .inl (.object "java/lang/Object", 0, .inr (.inr (.inr (.inr g0)))))) (ht : t ≠ 0) (hu : u ≠ 0) (htu : t ≠ u) (hX : M x = some (tx, .inr (ci, vs))) (hel : sg_El ci) (hx0 : tx ≠ 0) (hxt : tx ≠ t) (hxu : tx ≠ u) (hk : ∀ M', al_r G t u M' a (0 + 1) (va_up f 0 (some x)) → sf (pk [t, u]) M M' → kr none M') : sg_Met l G yJx4a65c_add_72be8 cJx4a65c_add_72be8 4 none (d + 3) 1 10 [.ref a, .ref x, .ref (G.2.2.2 0), .int (nI 0)] M kr kx := by
  refine sg_enter [some (.ref a), some (.ref x), some (.ref (G.2.2.2 0)), some (.int (nI 0))] (by decide) htr (Nat.le_of_ble_eq_true rfl) rfl ?_
  intro X hC hR
  have hC : sg_C X l G cJx4a65c_add_72be8 RJx4a65c 4 (d + 3) := hC
  have hf : sf (pk [t, u]) M M := sf.rf
  refine sg_iload_n (pc := 0) (x := nI 0) hC dJx4a65c_add_72be8_0 rfl ?_
  refine sg_aload_n (pc := 1) (v := .ref (G.2.2.2 0)) hC dJx4a65c_add_72be8_1 rfl rfl ?_
  refine sg_alen (pc := 2) 6 hC dJx4a65c_add_72be8_2 hD rfl ?_
  show sg_W X M 1 10 3 [some (.ref a), some (.ref x), some (.ref (G.2.2.2 0)), some (.int (nI 0))] [.int (nI 0), .int (nI 0)]
  refine sg_icmpN_ne (pc := 3) (a := 0) (b := 0) 11 hC dJx4a65c_add_72be8_3 (by decide) (by decide) (by decide) (fun h1 => absurd h1 (by decide)) (fun _ => ?_)
  refine sg_aload_n (pc := 6) (v := .ref a) hC dJx4a65c_add_72be8_6 rfl rfl ?_
  refine sg_callV (pc := 7) (As := []) (rest := []) (mc := 1) (ms := 10) hC tw_894 tw_896 tw_21 tw_69 tw_897 yd_Jx4a65c_grow_d5877 (by decide) (ci := 2) rfl dJx4a65c_add_72be8_7 hA rfl (Nat.le_of_ble_eq_true rfl) (by first | omega | decide) (by first | omega | decide) ?_
  refine c_grow0 (u := u) htr hA hD (by omega) (by omega) (by omega) (fun q2 M3 M4 hq5 hw6 hw7 => ?_)
  have ne8 : a ≠ q2 := sg_fresh hA hq5
  have hA : M3 a = some (t, .inr (2, [.int m, .ref (G.2.2.2 0), .int (nI 0)])) := hw6.n hA ne8
  have ne9 : (G.2.2.2 0) ≠ q2 := sg_fresh hD hq5
  have hD : M3 (G.2.2.2 0) = some (0, .inl (.object "java/lang/Object", 0, .inr (.inr (.inr (.inr g0))))) := hw6.n hD ne9
  have ne10 : x ≠ q2 := sg_fresh hX hq5
  have hX : M3 x = some (tx, .inr (ci, vs)) := hw6.n hX ne10
  have hn11 : M q2 = none := hf.fr hq5
  have hf : sf (pk [t, u]) M M3 := hf.nw hw6 hn11
  have hF12 : M3 q2 = some (u, .inl (.object "java/lang/Object", 10, .inr (.inr (.inr (.inr (fun _ => none)))))) := hw6.1
  have hD : M4 (G.2.2.2 0) = some (0, .inl (.object "java/lang/Object", 0, .inr (.inr (.inr (.inr g0))))) := hw7.n hD (sg_net hD hA (by first | omega | decide))
  have hX : M4 x = some (tx, .inr (ci, vs)) := hw7.n hX (sg_net hX hA (by first | omega | decide))
  have hF12 : M4 q2 = some (u, .inl (.object "java/lang/Object", 10, .inr (.inr (.inr (.inr (fun _ => none)))))) := hw7.n hF12 (Ne.symm ne8)
  have hf : sf (pk [t, u]) M M4 := hf.st hw7 hA (by simp [pk])
  have hA : M4 a = some (t, .inr (2, [.int m, .ref q2, .int (nI 0)])) := hw7.1
  show sg_W X M4 0 0 10 [some (.ref a), some (.ref x), some (.ref (G.2.2.2 0)), some (.int (nI 0))] [.ref q2]
  refine sg_astore_n (pc := 10) (v := .ref q2) hC dJx4a65c_add_72be8_10 (by decide) rfl ?_
  show sg_W X M4 0 0 11 [some (.ref a), some (.ref x), some (.ref q2), some (.int (nI 0))] []
  refine sg_aload_n (pc := 11) (v := .ref q2) hC dJx4a65c_add_72be8_11 rfl rfl ?_
  refine sg_iload_n (pc := 12) (x := nI 0) hC dJx4a65c_add_72be8_12 rfl ?_
  refine sg_aload_n (pc := 13) (v := .ref x) hC dJx4a65c_add_72be8_13 rfl rfl ?_
  refine sg_aastO (pc := 14) (i := nI 0) hC dJx4a65c_add_72be8_14 hF12 (by first | omega | decide) hX (by first | omega | decide) hel (vp_in_nI (by first | omega | decide) (by first | omega | decide)) ?_
  rw [nI_clamp (by first | omega | decide)]
  refine sg_nm (fun M13 hw14 => ?_)
  have hA : M13 a = some (t, .inr (2, [.int m, .ref q2, .int (nI 0)])) := hw14.n hA ne8
  have hD : M13 (G.2.2.2 0) = some (0, .inl (.object "java/lang/Object", 0, .inr (.inr (.inr (.inr g0))))) := hw14.n hD ne9
  have hX : M13 x = some (tx, .inr (ci, vs)) := hw14.n hX ne10
  have hf : sf (pk [t, u]) M M13 := hf.nw hw14 hn11
  have hF12 : M13 q2 = some (u, .inl (.object "java/lang/Object", 10, .inr (.inr (.inr (.inr (va_up (fun _ => none) 0 (some x))))))) := hw14.1
  refine sg_aload_n (pc := 15) (v := .ref a) hC dJx4a65c_add_72be8_15 rfl rfl ?_
  refine sg_iload_n (pc := 16) (x := nI 0) hC dJx4a65c_add_72be8_16 rfl ?_
  refine sg_iconst (pc := 17) (nI 1) hC dJx4a65c_add_72be8_17 (by decide) ?_
  refine sg_iaddN (pc := 18) (a := 0) (b := 1) hC dJx4a65c_add_72be8_18 ?_
  refine sg_put (pc := 19) (a := a) (v := .int (nI 1)) 2 hC rfl inw_Jx4a65c tyJx4a65c tyJx4a65c_ok nmJx4a65c (by decide) tw_154 rfl rfl rfl rfl dJx4a65c_add_72be8_19 hA (by first | omega | decide) (Nat.le_of_ble_eq_true rfl) ?_
  refine sg_nm (fun M15 hw16 => ?_)
  have hD : M15 (G.2.2.2 0) = some (0, .inl (.object "java/lang/Object", 0, .inr (.inr (.inr (.inr g0))))) := hw16.n hD (sg_net hD hA (by first | omega | decide))
  have hX : M15 x = some (tx, .inr (ci, vs)) := hw16.n hX (sg_net hX hA (by first | omega | decide))
  have hF12 : M15 q2 = some (u, .inl (.object "java/lang/Object", 10, .inr (.inr (.inr (.inr (va_up (fun _ => none) 0 (some x))))))) := hw16.n hF12 (Ne.symm ne8)
  have hf : sf (pk [t, u]) M M15 := hf.st hw16 hA (by simp [pk])
  have hA : M15 a = some (t, .inr (2, [.int m, .ref q2, .int (nI 1)])) := hw16.1
  exact sg_vreturn (st := []) (pc := 22) hC hR dJx4a65c_add_72be8_22 (hk _ ⟨_, q2, 10, u, _, hA, hF12, by omega, Or.inr ⟨rfl, rfl⟩, fun j hj => by
    by_cases h9 : j = 0
    · subst h9; rw [va_up_self, va_up_self]
    · rw [va_up_ne _ _ h9, va_up_ne _ _ h9]; omega⟩ hf)

set_option maxHeartbeats 400000 in
set_option maxRecDepth 100000 in
theorem c_addF {l : Launch} {G : sg_G} {d : Nat} {M : sg_M} {kr : Option Value → sg_M → Prop} {kx : String → sg_M → Prop} (htr : l.stackTraces = false) {t u a n ar : Nat} {f g : Nat → Option Nat} {m : Int32} {x tx ci : Nat} {vs : List Value}  (hA : M a = some (t, .inr (2, [.int m, .ref ar, .int (nI n)]))) (hB : M ar = some (u, .inl (.object "java/lang/Object", 10, .inr (.inr (.inr (.inr g)))))) (hn : n < 10) (hG : ∀ j, j < n → g j = f j) (ht : t ≠ 0) (hu : u ≠ 0) (htu : t ≠ u) (hX : M x = some (tx, .inr (ci, vs))) (hel : sg_El ci) (hx0 : tx ≠ 0) (hxt : tx ≠ t) (hxu : tx ≠ u) (hk : ∀ M', al_r G t u M' a (n + 1) (va_up f n (some x)) → sf (pk [t, u]) M M' → kr (some (.int (nI 1))) M') : sg_Met l G yJx4a65c_add_9ea2d cJx4a65c_add_9ea2d 2 (some .boolean) (d + 4) 1 10 [.ref a, .ref x] M kr kx := by
  refine sg_enter [some (.ref a), some (.ref x)] (by decide) htr (Nat.le_of_ble_eq_true rfl) rfl ?_
  intro X hC hR
  have hC : sg_C X l G cJx4a65c_add_9ea2d RJx4a65c 2 (d + 4) := hC
  have hf : sf (pk [t, u]) M M := sf.rf
  refine sg_aload_n (pc := 0) (v := .ref a) hC dJx4a65c_add_9ea2d_0 rfl rfl ?_
  refine sg_dup (pc := 1) hC dJx4a65c_add_9ea2d_1 rfl ?_
  refine sg_getS (pc := 2) (a := a) (v := .int m) 0 hC rfl inw_Jx4a65c (by decide) tw_156 tw_157 dJx4a65c_add_9ea2d_2 hA rfl ?_
  refine sg_iconst (pc := 5) (nI 1) hC dJx4a65c_add_9ea2d_5 (by decide) ?_
  refine sg_iadd (pc := 6) (x := m) (y := nI 1) hC dJx4a65c_add_9ea2d_6 ?_
  refine sg_putS (pc := 7) (a := a) (v := .int (m + (nI 1))) 0 hC rfl inw_Jx4a65c tyJx4a65c tyJx4a65c_ok nmJx4a65c (by decide) tw_156 tw_157 rfl rfl rfl rfl dJx4a65c_add_9ea2d_7 hA (by first | omega | decide) (Nat.le_of_ble_eq_true rfl) ?_
  refine sg_nm (fun M1 hw2 => ?_)
  have hB : M1 ar = some (u, .inl (.object "java/lang/Object", 10, .inr (.inr (.inr (.inr g))))) := hw2.n hB (sg_net hB hA (by first | omega | decide))
  have hX : M1 x = some (tx, .inr (ci, vs)) := hw2.n hX (sg_net hX hA (by first | omega | decide))
  have hf : sf (pk [t, u]) M M1 := hf.st hw2 hA (by simp [pk])
  have hA : M1 a = some (t, .inr (2, [.int (m + (nI 1)), .ref ar, .int (nI n)])) := hw2.1
  refine sg_aload_n (pc := 10) (v := .ref a) hC dJx4a65c_add_9ea2d_10 rfl rfl ?_
  refine sg_aload_n (pc := 11) (v := .ref x) hC dJx4a65c_add_9ea2d_11 rfl rfl ?_
  refine sg_aload_n (pc := 12) (v := .ref a) hC dJx4a65c_add_9ea2d_12 rfl rfl ?_
  refine sg_get (pc := 13) (a := a) (v := .ref ar) 1 hC rfl inw_Jx4a65c (by decide) tw_153 dJx4a65c_add_9ea2d_13 hA rfl ?_
  refine sg_aload_n (pc := 16) (v := .ref a) hC dJx4a65c_add_9ea2d_16 rfl rfl ?_
  refine sg_get (pc := 17) (a := a) (v := .int (nI n)) 2 hC rfl inw_Jx4a65c (by decide) tw_154 dJx4a65c_add_9ea2d_17 hA rfl ?_
  refine sg_callV (pc := 20) (As := [.ref x, .ref ar, .int (nI n)]) (rest := []) (mc := 1) (ms := 10) hC tw_890 tw_892 tw_20 tw_69 tw_893 yd_Jx4a65c_add_72be8 (by decide) (ci := 2) rfl dJx4a65c_add_9ea2d_20 hA rfl (Nat.le_of_ble_eq_true rfl) (by first | omega | decide) (by first | omega | decide) ?_
  refine c_add3 (f := f) htr hA hB hn hG (by omega) (by omega) (by omega) hX hel (by omega) (by omega) (by omega) (fun M3 hs4 hf5 => ?_)
  have hX : M3 x = some (tx, .inr (ci, vs)) := hf5.p hX (by first | decide | (simp; done) | (simp; omega))
  have hf : sf (pk [t, u]) M M3 := hf.tr hf5 (fun a t h => by first | exact h | (simp [pk] at h; done) | (simp [pk] at h ⊢; omega) | (simp [pk] at h ⊢; done))
  show sg_W X M3 0 0 23 [some (.ref a), some (.ref x)] []
  refine sg_iconst (pc := 23) (nI 1) hC dJx4a65c_add_9ea2d_23 (by decide) ?_
  exact sg_zreturn (st := []) (v := nI 1) (pc := 24) (ty := .boolean) hC hR (jp_z (by first | omega | decide)) dJx4a65c_add_9ea2d_24 (hk _ hs4 hf)

set_option maxHeartbeats 400000 in
set_option maxRecDepth 100000 in
theorem c_addD {l : Launch} {G : sg_G} {d : Nat} {M : sg_M} {kr : Option Value → sg_M → Prop} {kx : String → sg_M → Prop} (htr : l.stackTraces = false) {t u a : Nat} {f g0 : Nat → Option Nat} {m : Int32} {x tx ci : Nat} {vs : List Value}  (hA : M a = some (t, .inr (2, [.int m, .ref (G.2.2.2 0), .int (nI 0)]))) (hD : M (G.2.2.2 0) = some (0, .inl (.object "java/lang/Object", 0, .inr (.inr (.inr (.inr g0)))))) (ht : t ≠ 0) (hu : u ≠ 0) (htu : t ≠ u) (hX : M x = some (tx, .inr (ci, vs))) (hel : sg_El ci) (hx0 : tx ≠ 0) (hxt : tx ≠ t) (hxu : tx ≠ u) (hk : ∀ M', al_r G t u M' a (0 + 1) (va_up f 0 (some x)) → sf (pk [t, u]) M M' → kr (some (.int (nI 1))) M') : sg_Met l G yJx4a65c_add_9ea2d cJx4a65c_add_9ea2d 2 (some .boolean) (d + 4) 1 10 [.ref a, .ref x] M kr kx := by
  refine sg_enter [some (.ref a), some (.ref x)] (by decide) htr (Nat.le_of_ble_eq_true rfl) rfl ?_
  intro X hC hR
  have hC : sg_C X l G cJx4a65c_add_9ea2d RJx4a65c 2 (d + 4) := hC
  have hf : sf (pk [t, u]) M M := sf.rf
  refine sg_aload_n (pc := 0) (v := .ref a) hC dJx4a65c_add_9ea2d_0 rfl rfl ?_
  refine sg_dup (pc := 1) hC dJx4a65c_add_9ea2d_1 rfl ?_
  refine sg_getS (pc := 2) (a := a) (v := .int m) 0 hC rfl inw_Jx4a65c (by decide) tw_156 tw_157 dJx4a65c_add_9ea2d_2 hA rfl ?_
  refine sg_iconst (pc := 5) (nI 1) hC dJx4a65c_add_9ea2d_5 (by decide) ?_
  refine sg_iadd (pc := 6) (x := m) (y := nI 1) hC dJx4a65c_add_9ea2d_6 ?_
  refine sg_putS (pc := 7) (a := a) (v := .int (m + (nI 1))) 0 hC rfl inw_Jx4a65c tyJx4a65c tyJx4a65c_ok nmJx4a65c (by decide) tw_156 tw_157 rfl rfl rfl rfl dJx4a65c_add_9ea2d_7 hA (by first | omega | decide) (Nat.le_of_ble_eq_true rfl) ?_
  refine sg_nm (fun M1 hw2 => ?_)
  have hD : M1 (G.2.2.2 0) = some (0, .inl (.object "java/lang/Object", 0, .inr (.inr (.inr (.inr g0))))) := hw2.n hD (sg_net hD hA (by first | omega | decide))
  have hX : M1 x = some (tx, .inr (ci, vs)) := hw2.n hX (sg_net hX hA (by first | omega | decide))
  have hf : sf (pk [t, u]) M M1 := hf.st hw2 hA (by simp [pk])
  have hA : M1 a = some (t, .inr (2, [.int (m + (nI 1)), .ref (G.2.2.2 0), .int (nI 0)])) := hw2.1
  refine sg_aload_n (pc := 10) (v := .ref a) hC dJx4a65c_add_9ea2d_10 rfl rfl ?_
  refine sg_aload_n (pc := 11) (v := .ref x) hC dJx4a65c_add_9ea2d_11 rfl rfl ?_
  refine sg_aload_n (pc := 12) (v := .ref a) hC dJx4a65c_add_9ea2d_12 rfl rfl ?_
  refine sg_get (pc := 13) (a := a) (v := .ref (G.2.2.2 0)) 1 hC rfl inw_Jx4a65c (by decide) tw_153 dJx4a65c_add_9ea2d_13 hA rfl ?_
  refine sg_aload_n (pc := 16) (v := .ref a) hC dJx4a65c_add_9ea2d_16 rfl rfl ?_
  refine sg_get (pc := 17) (a := a) (v := .int (nI 0)) 2 hC rfl inw_Jx4a65c (by decide) tw_154 dJx4a65c_add_9ea2d_17 hA rfl ?_
  refine sg_callV (pc := 20) (As := [.ref x, .ref (G.2.2.2 0), .int (nI 0)]) (rest := []) (mc := 1) (ms := 10) hC tw_890 tw_892 tw_20 tw_69 tw_893 yd_Jx4a65c_add_72be8 (by decide) (ci := 2) rfl dJx4a65c_add_9ea2d_20 hA rfl (Nat.le_of_ble_eq_true rfl) (by first | omega | decide) (by first | omega | decide) ?_
  refine c_add3d (u := u) (f := f) htr hA hD (by omega) (by omega) (by omega) hX hel (by omega) (by omega) (by omega) (fun M3 hs4 hf5 => ?_)
  have hD : M3 (G.2.2.2 0) = some (0, .inl (.object "java/lang/Object", 0, .inr (.inr (.inr (.inr g0))))) := hf5.p hD (by first | decide | (simp; done) | (simp; omega))
  have hX : M3 x = some (tx, .inr (ci, vs)) := hf5.p hX (by first | decide | (simp; done) | (simp; omega))
  have hf : sf (pk [t, u]) M M3 := hf.tr hf5 (fun a t h => by first | exact h | (simp [pk] at h; done) | (simp [pk] at h ⊢; omega) | (simp [pk] at h ⊢; done))
  show sg_W X M3 0 0 23 [some (.ref a), some (.ref x)] []
  refine sg_iconst (pc := 23) (nI 1) hC dJx4a65c_add_9ea2d_23 (by decide) ?_
  exact sg_zreturn (st := []) (v := nI 1) (pc := 24) (ty := .boolean) hC hR (jp_z (by first | omega | decide)) dJx4a65c_add_9ea2d_24 (hk _ hs4 hf)

theorem c_alAdd {l : Launch} {G : sg_G} {d : Nat} {M : sg_M} {kr : Option Value → sg_M → Prop} {kx : String → sg_M → Prop} (htr : l.stackTraces = false) {t u a n : Nat} {f : Nat → Option Nat} {x tx ci : Nat} {vs : List Value}  (hS : al_r G t u M a n f) (ht : t ≠ 0) (hu : u ≠ 0) (htu : t ≠ u) (hn : n < 10) (hX : M x = some (tx, .inr (ci, vs))) (hel : sg_El ci) (hx0 : tx ≠ 0) (hxt : tx ≠ t) (hxu : tx ≠ u) (hk : ∀ M', al_r G t u M' a (n + 1) (va_up f n (some x)) → sf (pk [t, u]) M M' → kr (some (.int (nI 1))) M') : sg_Met l G yJx4a65c_add_9ea2d cJx4a65c_add_9ea2d 2 (some .boolean) (d + 4) 1 10 [.ref a, .ref x] M kr kx := by
  obtain ⟨m, ar, c, v, g, hA, hB, hN, hV, hG⟩ := hS
  rcases hV with ⟨rfl, rfl, rfl⟩ | ⟨rfl, rfl⟩
  · obtain rfl : n = 0 := by omega
    exact c_addD htr hA hB ht hu htu hX hel hx0 hxt hxu hk
  · exact c_addF htr hA hB hn hG ht hu htu hX hel hx0 hxt hxu hk

set_option maxHeartbeats 400000 in
set_option maxRecDepth 100000 in
theorem c_rcfa {l : Launch} {G : sg_G} {d : Nat} {M : sg_M} {kr : Option Value → sg_M → Prop} {kx : String → sg_M → Prop} (htr : l.stackTraces = false) {t u a n : Nat} {f : Nat → Option Nat}  (hS : al_r G t u M a n f) (hk : kr none M) : sg_Met l G yJx4a65c_rangeCheckForAdd_d00df cJx4a65c_rangeCheckForAdd_d00df 2 none (d + 0) 0 0 [.ref a, .int (nI 0)] M kr kx := by
  refine sg_enter [some (.ref a), some (.int (nI 0))] (by decide) htr (Nat.le_of_ble_eq_true rfl) rfl ?_
  intro X hC hR
  have hC : sg_C X l G cJx4a65c_rangeCheckForAdd_d00df RJx4a65c 2 (d + 0) := hC
  obtain ⟨m, ar, c, v, g, hA, hB, hN, hV, hG⟩ := id hS
  have hc10 : c ≤ 10 := by omega
  refine sg_iload_n (pc := 0) (x := nI 0) hC dJx4a65c_rangeCheckForAdd_d00df_0 rfl ?_
  refine sg_aload_n (pc := 1) (v := .ref a) hC dJx4a65c_rangeCheckForAdd_d00df_1 rfl rfl ?_
  refine sg_get (pc := 2) (a := a) (v := .int (nI n)) 2 hC rfl inw_Jx4a65c (by decide) tw_154 dJx4a65c_rangeCheckForAdd_d00df_2 hA rfl ?_
  refine sg_icmpN_gt (pc := 5) (a := 0) (b := n) 12 hC dJx4a65c_rangeCheckForAdd_d00df_5 (by decide) (by first | omega | decide) (by first | omega | decide) (fun h1 => by exfalso; omega) (fun h1 => ?_)
  refine sg_iload_n (pc := 8) (x := nI 0) hC dJx4a65c_rangeCheckForAdd_d00df_8 rfl ?_
  refine sg_ifN_ge (pc := 9) (a := 0) 25 hC dJx4a65c_rangeCheckForAdd_d00df_9 (by decide) (by decide) (fun _ => ?_) (fun h2 => absurd h2 (by decide))
  exact sg_vreturn (st := []) (pc := 25) hC hR dJx4a65c_rangeCheckForAdd_d00df_25 hk

set_option maxHeartbeats 400000 in
set_option maxRecDepth 100000 in
theorem c_add0F {l : Launch} {G : sg_G} {d : Nat} {M : sg_M} {kr : Option Value → sg_M → Prop} {kx : String → sg_M → Prop} (htr : l.stackTraces = false) {t u a n ar : Nat} {f g : Nat → Option Nat} {m : Int32} {x tx ci : Nat} {vs : List Value}  (hA : M a = some (t, .inr (2, [.int m, .ref ar, .int (nI n)]))) (hB : M ar = some (u, .inl (.object "java/lang/Object", 10, .inr (.inr (.inr (.inr g)))))) (hn : n < 10) (hG : ∀ j, j < n → g j = f j) (ht : t ≠ 0) (hu : u ≠ 0) (htu : t ≠ u) (hX : M x = some (tx, .inr (ci, vs))) (hel : sg_El ci) (hx0 : tx ≠ 0) (hxt : tx ≠ t) (hxu : tx ≠ u) (hE : ∀ j, j < n → ∀ y, f j = some y → ∃ u0 c0 vs0, M y = some (u0, .inr (c0, vs0)) ∧ u0 ≠ 0 ∧ sg_El c0 ∧ u0 ≠ t ∧ u0 ≠ u) (hk : ∀ M', al_r G t u M' a (n + 1) (fun j => if j = 0 then some x else f (j - 1)) → sf (pk [t, u]) M M' → kr none M') : sg_Met l G yJx4a65c_add_7a177 cJx4a65c_add_7a177 5 none (d + 3) 1 10 [.ref a, .int (nI 0), .ref x] M kr kx := by
  refine sg_enter [some (.ref a), some (.int (nI 0)), some (.ref x), none, none] (by decide) htr (Nat.le_of_ble_eq_true rfl) rfl ?_
  intro X hC hR
  have hC : sg_C X l G cJx4a65c_add_7a177 RJx4a65c 5 (d + 3) := hC
  have hS : al_r G t u M a n f := ⟨m, ar, 10, u, g, hA, hB, by omega, Or.inr ⟨rfl, rfl⟩, hG⟩
  have hf : sf (pk [t, u]) M M := sf.rf
  refine sg_aload_n (pc := 0) (v := .ref a) hC dJx4a65c_add_7a177_0 rfl rfl ?_
  refine sg_iload_n (pc := 1) (x := nI 0) hC dJx4a65c_add_7a177_1 rfl ?_
  refine sg_callV (pc := 2) (As := [.int (nI 0)]) (rest := []) (mc := 0) (ms := 0) hC tw_1146 tw_1148 tw_31 tw_69 tw_1149 yd_Jx4a65c_rangeCheckForAdd_d00df (by decide) (ci := 2) rfl dJx4a65c_add_7a177_2 hA rfl (Nat.le_of_ble_eq_true rfl) (by first | omega | decide) (by first | omega | decide) ?_
  refine c_rcfa htr hS ?_
  show sg_W X M 1 10 5 [some (.ref a), some (.int (nI 0)), some (.ref x), none, none] []
  refine sg_aload_n (pc := 5) (v := .ref a) hC dJx4a65c_add_7a177_5 rfl rfl ?_
  refine sg_dup (pc := 6) hC dJx4a65c_add_7a177_6 rfl ?_
  refine sg_getS (pc := 7) (a := a) (v := .int m) 0 hC rfl inw_Jx4a65c (by decide) tw_156 tw_157 dJx4a65c_add_7a177_7 hA rfl ?_
  refine sg_iconst (pc := 10) (nI 1) hC dJx4a65c_add_7a177_10 (by decide) ?_
  refine sg_iadd (pc := 11) (x := m) (y := nI 1) hC dJx4a65c_add_7a177_11 ?_
  refine sg_putS (pc := 12) (a := a) (v := .int (m + (nI 1))) 0 hC rfl inw_Jx4a65c tyJx4a65c tyJx4a65c_ok nmJx4a65c (by decide) tw_156 tw_157 rfl rfl rfl rfl dJx4a65c_add_7a177_12 hA (by first | omega | decide) (Nat.le_of_ble_eq_true rfl) ?_
  refine sg_nm (fun M1 hw2 => ?_)
  have hB : M1 ar = some (u, .inl (.object "java/lang/Object", 10, .inr (.inr (.inr (.inr g))))) := hw2.n hB (sg_net hB hA (by first | omega | decide))
  have hX : M1 x = some (tx, .inr (ci, vs)) := hw2.n hX (sg_net hX hA (by first | omega | decide))
  have hf : sf (pk [t, u]) M M1 := hf.st hw2 hA (by simp [pk])
  have hA : M1 a = some (t, .inr (2, [.int (m + (nI 1)), .ref ar, .int (nI n)])) := hw2.1
  refine sg_aload_n (pc := 15) (v := .ref a) hC dJx4a65c_add_7a177_15 rfl rfl ?_
  refine sg_get (pc := 16) (a := a) (v := .int (nI n)) 2 hC rfl inw_Jx4a65c (by decide) tw_154 dJx4a65c_add_7a177_16 hA rfl ?_
  refine sg_dup (pc := 19) hC dJx4a65c_add_7a177_19 rfl ?_
  refine sg_istore_n (pc := 20) (x := nI n) hC dJx4a65c_add_7a177_20 (by decide) ?_
  show sg_W X M1 1 10 21 [some (.ref a), some (.int (nI 0)), some (.ref x), some (.int (nI n)), none] [.int (nI n)]
  refine sg_aload_n (pc := 21) (v := .ref a) hC dJx4a65c_add_7a177_21 rfl rfl ?_
  refine sg_get (pc := 22) (a := a) (v := .ref ar) 1 hC rfl inw_Jx4a65c (by decide) tw_153 dJx4a65c_add_7a177_22 hA rfl ?_
  refine sg_dup (pc := 25) hC dJx4a65c_add_7a177_25 rfl ?_
  refine sg_astore (pc := 26) (v := .ref ar) hC dJx4a65c_add_7a177_26 (by decide) rfl ?_
  show sg_W X M1 1 10 28 [some (.ref a), some (.int (nI 0)), some (.ref x), some (.int (nI n)), some (.ref ar)] [.ref ar, .int (nI n)]
  refine sg_alen (pc := 28) 6 hC dJx4a65c_add_7a177_28 hB rfl ?_
  show sg_W X M1 1 10 29 [some (.ref a), some (.int (nI 0)), some (.ref x), some (.int (nI n)), some (.ref ar)] [.int (nI 10), .int (nI n)]
  refine sg_icmpN_ne (pc := 29) (a := n) (b := 10) 38 hC dJx4a65c_add_7a177_29 (by decide) (by first | omega | decide) (by first | omega | decide) (fun h3 => ?_) (fun h3 => by exfalso; omega)
  refine sg_aload (pc := 38) (v := .ref ar) hC dJx4a65c_add_7a177_38 rfl rfl ?_
  refine sg_iload_n (pc := 40) (x := nI 0) hC dJx4a65c_add_7a177_40 rfl ?_
  refine sg_aload (pc := 41) (v := .ref ar) hC dJx4a65c_add_7a177_41 rfl rfl ?_
  refine sg_iload_n (pc := 43) (x := nI 0) hC dJx4a65c_add_7a177_43 rfl ?_
  refine sg_iconst (pc := 44) (nI 1) hC dJx4a65c_add_7a177_44 (by decide) ?_
  refine sg_iaddN (pc := 45) (a := 0) (b := 1) hC dJx4a65c_add_7a177_45 ?_
  refine sg_iload_n (pc := 46) (x := nI n) hC dJx4a65c_add_7a177_46 rfl ?_
  refine sg_iload_n (pc := 47) (x := nI 0) hC dJx4a65c_add_7a177_47 rfl ?_
  refine sg_isubN (pc := 48) (a := n) (b := 0) hC dJx4a65c_add_7a177_48 (by first | omega | decide) ?_
  rw [Nat.sub_zero]
  show sg_W X M1 1 10 49 [some (.ref a), some (.int (nI 0)), some (.ref x), some (.int (nI n)), some (.ref ar)] [.int (nI n), .int (nI 1), .ref ar, .int (nI 0), .ref ar]
  refine sg_copyq (pc := 49) (sp := 0) (dp := 1) (n := n) hC tw_957 tw_264 tw_263 tw_76 dJx4a65c_add_7a177_49 hB (by first | omega | decide) (by first | omega | decide) (by first | omega | decide) (by first | omega | decide) (fun i hi y hy => by
    rw [Nat.zero_add] at hy
    obtain ⟨u0, c0, vs0, q1, q2, q3, q4, q5⟩ := hE i (by omega) y ((hG i (by omega)).symm.trans hy)
    exact ⟨u0, c0, vs0, hf.p q1 (by simp; omega), q2, q3⟩) (Nat.le_of_ble_eq_true rfl) ?_
  refine sg_nm (fun M4 hw5 => ?_)
  have hA : M4 a = some (t, .inr (2, [.int (m + (nI 1)), .ref ar, .int (nI n)])) := hw5.n hA (sg_net hA hB (by first | omega | decide))
  have hX : M4 x = some (tx, .inr (ci, vs)) := hw5.n hX (sg_net hX hB (by first | omega | decide))
  have hf : sf (pk [t, u]) M M4 := hf.st hw5 hB (by simp [pk])
  have hB : M4 ar = some (u, .inl (.object "java/lang/Object", 10, .inr (.inr (.inr (.inr (va_cpy g g 0 1 n)))))) := hw5.1
  show sg_W X M4 1 10 52 [some (.ref a), some (.int (nI 0)), some (.ref x), some (.int (nI n)), some (.ref ar)] []
  refine sg_aload (pc := 52) (v := .ref ar) hC dJx4a65c_add_7a177_52 rfl rfl ?_
  refine sg_iload_n (pc := 54) (x := nI 0) hC dJx4a65c_add_7a177_54 rfl ?_
  refine sg_aload_n (pc := 55) (v := .ref x) hC dJx4a65c_add_7a177_55 rfl rfl ?_
  refine sg_aastO (pc := 56) (i := nI 0) hC dJx4a65c_add_7a177_56 hB (by first | omega | decide) hX (by first | omega | decide) hel (vp_in_nI (by first | omega | decide) (by first | omega | decide)) ?_
  rw [nI_clamp (by first | omega | decide)]
  refine sg_nm (fun M6 hw7 => ?_)
  have hA : M6 a = some (t, .inr (2, [.int (m + (nI 1)), .ref ar, .int (nI n)])) := hw7.n hA (sg_net hA hB (by first | omega | decide))
  have hX : M6 x = some (tx, .inr (ci, vs)) := hw7.n hX (sg_net hX hB (by first | omega | decide))
  have hf : sf (pk [t, u]) M M6 := hf.st hw7 hB (by simp [pk])
  have hB : M6 ar = some (u, .inl (.object "java/lang/Object", 10, .inr (.inr (.inr (.inr (va_up (va_cpy g g 0 1 n) 0 (some x))))))) := hw7.1
  refine sg_aload_n (pc := 57) (v := .ref a) hC dJx4a65c_add_7a177_57 rfl rfl ?_
  refine sg_iload_n (pc := 58) (x := nI n) hC dJx4a65c_add_7a177_58 rfl ?_
  refine sg_iconst (pc := 59) (nI 1) hC dJx4a65c_add_7a177_59 (by decide) ?_
  refine sg_iaddN (pc := 60) (a := n) (b := 1) hC dJx4a65c_add_7a177_60 ?_
  refine sg_put (pc := 61) (a := a) (v := .int (nI (n + 1))) 2 hC rfl inw_Jx4a65c tyJx4a65c tyJx4a65c_ok nmJx4a65c (by decide) tw_154 rfl rfl rfl rfl dJx4a65c_add_7a177_61 hA (by first | omega | decide) (Nat.le_of_ble_eq_true rfl) ?_
  refine sg_nm (fun M8 hw9 => ?_)
  have hB : M8 ar = some (u, .inl (.object "java/lang/Object", 10, .inr (.inr (.inr (.inr (va_up (va_cpy g g 0 1 n) 0 (some x))))))) := hw9.n hB (sg_net hB hA (by first | omega | decide))
  have hX : M8 x = some (tx, .inr (ci, vs)) := hw9.n hX (sg_net hX hA (by first | omega | decide))
  have hf : sf (pk [t, u]) M M8 := hf.st hw9 hA (by simp [pk])
  have hA : M8 a = some (t, .inr (2, [.int (m + (nI 1)), .ref ar, .int (nI (n + 1))])) := hw9.1
  exact sg_vreturn (st := []) (pc := 64) hC hR dJx4a65c_add_7a177_64 (hk _ ⟨_, ar, 10, u, _, hA, hB, by omega, Or.inr ⟨rfl, rfl⟩, fun j hj => by
    show _ = (if j = 0 then some x else f (j - 1))
    by_cases h9 : j = 0
    · subst h9; rw [va_up_self, if_pos rfl]
    · rw [va_up_ne _ _ h9, if_neg h9, pk_cpy_in (by omega) (by omega), Nat.zero_add]; exact hG _ (by omega)⟩ hf)

set_option maxHeartbeats 400000 in
set_option maxRecDepth 100000 in
theorem c_add0D {l : Launch} {G : sg_G} {d : Nat} {M : sg_M} {kr : Option Value → sg_M → Prop} {kx : String → sg_M → Prop} (htr : l.stackTraces = false) {t u a : Nat} {f g0 : Nat → Option Nat} {m : Int32} {x tx ci : Nat} {vs : List Value}  (hA : M a = some (t, .inr (2, [.int m, .ref (G.2.2.2 0), .int (nI 0)]))) (hD : M (G.2.2.2 0) = some (0, .inl (.object "java/lang/Object", 0, .inr (.inr (.inr (.inr g0)))))) (ht : t ≠ 0) (hu : u ≠ 0) (htu : t ≠ u) (hX : M x = some (tx, .inr (ci, vs))) (hel : sg_El ci) (hx0 : tx ≠ 0) (hxt : tx ≠ t) (hxu : tx ≠ u) (hk : ∀ M', al_r G t u M' a (0 + 1) (fun j => if j = 0 then some x else f (j - 1)) → sf (pk [t, u]) M M' → kr none M') : sg_Met l G yJx4a65c_add_7a177 cJx4a65c_add_7a177 5 none (d + 3) 1 10 [.ref a, .int (nI 0), .ref x] M kr kx := by
  refine sg_enter [some (.ref a), some (.int (nI 0)), some (.ref x), none, none] (by decide) htr (Nat.le_of_ble_eq_true rfl) rfl ?_
  intro X hC hR
  have hC : sg_C X l G cJx4a65c_add_7a177 RJx4a65c 5 (d + 3) := hC
  have hS : al_r G t u M a 0 f := ⟨m, G.2.2.2 0, 0, 0, g0, hA, hD, Nat.le_refl _, Or.inl ⟨rfl, rfl, rfl⟩, fun j hj => by omega⟩
  have hf : sf (pk [t, u]) M M := sf.rf
  refine sg_aload_n (pc := 0) (v := .ref a) hC dJx4a65c_add_7a177_0 rfl rfl ?_
  refine sg_iload_n (pc := 1) (x := nI 0) hC dJx4a65c_add_7a177_1 rfl ?_
  refine sg_callV (pc := 2) (As := [.int (nI 0)]) (rest := []) (mc := 0) (ms := 0) hC tw_1146 tw_1148 tw_31 tw_69 tw_1149 yd_Jx4a65c_rangeCheckForAdd_d00df (by decide) (ci := 2) rfl dJx4a65c_add_7a177_2 hA rfl (Nat.le_of_ble_eq_true rfl) (by first | omega | decide) (by first | omega | decide) ?_
  refine c_rcfa htr hS ?_
  show sg_W X M 1 10 5 [some (.ref a), some (.int (nI 0)), some (.ref x), none, none] []
  refine sg_aload_n (pc := 5) (v := .ref a) hC dJx4a65c_add_7a177_5 rfl rfl ?_
  refine sg_dup (pc := 6) hC dJx4a65c_add_7a177_6 rfl ?_
  refine sg_getS (pc := 7) (a := a) (v := .int m) 0 hC rfl inw_Jx4a65c (by decide) tw_156 tw_157 dJx4a65c_add_7a177_7 hA rfl ?_
  refine sg_iconst (pc := 10) (nI 1) hC dJx4a65c_add_7a177_10 (by decide) ?_
  refine sg_iadd (pc := 11) (x := m) (y := nI 1) hC dJx4a65c_add_7a177_11 ?_
  refine sg_putS (pc := 12) (a := a) (v := .int (m + (nI 1))) 0 hC rfl inw_Jx4a65c tyJx4a65c tyJx4a65c_ok nmJx4a65c (by decide) tw_156 tw_157 rfl rfl rfl rfl dJx4a65c_add_7a177_12 hA (by first | omega | decide) (Nat.le_of_ble_eq_true rfl) ?_
  refine sg_nm (fun M1 hw2 => ?_)
  have hD : M1 (G.2.2.2 0) = some (0, .inl (.object "java/lang/Object", 0, .inr (.inr (.inr (.inr g0))))) := hw2.n hD (sg_net hD hA (by first | omega | decide))
  have hX : M1 x = some (tx, .inr (ci, vs)) := hw2.n hX (sg_net hX hA (by first | omega | decide))
  have hf : sf (pk [t, u]) M M1 := hf.st hw2 hA (by simp [pk])
  have hA : M1 a = some (t, .inr (2, [.int (m + (nI 1)), .ref (G.2.2.2 0), .int (nI 0)])) := hw2.1
  refine sg_aload_n (pc := 15) (v := .ref a) hC dJx4a65c_add_7a177_15 rfl rfl ?_
  refine sg_get (pc := 16) (a := a) (v := .int (nI 0)) 2 hC rfl inw_Jx4a65c (by decide) tw_154 dJx4a65c_add_7a177_16 hA rfl ?_
  refine sg_dup (pc := 19) hC dJx4a65c_add_7a177_19 rfl ?_
  refine sg_istore_n (pc := 20) (x := nI 0) hC dJx4a65c_add_7a177_20 (by decide) ?_
  show sg_W X M1 1 10 21 [some (.ref a), some (.int (nI 0)), some (.ref x), some (.int (nI 0)), none] [.int (nI 0)]
  refine sg_aload_n (pc := 21) (v := .ref a) hC dJx4a65c_add_7a177_21 rfl rfl ?_
  refine sg_get (pc := 22) (a := a) (v := .ref (G.2.2.2 0)) 1 hC rfl inw_Jx4a65c (by decide) tw_153 dJx4a65c_add_7a177_22 hA rfl ?_
  refine sg_dup (pc := 25) hC dJx4a65c_add_7a177_25 rfl ?_
  refine sg_astore (pc := 26) (v := .ref (G.2.2.2 0)) hC dJx4a65c_add_7a177_26 (by decide) rfl ?_
  show sg_W X M1 1 10 28 [some (.ref a), some (.int (nI 0)), some (.ref x), some (.int (nI 0)), some (.ref (G.2.2.2 0))] [.ref (G.2.2.2 0), .int (nI 0)]
  refine sg_alen (pc := 28) 6 hC dJx4a65c_add_7a177_28 hD rfl ?_
  show sg_W X M1 1 10 29 [some (.ref a), some (.int (nI 0)), some (.ref x), some (.int (nI 0)), some (.ref (G.2.2.2 0))] [.int (nI 0), .int (nI 0)]
  refine sg_icmpN_ne (pc := 29) (a := 0) (b := 0) 38 hC dJx4a65c_add_7a177_29 (by decide) (by decide) (by decide) (fun h3 => absurd h3 (by decide)) (fun _ => ?_)
  refine sg_aload_n (pc := 32) (v := .ref a) hC dJx4a65c_add_7a177_32 rfl rfl ?_
  refine sg_callV (pc := 33) (As := []) (rest := []) (mc := 1) (ms := 10) hC tw_894 tw_896 tw_21 tw_69 tw_897 yd_Jx4a65c_grow_d5877 (by decide) (ci := 2) rfl dJx4a65c_add_7a177_33 hA rfl (Nat.le_of_ble_eq_true rfl) (by first | omega | decide) (by first | omega | decide) ?_
  refine c_grow0 (u := u) htr hA hD (by omega) (by omega) (by omega) (fun q4 M5 M6 hq7 hw8 hw9 => ?_)
  have ne10 : a ≠ q4 := sg_fresh hA hq7
  have hA : M5 a = some (t, .inr (2, [.int (m + (nI 1)), .ref (G.2.2.2 0), .int (nI 0)])) := hw8.n hA ne10
  have ne11 : (G.2.2.2 0) ≠ q4 := sg_fresh hD hq7
  have hD : M5 (G.2.2.2 0) = some (0, .inl (.object "java/lang/Object", 0, .inr (.inr (.inr (.inr g0))))) := hw8.n hD ne11
  have ne12 : x ≠ q4 := sg_fresh hX hq7
  have hX : M5 x = some (tx, .inr (ci, vs)) := hw8.n hX ne12
  have hn13 : M q4 = none := hf.fr hq7
  have hf : sf (pk [t, u]) M M5 := hf.nw hw8 hn13
  have hF14 : M5 q4 = some (u, .inl (.object "java/lang/Object", 10, .inr (.inr (.inr (.inr (fun _ => none)))))) := hw8.1
  have hD : M6 (G.2.2.2 0) = some (0, .inl (.object "java/lang/Object", 0, .inr (.inr (.inr (.inr g0))))) := hw9.n hD (sg_net hD hA (by first | omega | decide))
  have hX : M6 x = some (tx, .inr (ci, vs)) := hw9.n hX (sg_net hX hA (by first | omega | decide))
  have hF14 : M6 q4 = some (u, .inl (.object "java/lang/Object", 10, .inr (.inr (.inr (.inr (fun _ => none)))))) := hw9.n hF14 (Ne.symm ne10)
  have hf : sf (pk [t, u]) M M6 := hf.st hw9 hA (by simp [pk])
  have hA : M6 a = some (t, .inr (2, [.int (m + (nI 1)), .ref q4, .int (nI 0)])) := hw9.1
  show sg_W X M6 0 0 36 [some (.ref a), some (.int (nI 0)), some (.ref x), some (.int (nI 0)), some (.ref (G.2.2.2 0))] [.ref q4]
  refine sg_astore (pc := 36) (v := .ref q4) hC dJx4a65c_add_7a177_36 (by decide) rfl ?_
  show sg_W X M6 0 0 38 [some (.ref a), some (.int (nI 0)), some (.ref x), some (.int (nI 0)), some (.ref q4)] []
  refine sg_aload (pc := 38) (v := .ref q4) hC dJx4a65c_add_7a177_38 rfl rfl ?_
  refine sg_iload_n (pc := 40) (x := nI 0) hC dJx4a65c_add_7a177_40 rfl ?_
  refine sg_aload (pc := 41) (v := .ref q4) hC dJx4a65c_add_7a177_41 rfl rfl ?_
  refine sg_iload_n (pc := 43) (x := nI 0) hC dJx4a65c_add_7a177_43 rfl ?_
  refine sg_iconst (pc := 44) (nI 1) hC dJx4a65c_add_7a177_44 (by decide) ?_
  refine sg_iaddN (pc := 45) (a := 0) (b := 1) hC dJx4a65c_add_7a177_45 ?_
  refine sg_iload_n (pc := 46) (x := nI 0) hC dJx4a65c_add_7a177_46 rfl ?_
  refine sg_iload_n (pc := 47) (x := nI 0) hC dJx4a65c_add_7a177_47 rfl ?_
  refine sg_isubN (pc := 48) (a := 0) (b := 0) hC dJx4a65c_add_7a177_48 (by first | omega | decide) ?_
  refine sg_copyq (pc := 49) (sp := 0) (dp := 1) (n := 0) hC tw_957 tw_264 tw_263 tw_76 dJx4a65c_add_7a177_49 hF14 (by first | omega | decide) (by first | omega | decide) (by first | omega | decide) (by first | omega | decide) (fun i hi y hy => by omega) (Nat.le_of_ble_eq_true rfl) ?_
  refine sg_nm (fun M15 hw16 => ?_)
  have hA : M15 a = some (t, .inr (2, [.int (m + (nI 1)), .ref q4, .int (nI 0)])) := hw16.n hA ne10
  have hD : M15 (G.2.2.2 0) = some (0, .inl (.object "java/lang/Object", 0, .inr (.inr (.inr (.inr g0))))) := hw16.n hD ne11
  have hX : M15 x = some (tx, .inr (ci, vs)) := hw16.n hX ne12
  have hf : sf (pk [t, u]) M M15 := hf.nw hw16 hn13
  have hF14 : M15 q4 = some (u, .inl (.object "java/lang/Object", 10, .inr (.inr (.inr (.inr (va_cpy (fun _ => none) (fun _ => none) 0 1 0)))))) := hw16.1
  show sg_W X M15 0 0 52 [some (.ref a), some (.int (nI 0)), some (.ref x), some (.int (nI 0)), some (.ref q4)] []
  refine sg_aload (pc := 52) (v := .ref q4) hC dJx4a65c_add_7a177_52 rfl rfl ?_
  refine sg_iload_n (pc := 54) (x := nI 0) hC dJx4a65c_add_7a177_54 rfl ?_
  refine sg_aload_n (pc := 55) (v := .ref x) hC dJx4a65c_add_7a177_55 rfl rfl ?_
  refine sg_aastO (pc := 56) (i := nI 0) hC dJx4a65c_add_7a177_56 hF14 (by first | omega | decide) hX (by first | omega | decide) hel (vp_in_nI (by first | omega | decide) (by first | omega | decide)) ?_
  rw [nI_clamp (by first | omega | decide)]
  refine sg_nm (fun M17 hw18 => ?_)
  have hA : M17 a = some (t, .inr (2, [.int (m + (nI 1)), .ref q4, .int (nI 0)])) := hw18.n hA ne10
  have hD : M17 (G.2.2.2 0) = some (0, .inl (.object "java/lang/Object", 0, .inr (.inr (.inr (.inr g0))))) := hw18.n hD ne11
  have hX : M17 x = some (tx, .inr (ci, vs)) := hw18.n hX ne12
  have hf : sf (pk [t, u]) M M17 := hf.nw hw18 hn13
  have hF14 : M17 q4 = some (u, .inl (.object "java/lang/Object", 10, .inr (.inr (.inr (.inr (va_up (va_cpy (fun _ => none) (fun _ => none) 0 1 0) 0 (some x))))))) := hw18.1
  refine sg_aload_n (pc := 57) (v := .ref a) hC dJx4a65c_add_7a177_57 rfl rfl ?_
  refine sg_iload_n (pc := 58) (x := nI 0) hC dJx4a65c_add_7a177_58 rfl ?_
  refine sg_iconst (pc := 59) (nI 1) hC dJx4a65c_add_7a177_59 (by decide) ?_
  refine sg_iaddN (pc := 60) (a := 0) (b := 1) hC dJx4a65c_add_7a177_60 ?_
  refine sg_put (pc := 61) (a := a) (v := .int (nI 1)) 2 hC rfl inw_Jx4a65c tyJx4a65c tyJx4a65c_ok nmJx4a65c (by decide) tw_154 rfl rfl rfl rfl dJx4a65c_add_7a177_61 hA (by first | omega | decide) (Nat.le_of_ble_eq_true rfl) ?_
  refine sg_nm (fun M19 hw20 => ?_)
  have hD : M19 (G.2.2.2 0) = some (0, .inl (.object "java/lang/Object", 0, .inr (.inr (.inr (.inr g0))))) := hw20.n hD (sg_net hD hA (by first | omega | decide))
  have hX : M19 x = some (tx, .inr (ci, vs)) := hw20.n hX (sg_net hX hA (by first | omega | decide))
  have hF14 : M19 q4 = some (u, .inl (.object "java/lang/Object", 10, .inr (.inr (.inr (.inr (va_up (va_cpy (fun _ => none) (fun _ => none) 0 1 0) 0 (some x))))))) := hw20.n hF14 (Ne.symm ne10)
  have hf : sf (pk [t, u]) M M19 := hf.st hw20 hA (by simp [pk])
  have hA : M19 a = some (t, .inr (2, [.int (m + (nI 1)), .ref q4, .int (nI 1)])) := hw20.1
  exact sg_vreturn (st := []) (pc := 64) hC hR dJx4a65c_add_7a177_64 (hk _ ⟨_, q4, 10, u, _, hA, hF14, by omega, Or.inr ⟨rfl, rfl⟩, fun j hj => by
    show _ = (if j = 0 then some x else f (j - 1))
    by_cases h9 : j = 0
    · subst h9; rw [va_up_self, if_pos rfl]
    · rw [va_up_ne _ _ h9, if_neg h9]; omega⟩ hf)

theorem c_alAdd0 {l : Launch} {G : sg_G} {d : Nat} {M : sg_M} {kr : Option Value → sg_M → Prop} {kx : String → sg_M → Prop} (htr : l.stackTraces = false) {t u a n : Nat} {f : Nat → Option Nat} {x tx ci : Nat} {vs : List Value}  (hS : al_r G t u M a n f) (ht : t ≠ 0) (hu : u ≠ 0) (htu : t ≠ u) (hn : n < 10) (hX : M x = some (tx, .inr (ci, vs))) (hel : sg_El ci) (hx0 : tx ≠ 0) (hxt : tx ≠ t) (hxu : tx ≠ u) (hE : ∀ j, j < n → ∀ y, f j = some y → ∃ u0 c0 vs0, M y = some (u0, .inr (c0, vs0)) ∧ u0 ≠ 0 ∧ sg_El c0 ∧ u0 ≠ t ∧ u0 ≠ u) (hk : ∀ M', al_r G t u M' a (n + 1) (fun j => if j = 0 then some x else f (j - 1)) → sf (pk [t, u]) M M' → kr none M') : sg_Met l G yJx4a65c_add_7a177 cJx4a65c_add_7a177 5 none (d + 3) 1 10 [.ref a, .int (nI 0), .ref x] M kr kx := by
  obtain ⟨m, ar, c, v, g, hA, hB, hN, hV, hG⟩ := hS
  rcases hV with ⟨rfl, rfl, rfl⟩ | ⟨rfl, rfl⟩
  · obtain rfl : n = 0 := by omega
    exact c_add0D htr hA hB ht hu htu hX hel hx0 hxt hxu hk
  · exact c_add0F htr hA hB hn hG ht hu htu hX hel hx0 hxt hxu hE hk

set_option maxHeartbeats 400000 in
set_option maxRecDepth 100000 in
theorem c_fastRem {l : Launch} {G : sg_G} {d : Nat} {M : sg_M} {kr : Option Value → sg_M → Prop} {kx : String → sg_M → Prop} (htr : l.stackTraces = false) {t u a n i ar : Nat} {f g : Nat → Option Nat} {m : Int32} (hA : M a = some (t, .inr (2, [.int m, .ref ar, .int (nI n)]))) (hB : M ar = some (u, .inl (.object "java/lang/Object", 10, .inr (.inr (.inr (.inr g)))))) (hn : n ≤ 10) (hG : ∀ j, j < n → g j = f j) (ht : t ≠ 0) (hu : u ≠ 0) (htu : t ≠ u) (hE : ∀ j, j < n → ∀ y, f j = some y → ∃ u0 c0 vs0, M y = some (u0, .inr (c0, vs0)) ∧ u0 ≠ 0 ∧ sg_El c0 ∧ u0 ≠ t ∧ u0 ≠ u) (hi : i < n) (hk : ∀ M', al_r G t u M' a (n - 1) (fun j => if j < i then f j else f (j + 1)) → sf (pk [t, u]) M M' → kr none M') : sg_Met l G yJx4a65c_fastRemove_b59b0 cJx4a65c_fastRemove_b59b0 4 none (d + 1) 0 0 [.ref a, .ref ar, .int (nI i)] M kr kx := by
  refine sg_enter [some (.ref a), some (.ref ar), some (.int (nI i)), none] (by decide) htr (Nat.le_of_ble_eq_true rfl) rfl ?_
  intro X hC hR
  have hC : sg_C X l G cJx4a65c_fastRemove_b59b0 RJx4a65c 4 (d + 1) := hC
  have hf : sf (pk [t, u]) M M := sf.rf
  refine sg_aload_n (pc := 0) (v := .ref a) hC dJx4a65c_fastRemove_b59b0_0 rfl rfl ?_
  refine sg_dup (pc := 1) hC dJx4a65c_fastRemove_b59b0_1 rfl ?_
  refine sg_getS (pc := 2) (a := a) (v := .int m) 0 hC rfl inw_Jx4a65c (by decide) tw_156 tw_157 dJx4a65c_fastRemove_b59b0_2 hA rfl ?_
  refine sg_iconst (pc := 5) (nI 1) hC dJx4a65c_fastRemove_b59b0_5 (by decide) ?_
  refine sg_iadd (pc := 6) (x := m) (y := nI 1) hC dJx4a65c_fastRemove_b59b0_6 ?_
  refine sg_putS (pc := 7) (a := a) (v := .int (m + (nI 1))) 0 hC rfl inw_Jx4a65c tyJx4a65c tyJx4a65c_ok nmJx4a65c (by decide) tw_156 tw_157 rfl rfl rfl rfl dJx4a65c_fastRemove_b59b0_7 hA (by first | omega | decide) (Nat.le_of_ble_eq_true rfl) ?_
  refine sg_nm (fun M1 hw2 => ?_)
  have hB : M1 ar = some (u, .inl (.object "java/lang/Object", 10, .inr (.inr (.inr (.inr g))))) := hw2.n hB (sg_net hB hA (by first | omega | decide))
  have hf : sf (pk [t, u]) M M1 := hf.st hw2 hA (by simp [pk])
  have hA : M1 a = some (t, .inr (2, [.int (m + (nI 1)), .ref ar, .int (nI n)])) := hw2.1
  refine sg_aload_n (pc := 10) (v := .ref a) hC dJx4a65c_fastRemove_b59b0_10 rfl rfl ?_
  refine sg_get (pc := 11) (a := a) (v := .int (nI n)) 2 hC rfl inw_Jx4a65c (by decide) tw_154 dJx4a65c_fastRemove_b59b0_11 hA rfl ?_
  refine sg_iconst (pc := 14) (nI 1) hC dJx4a65c_fastRemove_b59b0_14 (by decide) ?_
  refine sg_isubN (pc := 15) (a := n) (b := 1) hC dJx4a65c_fastRemove_b59b0_15 (by first | omega | decide) ?_
  refine sg_dup (pc := 16) hC dJx4a65c_fastRemove_b59b0_16 rfl ?_
  refine sg_istore_n (pc := 17) (x := nI (n - 1)) hC dJx4a65c_fastRemove_b59b0_17 (by decide) ?_
  show sg_W X M1 0 0 18 [some (.ref a), some (.ref ar), some (.int (nI i)), some (.int (nI (n - 1)))] [.int (nI (n - 1))]
  refine sg_iload_n (pc := 18) (x := nI i) hC dJx4a65c_fastRemove_b59b0_18 rfl ?_
  refine sg_icmpN_le (pc := 19) (a := n - 1) (b := i) 34 hC dJx4a65c_fastRemove_b59b0_19 (by decide) (by first | omega | decide) (by first | omega | decide) (fun h3 => ?_) (fun h3 => ?_)
  · refine sg_aload_n (pc := 34) (v := .ref ar) hC dJx4a65c_fastRemove_b59b0_34 rfl rfl ?_
    refine sg_aload_n (pc := 35) (v := .ref a) hC dJx4a65c_fastRemove_b59b0_35 rfl rfl ?_
    refine sg_iload_n (pc := 36) (x := nI (n - 1)) hC dJx4a65c_fastRemove_b59b0_36 rfl ?_
    refine sg_dup_x1 (pc := 37) hC dJx4a65c_fastRemove_b59b0_37 rfl rfl ?_
    refine sg_put (pc := 38) (a := a) (v := .int (nI (n - 1))) 2 hC rfl inw_Jx4a65c tyJx4a65c tyJx4a65c_ok nmJx4a65c (by decide) tw_154 rfl rfl rfl rfl dJx4a65c_fastRemove_b59b0_38 hA (by first | omega | decide) (Nat.le_of_ble_eq_true rfl) ?_
    refine sg_nm (fun M4 hw5 => ?_)
    have hB : M4 ar = some (u, .inl (.object "java/lang/Object", 10, .inr (.inr (.inr (.inr g))))) := hw5.n hB (sg_net hB hA (by first | omega | decide))
    have hf : sf (pk [t, u]) M M4 := hf.st hw5 hA (by simp [pk])
    have hA : M4 a = some (t, .inr (2, [.int (m + (nI 1)), .ref ar, .int (nI (n - 1))])) := hw5.1
    refine sg_null (pc := 41) hC dJx4a65c_fastRemove_b59b0_41 ?_
    refine sg_aastNO (pc := 42) (i := nI (n - 1)) hC dJx4a65c_fastRemove_b59b0_42 hB (by first | omega | decide) (vp_in_nI (by first | omega | decide) (by first | omega | decide)) ?_
    rw [nI_clamp (by first | omega | decide)]
    refine sg_nm (fun M6 hw7 => ?_)
    have hA : M6 a = some (t, .inr (2, [.int (m + (nI 1)), .ref ar, .int (nI (n - 1))])) := hw7.n hA (sg_net hA hB (by first | omega | decide))
    have hf : sf (pk [t, u]) M M6 := hf.st hw7 hB (by simp [pk])
    have hB : M6 ar = some (u, .inl (.object "java/lang/Object", 10, .inr (.inr (.inr (.inr (va_up g (n - 1) none)))))) := hw7.1
    exact sg_vreturn (st := []) (pc := 43) hC hR dJx4a65c_fastRemove_b59b0_43 (hk _ ⟨_, ar, 10, u, _, hA, hB, by omega, Or.inr ⟨rfl, rfl⟩, fun j hj => by
    have h7 : j ≠ n - 1 := by omega
    show _ = (if j < i then f j else f (j + 1))
    rw [va_up_ne _ _ h7]
    by_cases h8 : j < i
    · rw [if_pos h8]; exact hG _ (by omega)
    · rw [if_neg h8]; omega⟩ hf)
  · refine sg_aload_n (pc := 22) (v := .ref ar) hC dJx4a65c_fastRemove_b59b0_22 rfl rfl ?_
    refine sg_iload_n (pc := 23) (x := nI i) hC dJx4a65c_fastRemove_b59b0_23 rfl ?_
    refine sg_iconst (pc := 24) (nI 1) hC dJx4a65c_fastRemove_b59b0_24 (by decide) ?_
    refine sg_iaddN (pc := 25) (a := i) (b := 1) hC dJx4a65c_fastRemove_b59b0_25 ?_
    refine sg_aload_n (pc := 26) (v := .ref ar) hC dJx4a65c_fastRemove_b59b0_26 rfl rfl ?_
    refine sg_iload_n (pc := 27) (x := nI i) hC dJx4a65c_fastRemove_b59b0_27 rfl ?_
    refine sg_iload_n (pc := 28) (x := nI (n - 1)) hC dJx4a65c_fastRemove_b59b0_28 rfl ?_
    refine sg_iload_n (pc := 29) (x := nI i) hC dJx4a65c_fastRemove_b59b0_29 rfl ?_
    refine sg_isubN (pc := 30) (a := n - 1) (b := i) hC dJx4a65c_fastRemove_b59b0_30 (by first | omega | decide) ?_
    refine sg_copyq (pc := 31) (sp := i + 1) (dp := i) (n := (n - 1) - i) hC tw_957 tw_264 tw_263 tw_76 dJx4a65c_fastRemove_b59b0_31 hB (by first | omega | decide) (by first | omega | decide) (by first | omega | decide) (by first | omega | decide) (fun k hk9 y hy => by
    obtain ⟨u0, c0, vs0, q1, q2, q3, q4, q5⟩ := hE (i + 1 + k) (by omega) y ((hG _ (by omega)).symm.trans hy)
    exact ⟨u0, c0, vs0, hf.p q1 (by simp; omega), q2, q3⟩) (Nat.le_of_ble_eq_true rfl) ?_
    refine sg_nm (fun M8 hw9 => ?_)
    have hA : M8 a = some (t, .inr (2, [.int (m + (nI 1)), .ref ar, .int (nI n)])) := hw9.n hA (sg_net hA hB (by first | omega | decide))
    have hf : sf (pk [t, u]) M M8 := hf.st hw9 hB (by simp [pk])
    have hB : M8 ar = some (u, .inl (.object "java/lang/Object", 10, .inr (.inr (.inr (.inr (va_cpy g g (i + 1) i ((n - 1) - i))))))) := hw9.1
    show sg_W X M8 0 0 34 [some (.ref a), some (.ref ar), some (.int (nI i)), some (.int (nI (n - 1)))] []
    refine sg_aload_n (pc := 34) (v := .ref ar) hC dJx4a65c_fastRemove_b59b0_34 rfl rfl ?_
    refine sg_aload_n (pc := 35) (v := .ref a) hC dJx4a65c_fastRemove_b59b0_35 rfl rfl ?_
    refine sg_iload_n (pc := 36) (x := nI (n - 1)) hC dJx4a65c_fastRemove_b59b0_36 rfl ?_
    refine sg_dup_x1 (pc := 37) hC dJx4a65c_fastRemove_b59b0_37 rfl rfl ?_
    refine sg_put (pc := 38) (a := a) (v := .int (nI (n - 1))) 2 hC rfl inw_Jx4a65c tyJx4a65c tyJx4a65c_ok nmJx4a65c (by decide) tw_154 rfl rfl rfl rfl dJx4a65c_fastRemove_b59b0_38 hA (by first | omega | decide) (Nat.le_of_ble_eq_true rfl) ?_
    refine sg_nm (fun M10 hw11 => ?_)
    have hB : M10 ar = some (u, .inl (.object "java/lang/Object", 10, .inr (.inr (.inr (.inr (va_cpy g g (i + 1) i ((n - 1) - i))))))) := hw11.n hB (sg_net hB hA (by first | omega | decide))
    have hf : sf (pk [t, u]) M M10 := hf.st hw11 hA (by simp [pk])
    have hA : M10 a = some (t, .inr (2, [.int (m + (nI 1)), .ref ar, .int (nI (n - 1))])) := hw11.1
    refine sg_null (pc := 41) hC dJx4a65c_fastRemove_b59b0_41 ?_
    refine sg_aastNO (pc := 42) (i := nI (n - 1)) hC dJx4a65c_fastRemove_b59b0_42 hB (by first | omega | decide) (vp_in_nI (by first | omega | decide) (by first | omega | decide)) ?_
    rw [nI_clamp (by first | omega | decide)]
    refine sg_nm (fun M12 hw13 => ?_)
    have hA : M12 a = some (t, .inr (2, [.int (m + (nI 1)), .ref ar, .int (nI (n - 1))])) := hw13.n hA (sg_net hA hB (by first | omega | decide))
    have hf : sf (pk [t, u]) M M12 := hf.st hw13 hB (by simp [pk])
    have hB : M12 ar = some (u, .inl (.object "java/lang/Object", 10, .inr (.inr (.inr (.inr (va_up (va_cpy g g (i + 1) i ((n - 1) - i)) (n - 1) none)))))) := hw13.1
    exact sg_vreturn (st := []) (pc := 43) hC hR dJx4a65c_fastRemove_b59b0_43 (hk _ ⟨_, ar, 10, u, _, hA, hB, by omega, Or.inr ⟨rfl, rfl⟩, fun j hj => by
    have h7 : j ≠ n - 1 := by omega
    show _ = (if j < i then f j else f (j + 1))
    rw [va_up_ne _ _ h7]
    by_cases h8 : j < i
    · rw [if_pos h8]; rw [pk_cpy_out (Or.inl h8)]; exact hG _ (by omega)
    · rw [if_neg h8]; rw [pk_cpy_in (by omega) (by omega), show i + 1 + (j - i) = j + 1 from by omega]; exact hG _ (by omega)⟩ hf)

set_option maxHeartbeats 400000 in
set_option maxRecDepth 100000 in
theorem c_rem1 {l : Launch} {G : sg_G} {d : Nat} {M : sg_M} {kr : Option Value → sg_M → Prop} {kx : String → sg_M → Prop} (htr : l.stackTraces = false) {t u a n i q ar : Nat} {f g : Nat → Option Nat} {m : Int32} (hA : M a = some (t, .inr (2, [.int m, .ref ar, .int (nI n)]))) (hB : M ar = some (u, .inl (.object "java/lang/Object", 10, .inr (.inr (.inr (.inr g)))))) (hn : n ≤ 10) (hG : ∀ j, j < n → g j = f j) (ht : t ≠ 0) (hu : u ≠ 0) (htu : t ≠ u) (hE : ∀ j, j < n → ∀ y, f j = some y → ∃ u0 c0 vs0, M y = some (u0, .inr (c0, vs0)) ∧ u0 ≠ 0 ∧ sg_El c0 ∧ u0 ≠ t ∧ u0 ≠ u) (hi : i < n) (hq : f i = some q) (hk : ∀ M', al_r G t u M' a (n - 1) (fun j => if j < i then f j else f (j + 1)) → sf (pk [t, u]) M M' → kr (some (.ref q)) M') : sg_Met l G yJx4a65c_remove_915e3 cJx4a65c_remove_915e3 4 (some (.object "java/lang/Object")) (d + 2) 0 0 [.ref a, .int (nI i)] M kr kx := by
  refine sg_enter [some (.ref a), some (.int (nI i)), none, none] (by decide) htr (Nat.le_of_ble_eq_true rfl) rfl ?_
  intro X hC hR
  have hC : sg_C X l G cJx4a65c_remove_915e3 RJx4a65c 4 (d + 2) := hC
  have hf : sf (pk [t, u]) M M := sf.rf
  refine sg_iload_n (pc := 0) (x := nI i) hC dJx4a65c_remove_915e3_0 rfl ?_
  refine sg_aload_n (pc := 1) (v := .ref a) hC dJx4a65c_remove_915e3_1 rfl rfl ?_
  refine sg_get (pc := 2) (a := a) (v := .int (nI n)) 2 hC rfl inw_Jx4a65c (by decide) tw_154 dJx4a65c_remove_915e3_2 hA rfl ?_
  refine sg_callS (pc := 5) (As := [.int (nI i), .int (nI n)]) (rest := []) (mc := 0) (ms := 0) hC tw_949 tw_950 tw_89 tw_951 yd_J15_checkIndex_7cf53 (by decide) dJx4a65c_remove_915e3_5 rfl (Nat.le_of_ble_eq_true rfl) (by first | omega | decide) (by first | omega | decide) ?_
  refine c_ocheck htr (by first | omega | decide) (by first | omega | decide) ?_
  show sg_W X M 0 0 8 [some (.ref a), some (.int (nI i)), none, none] [.int (nI i)]
  refine sg_pop (pc := 8) hC dJx4a65c_remove_915e3_8 rfl ?_
  refine sg_aload_n (pc := 9) (v := .ref a) hC dJx4a65c_remove_915e3_9 rfl rfl ?_
  refine sg_get (pc := 10) (a := a) (v := .ref ar) 1 hC rfl inw_Jx4a65c (by decide) tw_153 dJx4a65c_remove_915e3_10 hA rfl ?_
  refine sg_astore_n (pc := 13) (v := .ref ar) hC dJx4a65c_remove_915e3_13 (by decide) rfl ?_
  show sg_W X M 0 0 14 [some (.ref a), some (.int (nI i)), some (.ref ar), none] []
  refine sg_aload_n (pc := 14) (v := .ref ar) hC dJx4a65c_remove_915e3_14 rfl rfl ?_
  refine sg_iload_n (pc := 15) (x := nI i) hC dJx4a65c_remove_915e3_15 rfl ?_
  refine sg_aald6 (pc := 16) (i := nI i) hC dJx4a65c_remove_915e3_16 hB (vp_in_nI (by first | omega | decide) (by first | omega | decide)) ?_
  rw [nI_clamp (by first | omega | decide)]
  rw [show g i = some q from (hG _ hi).trans hq]
  show sg_W X M 0 0 17 [some (.ref a), some (.int (nI i)), some (.ref ar), none] [.ref q]
  refine sg_astore_n (pc := 17) (v := .ref q) hC dJx4a65c_remove_915e3_17 (by decide) rfl ?_
  show sg_W X M 0 0 18 [some (.ref a), some (.int (nI i)), some (.ref ar), some (.ref q)] []
  refine sg_aload_n (pc := 18) (v := .ref a) hC dJx4a65c_remove_915e3_18 rfl rfl ?_
  refine sg_aload_n (pc := 19) (v := .ref ar) hC dJx4a65c_remove_915e3_19 rfl rfl ?_
  refine sg_iload_n (pc := 20) (x := nI i) hC dJx4a65c_remove_915e3_20 rfl ?_
  refine sg_callV (pc := 21) (As := [.ref ar, .int (nI i)]) (rest := []) (mc := 0) (ms := 0) hC tw_953 tw_955 tw_23 tw_69 tw_956 yd_Jx4a65c_fastRemove_b59b0 (by decide) (ci := 2) rfl dJx4a65c_remove_915e3_21 hA rfl (Nat.le_of_ble_eq_true rfl) (by first | omega | decide) (by first | omega | decide) ?_
  refine c_fastRem htr hA hB hn hG (by omega) (by omega) (by omega) hE hi (fun M1 hs2 hf3 => ?_)
  have hf : sf (pk [t, u]) M M1 := hf.tr hf3 (fun a t h => by first | exact h | (simp [pk] at h; done) | (simp [pk] at h ⊢; omega) | (simp [pk] at h ⊢; done))
  show sg_W X M1 0 0 24 [some (.ref a), some (.int (nI i)), some (.ref ar), some (.ref q)] []
  refine sg_aload_n (pc := 24) (v := .ref q) hC dJx4a65c_remove_915e3_24 rfl rfl ?_
  exact sg_areturn (st := []) (v := .ref q) (pc := 25) hC hR (Or.inl ⟨_, rfl⟩) (Or.inr ⟨_, rfl⟩) dJx4a65c_remove_915e3_25 (hk _ hs2 hf)

theorem c_alRem {l : Launch} {G : sg_G} {d : Nat} {M : sg_M} {kr : Option Value → sg_M → Prop} {kx : String → sg_M → Prop} (htr : l.stackTraces = false) {t u a n i q : Nat} {f : Nat → Option Nat} (hS : al_r G t u M a n f) (ht : t ≠ 0) (hu : u ≠ 0) (htu : t ≠ u) (hE : ∀ j, j < n → ∀ y, f j = some y → ∃ u0 c0 vs0, M y = some (u0, .inr (c0, vs0)) ∧ u0 ≠ 0 ∧ sg_El c0 ∧ u0 ≠ t ∧ u0 ≠ u) (hi : i < n) (hq : f i = some q) (hk : ∀ M', al_r G t u M' a (n - 1) (fun j => if j < i then f j else f (j + 1)) → sf (pk [t, u]) M M' → kr (some (.ref q)) M') : sg_Met l G yJx4a65c_remove_915e3 cJx4a65c_remove_915e3 4 (some (.object "java/lang/Object")) (d + 2) 0 0 [.ref a, .int (nI i)] M kr kx := by
  obtain ⟨m, ar, c, v, g, hA, hB, hN, hV, hG⟩ := hS
  rcases hV with ⟨rfl, rfl, rfl⟩ | ⟨rfl, rfl⟩
  · omega
  · exact c_rem1 htr hA hB hN hG ht hu htu hE hi hq hk

def jbc (x : Int32) : Int32 := (((((((((((((((x - ((((((x).toUInt32 >>> ((nI 1).toUInt32 &&& Int32.toUInt32 31)).toInt32)) &&& 1431655765)))) &&& 858993459)) + (((((((x - ((((((x).toUInt32 >>> ((nI 1).toUInt32 &&& Int32.toUInt32 31)).toInt32)) &&& 1431655765)))).toUInt32 >>> ((nI 2).toUInt32 &&& Int32.toUInt32 31)).toInt32)) &&& 858993459)))) + (((((((((x - ((((((x).toUInt32 >>> ((nI 1).toUInt32 &&& Int32.toUInt32 31)).toInt32)) &&& 1431655765)))) &&& 858993459)) + (((((((x - ((((((x).toUInt32 >>> ((nI 1).toUInt32 &&& Int32.toUInt32 31)).toInt32)) &&& 1431655765)))).toUInt32 >>> ((nI 2).toUInt32 &&& Int32.toUInt32 31)).toInt32)) &&& 858993459)))).toUInt32 >>> ((nI 4).toUInt32 &&& Int32.toUInt32 31)).toInt32)))) &&& 252645135)) + (((((((((((((x - ((((((x).toUInt32 >>> ((nI 1).toUInt32 &&& Int32.toUInt32 31)).toInt32)) &&& 1431655765)))) &&& 858993459)) + (((((((x - ((((((x).toUInt32 >>> ((nI 1).toUInt32 &&& Int32.toUInt32 31)).toInt32)) &&& 1431655765)))).toUInt32 >>> ((nI 2).toUInt32 &&& Int32.toUInt32 31)).toInt32)) &&& 858993459)))) + (((((((((x - ((((((x).toUInt32 >>> ((nI 1).toUInt32 &&& Int32.toUInt32 31)).toInt32)) &&& 1431655765)))) &&& 858993459)) + (((((((x - ((((((x).toUInt32 >>> ((nI 1).toUInt32 &&& Int32.toUInt32 31)).toInt32)) &&& 1431655765)))).toUInt32 >>> ((nI 2).toUInt32 &&& Int32.toUInt32 31)).toInt32)) &&& 858993459)))).toUInt32 >>> ((nI 4).toUInt32 &&& Int32.toUInt32 31)).toInt32)))) &&& 252645135)).toUInt32 >>> ((nI 8).toUInt32 &&& Int32.toUInt32 31)).toInt32)))) + (((((((((((((((x - ((((((x).toUInt32 >>> ((nI 1).toUInt32 &&& Int32.toUInt32 31)).toInt32)) &&& 1431655765)))) &&& 858993459)) + (((((((x - ((((((x).toUInt32 >>> ((nI 1).toUInt32 &&& Int32.toUInt32 31)).toInt32)) &&& 1431655765)))).toUInt32 >>> ((nI 2).toUInt32 &&& Int32.toUInt32 31)).toInt32)) &&& 858993459)))) + (((((((((x - ((((((x).toUInt32 >>> ((nI 1).toUInt32 &&& Int32.toUInt32 31)).toInt32)) &&& 1431655765)))) &&& 858993459)) + (((((((x - ((((((x).toUInt32 >>> ((nI 1).toUInt32 &&& Int32.toUInt32 31)).toInt32)) &&& 1431655765)))).toUInt32 >>> ((nI 2).toUInt32 &&& Int32.toUInt32 31)).toInt32)) &&& 858993459)))).toUInt32 >>> ((nI 4).toUInt32 &&& Int32.toUInt32 31)).toInt32)))) &&& 252645135)) + (((((((((((((x - ((((((x).toUInt32 >>> ((nI 1).toUInt32 &&& Int32.toUInt32 31)).toInt32)) &&& 1431655765)))) &&& 858993459)) + (((((((x - ((((((x).toUInt32 >>> ((nI 1).toUInt32 &&& Int32.toUInt32 31)).toInt32)) &&& 1431655765)))).toUInt32 >>> ((nI 2).toUInt32 &&& Int32.toUInt32 31)).toInt32)) &&& 858993459)))) + (((((((((x - ((((((x).toUInt32 >>> ((nI 1).toUInt32 &&& Int32.toUInt32 31)).toInt32)) &&& 1431655765)))) &&& 858993459)) + (((((((x - ((((((x).toUInt32 >>> ((nI 1).toUInt32 &&& Int32.toUInt32 31)).toInt32)) &&& 1431655765)))).toUInt32 >>> ((nI 2).toUInt32 &&& Int32.toUInt32 31)).toInt32)) &&& 858993459)))).toUInt32 >>> ((nI 4).toUInt32 &&& Int32.toUInt32 31)).toInt32)))) &&& 252645135)).toUInt32 >>> ((nI 8).toUInt32 &&& Int32.toUInt32 31)).toInt32)))).toUInt32 >>> ((nI 16).toUInt32 &&& Int32.toUInt32 31)).toInt32)))) &&& (nI 63))
set_option maxHeartbeats 400000 in
set_option maxRecDepth 100000 in
theorem c_bitCount {l : Launch} {G : sg_G} {d : Nat} {M : sg_M} {kr : Option Value → sg_M → Prop} {kx : String → sg_M → Prop} (htr : l.stackTraces = false) {x : Int32}  (hk : kr (some (.int (jbc x))) M) : sg_Met l G yJ6_bitCount_0f7a4 cJ6_bitCount_0f7a4 1 (some .int) (d + 0) 0 0 [.int x] M kr kx := by
  refine sg_enter [some (.int x)] (by decide) htr (Nat.le_of_ble_eq_true rfl) rfl ?_
  intro X hC hR
  have hC : sg_C X l G cJ6_bitCount_0f7a4 RJ6 1 (d + 0) := hC
  refine sg_iload_n (pc := 0) (x := x) hC dJ6_bitCount_0f7a4_0 rfl ?_
  refine sg_iload_n (pc := 1) (x := x) hC dJ6_bitCount_0f7a4_1 rfl ?_
  refine sg_iconst (pc := 2) (nI 1) hC dJ6_bitCount_0f7a4_2 (by decide) ?_
  refine sg_iushr (pc := 3) (x := x) (y := nI 1) (((x).toUInt32 >>> ((nI 1).toUInt32 &&& Int32.toUInt32 31)).toInt32) hC dJ6_bitCount_0f7a4_3 rfl ?_
  refine sg_ldcw (pc := 4) (1431655765) hC tw_1091 dJ6_bitCount_0f7a4_4 ?_
  refine sg_iand (pc := 7) (x := (((x).toUInt32 >>> ((nI 1).toUInt32 &&& Int32.toUInt32 31)).toInt32)) (y := 1431655765) hC dJ6_bitCount_0f7a4_7 ?_
  refine sg_isub (pc := 8) (x := x) (y := (((((x).toUInt32 >>> ((nI 1).toUInt32 &&& Int32.toUInt32 31)).toInt32)) &&& 1431655765)) hC dJ6_bitCount_0f7a4_8 ?_
  refine sg_istore_n (pc := 9) (x := (x - ((((((x).toUInt32 >>> ((nI 1).toUInt32 &&& Int32.toUInt32 31)).toInt32)) &&& 1431655765)))) hC dJ6_bitCount_0f7a4_9 (by decide) ?_
  show sg_W X M 0 0 10 [some (.int (x - ((((((x).toUInt32 >>> ((nI 1).toUInt32 &&& Int32.toUInt32 31)).toInt32)) &&& 1431655765))))] []
  refine sg_iload_n (pc := 10) (x := (x - ((((((x).toUInt32 >>> ((nI 1).toUInt32 &&& Int32.toUInt32 31)).toInt32)) &&& 1431655765)))) hC dJ6_bitCount_0f7a4_10 rfl ?_
  refine sg_ldcw (pc := 11) (858993459) hC tw_1092 dJ6_bitCount_0f7a4_11 ?_
  refine sg_iand (pc := 14) (x := (x - ((((((x).toUInt32 >>> ((nI 1).toUInt32 &&& Int32.toUInt32 31)).toInt32)) &&& 1431655765)))) (y := 858993459) hC dJ6_bitCount_0f7a4_14 ?_
  refine sg_iload_n (pc := 15) (x := (x - ((((((x).toUInt32 >>> ((nI 1).toUInt32 &&& Int32.toUInt32 31)).toInt32)) &&& 1431655765)))) hC dJ6_bitCount_0f7a4_15 rfl ?_
  refine sg_iconst (pc := 16) (nI 2) hC dJ6_bitCount_0f7a4_16 (by decide) ?_
  refine sg_iushr (pc := 17) (x := (x - ((((((x).toUInt32 >>> ((nI 1).toUInt32 &&& Int32.toUInt32 31)).toInt32)) &&& 1431655765)))) (y := nI 2) ((((x - ((((((x).toUInt32 >>> ((nI 1).toUInt32 &&& Int32.toUInt32 31)).toInt32)) &&& 1431655765)))).toUInt32 >>> ((nI 2).toUInt32 &&& Int32.toUInt32 31)).toInt32) hC dJ6_bitCount_0f7a4_17 rfl ?_
  refine sg_ldcw (pc := 18) (858993459) hC tw_1092 dJ6_bitCount_0f7a4_18 ?_
  refine sg_iand (pc := 21) (x := ((((x - ((((((x).toUInt32 >>> ((nI 1).toUInt32 &&& Int32.toUInt32 31)).toInt32)) &&& 1431655765)))).toUInt32 >>> ((nI 2).toUInt32 &&& Int32.toUInt32 31)).toInt32)) (y := 858993459) hC dJ6_bitCount_0f7a4_21 ?_
  refine sg_iadd (pc := 22) (x := (((x - ((((((x).toUInt32 >>> ((nI 1).toUInt32 &&& Int32.toUInt32 31)).toInt32)) &&& 1431655765)))) &&& 858993459)) (y := ((((((x - ((((((x).toUInt32 >>> ((nI 1).toUInt32 &&& Int32.toUInt32 31)).toInt32)) &&& 1431655765)))).toUInt32 >>> ((nI 2).toUInt32 &&& Int32.toUInt32 31)).toInt32)) &&& 858993459)) hC dJ6_bitCount_0f7a4_22 ?_
  refine sg_istore_n (pc := 23) (x := (((((x - ((((((x).toUInt32 >>> ((nI 1).toUInt32 &&& Int32.toUInt32 31)).toInt32)) &&& 1431655765)))) &&& 858993459)) + (((((((x - ((((((x).toUInt32 >>> ((nI 1).toUInt32 &&& Int32.toUInt32 31)).toInt32)) &&& 1431655765)))).toUInt32 >>> ((nI 2).toUInt32 &&& Int32.toUInt32 31)).toInt32)) &&& 858993459)))) hC dJ6_bitCount_0f7a4_23 (by decide) ?_
  show sg_W X M 0 0 24 [some (.int (((((x - ((((((x).toUInt32 >>> ((nI 1).toUInt32 &&& Int32.toUInt32 31)).toInt32)) &&& 1431655765)))) &&& 858993459)) + (((((((x - ((((((x).toUInt32 >>> ((nI 1).toUInt32 &&& Int32.toUInt32 31)).toInt32)) &&& 1431655765)))).toUInt32 >>> ((nI 2).toUInt32 &&& Int32.toUInt32 31)).toInt32)) &&& 858993459))))] []
  refine sg_iload_n (pc := 24) (x := (((((x - ((((((x).toUInt32 >>> ((nI 1).toUInt32 &&& Int32.toUInt32 31)).toInt32)) &&& 1431655765)))) &&& 858993459)) + (((((((x - ((((((x).toUInt32 >>> ((nI 1).toUInt32 &&& Int32.toUInt32 31)).toInt32)) &&& 1431655765)))).toUInt32 >>> ((nI 2).toUInt32 &&& Int32.toUInt32 31)).toInt32)) &&& 858993459)))) hC dJ6_bitCount_0f7a4_24 rfl ?_
  refine sg_iload_n (pc := 25) (x := (((((x - ((((((x).toUInt32 >>> ((nI 1).toUInt32 &&& Int32.toUInt32 31)).toInt32)) &&& 1431655765)))) &&& 858993459)) + (((((((x - ((((((x).toUInt32 >>> ((nI 1).toUInt32 &&& Int32.toUInt32 31)).toInt32)) &&& 1431655765)))).toUInt32 >>> ((nI 2).toUInt32 &&& Int32.toUInt32 31)).toInt32)) &&& 858993459)))) hC dJ6_bitCount_0f7a4_25 rfl ?_
  refine sg_iconst (pc := 26) (nI 4) hC dJ6_bitCount_0f7a4_26 (by decide) ?_
  refine sg_iushr (pc := 27) (x := (((((x - ((((((x).toUInt32 >>> ((nI 1).toUInt32 &&& Int32.toUInt32 31)).toInt32)) &&& 1431655765)))) &&& 858993459)) + (((((((x - ((((((x).toUInt32 >>> ((nI 1).toUInt32 &&& Int32.toUInt32 31)).toInt32)) &&& 1431655765)))).toUInt32 >>> ((nI 2).toUInt32 &&& Int32.toUInt32 31)).toInt32)) &&& 858993459)))) (y := nI 4) ((((((((x - ((((((x).toUInt32 >>> ((nI 1).toUInt32 &&& Int32.toUInt32 31)).toInt32)) &&& 1431655765)))) &&& 858993459)) + (((((((x - ((((((x).toUInt32 >>> ((nI 1).toUInt32 &&& Int32.toUInt32 31)).toInt32)) &&& 1431655765)))).toUInt32 >>> ((nI 2).toUInt32 &&& Int32.toUInt32 31)).toInt32)) &&& 858993459)))).toUInt32 >>> ((nI 4).toUInt32 &&& Int32.toUInt32 31)).toInt32) hC dJ6_bitCount_0f7a4_27 rfl ?_
  refine sg_iadd (pc := 28) (x := (((((x - ((((((x).toUInt32 >>> ((nI 1).toUInt32 &&& Int32.toUInt32 31)).toInt32)) &&& 1431655765)))) &&& 858993459)) + (((((((x - ((((((x).toUInt32 >>> ((nI 1).toUInt32 &&& Int32.toUInt32 31)).toInt32)) &&& 1431655765)))).toUInt32 >>> ((nI 2).toUInt32 &&& Int32.toUInt32 31)).toInt32)) &&& 858993459)))) (y := ((((((((x - ((((((x).toUInt32 >>> ((nI 1).toUInt32 &&& Int32.toUInt32 31)).toInt32)) &&& 1431655765)))) &&& 858993459)) + (((((((x - ((((((x).toUInt32 >>> ((nI 1).toUInt32 &&& Int32.toUInt32 31)).toInt32)) &&& 1431655765)))).toUInt32 >>> ((nI 2).toUInt32 &&& Int32.toUInt32 31)).toInt32)) &&& 858993459)))).toUInt32 >>> ((nI 4).toUInt32 &&& Int32.toUInt32 31)).toInt32)) hC dJ6_bitCount_0f7a4_28 ?_
  refine sg_ldcw (pc := 29) (252645135) hC tw_1093 dJ6_bitCount_0f7a4_29 ?_
  refine sg_iand (pc := 32) (x := (((((((x - ((((((x).toUInt32 >>> ((nI 1).toUInt32 &&& Int32.toUInt32 31)).toInt32)) &&& 1431655765)))) &&& 858993459)) + (((((((x - ((((((x).toUInt32 >>> ((nI 1).toUInt32 &&& Int32.toUInt32 31)).toInt32)) &&& 1431655765)))).toUInt32 >>> ((nI 2).toUInt32 &&& Int32.toUInt32 31)).toInt32)) &&& 858993459)))) + (((((((((x - ((((((x).toUInt32 >>> ((nI 1).toUInt32 &&& Int32.toUInt32 31)).toInt32)) &&& 1431655765)))) &&& 858993459)) + (((((((x - ((((((x).toUInt32 >>> ((nI 1).toUInt32 &&& Int32.toUInt32 31)).toInt32)) &&& 1431655765)))).toUInt32 >>> ((nI 2).toUInt32 &&& Int32.toUInt32 31)).toInt32)) &&& 858993459)))).toUInt32 >>> ((nI 4).toUInt32 &&& Int32.toUInt32 31)).toInt32)))) (y := 252645135) hC dJ6_bitCount_0f7a4_32 ?_
  refine sg_istore_n (pc := 33) (x := (((((((((x - ((((((x).toUInt32 >>> ((nI 1).toUInt32 &&& Int32.toUInt32 31)).toInt32)) &&& 1431655765)))) &&& 858993459)) + (((((((x - ((((((x).toUInt32 >>> ((nI 1).toUInt32 &&& Int32.toUInt32 31)).toInt32)) &&& 1431655765)))).toUInt32 >>> ((nI 2).toUInt32 &&& Int32.toUInt32 31)).toInt32)) &&& 858993459)))) + (((((((((x - ((((((x).toUInt32 >>> ((nI 1).toUInt32 &&& Int32.toUInt32 31)).toInt32)) &&& 1431655765)))) &&& 858993459)) + (((((((x - ((((((x).toUInt32 >>> ((nI 1).toUInt32 &&& Int32.toUInt32 31)).toInt32)) &&& 1431655765)))).toUInt32 >>> ((nI 2).toUInt32 &&& Int32.toUInt32 31)).toInt32)) &&& 858993459)))).toUInt32 >>> ((nI 4).toUInt32 &&& Int32.toUInt32 31)).toInt32)))) &&& 252645135)) hC dJ6_bitCount_0f7a4_33 (by decide) ?_
  show sg_W X M 0 0 34 [some (.int (((((((((x - ((((((x).toUInt32 >>> ((nI 1).toUInt32 &&& Int32.toUInt32 31)).toInt32)) &&& 1431655765)))) &&& 858993459)) + (((((((x - ((((((x).toUInt32 >>> ((nI 1).toUInt32 &&& Int32.toUInt32 31)).toInt32)) &&& 1431655765)))).toUInt32 >>> ((nI 2).toUInt32 &&& Int32.toUInt32 31)).toInt32)) &&& 858993459)))) + (((((((((x - ((((((x).toUInt32 >>> ((nI 1).toUInt32 &&& Int32.toUInt32 31)).toInt32)) &&& 1431655765)))) &&& 858993459)) + (((((((x - ((((((x).toUInt32 >>> ((nI 1).toUInt32 &&& Int32.toUInt32 31)).toInt32)) &&& 1431655765)))).toUInt32 >>> ((nI 2).toUInt32 &&& Int32.toUInt32 31)).toInt32)) &&& 858993459)))).toUInt32 >>> ((nI 4).toUInt32 &&& Int32.toUInt32 31)).toInt32)))) &&& 252645135))] []
  refine sg_iload_n (pc := 34) (x := (((((((((x - ((((((x).toUInt32 >>> ((nI 1).toUInt32 &&& Int32.toUInt32 31)).toInt32)) &&& 1431655765)))) &&& 858993459)) + (((((((x - ((((((x).toUInt32 >>> ((nI 1).toUInt32 &&& Int32.toUInt32 31)).toInt32)) &&& 1431655765)))).toUInt32 >>> ((nI 2).toUInt32 &&& Int32.toUInt32 31)).toInt32)) &&& 858993459)))) + (((((((((x - ((((((x).toUInt32 >>> ((nI 1).toUInt32 &&& Int32.toUInt32 31)).toInt32)) &&& 1431655765)))) &&& 858993459)) + (((((((x - ((((((x).toUInt32 >>> ((nI 1).toUInt32 &&& Int32.toUInt32 31)).toInt32)) &&& 1431655765)))).toUInt32 >>> ((nI 2).toUInt32 &&& Int32.toUInt32 31)).toInt32)) &&& 858993459)))).toUInt32 >>> ((nI 4).toUInt32 &&& Int32.toUInt32 31)).toInt32)))) &&& 252645135)) hC dJ6_bitCount_0f7a4_34 rfl ?_
  refine sg_iload_n (pc := 35) (x := (((((((((x - ((((((x).toUInt32 >>> ((nI 1).toUInt32 &&& Int32.toUInt32 31)).toInt32)) &&& 1431655765)))) &&& 858993459)) + (((((((x - ((((((x).toUInt32 >>> ((nI 1).toUInt32 &&& Int32.toUInt32 31)).toInt32)) &&& 1431655765)))).toUInt32 >>> ((nI 2).toUInt32 &&& Int32.toUInt32 31)).toInt32)) &&& 858993459)))) + (((((((((x - ((((((x).toUInt32 >>> ((nI 1).toUInt32 &&& Int32.toUInt32 31)).toInt32)) &&& 1431655765)))) &&& 858993459)) + (((((((x - ((((((x).toUInt32 >>> ((nI 1).toUInt32 &&& Int32.toUInt32 31)).toInt32)) &&& 1431655765)))).toUInt32 >>> ((nI 2).toUInt32 &&& Int32.toUInt32 31)).toInt32)) &&& 858993459)))).toUInt32 >>> ((nI 4).toUInt32 &&& Int32.toUInt32 31)).toInt32)))) &&& 252645135)) hC dJ6_bitCount_0f7a4_35 rfl ?_
  refine sg_bipush (pc := 36) (nI 8) hC dJ6_bitCount_0f7a4_36 (by decide) ?_
  refine sg_iushr (pc := 38) (x := (((((((((x - ((((((x).toUInt32 >>> ((nI 1).toUInt32 &&& Int32.toUInt32 31)).toInt32)) &&& 1431655765)))) &&& 858993459)) + (((((((x - ((((((x).toUInt32 >>> ((nI 1).toUInt32 &&& Int32.toUInt32 31)).toInt32)) &&& 1431655765)))).toUInt32 >>> ((nI 2).toUInt32 &&& Int32.toUInt32 31)).toInt32)) &&& 858993459)))) + (((((((((x - ((((((x).toUInt32 >>> ((nI 1).toUInt32 &&& Int32.toUInt32 31)).toInt32)) &&& 1431655765)))) &&& 858993459)) + (((((((x - ((((((x).toUInt32 >>> ((nI 1).toUInt32 &&& Int32.toUInt32 31)).toInt32)) &&& 1431655765)))).toUInt32 >>> ((nI 2).toUInt32 &&& Int32.toUInt32 31)).toInt32)) &&& 858993459)))).toUInt32 >>> ((nI 4).toUInt32 &&& Int32.toUInt32 31)).toInt32)))) &&& 252645135)) (y := nI 8) ((((((((((((x - ((((((x).toUInt32 >>> ((nI 1).toUInt32 &&& Int32.toUInt32 31)).toInt32)) &&& 1431655765)))) &&& 858993459)) + (((((((x - ((((((x).toUInt32 >>> ((nI 1).toUInt32 &&& Int32.toUInt32 31)).toInt32)) &&& 1431655765)))).toUInt32 >>> ((nI 2).toUInt32 &&& Int32.toUInt32 31)).toInt32)) &&& 858993459)))) + (((((((((x - ((((((x).toUInt32 >>> ((nI 1).toUInt32 &&& Int32.toUInt32 31)).toInt32)) &&& 1431655765)))) &&& 858993459)) + (((((((x - ((((((x).toUInt32 >>> ((nI 1).toUInt32 &&& Int32.toUInt32 31)).toInt32)) &&& 1431655765)))).toUInt32 >>> ((nI 2).toUInt32 &&& Int32.toUInt32 31)).toInt32)) &&& 858993459)))).toUInt32 >>> ((nI 4).toUInt32 &&& Int32.toUInt32 31)).toInt32)))) &&& 252645135)).toUInt32 >>> ((nI 8).toUInt32 &&& Int32.toUInt32 31)).toInt32) hC dJ6_bitCount_0f7a4_38 rfl ?_
  refine sg_iadd (pc := 39) (x := (((((((((x - ((((((x).toUInt32 >>> ((nI 1).toUInt32 &&& Int32.toUInt32 31)).toInt32)) &&& 1431655765)))) &&& 858993459)) + (((((((x - ((((((x).toUInt32 >>> ((nI 1).toUInt32 &&& Int32.toUInt32 31)).toInt32)) &&& 1431655765)))).toUInt32 >>> ((nI 2).toUInt32 &&& Int32.toUInt32 31)).toInt32)) &&& 858993459)))) + (((((((((x - ((((((x).toUInt32 >>> ((nI 1).toUInt32 &&& Int32.toUInt32 31)).toInt32)) &&& 1431655765)))) &&& 858993459)) + (((((((x - ((((((x).toUInt32 >>> ((nI 1).toUInt32 &&& Int32.toUInt32 31)).toInt32)) &&& 1431655765)))).toUInt32 >>> ((nI 2).toUInt32 &&& Int32.toUInt32 31)).toInt32)) &&& 858993459)))).toUInt32 >>> ((nI 4).toUInt32 &&& Int32.toUInt32 31)).toInt32)))) &&& 252645135)) (y := ((((((((((((x - ((((((x).toUInt32 >>> ((nI 1).toUInt32 &&& Int32.toUInt32 31)).toInt32)) &&& 1431655765)))) &&& 858993459)) + (((((((x - ((((((x).toUInt32 >>> ((nI 1).toUInt32 &&& Int32.toUInt32 31)).toInt32)) &&& 1431655765)))).toUInt32 >>> ((nI 2).toUInt32 &&& Int32.toUInt32 31)).toInt32)) &&& 858993459)))) + (((((((((x - ((((((x).toUInt32 >>> ((nI 1).toUInt32 &&& Int32.toUInt32 31)).toInt32)) &&& 1431655765)))) &&& 858993459)) + (((((((x - ((((((x).toUInt32 >>> ((nI 1).toUInt32 &&& Int32.toUInt32 31)).toInt32)) &&& 1431655765)))).toUInt32 >>> ((nI 2).toUInt32 &&& Int32.toUInt32 31)).toInt32)) &&& 858993459)))).toUInt32 >>> ((nI 4).toUInt32 &&& Int32.toUInt32 31)).toInt32)))) &&& 252645135)).toUInt32 >>> ((nI 8).toUInt32 &&& Int32.toUInt32 31)).toInt32)) hC dJ6_bitCount_0f7a4_39 ?_
  refine sg_istore_n (pc := 40) (x := (((((((((((x - ((((((x).toUInt32 >>> ((nI 1).toUInt32 &&& Int32.toUInt32 31)).toInt32)) &&& 1431655765)))) &&& 858993459)) + (((((((x - ((((((x).toUInt32 >>> ((nI 1).toUInt32 &&& Int32.toUInt32 31)).toInt32)) &&& 1431655765)))).toUInt32 >>> ((nI 2).toUInt32 &&& Int32.toUInt32 31)).toInt32)) &&& 858993459)))) + (((((((((x - ((((((x).toUInt32 >>> ((nI 1).toUInt32 &&& Int32.toUInt32 31)).toInt32)) &&& 1431655765)))) &&& 858993459)) + (((((((x - ((((((x).toUInt32 >>> ((nI 1).toUInt32 &&& Int32.toUInt32 31)).toInt32)) &&& 1431655765)))).toUInt32 >>> ((nI 2).toUInt32 &&& Int32.toUInt32 31)).toInt32)) &&& 858993459)))).toUInt32 >>> ((nI 4).toUInt32 &&& Int32.toUInt32 31)).toInt32)))) &&& 252645135)) + (((((((((((((x - ((((((x).toUInt32 >>> ((nI 1).toUInt32 &&& Int32.toUInt32 31)).toInt32)) &&& 1431655765)))) &&& 858993459)) + (((((((x - ((((((x).toUInt32 >>> ((nI 1).toUInt32 &&& Int32.toUInt32 31)).toInt32)) &&& 1431655765)))).toUInt32 >>> ((nI 2).toUInt32 &&& Int32.toUInt32 31)).toInt32)) &&& 858993459)))) + (((((((((x - ((((((x).toUInt32 >>> ((nI 1).toUInt32 &&& Int32.toUInt32 31)).toInt32)) &&& 1431655765)))) &&& 858993459)) + (((((((x - ((((((x).toUInt32 >>> ((nI 1).toUInt32 &&& Int32.toUInt32 31)).toInt32)) &&& 1431655765)))).toUInt32 >>> ((nI 2).toUInt32 &&& Int32.toUInt32 31)).toInt32)) &&& 858993459)))).toUInt32 >>> ((nI 4).toUInt32 &&& Int32.toUInt32 31)).toInt32)))) &&& 252645135)).toUInt32 >>> ((nI 8).toUInt32 &&& Int32.toUInt32 31)).toInt32)))) hC dJ6_bitCount_0f7a4_40 (by decide) ?_
  show sg_W X M 0 0 41 [some (.int (((((((((((x - ((((((x).toUInt32 >>> ((nI 1).toUInt32 &&& Int32.toUInt32 31)).toInt32)) &&& 1431655765)))) &&& 858993459)) + (((((((x - ((((((x).toUInt32 >>> ((nI 1).toUInt32 &&& Int32.toUInt32 31)).toInt32)) &&& 1431655765)))).toUInt32 >>> ((nI 2).toUInt32 &&& Int32.toUInt32 31)).toInt32)) &&& 858993459)))) + (((((((((x - ((((((x).toUInt32 >>> ((nI 1).toUInt32 &&& Int32.toUInt32 31)).toInt32)) &&& 1431655765)))) &&& 858993459)) + (((((((x - ((((((x).toUInt32 >>> ((nI 1).toUInt32 &&& Int32.toUInt32 31)).toInt32)) &&& 1431655765)))).toUInt32 >>> ((nI 2).toUInt32 &&& Int32.toUInt32 31)).toInt32)) &&& 858993459)))).toUInt32 >>> ((nI 4).toUInt32 &&& Int32.toUInt32 31)).toInt32)))) &&& 252645135)) + (((((((((((((x - ((((((x).toUInt32 >>> ((nI 1).toUInt32 &&& Int32.toUInt32 31)).toInt32)) &&& 1431655765)))) &&& 858993459)) + (((((((x - ((((((x).toUInt32 >>> ((nI 1).toUInt32 &&& Int32.toUInt32 31)).toInt32)) &&& 1431655765)))).toUInt32 >>> ((nI 2).toUInt32 &&& Int32.toUInt32 31)).toInt32)) &&& 858993459)))) + (((((((((x - ((((((x).toUInt32 >>> ((nI 1).toUInt32 &&& Int32.toUInt32 31)).toInt32)) &&& 1431655765)))) &&& 858993459)) + (((((((x - ((((((x).toUInt32 >>> ((nI 1).toUInt32 &&& Int32.toUInt32 31)).toInt32)) &&& 1431655765)))).toUInt32 >>> ((nI 2).toUInt32 &&& Int32.toUInt32 31)).toInt32)) &&& 858993459)))).toUInt32 >>> ((nI 4).toUInt32 &&& Int32.toUInt32 31)).toInt32)))) &&& 252645135)).toUInt32 >>> ((nI 8).toUInt32 &&& Int32.toUInt32 31)).toInt32))))] []
  refine sg_iload_n (pc := 41) (x := (((((((((((x - ((((((x).toUInt32 >>> ((nI 1).toUInt32 &&& Int32.toUInt32 31)).toInt32)) &&& 1431655765)))) &&& 858993459)) + (((((((x - ((((((x).toUInt32 >>> ((nI 1).toUInt32 &&& Int32.toUInt32 31)).toInt32)) &&& 1431655765)))).toUInt32 >>> ((nI 2).toUInt32 &&& Int32.toUInt32 31)).toInt32)) &&& 858993459)))) + (((((((((x - ((((((x).toUInt32 >>> ((nI 1).toUInt32 &&& Int32.toUInt32 31)).toInt32)) &&& 1431655765)))) &&& 858993459)) + (((((((x - ((((((x).toUInt32 >>> ((nI 1).toUInt32 &&& Int32.toUInt32 31)).toInt32)) &&& 1431655765)))).toUInt32 >>> ((nI 2).toUInt32 &&& Int32.toUInt32 31)).toInt32)) &&& 858993459)))).toUInt32 >>> ((nI 4).toUInt32 &&& Int32.toUInt32 31)).toInt32)))) &&& 252645135)) + (((((((((((((x - ((((((x).toUInt32 >>> ((nI 1).toUInt32 &&& Int32.toUInt32 31)).toInt32)) &&& 1431655765)))) &&& 858993459)) + (((((((x - ((((((x).toUInt32 >>> ((nI 1).toUInt32 &&& Int32.toUInt32 31)).toInt32)) &&& 1431655765)))).toUInt32 >>> ((nI 2).toUInt32 &&& Int32.toUInt32 31)).toInt32)) &&& 858993459)))) + (((((((((x - ((((((x).toUInt32 >>> ((nI 1).toUInt32 &&& Int32.toUInt32 31)).toInt32)) &&& 1431655765)))) &&& 858993459)) + (((((((x - ((((((x).toUInt32 >>> ((nI 1).toUInt32 &&& Int32.toUInt32 31)).toInt32)) &&& 1431655765)))).toUInt32 >>> ((nI 2).toUInt32 &&& Int32.toUInt32 31)).toInt32)) &&& 858993459)))).toUInt32 >>> ((nI 4).toUInt32 &&& Int32.toUInt32 31)).toInt32)))) &&& 252645135)).toUInt32 >>> ((nI 8).toUInt32 &&& Int32.toUInt32 31)).toInt32)))) hC dJ6_bitCount_0f7a4_41 rfl ?_
  refine sg_iload_n (pc := 42) (x := (((((((((((x - ((((((x).toUInt32 >>> ((nI 1).toUInt32 &&& Int32.toUInt32 31)).toInt32)) &&& 1431655765)))) &&& 858993459)) + (((((((x - ((((((x).toUInt32 >>> ((nI 1).toUInt32 &&& Int32.toUInt32 31)).toInt32)) &&& 1431655765)))).toUInt32 >>> ((nI 2).toUInt32 &&& Int32.toUInt32 31)).toInt32)) &&& 858993459)))) + (((((((((x - ((((((x).toUInt32 >>> ((nI 1).toUInt32 &&& Int32.toUInt32 31)).toInt32)) &&& 1431655765)))) &&& 858993459)) + (((((((x - ((((((x).toUInt32 >>> ((nI 1).toUInt32 &&& Int32.toUInt32 31)).toInt32)) &&& 1431655765)))).toUInt32 >>> ((nI 2).toUInt32 &&& Int32.toUInt32 31)).toInt32)) &&& 858993459)))).toUInt32 >>> ((nI 4).toUInt32 &&& Int32.toUInt32 31)).toInt32)))) &&& 252645135)) + (((((((((((((x - ((((((x).toUInt32 >>> ((nI 1).toUInt32 &&& Int32.toUInt32 31)).toInt32)) &&& 1431655765)))) &&& 858993459)) + (((((((x - ((((((x).toUInt32 >>> ((nI 1).toUInt32 &&& Int32.toUInt32 31)).toInt32)) &&& 1431655765)))).toUInt32 >>> ((nI 2).toUInt32 &&& Int32.toUInt32 31)).toInt32)) &&& 858993459)))) + (((((((((x - ((((((x).toUInt32 >>> ((nI 1).toUInt32 &&& Int32.toUInt32 31)).toInt32)) &&& 1431655765)))) &&& 858993459)) + (((((((x - ((((((x).toUInt32 >>> ((nI 1).toUInt32 &&& Int32.toUInt32 31)).toInt32)) &&& 1431655765)))).toUInt32 >>> ((nI 2).toUInt32 &&& Int32.toUInt32 31)).toInt32)) &&& 858993459)))).toUInt32 >>> ((nI 4).toUInt32 &&& Int32.toUInt32 31)).toInt32)))) &&& 252645135)).toUInt32 >>> ((nI 8).toUInt32 &&& Int32.toUInt32 31)).toInt32)))) hC dJ6_bitCount_0f7a4_42 rfl ?_
  refine sg_bipush (pc := 43) (nI 16) hC dJ6_bitCount_0f7a4_43 (by decide) ?_
  refine sg_iushr (pc := 45) (x := (((((((((((x - ((((((x).toUInt32 >>> ((nI 1).toUInt32 &&& Int32.toUInt32 31)).toInt32)) &&& 1431655765)))) &&& 858993459)) + (((((((x - ((((((x).toUInt32 >>> ((nI 1).toUInt32 &&& Int32.toUInt32 31)).toInt32)) &&& 1431655765)))).toUInt32 >>> ((nI 2).toUInt32 &&& Int32.toUInt32 31)).toInt32)) &&& 858993459)))) + (((((((((x - ((((((x).toUInt32 >>> ((nI 1).toUInt32 &&& Int32.toUInt32 31)).toInt32)) &&& 1431655765)))) &&& 858993459)) + (((((((x - ((((((x).toUInt32 >>> ((nI 1).toUInt32 &&& Int32.toUInt32 31)).toInt32)) &&& 1431655765)))).toUInt32 >>> ((nI 2).toUInt32 &&& Int32.toUInt32 31)).toInt32)) &&& 858993459)))).toUInt32 >>> ((nI 4).toUInt32 &&& Int32.toUInt32 31)).toInt32)))) &&& 252645135)) + (((((((((((((x - ((((((x).toUInt32 >>> ((nI 1).toUInt32 &&& Int32.toUInt32 31)).toInt32)) &&& 1431655765)))) &&& 858993459)) + (((((((x - ((((((x).toUInt32 >>> ((nI 1).toUInt32 &&& Int32.toUInt32 31)).toInt32)) &&& 1431655765)))).toUInt32 >>> ((nI 2).toUInt32 &&& Int32.toUInt32 31)).toInt32)) &&& 858993459)))) + (((((((((x - ((((((x).toUInt32 >>> ((nI 1).toUInt32 &&& Int32.toUInt32 31)).toInt32)) &&& 1431655765)))) &&& 858993459)) + (((((((x - ((((((x).toUInt32 >>> ((nI 1).toUInt32 &&& Int32.toUInt32 31)).toInt32)) &&& 1431655765)))).toUInt32 >>> ((nI 2).toUInt32 &&& Int32.toUInt32 31)).toInt32)) &&& 858993459)))).toUInt32 >>> ((nI 4).toUInt32 &&& Int32.toUInt32 31)).toInt32)))) &&& 252645135)).toUInt32 >>> ((nI 8).toUInt32 &&& Int32.toUInt32 31)).toInt32)))) (y := nI 16) ((((((((((((((x - ((((((x).toUInt32 >>> ((nI 1).toUInt32 &&& Int32.toUInt32 31)).toInt32)) &&& 1431655765)))) &&& 858993459)) + (((((((x - ((((((x).toUInt32 >>> ((nI 1).toUInt32 &&& Int32.toUInt32 31)).toInt32)) &&& 1431655765)))).toUInt32 >>> ((nI 2).toUInt32 &&& Int32.toUInt32 31)).toInt32)) &&& 858993459)))) + (((((((((x - ((((((x).toUInt32 >>> ((nI 1).toUInt32 &&& Int32.toUInt32 31)).toInt32)) &&& 1431655765)))) &&& 858993459)) + (((((((x - ((((((x).toUInt32 >>> ((nI 1).toUInt32 &&& Int32.toUInt32 31)).toInt32)) &&& 1431655765)))).toUInt32 >>> ((nI 2).toUInt32 &&& Int32.toUInt32 31)).toInt32)) &&& 858993459)))).toUInt32 >>> ((nI 4).toUInt32 &&& Int32.toUInt32 31)).toInt32)))) &&& 252645135)) + (((((((((((((x - ((((((x).toUInt32 >>> ((nI 1).toUInt32 &&& Int32.toUInt32 31)).toInt32)) &&& 1431655765)))) &&& 858993459)) + (((((((x - ((((((x).toUInt32 >>> ((nI 1).toUInt32 &&& Int32.toUInt32 31)).toInt32)) &&& 1431655765)))).toUInt32 >>> ((nI 2).toUInt32 &&& Int32.toUInt32 31)).toInt32)) &&& 858993459)))) + (((((((((x - ((((((x).toUInt32 >>> ((nI 1).toUInt32 &&& Int32.toUInt32 31)).toInt32)) &&& 1431655765)))) &&& 858993459)) + (((((((x - ((((((x).toUInt32 >>> ((nI 1).toUInt32 &&& Int32.toUInt32 31)).toInt32)) &&& 1431655765)))).toUInt32 >>> ((nI 2).toUInt32 &&& Int32.toUInt32 31)).toInt32)) &&& 858993459)))).toUInt32 >>> ((nI 4).toUInt32 &&& Int32.toUInt32 31)).toInt32)))) &&& 252645135)).toUInt32 >>> ((nI 8).toUInt32 &&& Int32.toUInt32 31)).toInt32)))).toUInt32 >>> ((nI 16).toUInt32 &&& Int32.toUInt32 31)).toInt32) hC dJ6_bitCount_0f7a4_45 rfl ?_
  refine sg_iadd (pc := 46) (x := (((((((((((x - ((((((x).toUInt32 >>> ((nI 1).toUInt32 &&& Int32.toUInt32 31)).toInt32)) &&& 1431655765)))) &&& 858993459)) + (((((((x - ((((((x).toUInt32 >>> ((nI 1).toUInt32 &&& Int32.toUInt32 31)).toInt32)) &&& 1431655765)))).toUInt32 >>> ((nI 2).toUInt32 &&& Int32.toUInt32 31)).toInt32)) &&& 858993459)))) + (((((((((x - ((((((x).toUInt32 >>> ((nI 1).toUInt32 &&& Int32.toUInt32 31)).toInt32)) &&& 1431655765)))) &&& 858993459)) + (((((((x - ((((((x).toUInt32 >>> ((nI 1).toUInt32 &&& Int32.toUInt32 31)).toInt32)) &&& 1431655765)))).toUInt32 >>> ((nI 2).toUInt32 &&& Int32.toUInt32 31)).toInt32)) &&& 858993459)))).toUInt32 >>> ((nI 4).toUInt32 &&& Int32.toUInt32 31)).toInt32)))) &&& 252645135)) + (((((((((((((x - ((((((x).toUInt32 >>> ((nI 1).toUInt32 &&& Int32.toUInt32 31)).toInt32)) &&& 1431655765)))) &&& 858993459)) + (((((((x - ((((((x).toUInt32 >>> ((nI 1).toUInt32 &&& Int32.toUInt32 31)).toInt32)) &&& 1431655765)))).toUInt32 >>> ((nI 2).toUInt32 &&& Int32.toUInt32 31)).toInt32)) &&& 858993459)))) + (((((((((x - ((((((x).toUInt32 >>> ((nI 1).toUInt32 &&& Int32.toUInt32 31)).toInt32)) &&& 1431655765)))) &&& 858993459)) + (((((((x - ((((((x).toUInt32 >>> ((nI 1).toUInt32 &&& Int32.toUInt32 31)).toInt32)) &&& 1431655765)))).toUInt32 >>> ((nI 2).toUInt32 &&& Int32.toUInt32 31)).toInt32)) &&& 858993459)))).toUInt32 >>> ((nI 4).toUInt32 &&& Int32.toUInt32 31)).toInt32)))) &&& 252645135)).toUInt32 >>> ((nI 8).toUInt32 &&& Int32.toUInt32 31)).toInt32)))) (y := ((((((((((((((x - ((((((x).toUInt32 >>> ((nI 1).toUInt32 &&& Int32.toUInt32 31)).toInt32)) &&& 1431655765)))) &&& 858993459)) + (((((((x - ((((((x).toUInt32 >>> ((nI 1).toUInt32 &&& Int32.toUInt32 31)).toInt32)) &&& 1431655765)))).toUInt32 >>> ((nI 2).toUInt32 &&& Int32.toUInt32 31)).toInt32)) &&& 858993459)))) + (((((((((x - ((((((x).toUInt32 >>> ((nI 1).toUInt32 &&& Int32.toUInt32 31)).toInt32)) &&& 1431655765)))) &&& 858993459)) + (((((((x - ((((((x).toUInt32 >>> ((nI 1).toUInt32 &&& Int32.toUInt32 31)).toInt32)) &&& 1431655765)))).toUInt32 >>> ((nI 2).toUInt32 &&& Int32.toUInt32 31)).toInt32)) &&& 858993459)))).toUInt32 >>> ((nI 4).toUInt32 &&& Int32.toUInt32 31)).toInt32)))) &&& 252645135)) + (((((((((((((x - ((((((x).toUInt32 >>> ((nI 1).toUInt32 &&& Int32.toUInt32 31)).toInt32)) &&& 1431655765)))) &&& 858993459)) + (((((((x - ((((((x).toUInt32 >>> ((nI 1).toUInt32 &&& Int32.toUInt32 31)).toInt32)) &&& 1431655765)))).toUInt32 >>> ((nI 2).toUInt32 &&& Int32.toUInt32 31)).toInt32)) &&& 858993459)))) + (((((((((x - ((((((x).toUInt32 >>> ((nI 1).toUInt32 &&& Int32.toUInt32 31)).toInt32)) &&& 1431655765)))) &&& 858993459)) + (((((((x - ((((((x).toUInt32 >>> ((nI 1).toUInt32 &&& Int32.toUInt32 31)).toInt32)) &&& 1431655765)))).toUInt32 >>> ((nI 2).toUInt32 &&& Int32.toUInt32 31)).toInt32)) &&& 858993459)))).toUInt32 >>> ((nI 4).toUInt32 &&& Int32.toUInt32 31)).toInt32)))) &&& 252645135)).toUInt32 >>> ((nI 8).toUInt32 &&& Int32.toUInt32 31)).toInt32)))).toUInt32 >>> ((nI 16).toUInt32 &&& Int32.toUInt32 31)).toInt32)) hC dJ6_bitCount_0f7a4_46 ?_
  refine sg_istore_n (pc := 47) (x := (((((((((((((x - ((((((x).toUInt32 >>> ((nI 1).toUInt32 &&& Int32.toUInt32 31)).toInt32)) &&& 1431655765)))) &&& 858993459)) + (((((((x - ((((((x).toUInt32 >>> ((nI 1).toUInt32 &&& Int32.toUInt32 31)).toInt32)) &&& 1431655765)))).toUInt32 >>> ((nI 2).toUInt32 &&& Int32.toUInt32 31)).toInt32)) &&& 858993459)))) + (((((((((x - ((((((x).toUInt32 >>> ((nI 1).toUInt32 &&& Int32.toUInt32 31)).toInt32)) &&& 1431655765)))) &&& 858993459)) + (((((((x - ((((((x).toUInt32 >>> ((nI 1).toUInt32 &&& Int32.toUInt32 31)).toInt32)) &&& 1431655765)))).toUInt32 >>> ((nI 2).toUInt32 &&& Int32.toUInt32 31)).toInt32)) &&& 858993459)))).toUInt32 >>> ((nI 4).toUInt32 &&& Int32.toUInt32 31)).toInt32)))) &&& 252645135)) + (((((((((((((x - ((((((x).toUInt32 >>> ((nI 1).toUInt32 &&& Int32.toUInt32 31)).toInt32)) &&& 1431655765)))) &&& 858993459)) + (((((((x - ((((((x).toUInt32 >>> ((nI 1).toUInt32 &&& Int32.toUInt32 31)).toInt32)) &&& 1431655765)))).toUInt32 >>> ((nI 2).toUInt32 &&& Int32.toUInt32 31)).toInt32)) &&& 858993459)))) + (((((((((x - ((((((x).toUInt32 >>> ((nI 1).toUInt32 &&& Int32.toUInt32 31)).toInt32)) &&& 1431655765)))) &&& 858993459)) + (((((((x - ((((((x).toUInt32 >>> ((nI 1).toUInt32 &&& Int32.toUInt32 31)).toInt32)) &&& 1431655765)))).toUInt32 >>> ((nI 2).toUInt32 &&& Int32.toUInt32 31)).toInt32)) &&& 858993459)))).toUInt32 >>> ((nI 4).toUInt32 &&& Int32.toUInt32 31)).toInt32)))) &&& 252645135)).toUInt32 >>> ((nI 8).toUInt32 &&& Int32.toUInt32 31)).toInt32)))) + (((((((((((((((x - ((((((x).toUInt32 >>> ((nI 1).toUInt32 &&& Int32.toUInt32 31)).toInt32)) &&& 1431655765)))) &&& 858993459)) + (((((((x - ((((((x).toUInt32 >>> ((nI 1).toUInt32 &&& Int32.toUInt32 31)).toInt32)) &&& 1431655765)))).toUInt32 >>> ((nI 2).toUInt32 &&& Int32.toUInt32 31)).toInt32)) &&& 858993459)))) + (((((((((x - ((((((x).toUInt32 >>> ((nI 1).toUInt32 &&& Int32.toUInt32 31)).toInt32)) &&& 1431655765)))) &&& 858993459)) + (((((((x - ((((((x).toUInt32 >>> ((nI 1).toUInt32 &&& Int32.toUInt32 31)).toInt32)) &&& 1431655765)))).toUInt32 >>> ((nI 2).toUInt32 &&& Int32.toUInt32 31)).toInt32)) &&& 858993459)))).toUInt32 >>> ((nI 4).toUInt32 &&& Int32.toUInt32 31)).toInt32)))) &&& 252645135)) + (((((((((((((x - ((((((x).toUInt32 >>> ((nI 1).toUInt32 &&& Int32.toUInt32 31)).toInt32)) &&& 1431655765)))) &&& 858993459)) + (((((((x - ((((((x).toUInt32 >>> ((nI 1).toUInt32 &&& Int32.toUInt32 31)).toInt32)) &&& 1431655765)))).toUInt32 >>> ((nI 2).toUInt32 &&& Int32.toUInt32 31)).toInt32)) &&& 858993459)))) + (((((((((x - ((((((x).toUInt32 >>> ((nI 1).toUInt32 &&& Int32.toUInt32 31)).toInt32)) &&& 1431655765)))) &&& 858993459)) + (((((((x - ((((((x).toUInt32 >>> ((nI 1).toUInt32 &&& Int32.toUInt32 31)).toInt32)) &&& 1431655765)))).toUInt32 >>> ((nI 2).toUInt32 &&& Int32.toUInt32 31)).toInt32)) &&& 858993459)))).toUInt32 >>> ((nI 4).toUInt32 &&& Int32.toUInt32 31)).toInt32)))) &&& 252645135)).toUInt32 >>> ((nI 8).toUInt32 &&& Int32.toUInt32 31)).toInt32)))).toUInt32 >>> ((nI 16).toUInt32 &&& Int32.toUInt32 31)).toInt32)))) hC dJ6_bitCount_0f7a4_47 (by decide) ?_
  show sg_W X M 0 0 48 [some (.int (((((((((((((x - ((((((x).toUInt32 >>> ((nI 1).toUInt32 &&& Int32.toUInt32 31)).toInt32)) &&& 1431655765)))) &&& 858993459)) + (((((((x - ((((((x).toUInt32 >>> ((nI 1).toUInt32 &&& Int32.toUInt32 31)).toInt32)) &&& 1431655765)))).toUInt32 >>> ((nI 2).toUInt32 &&& Int32.toUInt32 31)).toInt32)) &&& 858993459)))) + (((((((((x - ((((((x).toUInt32 >>> ((nI 1).toUInt32 &&& Int32.toUInt32 31)).toInt32)) &&& 1431655765)))) &&& 858993459)) + (((((((x - ((((((x).toUInt32 >>> ((nI 1).toUInt32 &&& Int32.toUInt32 31)).toInt32)) &&& 1431655765)))).toUInt32 >>> ((nI 2).toUInt32 &&& Int32.toUInt32 31)).toInt32)) &&& 858993459)))).toUInt32 >>> ((nI 4).toUInt32 &&& Int32.toUInt32 31)).toInt32)))) &&& 252645135)) + (((((((((((((x - ((((((x).toUInt32 >>> ((nI 1).toUInt32 &&& Int32.toUInt32 31)).toInt32)) &&& 1431655765)))) &&& 858993459)) + (((((((x - ((((((x).toUInt32 >>> ((nI 1).toUInt32 &&& Int32.toUInt32 31)).toInt32)) &&& 1431655765)))).toUInt32 >>> ((nI 2).toUInt32 &&& Int32.toUInt32 31)).toInt32)) &&& 858993459)))) + (((((((((x - ((((((x).toUInt32 >>> ((nI 1).toUInt32 &&& Int32.toUInt32 31)).toInt32)) &&& 1431655765)))) &&& 858993459)) + (((((((x - ((((((x).toUInt32 >>> ((nI 1).toUInt32 &&& Int32.toUInt32 31)).toInt32)) &&& 1431655765)))).toUInt32 >>> ((nI 2).toUInt32 &&& Int32.toUInt32 31)).toInt32)) &&& 858993459)))).toUInt32 >>> ((nI 4).toUInt32 &&& Int32.toUInt32 31)).toInt32)))) &&& 252645135)).toUInt32 >>> ((nI 8).toUInt32 &&& Int32.toUInt32 31)).toInt32)))) + (((((((((((((((x - ((((((x).toUInt32 >>> ((nI 1).toUInt32 &&& Int32.toUInt32 31)).toInt32)) &&& 1431655765)))) &&& 858993459)) + (((((((x - ((((((x).toUInt32 >>> ((nI 1).toUInt32 &&& Int32.toUInt32 31)).toInt32)) &&& 1431655765)))).toUInt32 >>> ((nI 2).toUInt32 &&& Int32.toUInt32 31)).toInt32)) &&& 858993459)))) + (((((((((x - ((((((x).toUInt32 >>> ((nI 1).toUInt32 &&& Int32.toUInt32 31)).toInt32)) &&& 1431655765)))) &&& 858993459)) + (((((((x - ((((((x).toUInt32 >>> ((nI 1).toUInt32 &&& Int32.toUInt32 31)).toInt32)) &&& 1431655765)))).toUInt32 >>> ((nI 2).toUInt32 &&& Int32.toUInt32 31)).toInt32)) &&& 858993459)))).toUInt32 >>> ((nI 4).toUInt32 &&& Int32.toUInt32 31)).toInt32)))) &&& 252645135)) + (((((((((((((x - ((((((x).toUInt32 >>> ((nI 1).toUInt32 &&& Int32.toUInt32 31)).toInt32)) &&& 1431655765)))) &&& 858993459)) + (((((((x - ((((((x).toUInt32 >>> ((nI 1).toUInt32 &&& Int32.toUInt32 31)).toInt32)) &&& 1431655765)))).toUInt32 >>> ((nI 2).toUInt32 &&& Int32.toUInt32 31)).toInt32)) &&& 858993459)))) + (((((((((x - ((((((x).toUInt32 >>> ((nI 1).toUInt32 &&& Int32.toUInt32 31)).toInt32)) &&& 1431655765)))) &&& 858993459)) + (((((((x - ((((((x).toUInt32 >>> ((nI 1).toUInt32 &&& Int32.toUInt32 31)).toInt32)) &&& 1431655765)))).toUInt32 >>> ((nI 2).toUInt32 &&& Int32.toUInt32 31)).toInt32)) &&& 858993459)))).toUInt32 >>> ((nI 4).toUInt32 &&& Int32.toUInt32 31)).toInt32)))) &&& 252645135)).toUInt32 >>> ((nI 8).toUInt32 &&& Int32.toUInt32 31)).toInt32)))).toUInt32 >>> ((nI 16).toUInt32 &&& Int32.toUInt32 31)).toInt32))))] []
  refine sg_iload_n (pc := 48) (x := (((((((((((((x - ((((((x).toUInt32 >>> ((nI 1).toUInt32 &&& Int32.toUInt32 31)).toInt32)) &&& 1431655765)))) &&& 858993459)) + (((((((x - ((((((x).toUInt32 >>> ((nI 1).toUInt32 &&& Int32.toUInt32 31)).toInt32)) &&& 1431655765)))).toUInt32 >>> ((nI 2).toUInt32 &&& Int32.toUInt32 31)).toInt32)) &&& 858993459)))) + (((((((((x - ((((((x).toUInt32 >>> ((nI 1).toUInt32 &&& Int32.toUInt32 31)).toInt32)) &&& 1431655765)))) &&& 858993459)) + (((((((x - ((((((x).toUInt32 >>> ((nI 1).toUInt32 &&& Int32.toUInt32 31)).toInt32)) &&& 1431655765)))).toUInt32 >>> ((nI 2).toUInt32 &&& Int32.toUInt32 31)).toInt32)) &&& 858993459)))).toUInt32 >>> ((nI 4).toUInt32 &&& Int32.toUInt32 31)).toInt32)))) &&& 252645135)) + (((((((((((((x - ((((((x).toUInt32 >>> ((nI 1).toUInt32 &&& Int32.toUInt32 31)).toInt32)) &&& 1431655765)))) &&& 858993459)) + (((((((x - ((((((x).toUInt32 >>> ((nI 1).toUInt32 &&& Int32.toUInt32 31)).toInt32)) &&& 1431655765)))).toUInt32 >>> ((nI 2).toUInt32 &&& Int32.toUInt32 31)).toInt32)) &&& 858993459)))) + (((((((((x - ((((((x).toUInt32 >>> ((nI 1).toUInt32 &&& Int32.toUInt32 31)).toInt32)) &&& 1431655765)))) &&& 858993459)) + (((((((x - ((((((x).toUInt32 >>> ((nI 1).toUInt32 &&& Int32.toUInt32 31)).toInt32)) &&& 1431655765)))).toUInt32 >>> ((nI 2).toUInt32 &&& Int32.toUInt32 31)).toInt32)) &&& 858993459)))).toUInt32 >>> ((nI 4).toUInt32 &&& Int32.toUInt32 31)).toInt32)))) &&& 252645135)).toUInt32 >>> ((nI 8).toUInt32 &&& Int32.toUInt32 31)).toInt32)))) + (((((((((((((((x - ((((((x).toUInt32 >>> ((nI 1).toUInt32 &&& Int32.toUInt32 31)).toInt32)) &&& 1431655765)))) &&& 858993459)) + (((((((x - ((((((x).toUInt32 >>> ((nI 1).toUInt32 &&& Int32.toUInt32 31)).toInt32)) &&& 1431655765)))).toUInt32 >>> ((nI 2).toUInt32 &&& Int32.toUInt32 31)).toInt32)) &&& 858993459)))) + (((((((((x - ((((((x).toUInt32 >>> ((nI 1).toUInt32 &&& Int32.toUInt32 31)).toInt32)) &&& 1431655765)))) &&& 858993459)) + (((((((x - ((((((x).toUInt32 >>> ((nI 1).toUInt32 &&& Int32.toUInt32 31)).toInt32)) &&& 1431655765)))).toUInt32 >>> ((nI 2).toUInt32 &&& Int32.toUInt32 31)).toInt32)) &&& 858993459)))).toUInt32 >>> ((nI 4).toUInt32 &&& Int32.toUInt32 31)).toInt32)))) &&& 252645135)) + (((((((((((((x - ((((((x).toUInt32 >>> ((nI 1).toUInt32 &&& Int32.toUInt32 31)).toInt32)) &&& 1431655765)))) &&& 858993459)) + (((((((x - ((((((x).toUInt32 >>> ((nI 1).toUInt32 &&& Int32.toUInt32 31)).toInt32)) &&& 1431655765)))).toUInt32 >>> ((nI 2).toUInt32 &&& Int32.toUInt32 31)).toInt32)) &&& 858993459)))) + (((((((((x - ((((((x).toUInt32 >>> ((nI 1).toUInt32 &&& Int32.toUInt32 31)).toInt32)) &&& 1431655765)))) &&& 858993459)) + (((((((x - ((((((x).toUInt32 >>> ((nI 1).toUInt32 &&& Int32.toUInt32 31)).toInt32)) &&& 1431655765)))).toUInt32 >>> ((nI 2).toUInt32 &&& Int32.toUInt32 31)).toInt32)) &&& 858993459)))).toUInt32 >>> ((nI 4).toUInt32 &&& Int32.toUInt32 31)).toInt32)))) &&& 252645135)).toUInt32 >>> ((nI 8).toUInt32 &&& Int32.toUInt32 31)).toInt32)))).toUInt32 >>> ((nI 16).toUInt32 &&& Int32.toUInt32 31)).toInt32)))) hC dJ6_bitCount_0f7a4_48 rfl ?_
  refine sg_bipush (pc := 49) (nI 63) hC dJ6_bitCount_0f7a4_49 (by decide) ?_
  refine sg_iand (pc := 51) (x := (((((((((((((x - ((((((x).toUInt32 >>> ((nI 1).toUInt32 &&& Int32.toUInt32 31)).toInt32)) &&& 1431655765)))) &&& 858993459)) + (((((((x - ((((((x).toUInt32 >>> ((nI 1).toUInt32 &&& Int32.toUInt32 31)).toInt32)) &&& 1431655765)))).toUInt32 >>> ((nI 2).toUInt32 &&& Int32.toUInt32 31)).toInt32)) &&& 858993459)))) + (((((((((x - ((((((x).toUInt32 >>> ((nI 1).toUInt32 &&& Int32.toUInt32 31)).toInt32)) &&& 1431655765)))) &&& 858993459)) + (((((((x - ((((((x).toUInt32 >>> ((nI 1).toUInt32 &&& Int32.toUInt32 31)).toInt32)) &&& 1431655765)))).toUInt32 >>> ((nI 2).toUInt32 &&& Int32.toUInt32 31)).toInt32)) &&& 858993459)))).toUInt32 >>> ((nI 4).toUInt32 &&& Int32.toUInt32 31)).toInt32)))) &&& 252645135)) + (((((((((((((x - ((((((x).toUInt32 >>> ((nI 1).toUInt32 &&& Int32.toUInt32 31)).toInt32)) &&& 1431655765)))) &&& 858993459)) + (((((((x - ((((((x).toUInt32 >>> ((nI 1).toUInt32 &&& Int32.toUInt32 31)).toInt32)) &&& 1431655765)))).toUInt32 >>> ((nI 2).toUInt32 &&& Int32.toUInt32 31)).toInt32)) &&& 858993459)))) + (((((((((x - ((((((x).toUInt32 >>> ((nI 1).toUInt32 &&& Int32.toUInt32 31)).toInt32)) &&& 1431655765)))) &&& 858993459)) + (((((((x - ((((((x).toUInt32 >>> ((nI 1).toUInt32 &&& Int32.toUInt32 31)).toInt32)) &&& 1431655765)))).toUInt32 >>> ((nI 2).toUInt32 &&& Int32.toUInt32 31)).toInt32)) &&& 858993459)))).toUInt32 >>> ((nI 4).toUInt32 &&& Int32.toUInt32 31)).toInt32)))) &&& 252645135)).toUInt32 >>> ((nI 8).toUInt32 &&& Int32.toUInt32 31)).toInt32)))) + (((((((((((((((x - ((((((x).toUInt32 >>> ((nI 1).toUInt32 &&& Int32.toUInt32 31)).toInt32)) &&& 1431655765)))) &&& 858993459)) + (((((((x - ((((((x).toUInt32 >>> ((nI 1).toUInt32 &&& Int32.toUInt32 31)).toInt32)) &&& 1431655765)))).toUInt32 >>> ((nI 2).toUInt32 &&& Int32.toUInt32 31)).toInt32)) &&& 858993459)))) + (((((((((x - ((((((x).toUInt32 >>> ((nI 1).toUInt32 &&& Int32.toUInt32 31)).toInt32)) &&& 1431655765)))) &&& 858993459)) + (((((((x - ((((((x).toUInt32 >>> ((nI 1).toUInt32 &&& Int32.toUInt32 31)).toInt32)) &&& 1431655765)))).toUInt32 >>> ((nI 2).toUInt32 &&& Int32.toUInt32 31)).toInt32)) &&& 858993459)))).toUInt32 >>> ((nI 4).toUInt32 &&& Int32.toUInt32 31)).toInt32)))) &&& 252645135)) + (((((((((((((x - ((((((x).toUInt32 >>> ((nI 1).toUInt32 &&& Int32.toUInt32 31)).toInt32)) &&& 1431655765)))) &&& 858993459)) + (((((((x - ((((((x).toUInt32 >>> ((nI 1).toUInt32 &&& Int32.toUInt32 31)).toInt32)) &&& 1431655765)))).toUInt32 >>> ((nI 2).toUInt32 &&& Int32.toUInt32 31)).toInt32)) &&& 858993459)))) + (((((((((x - ((((((x).toUInt32 >>> ((nI 1).toUInt32 &&& Int32.toUInt32 31)).toInt32)) &&& 1431655765)))) &&& 858993459)) + (((((((x - ((((((x).toUInt32 >>> ((nI 1).toUInt32 &&& Int32.toUInt32 31)).toInt32)) &&& 1431655765)))).toUInt32 >>> ((nI 2).toUInt32 &&& Int32.toUInt32 31)).toInt32)) &&& 858993459)))).toUInt32 >>> ((nI 4).toUInt32 &&& Int32.toUInt32 31)).toInt32)))) &&& 252645135)).toUInt32 >>> ((nI 8).toUInt32 &&& Int32.toUInt32 31)).toInt32)))).toUInt32 >>> ((nI 16).toUInt32 &&& Int32.toUInt32 31)).toInt32)))) (y := nI 63) hC dJ6_bitCount_0f7a4_51 ?_
  exact sg_ireturn (st := []) (v := (((((((((((((((x - ((((((x).toUInt32 >>> ((nI 1).toUInt32 &&& Int32.toUInt32 31)).toInt32)) &&& 1431655765)))) &&& 858993459)) + (((((((x - ((((((x).toUInt32 >>> ((nI 1).toUInt32 &&& Int32.toUInt32 31)).toInt32)) &&& 1431655765)))).toUInt32 >>> ((nI 2).toUInt32 &&& Int32.toUInt32 31)).toInt32)) &&& 858993459)))) + (((((((((x - ((((((x).toUInt32 >>> ((nI 1).toUInt32 &&& Int32.toUInt32 31)).toInt32)) &&& 1431655765)))) &&& 858993459)) + (((((((x - ((((((x).toUInt32 >>> ((nI 1).toUInt32 &&& Int32.toUInt32 31)).toInt32)) &&& 1431655765)))).toUInt32 >>> ((nI 2).toUInt32 &&& Int32.toUInt32 31)).toInt32)) &&& 858993459)))).toUInt32 >>> ((nI 4).toUInt32 &&& Int32.toUInt32 31)).toInt32)))) &&& 252645135)) + (((((((((((((x - ((((((x).toUInt32 >>> ((nI 1).toUInt32 &&& Int32.toUInt32 31)).toInt32)) &&& 1431655765)))) &&& 858993459)) + (((((((x - ((((((x).toUInt32 >>> ((nI 1).toUInt32 &&& Int32.toUInt32 31)).toInt32)) &&& 1431655765)))).toUInt32 >>> ((nI 2).toUInt32 &&& Int32.toUInt32 31)).toInt32)) &&& 858993459)))) + (((((((((x - ((((((x).toUInt32 >>> ((nI 1).toUInt32 &&& Int32.toUInt32 31)).toInt32)) &&& 1431655765)))) &&& 858993459)) + (((((((x - ((((((x).toUInt32 >>> ((nI 1).toUInt32 &&& Int32.toUInt32 31)).toInt32)) &&& 1431655765)))).toUInt32 >>> ((nI 2).toUInt32 &&& Int32.toUInt32 31)).toInt32)) &&& 858993459)))).toUInt32 >>> ((nI 4).toUInt32 &&& Int32.toUInt32 31)).toInt32)))) &&& 252645135)).toUInt32 >>> ((nI 8).toUInt32 &&& Int32.toUInt32 31)).toInt32)))) + (((((((((((((((x - ((((((x).toUInt32 >>> ((nI 1).toUInt32 &&& Int32.toUInt32 31)).toInt32)) &&& 1431655765)))) &&& 858993459)) + (((((((x - ((((((x).toUInt32 >>> ((nI 1).toUInt32 &&& Int32.toUInt32 31)).toInt32)) &&& 1431655765)))).toUInt32 >>> ((nI 2).toUInt32 &&& Int32.toUInt32 31)).toInt32)) &&& 858993459)))) + (((((((((x - ((((((x).toUInt32 >>> ((nI 1).toUInt32 &&& Int32.toUInt32 31)).toInt32)) &&& 1431655765)))) &&& 858993459)) + (((((((x - ((((((x).toUInt32 >>> ((nI 1).toUInt32 &&& Int32.toUInt32 31)).toInt32)) &&& 1431655765)))).toUInt32 >>> ((nI 2).toUInt32 &&& Int32.toUInt32 31)).toInt32)) &&& 858993459)))).toUInt32 >>> ((nI 4).toUInt32 &&& Int32.toUInt32 31)).toInt32)))) &&& 252645135)) + (((((((((((((x - ((((((x).toUInt32 >>> ((nI 1).toUInt32 &&& Int32.toUInt32 31)).toInt32)) &&& 1431655765)))) &&& 858993459)) + (((((((x - ((((((x).toUInt32 >>> ((nI 1).toUInt32 &&& Int32.toUInt32 31)).toInt32)) &&& 1431655765)))).toUInt32 >>> ((nI 2).toUInt32 &&& Int32.toUInt32 31)).toInt32)) &&& 858993459)))) + (((((((((x - ((((((x).toUInt32 >>> ((nI 1).toUInt32 &&& Int32.toUInt32 31)).toInt32)) &&& 1431655765)))) &&& 858993459)) + (((((((x - ((((((x).toUInt32 >>> ((nI 1).toUInt32 &&& Int32.toUInt32 31)).toInt32)) &&& 1431655765)))).toUInt32 >>> ((nI 2).toUInt32 &&& Int32.toUInt32 31)).toInt32)) &&& 858993459)))).toUInt32 >>> ((nI 4).toUInt32 &&& Int32.toUInt32 31)).toInt32)))) &&& 252645135)).toUInt32 >>> ((nI 8).toUInt32 &&& Int32.toUInt32 31)).toInt32)))).toUInt32 >>> ((nI 16).toUInt32 &&& Int32.toUInt32 31)).toInt32)))) &&& (nI 63))) (pc := 52) hC hR dJ6_bitCount_0f7a4_52 hk
