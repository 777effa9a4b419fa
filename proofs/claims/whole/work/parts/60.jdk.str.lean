set_option maxHeartbeats 4000000 in
set_option maxRecDepth 100000 in
theorem c_coder {l : Launch} {G : sg_G} {d : Nat} {M : sg_M} {kr : Option Value → sg_M → Prop} {kx : String → sg_M → Prop} (htr : l.stackTraces = false) {t u a : Nat} {w : List Nat}  (hS : st_r t u M a w) (hk : kr (some (.int (nI 0))) M) : sg_Met l G yJ0_coder_7d493 cJ0_coder_7d493 1 (some .byte) (d + 0) 0 0 [.ref a] M kr kx := by
  refine sg_enter [some (.ref a)] (by decide) htr (Nat.le_of_ble_eq_true rfl) rfl ?_
  intro X hC hR
  have hC : sg_C X l G cJ0_coder_7d493 RJ0 1 (d + 0) := hC
  obtain ⟨b, h, z, g, hA, hB, hN, hG⟩ := id hS
  refine sg_gets_cs (pc := 0) hC tw_489 dJ0_coder_7d493_0 ?_
  refine sg_ifN_eq (pc := 3) (a := 1) 13 hC dJ0_coder_7d493_3 (by decide) (by decide) (fun h1 => absurd h1 (by decide)) (fun _ => ?_)
  refine sg_aload_n (pc := 6) (v := .ref a) hC dJ0_coder_7d493_6 rfl rfl ?_
  refine sg_get (pc := 7) (a := a) (v := .int (nI 0)) 1 hC rfl inw_J0 (by decide) tw_534 dJ0_coder_7d493_7 hA rfl ?_
  refine sg_goto (pc := 10) 14 hC dJ0_coder_7d493_10 (by decide) ?_
  exact sg_zreturn (st := []) (v := nI 0) (pc := 14) (ty := .byte) hC hR (jp_b (by first | omega | decide)) dJ0_coder_7d493_14 hk

set_option maxHeartbeats 4000000 in
set_option maxRecDepth 100000 in
theorem c_isLatin1 {l : Launch} {G : sg_G} {d : Nat} {M : sg_M} {kr : Option Value → sg_M → Prop} {kx : String → sg_M → Prop} (htr : l.stackTraces = false) {t u a : Nat} {w : List Nat}  (hS : st_r t u M a w) (hk : kr (some (.int (nI 1))) M) : sg_Met l G yJ0_isLatin1_aae02 cJ0_isLatin1_aae02 1 (some .boolean) (d + 0) 0 0 [.ref a] M kr kx := by
  refine sg_enter [some (.ref a)] (by decide) htr (Nat.le_of_ble_eq_true rfl) rfl ?_
  intro X hC hR
  have hC : sg_C X l G cJ0_isLatin1_aae02 RJ0 1 (d + 0) := hC
  obtain ⟨b, h, z, g, hA, hB, hN, hG⟩ := id hS
  refine sg_gets_cs (pc := 0) hC tw_489 dJ0_isLatin1_aae02_0 ?_
  refine sg_ifN_eq (pc := 3) (a := 1) 17 hC dJ0_isLatin1_aae02_3 (by decide) (by decide) (fun h1 => absurd h1 (by decide)) (fun _ => ?_)
  refine sg_aload_n (pc := 6) (v := .ref a) hC dJ0_isLatin1_aae02_6 rfl rfl ?_
  refine sg_get (pc := 7) (a := a) (v := .int (nI 0)) 1 hC rfl inw_J0 (by decide) tw_534 dJ0_isLatin1_aae02_7 hA rfl ?_
  refine sg_ifN_ne (pc := 10) (a := 0) 17 hC dJ0_isLatin1_aae02_10 (by decide) (by decide) (fun h2 => absurd h2 (by decide)) (fun _ => ?_)
  refine sg_iconst (pc := 13) (nI 1) hC dJ0_isLatin1_aae02_13 (by decide) ?_
  refine sg_goto (pc := 14) 18 hC dJ0_isLatin1_aae02_14 (by decide) ?_
  exact sg_zreturn (st := []) (v := nI 1) (pc := 18) (ty := .boolean) hC hR (jp_z (by first | omega | decide)) dJ0_isLatin1_aae02_18 hk

set_option maxHeartbeats 4000000 in
set_option maxRecDepth 100000 in
theorem c_slen {l : Launch} {G : sg_G} {d : Nat} {M : sg_M} {kr : Option Value → sg_M → Prop} {kx : String → sg_M → Prop} (htr : l.stackTraces = false) {t u a : Nat} {w : List Nat}  (hS : st_r t u M a w) (hk : kr (some (.int (nI w.length))) M) : sg_Met l G yJ0_length_8abf5 cJ0_length_8abf5 1 (some .int) (d + 1) 0 0 [.ref a] M kr kx := by
  refine sg_enter [some (.ref a)] (by decide) htr (Nat.le_of_ble_eq_true rfl) rfl ?_
  intro X hC hR
  have hC : sg_C X l G cJ0_length_8abf5 RJ0 1 (d + 1) := hC
  obtain ⟨b, h, z, g, hA, hB, hN, hG⟩ := id hS
  refine sg_aload_n (pc := 0) (v := .ref a) hC dJ0_length_8abf5_0 rfl rfl ?_
  refine sg_get (pc := 1) (a := a) (v := .ref b) 0 hC rfl inw_J0 (by decide) tw_533 dJ0_length_8abf5_1 hA rfl ?_
  refine sg_alen (pc := 4) 1 hC dJ0_length_8abf5_4 hB rfl ?_
  show sg_W X M 0 0 5 [some (.ref a)] [.int (nI w.length)]
  refine sg_aload_n (pc := 5) (v := .ref a) hC dJ0_length_8abf5_5 rfl rfl ?_
  refine sg_callV (pc := 6) (As := []) (rest := [.int (nI w.length)]) (mc := 0) (ms := 0) hC tw_485 tw_486 tw_487 tw_65 tw_488 yd_J0_coder_7d493 (by decide) (ci := 0) rfl dJ0_length_8abf5_6 hA rfl (Nat.le_of_ble_eq_true rfl) (by first | omega | decide) (by first | omega | decide) ?_
  refine c_coder htr hS ?_
  show sg_W X M 0 0 9 [some (.ref a)] [.int (nI 0), .int (nI w.length)]
  refine sg_ishrN (pc := 9) (a := w.length) (b := 0) hC dJ0_length_8abf5_9 (by first | omega | decide) (by first | omega | decide) ?_
  show sg_W X M 0 0 10 [some (.ref a)] [.int (nI w.length)]
  exact sg_ireturn (st := []) (v := nI w.length) (pc := 10) hC hR dJ0_length_8abf5_10 hk

set_option maxHeartbeats 4000000 in
set_option maxRecDepth 100000 in
theorem c_pcheck {l : Launch} {G : sg_G} {d : Nat} {M : sg_M} {kr : Option Value → sg_M → Prop} {kx : String → sg_M → Prop} (htr : l.stackTraces = false) {i n : Nat} {r : Option Nat} (hi : i < n) (hn : n ≤ 65536) (hk : kr (some (.int (nI i))) M) : sg_Met l G yJ3_checkIndex_8e157 cJ3_checkIndex_8e157 3 (some .int) (d + 0) 0 0 [.int (nI i), .int (nI n), va_rf r] M kr kx := by
  refine sg_enter [some (.int (nI i)), some (.int (nI n)), some (va_rf r)] (by decide) htr (by rcases r with _ | _ <;> exact Nat.le_of_ble_eq_true rfl) (by rcases r with _ | _ <;> rfl) ?_
  intro X hC hR
  have hC : sg_C X l G cJ3_checkIndex_8e157 RJ3 3 (d + 0) := hC
  refine sg_iload_n (pc := 0) (x := nI i) hC dJ3_checkIndex_8e157_0 rfl ?_
  refine sg_ifN_lt (pc := 1) (a := i) 9 hC dJ3_checkIndex_8e157_1 (by decide) (by first | omega | decide) (fun h1 => by exfalso; omega) (fun h1 => ?_)
  refine sg_iload_n (pc := 4) (x := nI i) hC dJ3_checkIndex_8e157_4 rfl ?_
  refine sg_iload_n (pc := 5) (x := nI n) hC dJ3_checkIndex_8e157_5 rfl ?_
  refine sg_icmpN_lt (pc := 6) (a := i) (b := n) 16 hC dJ3_checkIndex_8e157_6 (by decide) (by first | omega | decide) (by first | omega | decide) (fun h2 => ?_) (fun h2 => by exfalso; omega)
  refine sg_iload_n (pc := 16) (x := nI i) hC dJ3_checkIndex_8e157_16 rfl ?_
  exact sg_ireturn (st := []) (v := nI i) (pc := 17) hC hR dJ3_checkIndex_8e157_17 hk

set_option maxHeartbeats 4000000 in
set_option maxRecDepth 100000 in
theorem c_ocheck {l : Launch} {G : sg_G} {d : Nat} {M : sg_M} {kr : Option Value → sg_M → Prop} {kx : String → sg_M → Prop} (htr : l.stackTraces = false) {i n : Nat} (hi : i < n) (hn : n ≤ 65536) (hk : kr (some (.int (nI i))) M) : sg_Met l G yJ15_checkIndex_7cf53 cJ15_checkIndex_7cf53 2 (some .int) (d + 1) 0 0 [.int (nI i), .int (nI n)] M kr kx := by
  refine sg_enter [some (.int (nI i)), some (.int (nI n))] (by decide) htr (Nat.le_of_ble_eq_true rfl) rfl ?_
  intro X hC hR
  have hC : sg_C X l G cJ15_checkIndex_7cf53 RJ15 2 (d + 1) := hC
  refine sg_iload_n (pc := 0) (x := nI i) hC dJ15_checkIndex_7cf53_0 rfl ?_
  refine sg_iload_n (pc := 1) (x := nI n) hC dJ15_checkIndex_7cf53_1 rfl ?_
  refine sg_null (pc := 2) hC dJ15_checkIndex_7cf53_2 ?_
  show sg_W X M 0 0 3 [some (.int (nI i)), some (.int (nI n))] [va_rf none, .int (nI n), .int (nI i)]
  refine sg_callS (pc := 3) (As := [.int (nI i), .int (nI n), va_rf none]) (rest := []) (mc := 0) (ms := 0) hC tw_952 tw_316 tw_78 tw_317 yd_J3_checkIndex_8e157 (by decide) dJ15_checkIndex_7cf53_3 rfl (Nat.le_of_ble_eq_true rfl) (by first | omega | decide) (by first | omega | decide) ?_
  refine c_pcheck htr (by first | omega | decide) (by first | omega | decide) ?_
  show sg_W X M 0 0 6 [some (.int (nI i)), some (.int (nI n))] [.int (nI i)]
  exact sg_ireturn (st := []) (v := nI i) (pc := 6) hC hR dJ15_checkIndex_7cf53_6 hk

set_option maxHeartbeats 4000000 in
set_option maxRecDepth 100000 in
theorem c_scheck {l : Launch} {G : sg_G} {d : Nat} {M : sg_M} {kr : Option Value → sg_M → Prop} {kx : String → sg_M → Prop} (htr : l.stackTraces = false) {i n : Nat} (hi : i < n) (hn : n ≤ 65536) (hk : kr none M) : sg_Met l G yJ0_checkIndex_df160 cJ0_checkIndex_df160 2 none (d + 1) 0 0 [.int (nI i), .int (nI n)] M kr kx := by
  refine sg_enter [some (.int (nI i)), some (.int (nI n))] (by decide) htr (Nat.le_of_ble_eq_true rfl) rfl ?_
  intro X hC hR
  have hC : sg_C X l G cJ0_checkIndex_df160 RJ0 2 (d + 1) := hC
  refine sg_iload_n (pc := 0) (x := nI i) hC dJ0_checkIndex_df160_0 rfl ?_
  refine sg_iload_n (pc := 1) (x := nI n) hC dJ0_checkIndex_df160_1 rfl ?_
  refine sg_gets_sf (pc := 2) hC tw_292 dJ0_checkIndex_df160_2 (fun r1 => ?_)
  refine sg_callS (pc := 5) (As := [.int (nI i), .int (nI n), va_rf r1]) (rest := []) (mc := 0) (ms := 0) hC tw_315 tw_316 tw_78 tw_317 yd_J3_checkIndex_8e157 (by decide) dJ0_checkIndex_df160_5 rfl (Nat.le_of_ble_eq_true rfl) (by first | omega | decide) (by first | omega | decide) ?_
  refine c_pcheck htr (by first | omega | decide) (by first | omega | decide) ?_
  show sg_W X M 0 0 8 [some (.int (nI i)), some (.int (nI n))] [.int (nI i)]
  refine sg_pop (pc := 8) hC dJ0_checkIndex_df160_8 rfl ?_
  exact sg_vreturn (st := []) (pc := 9) hC hR dJ0_checkIndex_df160_9 hk

set_option maxHeartbeats 4000000 in
set_option maxRecDepth 100000 in
theorem c_lcharAt {l : Launch} {G : sg_G} {d : Nat} {M : sg_M} {kr : Option Value → sg_M → Prop} {kx : String → sg_M → Prop} (htr : l.stackTraces = false) {b u n i c : Nat} {g : Nat → Int32} (hB : M b = some (u, .inl (.byte, n, .inl g))) (hi : i < n) (hn : n ≤ 65536) (hg : g i = nI c) (hc : c < 128) (hk : kr (some (.int (nI c))) M) : sg_Met l G yJ1_charAt_3b067 cJ1_charAt_3b067 2 (some .char) (d + 2) 0 0 [.ref b, .int (nI i)] M kr kx := by
  refine sg_enter [some (.ref b), some (.int (nI i))] (by decide) htr (Nat.le_of_ble_eq_true rfl) rfl ?_
  intro X hC hR
  have hC : sg_C X l G cJ1_charAt_3b067 RJ1 2 (d + 2) := hC
  refine sg_iload_n (pc := 0) (x := nI i) hC dJ1_charAt_3b067_0 rfl ?_
  refine sg_aload_n (pc := 1) (v := .ref b) hC dJ1_charAt_3b067_1 rfl rfl ?_
  refine sg_alen (pc := 2) 1 hC dJ1_charAt_3b067_2 hB rfl ?_
  show sg_W X M 0 0 3 [some (.ref b), some (.int (nI i))] [.int (nI n), .int (nI i)]
  refine sg_callS (pc := 3) (As := [.int (nI i), .int (nI n)]) (rest := []) (mc := 0) (ms := 0) hC tw_622 tw_313 tw_65 tw_314 yd_J0_checkIndex_df160 (by decide) dJ1_charAt_3b067_3 rfl (Nat.le_of_ble_eq_true rfl) (by first | omega | decide) (by first | omega | decide) ?_
  refine c_scheck htr (by first | omega | decide) (by first | omega | decide) ?_
  show sg_W X M 0 0 6 [some (.ref b), some (.int (nI i))] []
  refine sg_aload_n (pc := 6) (v := .ref b) hC dJ1_charAt_3b067_6 rfl rfl ?_
  refine sg_iload_n (pc := 7) (x := nI i) hC dJ1_charAt_3b067_7 rfl ?_
  refine sg_bald (pc := 8) (i := nI i) hC dJ1_charAt_3b067_8 hB (vp_in_nI (by first | omega | decide) (by first | omega | decide)) ?_
  rw [nI_clamp (by first | omega | decide)]
  show sg_W X M 0 0 9 [some (.ref b), some (.int (nI i))] [.int (g i)]
  rw [hg]
  show sg_W X M 0 0 9 [some (.ref b), some (.int (nI i))] [.int (nI c)]
  refine sg_sipush (pc := 9) (nI 255) hC dJ1_charAt_3b067_9 (by decide) ?_
  refine sg_iand (pc := 12) (x := nI c) (y := nI 255) hC dJ1_charAt_3b067_12 ?_
  rw [jb_and (by omega)]
  show sg_W X M 0 0 13 [some (.ref b), some (.int (nI i))] [.int (nI c)]
  refine sg_i2c (pc := 13) (nI c) hC dJ1_charAt_3b067_13 (md_i2c (by first | omega | decide)) ?_
  exact sg_zreturn (st := []) (v := nI c) (pc := 14) (ty := .char) hC hR (jp_c (by first | omega | decide)) dJ1_charAt_3b067_14 hk

set_option maxHeartbeats 4000000 in
set_option maxRecDepth 100000 in
theorem c_charAt {l : Launch} {G : sg_G} {d : Nat} {M : sg_M} {kr : Option Value → sg_M → Prop} {kx : String → sg_M → Prop} (htr : l.stackTraces = false) {t u a : Nat} {w : List Nat} {i : Nat} (hS : st_r t u M a w) (hi : i < w.length) (hk : kr (some (.int (nI (w.getD i 0)))) M) : sg_Met l G yJ0_charAt_5068e cJ0_charAt_5068e 2 (some .char) (d + 3) 0 0 [.ref a, .int (nI i)] M kr kx := by
  refine sg_enter [some (.ref a), some (.int (nI i))] (by decide) htr (Nat.le_of_ble_eq_true rfl) rfl ?_
  intro X hC hR
  have hC : sg_C X l G cJ0_charAt_5068e RJ0 2 (d + 3) := hC
  obtain ⟨b, h, z, g, hA, hB, hN, hG⟩ := id hS
  have hb9 := (hG _ hi).2
  refine sg_aload_n (pc := 0) (v := .ref a) hC dJ0_charAt_5068e_0 rfl rfl ?_
  refine sg_callV (pc := 1) (As := []) (rest := []) (mc := 0) (ms := 0) hC tw_615 tw_616 tw_617 tw_65 tw_618 yd_J0_isLatin1_aae02 (by decide) (ci := 0) rfl dJ0_charAt_5068e_1 hA rfl (Nat.le_of_ble_eq_true rfl) (by first | omega | decide) (by first | omega | decide) ?_
  refine c_isLatin1 htr hS ?_
  show sg_W X M 0 0 4 [some (.ref a), some (.int (nI i))] [.int (nI 1)]
  refine sg_ifN_eq (pc := 4) (a := 1) 16 hC dJ0_charAt_5068e_4 (by decide) (by decide) (fun h1 => absurd h1 (by decide)) (fun _ => ?_)
  refine sg_aload_n (pc := 7) (v := .ref a) hC dJ0_charAt_5068e_7 rfl rfl ?_
  refine sg_get (pc := 8) (a := a) (v := .ref b) 0 hC rfl inw_J0 (by decide) tw_533 dJ0_charAt_5068e_8 hA rfl ?_
  refine sg_iload_n (pc := 11) (x := nI i) hC dJ0_charAt_5068e_11 rfl ?_
  refine sg_callS (pc := 12) (As := [.ref b, .int (nI i)]) (rest := []) (mc := 0) (ms := 0) hC tw_619 tw_620 tw_77 tw_621 yd_J1_charAt_3b067 (by decide) dJ0_charAt_5068e_12 rfl (Nat.le_of_ble_eq_true rfl) (by first | omega | decide) (by first | omega | decide) ?_
  refine c_lcharAt htr hB (by omega) (by omega) (hG _ hi).1 (hG _ hi).2 ?_
  show sg_W X M 0 0 15 [some (.ref a), some (.int (nI i))] [.int (nI (w.getD i 0))]
  exact sg_zreturn (st := []) (v := nI (w.getD i 0)) (pc := 15) (ty := .char) hC hR (jp_c (by first | omega | decide)) dJ0_charAt_5068e_15 hk

/-- the first place of c from i on -/
def jx (l : List Nat) (c : Nat) : Nat → Nat → Option Nat
  | 0, _ => none
  | f + 1, i => if l.length ≤ i then none else if l.getD i 0 = c then some i else jx l c f (i + 1)
theorem jb_eq {a b : Nat} (ha : a < 128) (hb : b < 128) : nI a = nI b ↔ a = b := nI_eq (by omega) (by omega)

set_option maxHeartbeats 4000000 in
theorem c_ixLoop {X : sg_X} {l : Launch} {G : sg_G} {d : Nat} {M : sg_M} {kr : Option Value → sg_M → Prop} {kx : String → sg_M → Prop} {b u c : Nat} {w : List Nat} {g : Nat → Int32} (hC : sg_C X l G cJ1_indexOfChar_4cfef RJ1 6 (d + 0)) (hR : sg_R X yJ1_indexOfChar_4cfef kr kx (some .int)) (hB : M b = some (u, .inl (.byte, w.length, .inl g))) (hN : w.length ≤ 40) (hG : ∀ j, j < w.length → g j = nI (w.getD j 0) ∧ w.getD j 0 < 128) (hc : c < 128) :
    ∀ (f i : Nat), w.length < i + f → (hk : kr (some (.int (md_o (jx w c f i)))) M) → i ≤ w.length → sg_W X M 0 0 7 [some (.ref b), some (.int (nI c)), some (.int (nI 0)), some (.int (nI w.length)), some (.int (nI c)), some (.int (nI i))] [] := by
  intro f
  induction f with
  | zero => intro i hf; omega
  | succ f ih =>
    intro i hf hk hi
    refine sg_iload (pc := 7) (x := nI i) hC dJ1_indexOfChar_4cfef_7 rfl ?_
    refine sg_iload_n (pc := 9) (x := nI w.length) hC dJ1_indexOfChar_4cfef_9 rfl ?_
    refine sg_icmpN_ge (pc := 10) (a := i) (b := w.length) 31 hC dJ1_indexOfChar_4cfef_10 (by decide) (by omega) (by omega) (fun h1 => ?_) (fun h1 => ?_)
    · refine sg_iconst (pc := 31) (-1) hC dJ1_indexOfChar_4cfef_31 (by decide) ?_
      rw [jx, if_pos h1] at hk
      exact sg_ireturn (st := []) (v := -1) (pc := 32) hC hR dJ1_indexOfChar_4cfef_32 hk
    · rw [jx, if_neg (by omega)] at hk
      refine sg_aload_n (pc := 13) (v := .ref b) hC dJ1_indexOfChar_4cfef_13 rfl rfl ?_
      refine sg_iload (pc := 14) (x := nI i) hC dJ1_indexOfChar_4cfef_14 rfl ?_
      refine sg_bald (pc := 16) (i := nI i) hC dJ1_indexOfChar_4cfef_16 hB (vp_in_nI (by omega) (by omega)) ?_
      rw [nI_clamp (by omega), (hG i h1).1]
      have hb9 := (hG i h1).2
      refine sg_iload (pc := 17) (x := nI c) hC dJ1_indexOfChar_4cfef_17 rfl ?_
      refine sg_icmpN_ne (pc := 19) (a := w.getD i 0) (b := c) 25 hC dJ1_indexOfChar_4cfef_19 (by decide) (by omega) (by omega) (fun h2 => ?_) (fun h2 => ?_)
      · rw [if_neg h2] at hk
        refine sg_iincN (pc := 25) (a := i) (b := i + 1) hC dJ1_indexOfChar_4cfef_25 rfl (nI_1 _) (by decide) ?_
        refine sg_goto (pc := 28) 7 hC dJ1_indexOfChar_4cfef_28 (by decide) ?_
        exact ih (i + 1) (by omega) hk (by omega)
      · rw [if_pos h2] at hk
        refine sg_iload (pc := 22) (x := nI i) hC dJ1_indexOfChar_4cfef_22 rfl ?_
        exact sg_ireturn (st := []) (v := nI i) (pc := 24) hC hR dJ1_indexOfChar_4cfef_24 hk

set_option maxHeartbeats 4000000 in
set_option maxRecDepth 100000 in
theorem c_ixChar {l : Launch} {G : sg_G} {d : Nat} {M : sg_M} {kr : Option Value → sg_M → Prop} {kx : String → sg_M → Prop} (htr : l.stackTraces = false) {b u c : Nat} {w : List Nat} {g : Nat → Int32} (hB : M b = some (u, .inl (.byte, w.length, .inl g))) (hN : w.length ≤ 40) (hG : ∀ j, j < w.length → g j = nI (w.getD j 0) ∧ w.getD j 0 < 128) (hc : c < 128) (hk : kr (some (.int (md_o (jx w c (w.length + 1) 0)))) M) : sg_Met l G yJ1_indexOfChar_4cfef cJ1_indexOfChar_4cfef 6 (some .int) (d + 0) 0 0 [.ref b, .int (nI c), .int (nI 0), .int (nI w.length)] M kr kx := by
  refine sg_enter [some (.ref b), some (.int (nI c)), some (.int (nI 0)), some (.int (nI w.length)), none, none] (by decide) htr (Nat.le_of_ble_eq_true rfl) rfl ?_
  intro X hC hR
  have hC : sg_C X l G cJ1_indexOfChar_4cfef RJ1 6 (d + 0) := hC
  refine sg_iload_n (pc := 0) (x := nI c) hC dJ1_indexOfChar_4cfef_0 rfl ?_
  refine sg_i2b (pc := 1) (nI c) hC dJ1_indexOfChar_4cfef_1 (jb_i2b (by first | omega | decide)) ?_
  refine sg_istore (pc := 2) (x := nI c) hC dJ1_indexOfChar_4cfef_2 (by decide) ?_
  show sg_W X M 0 0 4 [some (.ref b), some (.int (nI c)), some (.int (nI 0)), some (.int (nI w.length)), some (.int (nI c)), none] []
  refine sg_iload_n (pc := 4) (x := nI 0) hC dJ1_indexOfChar_4cfef_4 rfl ?_
  refine sg_istore (pc := 5) (x := nI 0) hC dJ1_indexOfChar_4cfef_5 (by decide) ?_
  show sg_W X M 0 0 7 [some (.ref b), some (.int (nI c)), some (.int (nI 0)), some (.int (nI w.length)), some (.int (nI c)), some (.int (nI 0))] []
  exact c_ixLoop hC hR hB hN hG hc (w.length + 1) 0 (by omega) hk (Nat.zero_le _)

set_option maxHeartbeats 4000000 in
set_option maxRecDepth 100000 in
theorem c_canEncI {l : Launch} {G : sg_G} {d : Nat} {M : sg_M} {kr : Option Value → sg_M → Prop} {kx : String → sg_M → Prop} (htr : l.stackTraces = false) {c : Nat} (hc : c < 128) (hk : kr (some (.int (nI 1))) M) : sg_Met l G yJ1_canEncode_9a6ad cJ1_canEncode_9a6ad 1 (some .boolean) (d + 0) 0 0 [.int (nI c)] M kr kx := by
  refine sg_enter [some (.int (nI c))] (by decide) htr (Nat.le_of_ble_eq_true rfl) rfl ?_
  intro X hC hR
  have hC : sg_C X l G cJ1_canEncode_9a6ad RJ1 1 (d + 0) := hC
  refine sg_iload_n (pc := 0) (x := nI c) hC dJ1_canEncode_9a6ad_0 rfl ?_
  refine sg_ifN_lt (pc := 1) (a := c) 15 hC dJ1_canEncode_9a6ad_1 (by decide) (by first | omega | decide) (fun h1 => by exfalso; omega) (fun h1 => ?_)
  refine sg_iload_n (pc := 4) (x := nI c) hC dJ1_canEncode_9a6ad_4 rfl ?_
  refine sg_sipush (pc := 5) (nI 255) hC dJ1_canEncode_9a6ad_5 (by decide) ?_
  refine sg_icmpN_gt (pc := 8) (a := c) (b := 255) 15 hC dJ1_canEncode_9a6ad_8 (by decide) (by first | omega | decide) (by first | omega | decide) (fun h2 => by exfalso; omega) (fun h2 => ?_)
  refine sg_iconst (pc := 11) (nI 1) hC dJ1_canEncode_9a6ad_11 (by decide) ?_
  refine sg_goto (pc := 12) 16 hC dJ1_canEncode_9a6ad_12 (by decide) ?_
  exact sg_zreturn (st := []) (v := nI 1) (pc := 16) (ty := .boolean) hC hR (jp_z (by first | omega | decide)) dJ1_canEncode_9a6ad_16 hk

set_option maxHeartbeats 4000000 in
set_option maxRecDepth 100000 in
theorem c_canEncC {l : Launch} {G : sg_G} {d : Nat} {M : sg_M} {kr : Option Value → sg_M → Prop} {kx : String → sg_M → Prop} (htr : l.stackTraces = false) {c : Nat} (hc : c < 128) (hk : kr (some (.int (nI 1))) M) : sg_Met l G yJ1_canEncode_fc78d cJ1_canEncode_fc78d 1 (some .boolean) (d + 0) 0 0 [.int (nI c)] M kr kx := by
  refine sg_enter [some (.int (nI c))] (by decide) htr (Nat.le_of_ble_eq_true rfl) rfl ?_
  intro X hC hR
  have hC : sg_C X l G cJ1_canEncode_fc78d RJ1 1 (d + 0) := hC
  refine sg_iload_n (pc := 0) (x := nI c) hC dJ1_canEncode_fc78d_0 rfl ?_
  refine sg_sipush (pc := 1) (nI 255) hC dJ1_canEncode_fc78d_1 (by decide) ?_
  refine sg_icmpN_gt (pc := 4) (a := c) (b := 255) 11 hC dJ1_canEncode_fc78d_4 (by decide) (by first | omega | decide) (by first | omega | decide) (fun h1 => by exfalso; omega) (fun h1 => ?_)
  refine sg_iconst (pc := 7) (nI 1) hC dJ1_canEncode_fc78d_7 (by decide) ?_
  refine sg_goto (pc := 8) 12 hC dJ1_canEncode_fc78d_8 (by decide) ?_
  exact sg_zreturn (st := []) (v := nI 1) (pc := 12) (ty := .boolean) hC hR (jp_z (by first | omega | decide)) dJ1_canEncode_fc78d_12 hk

set_option maxHeartbeats 4000000 in
set_option maxRecDepth 100000 in
theorem c_lindexOf {l : Launch} {G : sg_G} {d : Nat} {M : sg_M} {kr : Option Value → sg_M → Prop} {kx : String → sg_M → Prop} (htr : l.stackTraces = false) {b u c : Nat} {w : List Nat} {g : Nat → Int32} (hB : M b = some (u, .inl (.byte, w.length, .inl g))) (hN : w.length ≤ 40) (hG : ∀ j, j < w.length → g j = nI (w.getD j 0) ∧ w.getD j 0 < 128) (hc : c < 128) (hk : kr (some (.int (md_o (jx w c (w.length + 1) 0)))) M) : sg_Met l G yJ1_indexOf_4cfef cJ1_indexOf_4cfef 4 (some .int) (d + 1) 0 0 [.ref b, .int (nI c), .int (nI 0), .int (nI w.length)] M kr kx := by
  refine sg_enter [some (.ref b), some (.int (nI c)), some (.int (nI 0)), some (.int (nI w.length))] (by decide) htr (Nat.le_of_ble_eq_true rfl) rfl ?_
  intro X hC hR
  have hC : sg_C X l G cJ1_indexOf_4cfef RJ1 4 (d + 1) := hC
  refine sg_iload_n (pc := 0) (x := nI c) hC dJ1_indexOf_4cfef_0 rfl ?_
  refine sg_callS (pc := 1) (As := [.int (nI c)]) (rest := []) (mc := 0) (ms := 0) hC tw_660 tw_661 tw_77 tw_662 yd_J1_canEncode_9a6ad (by decide) dJ1_indexOf_4cfef_1 rfl (Nat.le_of_ble_eq_true rfl) (by first | omega | decide) (by first | omega | decide) ?_
  refine c_canEncI htr (by first | omega | decide) ?_
  show sg_W X M 0 0 4 [some (.ref b), some (.int (nI c)), some (.int (nI 0)), some (.int (nI w.length))] [.int (nI 1)]
  refine sg_ifN_ne (pc := 4) (a := 1) 9 hC dJ1_indexOf_4cfef_4 (by decide) (by decide) (fun _ => ?_) (fun h1 => absurd h1 (by decide))
  refine sg_iload_n (pc := 9) (x := nI 0) hC dJ1_indexOf_4cfef_9 rfl ?_
  refine sg_iconst (pc := 10) (nI 0) hC dJ1_indexOf_4cfef_10 (by decide) ?_
  refine sg_mmax (pc := 11) (x := nI 0) (y := nI 0) hC tw_663 tw_242 tw_74 tw_243 dJ1_indexOf_4cfef_11 (by decide) ?_
  rw [ite_self]
  show sg_W X M 0 0 14 [some (.ref b), some (.int (nI c)), some (.int (nI 0)), some (.int (nI w.length))] [.int (nI 0)]
  refine sg_istore_n (pc := 14) (x := nI 0) hC dJ1_indexOf_4cfef_14 (by decide) ?_
  show sg_W X M 0 0 15 [some (.ref b), some (.int (nI c)), some (.int (nI 0)), some (.int (nI w.length))] []
  refine sg_iload_n (pc := 15) (x := nI w.length) hC dJ1_indexOf_4cfef_15 rfl ?_
  refine sg_aload_n (pc := 16) (v := .ref b) hC dJ1_indexOf_4cfef_16 rfl rfl ?_
  refine sg_alen (pc := 17) 1 hC dJ1_indexOf_4cfef_17 hB rfl ?_
  show sg_W X M 0 0 18 [some (.ref b), some (.int (nI c)), some (.int (nI 0)), some (.int (nI w.length))] [.int (nI w.length), .int (nI w.length)]
  refine sg_mmin (pc := 18) (x := nI w.length) (y := nI w.length) hC tw_664 tw_260 tw_74 tw_261 dJ1_indexOf_4cfef_18 (by decide) ?_
  rw [ite_self]
  show sg_W X M 0 0 21 [some (.ref b), some (.int (nI c)), some (.int (nI 0)), some (.int (nI w.length))] [.int (nI w.length)]
  refine sg_istore_n (pc := 21) (x := nI w.length) hC dJ1_indexOf_4cfef_21 (by decide) ?_
  show sg_W X M 0 0 22 [some (.ref b), some (.int (nI c)), some (.int (nI 0)), some (.int (nI w.length))] []
  refine sg_iload_n (pc := 22) (x := nI 0) hC dJ1_indexOf_4cfef_22 rfl ?_
  refine sg_iload_n (pc := 23) (x := nI w.length) hC dJ1_indexOf_4cfef_23 rfl ?_
  refine sg_icmpN_lt (pc := 24) (a := 0) (b := w.length) 29 hC dJ1_indexOf_4cfef_24 (by decide) (by first | omega | decide) (by first | omega | decide) (fun h2 => ?_) (fun h2 => ?_)
  · refine sg_aload_n (pc := 29) (v := .ref b) hC dJ1_indexOf_4cfef_29 rfl rfl ?_
    refine sg_iload_n (pc := 30) (x := nI c) hC dJ1_indexOf_4cfef_30 rfl ?_
    refine sg_iload_n (pc := 31) (x := nI 0) hC dJ1_indexOf_4cfef_31 rfl ?_
    refine sg_iload_n (pc := 32) (x := nI w.length) hC dJ1_indexOf_4cfef_32 rfl ?_
    refine sg_callS (pc := 33) (As := [.ref b, .int (nI c), .int (nI 0), .int (nI w.length)]) (rest := []) (mc := 0) (ms := 0) hC tw_665 tw_666 tw_77 tw_667 yd_J1_indexOfChar_4cfef (by decide) dJ1_indexOf_4cfef_33 rfl (Nat.le_of_ble_eq_true rfl) (by first | omega | decide) (by first | omega | decide) ?_
    refine c_ixChar htr hB hN hG hc ?_
    show sg_W X M 0 0 36 [some (.ref b), some (.int (nI c)), some (.int (nI 0)), some (.int (nI w.length))] [.int (md_o (jx w c (w.length + 1) 0))]
    exact sg_ireturn (st := []) (v := md_o (jx w c (w.length + 1) 0)) (pc := 36) hC hR dJ1_indexOf_4cfef_36 hk
  · refine sg_iconst (pc := 27) (((-1))) hC dJ1_indexOf_4cfef_27 (by decide) ?_
    have e9 : jx w c (w.length + 1) 0 = none := by rw [jx, if_pos (by omega)]
    rw [e9] at hk
    exact sg_ireturn (st := []) (v := ((-1))) (pc := 28) hC hR dJ1_indexOf_4cfef_28 hk

set_option maxHeartbeats 4000000 in
set_option maxRecDepth 100000 in
theorem c_indexOf2 {l : Launch} {G : sg_G} {d : Nat} {M : sg_M} {kr : Option Value → sg_M → Prop} {kx : String → sg_M → Prop} (htr : l.stackTraces = false) {t u a : Nat} {w : List Nat} {c : Nat} (hS : st_r t u M a w) (hc : c < 128) (hk : kr (some (.int (md_o (jx w c (w.length + 1) 0)))) M) : sg_Met l G yJ0_indexOf_7cf53 cJ0_indexOf_7cf53 3 (some .int) (d + 2) 0 0 [.ref a, .int (nI c), .int (nI 0)] M kr kx := by
  refine sg_enter [some (.ref a), some (.int (nI c)), some (.int (nI 0))] (by decide) htr (Nat.le_of_ble_eq_true rfl) rfl ?_
  intro X hC hR
  have hC : sg_C X l G cJ0_indexOf_7cf53 RJ0 3 (d + 2) := hC
  obtain ⟨b, h, z, g, hA, hB, hN, hG⟩ := id hS
  refine sg_aload_n (pc := 0) (v := .ref a) hC dJ0_indexOf_7cf53_0 rfl rfl ?_
  refine sg_callV (pc := 1) (As := []) (rest := []) (mc := 0) (ms := 0) hC tw_615 tw_616 tw_617 tw_65 tw_618 yd_J0_isLatin1_aae02 (by decide) (ci := 0) rfl dJ0_indexOf_7cf53_1 hA rfl (Nat.le_of_ble_eq_true rfl) (by first | omega | decide) (by first | omega | decide) ?_
  refine c_isLatin1 htr hS ?_
  show sg_W X M 0 0 4 [some (.ref a), some (.int (nI c)), some (.int (nI 0))] [.int (nI 1)]
  refine sg_ifN_eq (pc := 4) (a := 1) 23 hC dJ0_indexOf_7cf53_4 (by decide) (by decide) (fun h1 => absurd h1 (by decide)) (fun _ => ?_)
  refine sg_aload_n (pc := 7) (v := .ref a) hC dJ0_indexOf_7cf53_7 rfl rfl ?_
  refine sg_get (pc := 8) (a := a) (v := .ref b) 0 hC rfl inw_J0 (by decide) tw_533 dJ0_indexOf_7cf53_8 hA rfl ?_
  refine sg_iload_n (pc := 11) (x := nI c) hC dJ0_indexOf_7cf53_11 rfl ?_
  refine sg_iload_n (pc := 12) (x := nI 0) hC dJ0_indexOf_7cf53_12 rfl ?_
  refine sg_aload_n (pc := 13) (v := .ref a) hC dJ0_indexOf_7cf53_13 rfl rfl ?_
  refine sg_callV (pc := 14) (As := []) (rest := [.int (nI 0), .int (nI c), .ref b]) (mc := 0) (ms := 0) hC tw_656 tw_482 tw_483 tw_65 tw_484 yd_J0_length_8abf5 (by decide) (ci := 0) rfl dJ0_indexOf_7cf53_14 hA rfl (Nat.le_of_ble_eq_true rfl) (by first | omega | decide) (by first | omega | decide) ?_
  refine c_slen htr hS ?_
  show sg_W X M 0 0 17 [some (.ref a), some (.int (nI c)), some (.int (nI 0))] [.int (nI w.length), .int (nI 0), .int (nI c), .ref b]
  refine sg_callS (pc := 17) (As := [.ref b, .int (nI c), .int (nI 0), .int (nI w.length)]) (rest := []) (mc := 0) (ms := 0) hC tw_657 tw_658 tw_77 tw_659 yd_J1_indexOf_4cfef (by decide) dJ0_indexOf_7cf53_17 rfl (Nat.le_of_ble_eq_true rfl) (by first | omega | decide) (by first | omega | decide) ?_
  refine c_lindexOf htr hB hN hG hc ?_
  show sg_W X M 0 0 20 [some (.ref a), some (.int (nI c)), some (.int (nI 0))] [.int (md_o (jx w c (w.length + 1) 0))]
  refine sg_goto (pc := 20) 36 hC dJ0_indexOf_7cf53_20 (by decide) ?_
  exact sg_ireturn (st := []) (v := md_o (jx w c (w.length + 1) 0)) (pc := 36) hC hR dJ0_indexOf_7cf53_36 hk

set_option maxHeartbeats 4000000 in
set_option maxRecDepth 100000 in
theorem c_indexOf {l : Launch} {G : sg_G} {d : Nat} {M : sg_M} {kr : Option Value → sg_M → Prop} {kx : String → sg_M → Prop} (htr : l.stackTraces = false) {t u a : Nat} {w : List Nat} {c : Nat} (hS : st_r t u M a w) (hc : c < 128) (hk : kr (some (.int (md_o (jx w c (w.length + 1) 0)))) M) : sg_Met l G yJ0_indexOf_0f7a4 cJ0_indexOf_0f7a4 2 (some .int) (d + 3) 0 0 [.ref a, .int (nI c)] M kr kx := by
  refine sg_enter [some (.ref a), some (.int (nI c))] (by decide) htr (Nat.le_of_ble_eq_true rfl) rfl ?_
  intro X hC hR
  have hC : sg_C X l G cJ0_indexOf_0f7a4 RJ0 2 (d + 3) := hC
  obtain ⟨b, h, z, g, hA, hB, hN, hG⟩ := id hS
  refine sg_aload_n (pc := 0) (v := .ref a) hC dJ0_indexOf_0f7a4_0 rfl rfl ?_
  refine sg_iload_n (pc := 1) (x := nI c) hC dJ0_indexOf_0f7a4_1 rfl ?_
  refine sg_iconst (pc := 2) (nI 0) hC dJ0_indexOf_0f7a4_2 (by decide) ?_
  refine sg_callV (pc := 3) (As := [.int (nI c), .int (nI 0)]) (rest := []) (mc := 0) (ms := 0) hC tw_652 tw_653 tw_654 tw_65 tw_655 yd_J0_indexOf_7cf53 (by decide) (ci := 0) rfl dJ0_indexOf_0f7a4_3 hA rfl (Nat.le_of_ble_eq_true rfl) (by first | omega | decide) (by first | omega | decide) ?_
  refine c_indexOf2 htr hS (by first | omega | decide) ?_
  show sg_W X M 0 0 6 [some (.ref a), some (.int (nI c))] [.int (md_o (jx w c (w.length + 1) 0))]
  exact sg_ireturn (st := []) (v := md_o (jx w c (w.length + 1) 0)) (pc := 6) hC hR dJ0_indexOf_0f7a4_6 hk
