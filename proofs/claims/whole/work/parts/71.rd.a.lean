def k_next (tx : List Nat) (s : RS)  : Nat := if tx.length ≤ s.1 then 0 else tx.getD s.1 0
set_option maxHeartbeats 1000000 in
set_option maxRecDepth 100000 in
theorem c_next {l : Launch} {G : sg_G} {d : Nat} {M0 M : sg_M} {kr : Option Value → sg_M → Prop} {kx : String → sg_M → Prop} {x ta b kd : Nat} {tx : List Nat} {s : RS} (htr : l.stackTraces = false) (hI : rd_I G M0 M x ta b kd tx s)   (hk : kr (some (.int (nI (k_next tx s)))) M) : sg_Met l G yX4_next cX4_next 1 (some .char) (d + 4) 0 0 [.ref x] M kr kx := by
  refine sg_enter [some (.ref x)] (by decide) htr (Nat.le_of_ble_eq_true rfl) rfl ?_
  intro X hC hR
  have hC : sg_C X l G cX4_next RX4 1 (d + 4) := hC
  have hn1 := hI.hn.1
  have hn2 := hI.hn.2
  have hcs := hI.hc
  refine sg_aload_n (pc := 0) (v := .ref x) hC dX4_next_0 rfl rfl ?_
  refine rd_get (pc := 1) (i := 1) hC (by decide) tw_551 dX4_next_1 hI rfl ?_
  show sg_W X M 0 0 4 [some (.ref x)] [.int (nI s.1)]
  refine sg_aload_n (pc := 4) (v := .ref x) hC dX4_next_4 rfl rfl ?_
  refine rd_get (pc := 5) (i := 0) hC (by decide) tw_550 dX4_next_5 hI rfl ?_
  show sg_W X M 0 0 8 [some (.ref x)] [.ref ta, .int (nI s.1)]
  obtain ⟨_, _, _, _, hx2, -⟩ := id hI.ht
  refine sg_callV (pc := 8) (As := []) (rest := [.int (nI s.1)]) (mc := 0) (ms := 0) hC tw_610 tw_482 tw_483 tw_65 tw_484 yd_J0_length_8abf5 (by decide) (ci := 0) rfl dX4_next_8 hx2 rfl (Nat.le_of_ble_eq_true rfl) (by first | omega | decide | (have h9 := hcs s.1 (by omega); omega)) (by first | omega | decide | (have h9 := hcs s.1 (by omega); omega)) ?_
  refine c_slen htr hI.ht ?_
  show sg_W X M 0 0 11 [some (.ref x)] [.int (nI tx.length), .int (nI s.1)]
  refine sg_icmpN_ge (pc := 11) (a := s.1) (b := tx.length) 28 hC dX4_next_11 (by decide) (by first | omega | decide | (have h9 := hcs s.1 (by omega); omega)) (by first | omega | decide | (have h9 := hcs s.1 (by omega); omega)) (fun h3 => ?_) (fun h3 => ?_)
  · refine sg_iconst (pc := 28) (nI 0) hC dX4_next_28 (by decide) ?_
    have e9 : k_next tx s = 0 := by rw [k_next]; simp only [if_pos h3]
    rw [e9] at hk
    exact sg_zreturn (st := []) (v := nI 0) (pc := 29) (ty := .char) hC hR (jp_c (by first | omega | decide | (have h9 := hcs s.1 (by omega); omega))) dX4_next_29 hk
  · refine sg_aload_n (pc := 14) (v := .ref x) hC dX4_next_14 rfl rfl ?_
    refine rd_get (pc := 15) (i := 0) hC (by decide) tw_550 dX4_next_15 hI rfl ?_
    show sg_W X M 0 0 18 [some (.ref x)] [.ref ta]
    refine sg_aload_n (pc := 18) (v := .ref x) hC dX4_next_18 rfl rfl ?_
    refine rd_get (pc := 19) (i := 1) hC (by decide) tw_551 dX4_next_19 hI rfl ?_
    show sg_W X M 0 0 22 [some (.ref x)] [.int (nI s.1), .ref ta]
    obtain ⟨_, _, _, _, hx5, -⟩ := id hI.ht
    refine sg_callV (pc := 22) (As := [.int (nI s.1)]) (rest := []) (mc := 0) (ms := 0) hC tw_611 tw_612 tw_613 tw_65 tw_614 yd_J0_charAt_5068e (by decide) (ci := 0) rfl dX4_next_22 hx5 rfl (Nat.le_of_ble_eq_true rfl) (by first | omega | decide | (have h9 := hcs s.1 (by omega); omega)) (by first | omega | decide | (have h9 := hcs s.1 (by omega); omega)) ?_
    refine c_charAt htr hI.ht (by first | omega | decide | (have h9 := hcs s.1 (by omega); omega)) ?_
    show sg_W X M 0 0 25 [some (.ref x)] [.int (nI (tx.getD s.1 0))]
    refine sg_goto (pc := 25) 29 hC dX4_next_25 (by decide) ?_
    have e9 : k_next tx s = tx.getD s.1 0 := by rw [k_next]; simp only [if_neg (Nat.not_le.mpr h3)]
    rw [e9] at hk
    exact sg_zreturn (st := []) (v := nI (tx.getD s.1 0)) (pc := 29) (ty := .char) hC hR (jp_c (by first | omega | decide | (have h9 := hcs s.1 (by omega); omega))) dX4_next_29 hk

theorem k_next_lt {tx : List Nat} {s : RS} (h : ∀ j, j < tx.length → tx.getD j 0 < 128) : k_next tx s < 128 := by
  unfold k_next
  split
  · omega
  · exact h _ (by omega)
theorem k_next_in {tx : List Nat} {s : RS} (h : k_next tx s ≠ 0) : s.1 < tx.length := by
  unfold k_next at h
  split at h
  · exact absurd rfl h
  · omega

def k_accept (tx : List Nat) (s : RS) (c : Nat) : Bool × RS := if (k_next tx s) = c then (true, (s.1 + 1, s.2.1, s.2.2.1, s.2.2.2.1, s.2.2.2.2.1, s.2.2.2.2.2)) else (false, s)
set_option maxHeartbeats 1000000 in
set_option maxRecDepth 100000 in
theorem c_accept {l : Launch} {G : sg_G} {d : Nat} {M0 M : sg_M} {kr : Option Value → sg_M → Prop} {kx : String → sg_M → Prop} {x ta b kd : Nat} {tx : List Nat} {s : RS} (htr : l.stackTraces = false) (hI : rd_I G M0 M x ta b kd tx s) (c : Nat) (hc0 : 0 < c) (hc : c < 128) (hk : ∀ M', rd_I G M0 M' x ta b kd tx (k_accept tx s c).2 → kr (some (.int (md_b (k_accept tx s c).1))) M') : sg_Met l G yX4_accept cX4_accept 2 (some .boolean) (d + 5) 0 0 [.ref x, .int (nI c)] M kr kx := by
  refine sg_enter [some (.ref x), some (.int (nI c))] (by decide) htr (Nat.le_of_ble_eq_true rfl) rfl ?_
  intro X hC hR
  have hC : sg_C X l G cX4_accept RX4 2 (d + 5) := hC
  have hn1 := hI.hn.1
  have hn2 := hI.hn.2
  have hcs := hI.hc
  refine sg_aload_n (pc := 0) (v := .ref x) hC dX4_accept_0 rfl rfl ?_
  refine sg_callV (pc := 1) (As := []) (rest := []) (mc := 0) (ms := 0) hC tw_606 tw_608 tw_2 tw_83 tw_609 yd_X4_next (by decide) (ci := 7) rfl dX4_accept_1 hI.hx rfl (Nat.le_of_ble_eq_true rfl) (by first | omega | decide) (by first | omega | decide) ?_
  refine c_next htr hI   ?_
  have hc1 := k_next_lt (s := s) hcs
  show sg_W X M 0 0 4 [some (.ref x), some (.int (nI c))] [.int (nI ((k_next tx s)))]
  refine sg_iload_n (pc := 4) (x := nI c) hC dX4_accept_4 rfl ?_
  refine sg_icmpN_eq (pc := 5) (a := (k_next tx s)) (b := c) 10 hC dX4_accept_5 (by decide) (by first | omega | decide) (by first | omega | decide) (fun h2 => ?_) (fun h2 => ?_)
  · refine sg_aload_n (pc := 10) (v := .ref x) hC dX4_accept_10 rfl rfl ?_
    refine sg_dup (pc := 11) hC dX4_accept_11 rfl ?_
    refine rd_get (pc := 12) (i := 1) hC (by decide) tw_551 dX4_accept_12 hI rfl ?_
    show sg_W X M 0 0 15 [some (.ref x), some (.int (nI c))] [.int (nI s.1), .ref x]
    refine sg_iconst (pc := 15) (nI 1) hC dX4_accept_15 (by decide) ?_
    refine sg_iaddN (pc := 16) (a := s.1) (b := 1) hC dX4_accept_16 ?_
    refine rd_put1 (pc := 17) (v := s.1 + 1) hC tw_551 dX4_accept_17 hI (by have h9 := k_next_in (tx := tx) (s := s) (by omega); omega) (fun M3 hI => ?_)
    have hI : rd_I G M0 M3 x ta b kd tx ((s.1 + 1, s.2.1, s.2.2.1, s.2.2.2.1, s.2.2.2.2.1, s.2.2.2.2.2)) := hI
    show sg_W X M3 0 0 20 [some (.ref x), some (.int (nI c))] []
    refine sg_iconst (pc := 20) (nI 1) hC dX4_accept_20 (by decide) ?_
    have e9 : k_accept tx s c = (true, (s.1 + 1, s.2.1, s.2.2.1, s.2.2.2.1, s.2.2.2.2.1, s.2.2.2.2.2)) := by rw [k_accept]; simp only [if_pos h2]
    rw [e9] at hk
    exact sg_zreturn (st := []) (v := md_b true) (pc := 21) (ty := .boolean) hC hR (md_narb _) dX4_accept_21 (hk M3 hI)
  · refine sg_iconst (pc := 8) (nI 0) hC dX4_accept_8 (by decide) ?_
    have e9 : k_accept tx s c = (false, s) := by rw [k_accept]; simp only [if_neg h2]
    rw [e9] at hk
    exact sg_zreturn (st := []) (v := md_b false) (pc := 9) (ty := .boolean) hC hR (md_narb _) dX4_accept_9 (hk M hI)

def k_acceptW (tx : List Nat) (s : RS) (c : Nat) (w : Nat) : Bool × RS := if (k_accept tx s c).1 = true then (true, (((k_accept tx s c).2).1, ((k_accept tx s c).2).2.1, w, ((k_accept tx s c).2).2.2.2.1, ((k_accept tx s c).2).2.2.2.2.1, ((k_accept tx s c).2).2.2.2.2.2)) else (false, (k_accept tx s c).2)
set_option maxHeartbeats 1000000 in
set_option maxRecDepth 100000 in
theorem c_acceptW {l : Launch} {G : sg_G} {d : Nat} {M0 M : sg_M} {kr : Option Value → sg_M → Prop} {kx : String → sg_M → Prop} {x ta b kd : Nat} {tx : List Nat} {s : RS} (htr : l.stackTraces = false) (hI : rd_I G M0 M x ta b kd tx s) (c : Nat) (w : Nat) (hc0 : 0 < c) (hc : c < 128) (hk : ∀ M', rd_I G M0 M' x ta b kd tx (k_acceptW tx s c w).2 → kr (some (.int (md_b (k_acceptW tx s c w).1))) M') : sg_Met l G yX4_acceptWildcard cX4_acceptWildcard 3 (some .boolean) (d + 6) 0 0 [.ref x, .int (nI c), .int (nI w)] M kr kx := by
  refine sg_enter [some (.ref x), some (.int (nI c)), some (.int (nI w))] (by decide) htr (Nat.le_of_ble_eq_true rfl) rfl ?_
  intro X hC hR
  have hC : sg_C X l G cX4_acceptWildcard RX4 3 (d + 6) := hC
  have hn1 := hI.hn.1
  have hn2 := hI.hn.2
  have hcs := hI.hc
  refine sg_aload_n (pc := 0) (v := .ref x) hC dX4_acceptWildcard_0 rfl rfl ?_
  refine sg_iload_n (pc := 1) (x := nI c) hC dX4_acceptWildcard_1 rfl ?_
  refine sg_callV (pc := 2) (As := [.int (nI c)]) (rest := []) (mc := 0) (ms := 0) hC tw_626 tw_628 tw_3 tw_83 tw_629 yd_X4_accept (by decide) (ci := 7) rfl dX4_acceptWildcard_2 hI.hx rfl (Nat.le_of_ble_eq_true rfl) (by first | omega | decide) (by first | omega | decide) ?_
  refine c_accept htr hI c (by first | omega | decide) (by first | omega | decide) (fun M1 hI => ?_)
  have hI : rd_I G M0 M1 x ta b kd tx ((k_accept tx s c).2) := hI
  show sg_W X M1 0 0 5 [some (.ref x), some (.int (nI c)), some (.int (nI w))] [.int (md_b ((k_accept tx s c).1))]
  refine sg_ifB_ne (pc := 5) (b := (k_accept tx s c).1) 10 hC dX4_acceptWildcard_5 (by decide) (fun h2 => ?_) (fun h2 => ?_)
  · refine sg_aload_n (pc := 10) (v := .ref x) hC dX4_acceptWildcard_10 rfl rfl ?_
    refine sg_iload_n (pc := 11) (x := nI w) hC dX4_acceptWildcard_11 rfl ?_
    refine rd_put4 (pc := 12) (v := w) hC tw_554 dX4_acceptWildcard_12 hI (fun M3 hI => ?_)
    have hI : rd_I G M0 M3 x ta b kd tx ((((k_accept tx s c).2).1, ((k_accept tx s c).2).2.1, w, ((k_accept tx s c).2).2.2.2.1, ((k_accept tx s c).2).2.2.2.2.1, ((k_accept tx s c).2).2.2.2.2.2)) := hI
    show sg_W X M3 0 0 15 [some (.ref x), some (.int (nI c)), some (.int (nI w))] []
    refine sg_iconst (pc := 15) (nI 1) hC dX4_acceptWildcard_15 (by decide) ?_
    have e9 : k_acceptW tx s c w = (true, (((k_accept tx s c).2).1, ((k_accept tx s c).2).2.1, w, ((k_accept tx s c).2).2.2.2.1, ((k_accept tx s c).2).2.2.2.2.1, ((k_accept tx s c).2).2.2.2.2.2)) := by rw [k_acceptW]; simp only [if_pos h2]
    rw [e9] at hk
    exact sg_zreturn (st := []) (v := md_b true) (pc := 16) (ty := .boolean) hC hR (md_narb _) dX4_acceptWildcard_16 (hk M3 hI)
  · refine sg_iconst (pc := 8) (nI 0) hC dX4_acceptWildcard_8 (by decide) ?_
    have e9 : k_acceptW tx s c w = (false, (k_accept tx s c).2) := by rw [k_acceptW]; simp only [if_neg (ts9 h2)]
    rw [e9] at hk
    exact sg_zreturn (st := []) (v := md_b false) (pc := 9) (ty := .boolean) hC hR (md_narb _) dX4_acceptWildcard_9 (hk M1 hI)

def k_readLabel (tx : List Nat) (s : RS)  : Bool × RS := if (k_next tx s) < 97 then (false, s) else if (k_next tx s) ≤ 105 then (true, (s.1 + 1, s.2.1 ++ [(k_next tx s)], s.2.2.1, s.2.2.2.1, s.2.2.2.2.1, s.2.2.2.2.2)) else (false, s)
set_option maxHeartbeats 1000000 in
set_option maxRecDepth 100000 in
theorem c_readLabel {l : Launch} {G : sg_G} {d : Nat} {M0 M : sg_M} {kr : Option Value → sg_M → Prop} {kx : String → sg_M → Prop} {x ta b kd : Nat} {tx : List Nat} {s : RS} (htr : l.stackTraces = false) (hI : rd_I G M0 M x ta b kd tx s)  (hl : s.2.1.length < 16) (hk : ∀ M', rd_I G M0 M' x ta b kd tx (k_readLabel tx s).2 → kr (some (.int (md_b (k_readLabel tx s).1))) M') : sg_Met l G yX4_readLabel cX4_readLabel 2 (some .boolean) (d + 5) 0 0 [.ref x] M kr kx := by
  refine sg_enter [some (.ref x), none] (by decide) htr (Nat.le_of_ble_eq_true rfl) rfl ?_
  intro X hC hR
  have hC : sg_C X l G cX4_readLabel RX4 2 (d + 5) := hC
  have hn1 := hI.hn.1
  have hn2 := hI.hn.2
  have hcs := hI.hc
  refine sg_aload_n (pc := 0) (v := .ref x) hC dX4_readLabel_0 rfl rfl ?_
  refine sg_callV (pc := 1) (As := []) (rest := []) (mc := 0) (ms := 0) hC tw_606 tw_608 tw_2 tw_83 tw_609 yd_X4_next (by decide) (ci := 7) rfl dX4_readLabel_1 hI.hx rfl (Nat.le_of_ble_eq_true rfl) (by first | omega | decide) (by first | omega | decide) ?_
  refine c_next htr hI   ?_
  have hc1 := k_next_lt (s := s) hcs
  show sg_W X M 0 0 4 [some (.ref x), none] [.int (nI ((k_next tx s)))]
  refine sg_istore_n (pc := 4) (x := nI ((k_next tx s))) hC dX4_readLabel_4 (by decide) ?_
  show sg_W X M 0 0 5 [some (.ref x), some (.int (nI ((k_next tx s))))] []
  refine sg_iload_n (pc := 5) (x := nI ((k_next tx s))) hC dX4_readLabel_5 rfl ?_
  refine sg_bipush (pc := 6) (nI 97) hC dX4_readLabel_6 (by decide) ?_
  refine sg_icmpN_lt (pc := 8) (a := (k_next tx s)) (b := 97) 17 hC dX4_readLabel_8 (by decide) (by first | omega | decide) (by first | omega | decide) (fun h2 => ?_) (fun h2 => ?_)
  · refine sg_iconst (pc := 17) (nI 0) hC dX4_readLabel_17 (by decide) ?_
    have e9 : k_readLabel tx s = (false, s) := by rw [k_readLabel]; simp only [if_pos h2]
    rw [e9] at hk
    exact sg_zreturn (st := []) (v := md_b false) (pc := 18) (ty := .boolean) hC hR (md_narb _) dX4_readLabel_18 (hk M hI)
  · refine sg_iload_n (pc := 11) (x := nI ((k_next tx s))) hC dX4_readLabel_11 rfl ?_
    refine sg_bipush (pc := 12) (nI 105) hC dX4_readLabel_12 (by decide) ?_
    refine sg_icmpN_le (pc := 14) (a := (k_next tx s)) (b := 105) 19 hC dX4_readLabel_14 (by decide) (by first | omega | decide) (by first | omega | decide) (fun h3 => ?_) (fun h3 => ?_)
    · refine sg_aload_n (pc := 19) (v := .ref x) hC dX4_readLabel_19 rfl rfl ?_
      refine rd_get (pc := 20) (i := 3) hC (by decide) tw_553 dX4_readLabel_20 hI rfl ?_
      show sg_W X M 0 0 23 [some (.ref x), some (.int (nI ((k_next tx s))))] [.ref b]
      refine sg_iload_n (pc := 23) (x := nI ((k_next tx s))) hC dX4_readLabel_23 rfl ?_
      obtain ⟨_, _, _, hx4, -⟩ := id hI.hb
      refine sg_callV (pc := 24) (As := [.int (nI ((k_next tx s)))]) (rest := []) (mc := 0) (ms := 0) hC tw_642 tw_224 tw_225 tw_64 tw_226 yd_J4_append_cf468 (by decide) (ci := 1) rfl dX4_readLabel_24 hx4 rfl (Nat.le_of_ble_eq_true rfl) (by first | omega | decide) (by first | omega | decide) ?_
      refine c_sbAppC htr hI.hb (by decide) (by decide) (by decide) (by omega) (by omega) (fun M5 hs6 hf7 => ?_)
      have hI := hI.bld hs6 hf7
      have hI : rd_I G M0 M5 x ta b kd tx ((s.1, s.2.1 ++ [(k_next tx s)], s.2.2.1, s.2.2.2.1, s.2.2.2.2.1, s.2.2.2.2.2)) := hI
      show sg_W X M5 0 0 27 [some (.ref x), some (.int (nI ((k_next tx s))))] [.ref b]
      refine sg_pop (pc := 27) hC dX4_readLabel_27 rfl ?_
      refine sg_aload_n (pc := 28) (v := .ref x) hC dX4_readLabel_28 rfl rfl ?_
      refine sg_dup (pc := 29) hC dX4_readLabel_29 rfl ?_
      refine rd_get (pc := 30) (i := 1) hC (by decide) tw_551 dX4_readLabel_30 hI rfl ?_
      show sg_W X M5 0 0 33 [some (.ref x), some (.int (nI ((k_next tx s))))] [.int (nI s.1), .ref x]
      refine sg_iconst (pc := 33) (nI 1) hC dX4_readLabel_33 (by decide) ?_
      refine sg_iaddN (pc := 34) (a := s.1) (b := 1) hC dX4_readLabel_34 ?_
      refine rd_put1 (pc := 35) (v := s.1 + 1) hC tw_551 dX4_readLabel_35 hI (by have h9 := k_next_in (tx := tx) (s := s) (by omega); omega) (fun M8 hI => ?_)
      have hI : rd_I G M0 M8 x ta b kd tx ((s.1 + 1, s.2.1 ++ [(k_next tx s)], s.2.2.1, s.2.2.2.1, s.2.2.2.2.1, s.2.2.2.2.2)) := hI
      show sg_W X M8 0 0 38 [some (.ref x), some (.int (nI ((k_next tx s))))] []
      refine sg_iconst (pc := 38) (nI 1) hC dX4_readLabel_38 (by decide) ?_
      have e9 : k_readLabel tx s = (true, (s.1 + 1, s.2.1 ++ [(k_next tx s)], s.2.2.1, s.2.2.2.1, s.2.2.2.2.1, s.2.2.2.2.2)) := by rw [k_readLabel]; simp only [if_neg (Nat.not_lt.mpr h2), if_pos h3]
      rw [e9] at hk
      exact sg_zreturn (st := []) (v := md_b true) (pc := 39) (ty := .boolean) hC hR (md_narb _) dX4_readLabel_39 (hk M8 hI)
    · refine sg_iconst (pc := 17) (nI 0) hC dX4_readLabel_17 (by decide) ?_
      have e9 : k_readLabel tx s = (false, s) := by rw [k_readLabel]; simp only [if_neg (Nat.not_lt.mpr h2), if_neg (Nat.not_le.mpr h3)]
      rw [e9] at hk
      exact sg_zreturn (st := []) (v := md_b false) (pc := 18) (ty := .boolean) hC hR (md_narb _) dX4_readLabel_18 (hk M hI)

theorem k_accept_b (tx : List Nat) (s : RS) (c : Nat) : (k_accept tx s c).2.2 = s.2 := by unfold k_accept; split <;> rfl
theorem k_acceptW_b (tx : List Nat) (s : RS) (c w : Nat) : (k_acceptW tx s c w).2.2.1 = s.2.1 := by
  unfold k_acceptW
  split
  · show (k_accept tx s c).2.2.1 = s.2.1
    rw [k_accept_b]
  · show (k_accept tx s c).2.2.1 = s.2.1
    rw [k_accept_b]
theorem k_readLabel_b (tx : List Nat) (s : RS) : (k_readLabel tx s).2.2.1.length ≤ s.2.1.length + 1 := by
  unfold k_readLabel
  repeat' split
  all_goals first | (show s.2.1.length ≤ _; omega) | (show (s.2.1 ++ [_]).length ≤ _; simp)
theorem k_readLabel_t {tx : List Nat} {s : RS} (h : (k_readLabel tx s).1 = true) : (k_readLabel tx s).2.2.1.length = s.2.1.length + 1 := by
  unfold k_readLabel at h ⊢
  repeat' split at h
  all_goals first | cases h | skip
  all_goals (rename_i h1 h2; rw [if_neg h1, if_pos h2]; show (s.2.1 ++ [_]).length = _; simp)

def k_readPath (tx : List Nat) (s : RS)  : Bool × RS := if (k_accept tx s 47).1 = true then if (k_acceptW tx ((k_accept tx s 47).2) 42 1).1 = true then (true, (k_acceptW tx ((k_accept tx s 47).2) 42 1).2) else if (k_acceptW tx ((k_acceptW tx ((k_accept tx s 47).2) 42 1).2) 45 2).1 = true then (true, (k_acceptW tx ((k_acceptW tx ((k_accept tx s 47).2) 42 1).2) 45 2).2) else if (k_readLabel tx ((k_acceptW tx ((k_acceptW tx ((k_accept tx s 47).2) 42 1).2) 45 2).2)).1 = true then if (k_accept tx ((k_readLabel tx ((k_acceptW tx ((k_acceptW tx ((k_accept tx s 47).2) 42 1).2) 45 2).2)).2) 47).1 = true then if (k_acceptW tx ((k_accept tx ((k_readLabel tx ((k_acceptW tx ((k_acceptW tx ((k_accept tx s 47).2) 42 1).2) 45 2).2)).2) 47).2) 42 1).1 = true then (true, (k_acceptW tx ((k_accept tx ((k_readLabel tx ((k_acceptW tx ((k_acceptW tx ((k_accept tx s 47).2) 42 1).2) 45 2).2)).2) 47).2) 42 1).2) else if (k_acceptW tx ((k_acceptW tx ((k_accept tx ((k_readLabel tx ((k_acceptW tx ((k_acceptW tx ((k_accept tx s 47).2) 42 1).2) 45 2).2)).2) 47).2) 42 1).2) 45 2).1 = true then (true, (k_acceptW tx ((k_acceptW tx ((k_accept tx ((k_readLabel tx ((k_acceptW tx ((k_acceptW tx ((k_accept tx s 47).2) 42 1).2) 45 2).2)).2) 47).2) 42 1).2) 45 2).2) else if (k_readLabel tx ((k_acceptW tx ((k_acceptW tx ((k_accept tx ((k_readLabel tx ((k_acceptW tx ((k_acceptW tx ((k_accept tx s 47).2) 42 1).2) 45 2).2)).2) 47).2) 42 1).2) 45 2).2)).1 = true then if (k_accept tx ((k_readLabel tx ((k_acceptW tx ((k_acceptW tx ((k_accept tx ((k_readLabel tx ((k_acceptW tx ((k_acceptW tx ((k_accept tx s 47).2) 42 1).2) 45 2).2)).2) 47).2) 42 1).2) 45 2).2)).2) 47).1 = true then if (k_acceptW tx ((k_accept tx ((k_readLabel tx ((k_acceptW tx ((k_acceptW tx ((k_accept tx ((k_readLabel tx ((k_acceptW tx ((k_acceptW tx ((k_accept tx s 47).2) 42 1).2) 45 2).2)).2) 47).2) 42 1).2) 45 2).2)).2) 47).2) 42 1).1 = true then (true, (k_acceptW tx ((k_accept tx ((k_readLabel tx ((k_acceptW tx ((k_acceptW tx ((k_accept tx ((k_readLabel tx ((k_acceptW tx ((k_acceptW tx ((k_accept tx s 47).2) 42 1).2) 45 2).2)).2) 47).2) 42 1).2) 45 2).2)).2) 47).2) 42 1).2) else if (k_acceptW tx ((k_acceptW tx ((k_accept tx ((k_readLabel tx ((k_acceptW tx ((k_acceptW tx ((k_accept tx ((k_readLabel tx ((k_acceptW tx ((k_acceptW tx ((k_accept tx s 47).2) 42 1).2) 45 2).2)).2) 47).2) 42 1).2) 45 2).2)).2) 47).2) 42 1).2) 45 2).1 = true then (true, (k_acceptW tx ((k_acceptW tx ((k_accept tx ((k_readLabel tx ((k_acceptW tx ((k_acceptW tx ((k_accept tx ((k_readLabel tx ((k_acceptW tx ((k_acceptW tx ((k_accept tx s 47).2) 42 1).2) 45 2).2)).2) 47).2) 42 1).2) 45 2).2)).2) 47).2) 42 1).2) 45 2).2) else if (k_readLabel tx ((k_acceptW tx ((k_acceptW tx ((k_accept tx ((k_readLabel tx ((k_acceptW tx ((k_acceptW tx ((k_accept tx ((k_readLabel tx ((k_acceptW tx ((k_acceptW tx ((k_accept tx s 47).2) 42 1).2) 45 2).2)).2) 47).2) 42 1).2) 45 2).2)).2) 47).2) 42 1).2) 45 2).2)).1 = true then (true, (k_readLabel tx ((k_acceptW tx ((k_acceptW tx ((k_accept tx ((k_readLabel tx ((k_acceptW tx ((k_acceptW tx ((k_accept tx ((k_readLabel tx ((k_acceptW tx ((k_acceptW tx ((k_accept tx s 47).2) 42 1).2) 45 2).2)).2) 47).2) 42 1).2) 45 2).2)).2) 47).2) 42 1).2) 45 2).2)).2) else (false, (k_readLabel tx ((k_acceptW tx ((k_acceptW tx ((k_accept tx ((k_readLabel tx ((k_acceptW tx ((k_acceptW tx ((k_accept tx ((k_readLabel tx ((k_acceptW tx ((k_acceptW tx ((k_accept tx s 47).2) 42 1).2) 45 2).2)).2) 47).2) 42 1).2) 45 2).2)).2) 47).2) 42 1).2) 45 2).2)).2) else (true, (k_accept tx ((k_readLabel tx ((k_acceptW tx ((k_acceptW tx ((k_accept tx ((k_readLabel tx ((k_acceptW tx ((k_acceptW tx ((k_accept tx s 47).2) 42 1).2) 45 2).2)).2) 47).2) 42 1).2) 45 2).2)).2) 47).2) else (false, (k_readLabel tx ((k_acceptW tx ((k_acceptW tx ((k_accept tx ((k_readLabel tx ((k_acceptW tx ((k_acceptW tx ((k_accept tx s 47).2) 42 1).2) 45 2).2)).2) 47).2) 42 1).2) 45 2).2)).2) else (true, (k_accept tx ((k_readLabel tx ((k_acceptW tx ((k_acceptW tx ((k_accept tx s 47).2) 42 1).2) 45 2).2)).2) 47).2) else (false, (k_readLabel tx ((k_acceptW tx ((k_acceptW tx ((k_accept tx s 47).2) 42 1).2) 45 2).2)).2) else (false, (k_accept tx s 47).2)
set_option maxHeartbeats 1000000 in
set_option maxRecDepth 100000 in
theorem c_readPath {l : Launch} {G : sg_G} {d : Nat} {M0 M : sg_M} {kr : Option Value → sg_M → Prop} {kx : String → sg_M → Prop} {x ta b kd : Nat} {tx : List Nat} {s : RS} (htr : l.stackTraces = false) (hI : rd_I G M0 M x ta b kd tx s)  (hl : s.2.1.length = 0) (hk : ∀ M', rd_I G M0 M' x ta b kd tx (k_readPath tx s).2 → kr (some (.int (md_b (k_readPath tx s).1))) M') : sg_Met l G yX4_readPath cX4_readPath 2 (some .boolean) (d + 7) 0 0 [.ref x] M kr kx := by
  refine sg_enter [some (.ref x), none] (by decide) htr (Nat.le_of_ble_eq_true rfl) rfl ?_
  intro X hC hR
  have hC : sg_C X l G cX4_readPath RX4 2 (d + 7) := hC
  have hn1 := hI.hn.1
  have hn2 := hI.hn.2
  have hcs := hI.hc
  refine sg_iconst (pc := 0) (nI 0) hC dX4_readPath_0 (by decide) ?_
  refine sg_istore_n (pc := 1) (x := nI 0) hC dX4_readPath_1 (by decide) ?_
  show sg_W X M 0 0 2 [some (.ref x), some (.int (nI 0))] []
  refine sg_iload_n (pc := 2) (x := nI 0) hC dX4_readPath_2 rfl ?_
  refine sg_iconst (pc := 3) (nI 3) hC dX4_readPath_3 (by decide) ?_
  refine sg_icmpN_ge (pc := 4) (a := 0) (b := 3) 63 hC dX4_readPath_4 (by decide) (by decide) (by decide) (fun h1 => absurd h1 (by decide)) (fun _ => ?_)
  refine sg_aload_n (pc := 7) (v := .ref x) hC dX4_readPath_7 rfl rfl ?_
  refine sg_bipush (pc := 8) (nI 47) hC dX4_readPath_8 (by decide) ?_
  refine sg_callV (pc := 10) (As := [.int (nI 47)]) (rest := []) (mc := 0) (ms := 0) hC tw_626 tw_628 tw_3 tw_83 tw_629 yd_X4_accept (by decide) (ci := 7) rfl dX4_readPath_10 hI.hx rfl (Nat.le_of_ble_eq_true rfl) (by first | omega | decide) (by first | omega | decide) ?_
  refine c_accept htr hI 47 (by first | omega | decide) (by first | omega | decide) (fun M2 hI => ?_)
  have hI : rd_I G M0 M2 x ta b kd tx ((k_accept tx s 47).2) := hI
  have hl3 : ((k_accept tx s 47).2).2.1 = s.2.1 := congrArg Prod.fst (k_accept_b tx s 47)
  have hl4 : ((k_accept tx s 47).2).2.1.length = s.2.1.length := by rw [hl3]
  show sg_W X M2 0 0 13 [some (.ref x), some (.int (nI 0))] [.int (md_b ((k_accept tx s 47).1))]
  refine sg_ifB_ne (pc := 13) (b := (k_accept tx s 47).1) 26 hC dX4_readPath_13 (by decide) (fun h5 => ?_) (fun h5 => ?_)
  · refine sg_aload_n (pc := 26) (v := .ref x) hC dX4_readPath_26 rfl rfl ?_
    refine sg_bipush (pc := 27) (nI 42) hC dX4_readPath_27 (by decide) ?_
    refine sg_iconst (pc := 29) (nI 1) hC dX4_readPath_29 (by decide) ?_
    refine sg_callV (pc := 30) (As := [.int (nI 42), .int (nI 1)]) (rest := []) (mc := 0) (ms := 0) hC tw_634 tw_636 tw_5 tw_83 tw_637 yd_X4_acceptWildcard (by decide) (ci := 7) rfl dX4_readPath_30 hI.hx rfl (Nat.le_of_ble_eq_true rfl) (by first | omega | decide) (by first | omega | decide) ?_
    refine c_acceptW htr hI 42 1 (by first | omega | decide) (by first | omega | decide) (fun M6 hI => ?_)
    have hI : rd_I G M0 M6 x ta b kd tx ((k_acceptW tx ((k_accept tx s 47).2) 42 1).2) := hI
    have hl7 : ((k_acceptW tx ((k_accept tx s 47).2) 42 1).2).2.1 = ((k_accept tx s 47).2).2.1 := k_acceptW_b tx ((k_accept tx s 47).2) 42 1
    have hl8 : ((k_acceptW tx ((k_accept tx s 47).2) 42 1).2).2.1.length = ((k_accept tx s 47).2).2.1.length := by rw [hl7]
    show sg_W X M6 0 0 33 [some (.ref x), some (.int (nI 0))] [.int (md_b ((k_acceptW tx ((k_accept tx s 47).2) 42 1).1))]
    refine sg_ifB_ne (pc := 33) (b := (k_acceptW tx ((k_accept tx s 47).2) 42 1).1) 46 hC dX4_readPath_33 (by decide) (fun h9 => ?_) (fun h9 => ?_)
    · refine sg_iconst (pc := 46) (nI 1) hC dX4_readPath_46 (by decide) ?_
      have e9 : k_readPath tx s = (true, (k_acceptW tx ((k_accept tx s 47).2) 42 1).2) := by rw [k_readPath]; simp only [if_pos h5, if_pos h9]
      rw [e9] at hk
      exact sg_zreturn (st := []) (v := md_b true) (pc := 47) (ty := .boolean) hC hR (md_narb _) dX4_readPath_47 (hk M6 hI)
    · refine sg_aload_n (pc := 36) (v := .ref x) hC dX4_readPath_36 rfl rfl ?_
      refine sg_bipush (pc := 37) (nI 45) hC dX4_readPath_37 (by decide) ?_
      refine sg_iconst (pc := 39) (nI 2) hC dX4_readPath_39 (by decide) ?_
      refine sg_callV (pc := 40) (As := [.int (nI 45), .int (nI 2)]) (rest := []) (mc := 0) (ms := 0) hC tw_634 tw_636 tw_5 tw_83 tw_637 yd_X4_acceptWildcard (by decide) (ci := 7) rfl dX4_readPath_40 hI.hx rfl (Nat.le_of_ble_eq_true rfl) (by first | omega | decide) (by first | omega | decide) ?_
      refine c_acceptW htr hI 45 2 (by first | omega | decide) (by first | omega | decide) (fun M10 hI => ?_)
      have hI : rd_I G M0 M10 x ta b kd tx ((k_acceptW tx ((k_acceptW tx ((k_accept tx s 47).2) 42 1).2) 45 2).2) := hI
      have hl11 : ((k_acceptW tx ((k_acceptW tx ((k_accept tx s 47).2) 42 1).2) 45 2).2).2.1 = ((k_acceptW tx ((k_accept tx s 47).2) 42 1).2).2.1 := k_acceptW_b tx ((k_acceptW tx ((k_accept tx s 47).2) 42 1).2) 45 2
      have hl12 : ((k_acceptW tx ((k_acceptW tx ((k_accept tx s 47).2) 42 1).2) 45 2).2).2.1.length = ((k_acceptW tx ((k_accept tx s 47).2) 42 1).2).2.1.length := by rw [hl11]
      show sg_W X M10 0 0 43 [some (.ref x), some (.int (nI 0))] [.int (md_b ((k_acceptW tx ((k_acceptW tx ((k_accept tx s 47).2) 42 1).2) 45 2).1))]
      refine sg_ifB_eq (pc := 43) (b := (k_acceptW tx ((k_acceptW tx ((k_accept tx s 47).2) 42 1).2) 45 2).1) 48 hC dX4_readPath_43 (by decide) (fun h13 => ?_) (fun h13 => ?_)
      · refine sg_aload_n (pc := 48) (v := .ref x) hC dX4_readPath_48 rfl rfl ?_
        refine sg_callV (pc := 49) (As := []) (rest := []) (mc := 0) (ms := 0) hC tw_638 tw_640 tw_6 tw_83 tw_641 yd_X4_readLabel (by decide) (ci := 7) rfl dX4_readPath_49 hI.hx rfl (Nat.le_of_ble_eq_true rfl) (by first | omega | decide) (by first | omega | decide) ?_
        refine c_readLabel htr hI  (by first | omega | decide) (fun M14 hI => ?_)
        have hI : rd_I G M0 M14 x ta b kd tx ((k_readLabel tx ((k_acceptW tx ((k_acceptW tx ((k_accept tx s 47).2) 42 1).2) 45 2).2)).2) := hI
        have hl15 : ((k_readLabel tx ((k_acceptW tx ((k_acceptW tx ((k_accept tx s 47).2) 42 1).2) 45 2).2)).2).2.1.length ≤ ((k_acceptW tx ((k_acceptW tx ((k_accept tx s 47).2) 42 1).2) 45 2).2).2.1.length + 1 := k_readLabel_b tx ((k_acceptW tx ((k_acceptW tx ((k_accept tx s 47).2) 42 1).2) 45 2).2)
        show sg_W X M14 0 0 52 [some (.ref x), some (.int (nI 0))] [.int (md_b ((k_readLabel tx ((k_acceptW tx ((k_acceptW tx ((k_accept tx s 47).2) 42 1).2) 45 2).2)).1))]
        refine sg_ifB_ne (pc := 52) (b := (k_readLabel tx ((k_acceptW tx ((k_acceptW tx ((k_accept tx s 47).2) 42 1).2) 45 2).2)).1) 57 hC dX4_readPath_52 (by decide) (fun h16 => ?_) (fun h16 => ?_)
        · refine sg_iincN (pc := 57) (a := 0) (b := 1) hC dX4_readPath_57 rfl (nI_1 _) (by decide) ?_
          show sg_W X M14 0 0 60 [some (.ref x), some (.int (nI 1))] []
          refine sg_goto (pc := 60) 2 hC dX4_readPath_60 (by decide) ?_
          refine sg_iload_n (pc := 2) (x := nI 1) hC dX4_readPath_2 rfl ?_
          refine sg_iconst (pc := 3) (nI 3) hC dX4_readPath_3 (by decide) ?_
          refine sg_icmpN_ge (pc := 4) (a := 1) (b := 3) 63 hC dX4_readPath_4 (by decide) (by decide) (by decide) (fun h17 => absurd h17 (by decide)) (fun _ => ?_)
          refine sg_aload_n (pc := 7) (v := .ref x) hC dX4_readPath_7 rfl rfl ?_
          refine sg_bipush (pc := 8) (nI 47) hC dX4_readPath_8 (by decide) ?_
          refine sg_callV (pc := 10) (As := [.int (nI 47)]) (rest := []) (mc := 0) (ms := 0) hC tw_626 tw_628 tw_3 tw_83 tw_629 yd_X4_accept (by decide) (ci := 7) rfl dX4_readPath_10 hI.hx rfl (Nat.le_of_ble_eq_true rfl) (by first | omega | decide) (by first | omega | decide) ?_
          refine c_accept htr hI 47 (by first | omega | decide) (by first | omega | decide) (fun M18 hI => ?_)
          have hI : rd_I G M0 M18 x ta b kd tx ((k_accept tx ((k_readLabel tx ((k_acceptW tx ((k_acceptW tx ((k_accept tx s 47).2) 42 1).2) 45 2).2)).2) 47).2) := hI
          have hl19 : ((k_accept tx ((k_readLabel tx ((k_acceptW tx ((k_acceptW tx ((k_accept tx s 47).2) 42 1).2) 45 2).2)).2) 47).2).2.1 = ((k_readLabel tx ((k_acceptW tx ((k_acceptW tx ((k_accept tx s 47).2) 42 1).2) 45 2).2)).2).2.1 := congrArg Prod.fst (k_accept_b tx ((k_readLabel tx ((k_acceptW tx ((k_acceptW tx ((k_accept tx s 47).2) 42 1).2) 45 2).2)).2) 47)
          have hl20 : ((k_accept tx ((k_readLabel tx ((k_acceptW tx ((k_acceptW tx ((k_accept tx s 47).2) 42 1).2) 45 2).2)).2) 47).2).2.1.length = ((k_readLabel tx ((k_acceptW tx ((k_acceptW tx ((k_accept tx s 47).2) 42 1).2) 45 2).2)).2).2.1.length := by rw [hl19]
          show sg_W X M18 0 0 13 [some (.ref x), some (.int (nI 1))] [.int (md_b ((k_accept tx ((k_readLabel tx ((k_acceptW tx ((k_acceptW tx ((k_accept tx s 47).2) 42 1).2) 45 2).2)).2) 47).1))]
          refine sg_ifB_ne (pc := 13) (b := (k_accept tx ((k_readLabel tx ((k_acceptW tx ((k_acceptW tx ((k_accept tx s 47).2) 42 1).2) 45 2).2)).2) 47).1) 26 hC dX4_readPath_13 (by decide) (fun h21 => ?_) (fun h21 => ?_)
          · refine sg_aload_n (pc := 26) (v := .ref x) hC dX4_readPath_26 rfl rfl ?_
            refine sg_bipush (pc := 27) (nI 42) hC dX4_readPath_27 (by decide) ?_
            refine sg_iconst (pc := 29) (nI 1) hC dX4_readPath_29 (by decide) ?_
            refine sg_callV (pc := 30) (As := [.int (nI 42), .int (nI 1)]) (rest := []) (mc := 0) (ms := 0) hC tw_634 tw_636 tw_5 tw_83 tw_637 yd_X4_acceptWildcard (by decide) (ci := 7) rfl dX4_readPath_30 hI.hx rfl (Nat.le_of_ble_eq_true rfl) (by first | omega | decide) (by first | omega | decide) ?_
            refine c_acceptW htr hI 42 1 (by first | omega | decide) (by first | omega | decide) (fun M22 hI => ?_)
            have hI : rd_I G M0 M22 x ta b kd tx ((k_acceptW tx ((k_accept tx ((k_readLabel tx ((k_acceptW tx ((k_acceptW tx ((k_accept tx s 47).2) 42 1).2) 45 2).2)).2) 47).2) 42 1).2) := hI
            have hl23 : ((k_acceptW tx ((k_accept tx ((k_readLabel tx ((k_acceptW tx ((k_acceptW tx ((k_accept tx s 47).2) 42 1).2) 45 2).2)).2) 47).2) 42 1).2).2.1 = ((k_accept tx ((k_readLabel tx ((k_acceptW tx ((k_acceptW tx ((k_accept tx s 47).2) 42 1).2) 45 2).2)).2) 47).2).2.1 := k_acceptW_b tx ((k_accept tx ((k_readLabel tx ((k_acceptW tx ((k_acceptW tx ((k_accept tx s 47).2) 42 1).2) 45 2).2)).2) 47).2) 42 1
            have hl24 : ((k_acceptW tx ((k_accept tx ((k_readLabel tx ((k_acceptW tx ((k_acceptW tx ((k_accept tx s 47).2) 42 1).2) 45 2).2)).2) 47).2) 42 1).2).2.1.length = ((k_accept tx ((k_readLabel tx ((k_acceptW tx ((k_acceptW tx ((k_accept tx s 47).2) 42 1).2) 45 2).2)).2) 47).2).2.1.length := by rw [hl23]
            show sg_W X M22 0 0 33 [some (.ref x), some (.int (nI 1))] [.int (md_b ((k_acceptW tx ((k_accept tx ((k_readLabel tx ((k_acceptW tx ((k_acceptW tx ((k_accept tx s 47).2) 42 1).2) 45 2).2)).2) 47).2) 42 1).1))]
            refine sg_ifB_ne (pc := 33) (b := (k_acceptW tx ((k_accept tx ((k_readLabel tx ((k_acceptW tx ((k_acceptW tx ((k_accept tx s 47).2) 42 1).2) 45 2).2)).2) 47).2) 42 1).1) 46 hC dX4_readPath_33 (by decide) (fun h25 => ?_) (fun h25 => ?_)
            · refine sg_iconst (pc := 46) (nI 1) hC dX4_readPath_46 (by decide) ?_
              have e9 : k_readPath tx s = (true, (k_acceptW tx ((k_accept tx ((k_readLabel tx ((k_acceptW tx ((k_acceptW tx ((k_accept tx s 47).2) 42 1).2) 45 2).2)).2) 47).2) 42 1).2) := by rw [k_readPath]; simp only [if_pos h5, if_neg (ts9 h9), if_neg (ts9 h13), if_pos h16, if_pos h21, if_pos h25]
              rw [e9] at hk
              exact sg_zreturn (st := []) (v := md_b true) (pc := 47) (ty := .boolean) hC hR (md_narb _) dX4_readPath_47 (hk M22 hI)
            · refine sg_aload_n (pc := 36) (v := .ref x) hC dX4_readPath_36 rfl rfl ?_
              refine sg_bipush (pc := 37) (nI 45) hC dX4_readPath_37 (by decide) ?_
              refine sg_iconst (pc := 39) (nI 2) hC dX4_readPath_39 (by decide) ?_
              refine sg_callV (pc := 40) (As := [.int (nI 45), .int (nI 2)]) (rest := []) (mc := 0) (ms := 0) hC tw_634 tw_636 tw_5 tw_83 tw_637 yd_X4_acceptWildcard (by decide) (ci := 7) rfl dX4_readPath_40 hI.hx rfl (Nat.le_of_ble_eq_true rfl) (by first | omega | decide) (by first | omega | decide) ?_
              refine c_acceptW htr hI 45 2 (by first | omega | decide) (by first | omega | decide) (fun M26 hI => ?_)
              have hI : rd_I G M0 M26 x ta b kd tx ((k_acceptW tx ((k_acceptW tx ((k_accept tx ((k_readLabel tx ((k_acceptW tx ((k_acceptW tx ((k_accept tx s 47).2) 42 1).2) 45 2).2)).2) 47).2) 42 1).2) 45 2).2) := hI
              have hl27 : ((k_acceptW tx ((k_acceptW tx ((k_accept tx ((k_readLabel tx ((k_acceptW tx ((k_acceptW tx ((k_accept tx s 47).2) 42 1).2) 45 2).2)).2) 47).2) 42 1).2) 45 2).2).2.1 = ((k_acceptW tx ((k_accept tx ((k_readLabel tx ((k_acceptW tx ((k_acceptW tx ((k_accept tx s 47).2) 42 1).2) 45 2).2)).2) 47).2) 42 1).2).2.1 := k_acceptW_b tx ((k_acceptW tx ((k_accept tx ((k_readLabel tx ((k_acceptW tx ((k_acceptW tx ((k_accept tx s 47).2) 42 1).2) 45 2).2)).2) 47).2) 42 1).2) 45 2
              have hl28 : ((k_acceptW tx ((k_acceptW tx ((k_accept tx ((k_readLabel tx ((k_acceptW tx ((k_acceptW tx ((k_accept tx s 47).2) 42 1).2) 45 2).2)).2) 47).2) 42 1).2) 45 2).2).2.1.length = ((k_acceptW tx ((k_accept tx ((k_readLabel tx ((k_acceptW tx ((k_acceptW tx ((k_accept tx s 47).2) 42 1).2) 45 2).2)).2) 47).2) 42 1).2).2.1.length := by rw [hl27]
              show sg_W X M26 0 0 43 [some (.ref x), some (.int (nI 1))] [.int (md_b ((k_acceptW tx ((k_acceptW tx ((k_accept tx ((k_readLabel tx ((k_acceptW tx ((k_acceptW tx ((k_accept tx s 47).2) 42 1).2) 45 2).2)).2) 47).2) 42 1).2) 45 2).1))]
              refine sg_ifB_eq (pc := 43) (b := (k_acceptW tx ((k_acceptW tx ((k_accept tx ((k_readLabel tx ((k_acceptW tx ((k_acceptW tx ((k_accept tx s 47).2) 42 1).2) 45 2).2)).2) 47).2) 42 1).2) 45 2).1) 48 hC dX4_readPath_43 (by decide) (fun h29 => ?_) (fun h29 => ?_)
              · refine sg_aload_n (pc := 48) (v := .ref x) hC dX4_readPath_48 rfl rfl ?_
                refine sg_callV (pc := 49) (As := []) (rest := []) (mc := 0) (ms := 0) hC tw_638 tw_640 tw_6 tw_83 tw_641 yd_X4_readLabel (by decide) (ci := 7) rfl dX4_readPath_49 hI.hx rfl (Nat.le_of_ble_eq_true rfl) (by first | omega | decide) (by first | omega | decide) ?_
                refine c_readLabel htr hI  (by first | omega | decide) (fun M30 hI => ?_)
                have hI : rd_I G M0 M30 x ta b kd tx ((k_readLabel tx ((k_acceptW tx ((k_acceptW tx ((k_accept tx ((k_readLabel tx ((k_acceptW tx ((k_acceptW tx ((k_accept tx s 47).2) 42 1).2) 45 2).2)).2) 47).2) 42 1).2) 45 2).2)).2) := hI
                have hl31 : ((k_readLabel tx ((k_acceptW tx ((k_acceptW tx ((k_accept tx ((k_readLabel tx ((k_acceptW tx ((k_acceptW tx ((k_accept tx s 47).2) 42 1).2) 45 2).2)).2) 47).2) 42 1).2) 45 2).2)).2).2.1.length ≤ ((k_acceptW tx ((k_acceptW tx ((k_accept tx ((k_readLabel tx ((k_acceptW tx ((k_acceptW tx ((k_accept tx s 47).2) 42 1).2) 45 2).2)).2) 47).2) 42 1).2) 45 2).2).2.1.length + 1 := k_readLabel_b tx ((k_acceptW tx ((k_acceptW tx ((k_accept tx ((k_readLabel tx ((k_acceptW tx ((k_acceptW tx ((k_accept tx s 47).2) 42 1).2) 45 2).2)).2) 47).2) 42 1).2) 45 2).2)
                show sg_W X M30 0 0 52 [some (.ref x), some (.int (nI 1))] [.int (md_b ((k_readLabel tx ((k_acceptW tx ((k_acceptW tx ((k_accept tx ((k_readLabel tx ((k_acceptW tx ((k_acceptW tx ((k_accept tx s 47).2) 42 1).2) 45 2).2)).2) 47).2) 42 1).2) 45 2).2)).1))]
                refine sg_ifB_ne (pc := 52) (b := (k_readLabel tx ((k_acceptW tx ((k_acceptW tx ((k_accept tx ((k_readLabel tx ((k_acceptW tx ((k_acceptW tx ((k_accept tx s 47).2) 42 1).2) 45 2).2)).2) 47).2) 42 1).2) 45 2).2)).1) 57 hC dX4_readPath_52 (by decide) (fun h32 => ?_) (fun h32 => ?_)
                · refine sg_iincN (pc := 57) (a := 1) (b := 2) hC dX4_readPath_57 rfl (nI_1 _) (by decide) ?_
                  show sg_W X M30 0 0 60 [some (.ref x), some (.int (nI 2))] []
                  refine sg_goto (pc := 60) 2 hC dX4_readPath_60 (by decide) ?_
                  refine sg_iload_n (pc := 2) (x := nI 2) hC dX4_readPath_2 rfl ?_
                  refine sg_iconst (pc := 3) (nI 3) hC dX4_readPath_3 (by decide) ?_
                  refine sg_icmpN_ge (pc := 4) (a := 2) (b := 3) 63 hC dX4_readPath_4 (by decide) (by decide) (by decide) (fun h33 => absurd h33 (by decide)) (fun _ => ?_)
                  refine sg_aload_n (pc := 7) (v := .ref x) hC dX4_readPath_7 rfl rfl ?_
                  refine sg_bipush (pc := 8) (nI 47) hC dX4_readPath_8 (by decide) ?_
                  refine sg_callV (pc := 10) (As := [.int (nI 47)]) (rest := []) (mc := 0) (ms := 0) hC tw_626 tw_628 tw_3 tw_83 tw_629 yd_X4_accept (by decide) (ci := 7) rfl dX4_readPath_10 hI.hx rfl (Nat.le_of_ble_eq_true rfl) (by first | omega | decide) (by first | omega | decide) ?_
                  refine c_accept htr hI 47 (by first | omega | decide) (by first | omega | decide) (fun M34 hI => ?_)
                  have hI : rd_I G M0 M34 x ta b kd tx ((k_accept tx ((k_readLabel tx ((k_acceptW tx ((k_acceptW tx ((k_accept tx ((k_readLabel tx ((k_acceptW tx ((k_acceptW tx ((k_accept tx s 47).2) 42 1).2) 45 2).2)).2) 47).2) 42 1).2) 45 2).2)).2) 47).2) := hI
                  have hl35 : ((k_accept tx ((k_readLabel tx ((k_acceptW tx ((k_acceptW tx ((k_accept tx ((k_readLabel tx ((k_acceptW tx ((k_acceptW tx ((k_accept tx s 47).2) 42 1).2) 45 2).2)).2) 47).2) 42 1).2) 45 2).2)).2) 47).2).2.1 = ((k_readLabel tx ((k_acceptW tx ((k_acceptW tx ((k_accept tx ((k_readLabel tx ((k_acceptW tx ((k_acceptW tx ((k_accept tx s 47).2) 42 1).2) 45 2).2)).2) 47).2) 42 1).2) 45 2).2)).2).2.1 := congrArg Prod.fst (k_accept_b tx ((k_readLabel tx ((k_acceptW tx ((k_acceptW tx ((k_accept tx ((k_readLabel tx ((k_acceptW tx ((k_acceptW tx ((k_accept tx s 47).2) 42 1).2) 45 2).2)).2) 47).2) 42 1).2) 45 2).2)).2) 47)
                  have hl36 : ((k_accept tx ((k_readLabel tx ((k_acceptW tx ((k_acceptW tx ((k_accept tx ((k_readLabel tx ((k_acceptW tx ((k_acceptW tx ((k_accept tx s 47).2) 42 1).2) 45 2).2)).2) 47).2) 42 1).2) 45 2).2)).2) 47).2).2.1.length = ((k_readLabel tx ((k_acceptW tx ((k_acceptW tx ((k_accept tx ((k_readLabel tx ((k_acceptW tx ((k_acceptW tx ((k_accept tx s 47).2) 42 1).2) 45 2).2)).2) 47).2) 42 1).2) 45 2).2)).2).2.1.length := by rw [hl35]
                  show sg_W X M34 0 0 13 [some (.ref x), some (.int (nI 2))] [.int (md_b ((k_accept tx ((k_readLabel tx ((k_acceptW tx ((k_acceptW tx ((k_accept tx ((k_readLabel tx ((k_acceptW tx ((k_acceptW tx ((k_accept tx s 47).2) 42 1).2) 45 2).2)).2) 47).2) 42 1).2) 45 2).2)).2) 47).1))]
                  refine sg_ifB_ne (pc := 13) (b := (k_accept tx ((k_readLabel tx ((k_acceptW tx ((k_acceptW tx ((k_accept tx ((k_readLabel tx ((k_acceptW tx ((k_acceptW tx ((k_accept tx s 47).2) 42 1).2) 45 2).2)).2) 47).2) 42 1).2) 45 2).2)).2) 47).1) 26 hC dX4_readPath_13 (by decide) (fun h37 => ?_) (fun h37 => ?_)
                  · refine sg_aload_n (pc := 26) (v := .ref x) hC dX4_readPath_26 rfl rfl ?_
                    refine sg_bipush (pc := 27) (nI 42) hC dX4_readPath_27 (by decide) ?_
                    refine sg_iconst (pc := 29) (nI 1) hC dX4_readPath_29 (by decide) ?_
                    refine sg_callV (pc := 30) (As := [.int (nI 42), .int (nI 1)]) (rest := []) (mc := 0) (ms := 0) hC tw_634 tw_636 tw_5 tw_83 tw_637 yd_X4_acceptWildcard (by decide) (ci := 7) rfl dX4_readPath_30 hI.hx rfl (Nat.le_of_ble_eq_true rfl) (by first | omega | decide) (by first | omega | decide) ?_
                    refine c_acceptW htr hI 42 1 (by first | omega | decide) (by first | omega | decide) (fun M38 hI => ?_)
                    have hI : rd_I G M0 M38 x ta b kd tx ((k_acceptW tx ((k_accept tx ((k_readLabel tx ((k_acceptW tx ((k_acceptW tx ((k_accept tx ((k_readLabel tx ((k_acceptW tx ((k_acceptW tx ((k_accept tx s 47).2) 42 1).2) 45 2).2)).2) 47).2) 42 1).2) 45 2).2)).2) 47).2) 42 1).2) := hI
                    have hl39 : ((k_acceptW tx ((k_accept tx ((k_readLabel tx ((k_acceptW tx ((k_acceptW tx ((k_accept tx ((k_readLabel tx ((k_acceptW tx ((k_acceptW tx ((k_accept tx s 47).2) 42 1).2) 45 2).2)).2) 47).2) 42 1).2) 45 2).2)).2) 47).2) 42 1).2).2.1 = ((k_accept tx ((k_readLabel tx ((k_acceptW tx ((k_acceptW tx ((k_accept tx ((k_readLabel tx ((k_acceptW tx ((k_acceptW tx ((k_accept tx s 47).2) 42 1).2) 45 2).2)).2) 47).2) 42 1).2) 45 2).2)).2) 47).2).2.1 := k_acceptW_b tx ((k_accept tx ((k_readLabel tx ((k_acceptW tx ((k_acceptW tx ((k_accept tx ((k_readLabel tx ((k_acceptW tx ((k_acceptW tx ((k_accept tx s 47).2) 42 1).2) 45 2).2)).2) 47).2) 42 1).2) 45 2).2)).2) 47).2) 42 1
                    have hl40 : ((k_acceptW tx ((k_accept tx ((k_readLabel tx ((k_acceptW tx ((k_acceptW tx ((k_accept tx ((k_readLabel tx ((k_acceptW tx ((k_acceptW tx ((k_accept tx s 47).2) 42 1).2) 45 2).2)).2) 47).2) 42 1).2) 45 2).2)).2) 47).2) 42 1).2).2.1.length = ((k_accept tx ((k_readLabel tx ((k_acceptW tx ((k_acceptW tx ((k_accept tx ((k_readLabel tx ((k_acceptW tx ((k_acceptW tx ((k_accept tx s 47).2) 42 1).2) 45 2).2)).2) 47).2) 42 1).2) 45 2).2)).2) 47).2).2.1.length := by rw [hl39]
                    show sg_W X M38 0 0 33 [some (.ref x), some (.int (nI 2))] [.int (md_b ((k_acceptW tx ((k_accept tx ((k_readLabel tx ((k_acceptW tx ((k_acceptW tx ((k_accept tx ((k_readLabel tx ((k_acceptW tx ((k_acceptW tx ((k_accept tx s 47).2) 42 1).2) 45 2).2)).2) 47).2) 42 1).2) 45 2).2)).2) 47).2) 42 1).1))]
                    refine sg_ifB_ne (pc := 33) (b := (k_acceptW tx ((k_accept tx ((k_readLabel tx ((k_acceptW tx ((k_acceptW tx ((k_accept tx ((k_readLabel tx ((k_acceptW tx ((k_acceptW tx ((k_accept tx s 47).2) 42 1).2) 45 2).2)).2) 47).2) 42 1).2) 45 2).2)).2) 47).2) 42 1).1) 46 hC dX4_readPath_33 (by decide) (fun h41 => ?_) (fun h41 => ?_)
                    · refine sg_iconst (pc := 46) (nI 1) hC dX4_readPath_46 (by decide) ?_
                      have e9 : k_readPath tx s = (true, (k_acceptW tx ((k_accept tx ((k_readLabel tx ((k_acceptW tx ((k_acceptW tx ((k_accept tx ((k_readLabel tx ((k_acceptW tx ((k_acceptW tx ((k_accept tx s 47).2) 42 1).2) 45 2).2)).2) 47).2) 42 1).2) 45 2).2)).2) 47).2) 42 1).2) := by rw [k_readPath]; simp only [if_pos h5, if_neg (ts9 h9), if_neg (ts9 h13), if_pos h16, if_pos h21, if_neg (ts9 h25), if_neg (ts9 h29), if_pos h32, if_pos h37, if_pos h41]
                      rw [e9] at hk
                      exact sg_zreturn (st := []) (v := md_b true) (pc := 47) (ty := .boolean) hC hR (md_narb _) dX4_readPath_47 (hk M38 hI)
                    · refine sg_aload_n (pc := 36) (v := .ref x) hC dX4_readPath_36 rfl rfl ?_
                      refine sg_bipush (pc := 37) (nI 45) hC dX4_readPath_37 (by decide) ?_
                      refine sg_iconst (pc := 39) (nI 2) hC dX4_readPath_39 (by decide) ?_
                      refine sg_callV (pc := 40) (As := [.int (nI 45), .int (nI 2)]) (rest := []) (mc := 0) (ms := 0) hC tw_634 tw_636 tw_5 tw_83 tw_637 yd_X4_acceptWildcard (by decide) (ci := 7) rfl dX4_readPath_40 hI.hx rfl (Nat.le_of_ble_eq_true rfl) (by first | omega | decide) (by first | omega | decide) ?_
                      refine c_acceptW htr hI 45 2 (by first | omega | decide) (by first | omega | decide) (fun M42 hI => ?_)
                      have hI : rd_I G M0 M42 x ta b kd tx ((k_acceptW tx ((k_acceptW tx ((k_accept tx ((k_readLabel tx ((k_acceptW tx ((k_acceptW tx ((k_accept tx ((k_readLabel tx ((k_acceptW tx ((k_acceptW tx ((k_accept tx s 47).2) 42 1).2) 45 2).2)).2) 47).2) 42 1).2) 45 2).2)).2) 47).2) 42 1).2) 45 2).2) := hI
                      have hl43 : ((k_acceptW tx ((k_acceptW tx ((k_accept tx ((k_readLabel tx ((k_acceptW tx ((k_acceptW tx ((k_accept tx ((k_readLabel tx ((k_acceptW tx ((k_acceptW tx ((k_accept tx s 47).2) 42 1).2) 45 2).2)).2) 47).2) 42 1).2) 45 2).2)).2) 47).2) 42 1).2) 45 2).2).2.1 = ((k_acceptW tx ((k_accept tx ((k_readLabel tx ((k_acceptW tx ((k_acceptW tx ((k_accept tx ((k_readLabel tx ((k_acceptW tx ((k_acceptW tx ((k_accept tx s 47).2) 42 1).2) 45 2).2)).2) 47).2) 42 1).2) 45 2).2)).2) 47).2) 42 1).2).2.1 := k_acceptW_b tx ((k_acceptW tx ((k_accept tx ((k_readLabel tx ((k_acceptW tx ((k_acceptW tx ((k_accept tx ((k_readLabel tx ((k_acceptW tx ((k_acceptW tx ((k_accept tx s 47).2) 42 1).2) 45 2).2)).2) 47).2) 42 1).2) 45 2).2)).2) 47).2) 42 1).2) 45 2
                      have hl44 : ((k_acceptW tx ((k_acceptW tx ((k_accept tx ((k_readLabel tx ((k_acceptW tx ((k_acceptW tx ((k_accept tx ((k_readLabel tx ((k_acceptW tx ((k_acceptW tx ((k_accept tx s 47).2) 42 1).2) 45 2).2)).2) 47).2) 42 1).2) 45 2).2)).2) 47).2) 42 1).2) 45 2).2).2.1.length = ((k_acceptW tx ((k_accept tx ((k_readLabel tx ((k_acceptW tx ((k_acceptW tx ((k_accept tx ((k_readLabel tx ((k_acceptW tx ((k_acceptW tx ((k_accept tx s 47).2) 42 1).2) 45 2).2)).2) 47).2) 42 1).2) 45 2).2)).2) 47).2) 42 1).2).2.1.length := by rw [hl43]
                      show sg_W X M42 0 0 43 [some (.ref x), some (.int (nI 2))] [.int (md_b ((k_acceptW tx ((k_acceptW tx ((k_accept tx ((k_readLabel tx ((k_acceptW tx ((k_acceptW tx ((k_accept tx ((k_readLabel tx ((k_acceptW tx ((k_acceptW tx ((k_accept tx s 47).2) 42 1).2) 45 2).2)).2) 47).2) 42 1).2) 45 2).2)).2) 47).2) 42 1).2) 45 2).1))]
                      refine sg_ifB_eq (pc := 43) (b := (k_acceptW tx ((k_acceptW tx ((k_accept tx ((k_readLabel tx ((k_acceptW tx ((k_acceptW tx ((k_accept tx ((k_readLabel tx ((k_acceptW tx ((k_acceptW tx ((k_accept tx s 47).2) 42 1).2) 45 2).2)).2) 47).2) 42 1).2) 45 2).2)).2) 47).2) 42 1).2) 45 2).1) 48 hC dX4_readPath_43 (by decide) (fun h45 => ?_) (fun h45 => ?_)
                      · refine sg_aload_n (pc := 48) (v := .ref x) hC dX4_readPath_48 rfl rfl ?_
                        refine sg_callV (pc := 49) (As := []) (rest := []) (mc := 0) (ms := 0) hC tw_638 tw_640 tw_6 tw_83 tw_641 yd_X4_readLabel (by decide) (ci := 7) rfl dX4_readPath_49 hI.hx rfl (Nat.le_of_ble_eq_true rfl) (by first | omega | decide) (by first | omega | decide) ?_
                        refine c_readLabel htr hI  (by first | omega | decide) (fun M46 hI => ?_)
                        have hI : rd_I G M0 M46 x ta b kd tx ((k_readLabel tx ((k_acceptW tx ((k_acceptW tx ((k_accept tx ((k_readLabel tx ((k_acceptW tx ((k_acceptW tx ((k_accept tx ((k_readLabel tx ((k_acceptW tx ((k_acceptW tx ((k_accept tx s 47).2) 42 1).2) 45 2).2)).2) 47).2) 42 1).2) 45 2).2)).2) 47).2) 42 1).2) 45 2).2)).2) := hI
                        have hl47 : ((k_readLabel tx ((k_acceptW tx ((k_acceptW tx ((k_accept tx ((k_readLabel tx ((k_acceptW tx ((k_acceptW tx ((k_accept tx ((k_readLabel tx ((k_acceptW tx ((k_acceptW tx ((k_accept tx s 47).2) 42 1).2) 45 2).2)).2) 47).2) 42 1).2) 45 2).2)).2) 47).2) 42 1).2) 45 2).2)).2).2.1.length ≤ ((k_acceptW tx ((k_acceptW tx ((k_accept tx ((k_readLabel tx ((k_acceptW tx ((k_acceptW tx ((k_accept tx ((k_readLabel tx ((k_acceptW tx ((k_acceptW tx ((k_accept tx s 47).2) 42 1).2) 45 2).2)).2) 47).2) 42 1).2) 45 2).2)).2) 47).2) 42 1).2) 45 2).2).2.1.length + 1 := k_readLabel_b tx ((k_acceptW tx ((k_acceptW tx ((k_accept tx ((k_readLabel tx ((k_acceptW tx ((k_acceptW tx ((k_accept tx ((k_readLabel tx ((k_acceptW tx ((k_acceptW tx ((k_accept tx s 47).2) 42 1).2) 45 2).2)).2) 47).2) 42 1).2) 45 2).2)).2) 47).2) 42 1).2) 45 2).2)
                        show sg_W X M46 0 0 52 [some (.ref x), some (.int (nI 2))] [.int (md_b ((k_readLabel tx ((k_acceptW tx ((k_acceptW tx ((k_accept tx ((k_readLabel tx ((k_acceptW tx ((k_acceptW tx ((k_accept tx ((k_readLabel tx ((k_acceptW tx ((k_acceptW tx ((k_accept tx s 47).2) 42 1).2) 45 2).2)).2) 47).2) 42 1).2) 45 2).2)).2) 47).2) 42 1).2) 45 2).2)).1))]
                        refine sg_ifB_ne (pc := 52) (b := (k_readLabel tx ((k_acceptW tx ((k_acceptW tx ((k_accept tx ((k_readLabel tx ((k_acceptW tx ((k_acceptW tx ((k_accept tx ((k_readLabel tx ((k_acceptW tx ((k_acceptW tx ((k_accept tx s 47).2) 42 1).2) 45 2).2)).2) 47).2) 42 1).2) 45 2).2)).2) 47).2) 42 1).2) 45 2).2)).1) 57 hC dX4_readPath_52 (by decide) (fun h48 => ?_) (fun h48 => ?_)
                        · refine sg_iincN (pc := 57) (a := 2) (b := 3) hC dX4_readPath_57 rfl (nI_1 _) (by decide) ?_
                          show sg_W X M46 0 0 60 [some (.ref x), some (.int (nI 3))] []
                          refine sg_goto (pc := 60) 2 hC dX4_readPath_60 (by decide) ?_
                          refine sg_iload_n (pc := 2) (x := nI 3) hC dX4_readPath_2 rfl ?_
                          refine sg_iconst (pc := 3) (nI 3) hC dX4_readPath_3 (by decide) ?_
                          refine sg_icmpN_ge (pc := 4) (a := 3) (b := 3) 63 hC dX4_readPath_4 (by decide) (by decide) (by decide) (fun _ => ?_) (fun h49 => absurd h49 (by decide))
                          refine sg_iconst (pc := 63) (nI 1) hC dX4_readPath_63 (by decide) ?_
                          have e9 : k_readPath tx s = (true, (k_readLabel tx ((k_acceptW tx ((k_acceptW tx ((k_accept tx ((k_readLabel tx ((k_acceptW tx ((k_acceptW tx ((k_accept tx ((k_readLabel tx ((k_acceptW tx ((k_acceptW tx ((k_accept tx s 47).2) 42 1).2) 45 2).2)).2) 47).2) 42 1).2) 45 2).2)).2) 47).2) 42 1).2) 45 2).2)).2) := by rw [k_readPath]; simp only [if_pos h5, if_neg (ts9 h9), if_neg (ts9 h13), if_pos h16, if_pos h21, if_neg (ts9 h25), if_neg (ts9 h29), if_pos h32, if_pos h37, if_neg (ts9 h41), if_neg (ts9 h45), if_pos h48]
                          rw [e9] at hk
                          exact sg_zreturn (st := []) (v := md_b true) (pc := 64) (ty := .boolean) hC hR (md_narb _) dX4_readPath_64 (hk M46 hI)
                        · refine sg_iconst (pc := 55) (nI 0) hC dX4_readPath_55 (by decide) ?_
                          have e9 : k_readPath tx s = (false, (k_readLabel tx ((k_acceptW tx ((k_acceptW tx ((k_accept tx ((k_readLabel tx ((k_acceptW tx ((k_acceptW tx ((k_accept tx ((k_readLabel tx ((k_acceptW tx ((k_acceptW tx ((k_accept tx s 47).2) 42 1).2) 45 2).2)).2) 47).2) 42 1).2) 45 2).2)).2) 47).2) 42 1).2) 45 2).2)).2) := by rw [k_readPath]; simp only [if_pos h5, if_neg (ts9 h9), if_neg (ts9 h13), if_pos h16, if_pos h21, if_neg (ts9 h25), if_neg (ts9 h29), if_pos h32, if_pos h37, if_neg (ts9 h41), if_neg (ts9 h45), if_neg (ts9 h48)]
                          rw [e9] at hk
                          exact sg_zreturn (st := []) (v := md_b false) (pc := 56) (ty := .boolean) hC hR (md_narb _) dX4_readPath_56 (hk M46 hI)
                      · refine sg_iconst (pc := 46) (nI 1) hC dX4_readPath_46 (by decide) ?_
                        have e9 : k_readPath tx s = (true, (k_acceptW tx ((k_acceptW tx ((k_accept tx ((k_readLabel tx ((k_acceptW tx ((k_acceptW tx ((k_accept tx ((k_readLabel tx ((k_acceptW tx ((k_acceptW tx ((k_accept tx s 47).2) 42 1).2) 45 2).2)).2) 47).2) 42 1).2) 45 2).2)).2) 47).2) 42 1).2) 45 2).2) := by rw [k_readPath]; simp only [if_pos h5, if_neg (ts9 h9), if_neg (ts9 h13), if_pos h16, if_pos h21, if_neg (ts9 h25), if_neg (ts9 h29), if_pos h32, if_pos h37, if_neg (ts9 h41), if_pos h45]
                        rw [e9] at hk
                        exact sg_zreturn (st := []) (v := md_b true) (pc := 47) (ty := .boolean) hC hR (md_narb _) dX4_readPath_47 (hk M42 hI)
                  · refine sg_iload_n (pc := 16) (x := nI 2) hC dX4_readPath_16 rfl ?_
                    refine sg_ifN_le (pc := 17) (a := 2) 24 hC dX4_readPath_17 (by decide) (by decide) (fun h50 => absurd h50 (by decide)) (fun _ => ?_)
                    refine sg_iconst (pc := 20) (nI 1) hC dX4_readPath_20 (by decide) ?_
                    refine sg_goto (pc := 21) 25 hC dX4_readPath_21 (by decide) ?_
                    have e9 : k_readPath tx s = (true, (k_accept tx ((k_readLabel tx ((k_acceptW tx ((k_acceptW tx ((k_accept tx ((k_readLabel tx ((k_acceptW tx ((k_acceptW tx ((k_accept tx s 47).2) 42 1).2) 45 2).2)).2) 47).2) 42 1).2) 45 2).2)).2) 47).2) := by rw [k_readPath]; simp only [if_pos h5, if_neg (ts9 h9), if_neg (ts9 h13), if_pos h16, if_pos h21, if_neg (ts9 h25), if_neg (ts9 h29), if_pos h32, if_neg (ts9 h37)]
                    rw [e9] at hk
                    exact sg_zreturn (st := []) (v := md_b true) (pc := 25) (ty := .boolean) hC hR (md_narb _) dX4_readPath_25 (hk M34 hI)
                · refine sg_iconst (pc := 55) (nI 0) hC dX4_readPath_55 (by decide) ?_
                  have e9 : k_readPath tx s = (false, (k_readLabel tx ((k_acceptW tx ((k_acceptW tx ((k_accept tx ((k_readLabel tx ((k_acceptW tx ((k_acceptW tx ((k_accept tx s 47).2) 42 1).2) 45 2).2)).2) 47).2) 42 1).2) 45 2).2)).2) := by rw [k_readPath]; simp only [if_pos h5, if_neg (ts9 h9), if_neg (ts9 h13), if_pos h16, if_pos h21, if_neg (ts9 h25), if_neg (ts9 h29), if_neg (ts9 h32)]
                  rw [e9] at hk
                  exact sg_zreturn (st := []) (v := md_b false) (pc := 56) (ty := .boolean) hC hR (md_narb _) dX4_readPath_56 (hk M30 hI)
              · refine sg_iconst (pc := 46) (nI 1) hC dX4_readPath_46 (by decide) ?_
                have e9 : k_readPath tx s = (true, (k_acceptW tx ((k_acceptW tx ((k_accept tx ((k_readLabel tx ((k_acceptW tx ((k_acceptW tx ((k_accept tx s 47).2) 42 1).2) 45 2).2)).2) 47).2) 42 1).2) 45 2).2) := by rw [k_readPath]; simp only [if_pos h5, if_neg (ts9 h9), if_neg (ts9 h13), if_pos h16, if_pos h21, if_neg (ts9 h25), if_pos h29]
                rw [e9] at hk
                exact sg_zreturn (st := []) (v := md_b true) (pc := 47) (ty := .boolean) hC hR (md_narb _) dX4_readPath_47 (hk M26 hI)
          · refine sg_iload_n (pc := 16) (x := nI 1) hC dX4_readPath_16 rfl ?_
            refine sg_ifN_le (pc := 17) (a := 1) 24 hC dX4_readPath_17 (by decide) (by decide) (fun h51 => absurd h51 (by decide)) (fun _ => ?_)
            refine sg_iconst (pc := 20) (nI 1) hC dX4_readPath_20 (by decide) ?_
            refine sg_goto (pc := 21) 25 hC dX4_readPath_21 (by decide) ?_
            have e9 : k_readPath tx s = (true, (k_accept tx ((k_readLabel tx ((k_acceptW tx ((k_acceptW tx ((k_accept tx s 47).2) 42 1).2) 45 2).2)).2) 47).2) := by rw [k_readPath]; simp only [if_pos h5, if_neg (ts9 h9), if_neg (ts9 h13), if_pos h16, if_neg (ts9 h21)]
            rw [e9] at hk
            exact sg_zreturn (st := []) (v := md_b true) (pc := 25) (ty := .boolean) hC hR (md_narb _) dX4_readPath_25 (hk M18 hI)
        · refine sg_iconst (pc := 55) (nI 0) hC dX4_readPath_55 (by decide) ?_
          have e9 : k_readPath tx s = (false, (k_readLabel tx ((k_acceptW tx ((k_acceptW tx ((k_accept tx s 47).2) 42 1).2) 45 2).2)).2) := by rw [k_readPath]; simp only [if_pos h5, if_neg (ts9 h9), if_neg (ts9 h13), if_neg (ts9 h16)]
          rw [e9] at hk
          exact sg_zreturn (st := []) (v := md_b false) (pc := 56) (ty := .boolean) hC hR (md_narb _) dX4_readPath_56 (hk M14 hI)
      · refine sg_iconst (pc := 46) (nI 1) hC dX4_readPath_46 (by decide) ?_
        have e9 : k_readPath tx s = (true, (k_acceptW tx ((k_acceptW tx ((k_accept tx s 47).2) 42 1).2) 45 2).2) := by rw [k_readPath]; simp only [if_pos h5, if_neg (ts9 h9), if_pos h13]
        rw [e9] at hk
        exact sg_zreturn (st := []) (v := md_b true) (pc := 47) (ty := .boolean) hC hR (md_narb _) dX4_readPath_47 (hk M10 hI)
  · refine sg_iload_n (pc := 16) (x := nI 0) hC dX4_readPath_16 rfl ?_
    refine sg_ifN_le (pc := 17) (a := 0) 24 hC dX4_readPath_17 (by decide) (by decide) (fun _ => ?_) (fun h52 => absurd h52 (by decide))
    refine sg_iconst (pc := 24) (nI 0) hC dX4_readPath_24 (by decide) ?_
    have e9 : k_readPath tx s = (false, (k_accept tx s 47).2) := by rw [k_readPath]; simp only [if_neg (ts9 h5)]
    rw [e9] at hk
    exact sg_zreturn (st := []) (v := md_b false) (pc := 25) (ty := .boolean) hC hR (md_narb _) dX4_readPath_25 (hk M2 hI)

def k_readName (tx : List Nat) (s : RS)  : Bool × RS := if (k_acceptW tx s 42 2).1 = true then (true, (k_acceptW tx s 42 2).2) else if (k_readLabel tx ((k_acceptW tx s 42 2).2)).1 = true then if (k_accept tx ((k_readLabel tx ((k_acceptW tx s 42 2).2)).2) 46).1 = true then if (k_acceptW tx ((k_accept tx ((k_readLabel tx ((k_acceptW tx s 42 2).2)).2) 46).2) 42 2).1 = true then (true, (k_acceptW tx ((k_accept tx ((k_readLabel tx ((k_acceptW tx s 42 2).2)).2) 46).2) 42 2).2) else if (k_readLabel tx ((k_acceptW tx ((k_accept tx ((k_readLabel tx ((k_acceptW tx s 42 2).2)).2) 46).2) 42 2).2)).1 = true then if (k_accept tx ((k_readLabel tx ((k_acceptW tx ((k_accept tx ((k_readLabel tx ((k_acceptW tx s 42 2).2)).2) 46).2) 42 2).2)).2) 46).1 = true then if (k_acceptW tx ((k_accept tx ((k_readLabel tx ((k_acceptW tx ((k_accept tx ((k_readLabel tx ((k_acceptW tx s 42 2).2)).2) 46).2) 42 2).2)).2) 46).2) 42 2).1 = true then (true, (k_acceptW tx ((k_accept tx ((k_readLabel tx ((k_acceptW tx ((k_accept tx ((k_readLabel tx ((k_acceptW tx s 42 2).2)).2) 46).2) 42 2).2)).2) 46).2) 42 2).2) else if (k_readLabel tx ((k_acceptW tx ((k_accept tx ((k_readLabel tx ((k_acceptW tx ((k_accept tx ((k_readLabel tx ((k_acceptW tx s 42 2).2)).2) 46).2) 42 2).2)).2) 46).2) 42 2).2)).1 = true then (true, (k_readLabel tx ((k_acceptW tx ((k_accept tx ((k_readLabel tx ((k_acceptW tx ((k_accept tx ((k_readLabel tx ((k_acceptW tx s 42 2).2)).2) 46).2) 42 2).2)).2) 46).2) 42 2).2)).2) else (false, (k_readLabel tx ((k_acceptW tx ((k_accept tx ((k_readLabel tx ((k_acceptW tx ((k_accept tx ((k_readLabel tx ((k_acceptW tx s 42 2).2)).2) 46).2) 42 2).2)).2) 46).2) 42 2).2)).2) else (true, (k_accept tx ((k_readLabel tx ((k_acceptW tx ((k_accept tx ((k_readLabel tx ((k_acceptW tx s 42 2).2)).2) 46).2) 42 2).2)).2) 46).2) else (false, (k_readLabel tx ((k_acceptW tx ((k_accept tx ((k_readLabel tx ((k_acceptW tx s 42 2).2)).2) 46).2) 42 2).2)).2) else (true, (k_accept tx ((k_readLabel tx ((k_acceptW tx s 42 2).2)).2) 46).2) else (false, (k_readLabel tx ((k_acceptW tx s 42 2).2)).2)
set_option maxHeartbeats 1000000 in
set_option maxRecDepth 100000 in
theorem c_readName {l : Launch} {G : sg_G} {d : Nat} {M0 M : sg_M} {kr : Option Value → sg_M → Prop} {kx : String → sg_M → Prop} {x ta b kd : Nat} {tx : List Nat} {s : RS} (htr : l.stackTraces = false) (hI : rd_I G M0 M x ta b kd tx s)  (hl : s.2.1.length = 0) (hk : ∀ M', rd_I G M0 M' x ta b kd tx (k_readName tx s).2 → kr (some (.int (md_b (k_readName tx s).1))) M') : sg_Met l G yX4_readName cX4_readName 2 (some .boolean) (d + 7) 0 0 [.ref x] M kr kx := by
  refine sg_enter [some (.ref x), none] (by decide) htr (Nat.le_of_ble_eq_true rfl) rfl ?_
  intro X hC hR
  have hC : sg_C X l G cX4_readName RX4 2 (d + 7) := hC
  have hn1 := hI.hn.1
  have hn2 := hI.hn.2
  have hcs := hI.hc
  refine sg_iconst (pc := 0) (nI 0) hC dX4_readName_0 (by decide) ?_
  refine sg_istore_n (pc := 1) (x := nI 0) hC dX4_readName_1 (by decide) ?_
  show sg_W X M 0 0 2 [some (.ref x), some (.int (nI 0))] []
  refine sg_iload_n (pc := 2) (x := nI 0) hC dX4_readName_2 rfl ?_
  refine sg_iconst (pc := 3) (nI 3) hC dX4_readName_3 (by decide) ?_
  refine sg_icmpN_ge (pc := 4) (a := 0) (b := 3) 49 hC dX4_readName_4 (by decide) (by decide) (by decide) (fun h1 => absurd h1 (by decide)) (fun _ => ?_)
  refine sg_iload_n (pc := 7) (x := nI 0) hC dX4_readName_7 rfl ?_
  refine sg_ifN_le (pc := 8) (a := 0) 22 hC dX4_readName_8 (by decide) (by decide) (fun _ => ?_) (fun h2 => absurd h2 (by decide))
  refine sg_aload_n (pc := 22) (v := .ref x) hC dX4_readName_22 rfl rfl ?_
  refine sg_bipush (pc := 23) (nI 42) hC dX4_readName_23 (by decide) ?_
  refine sg_iconst (pc := 25) (nI 2) hC dX4_readName_25 (by decide) ?_
  refine sg_callV (pc := 26) (As := [.int (nI 42), .int (nI 2)]) (rest := []) (mc := 0) (ms := 0) hC tw_634 tw_636 tw_5 tw_83 tw_637 yd_X4_acceptWildcard (by decide) (ci := 7) rfl dX4_readName_26 hI.hx rfl (Nat.le_of_ble_eq_true rfl) (by first | omega | decide) (by first | omega | decide) ?_
  refine c_acceptW htr hI 42 2 (by first | omega | decide) (by first | omega | decide) (fun M3 hI => ?_)
  have hI : rd_I G M0 M3 x ta b kd tx ((k_acceptW tx s 42 2).2) := hI
  have hl4 : ((k_acceptW tx s 42 2).2).2.1 = s.2.1 := k_acceptW_b tx s 42 2
  have hl5 : ((k_acceptW tx s 42 2).2).2.1.length = s.2.1.length := by rw [hl4]
  show sg_W X M3 0 0 29 [some (.ref x), some (.int (nI 0))] [.int (md_b ((k_acceptW tx s 42 2).1))]
  refine sg_ifB_eq (pc := 29) (b := (k_acceptW tx s 42 2).1) 34 hC dX4_readName_29 (by decide) (fun h6 => ?_) (fun h6 => ?_)
  · refine sg_aload_n (pc := 34) (v := .ref x) hC dX4_readName_34 rfl rfl ?_
    refine sg_callV (pc := 35) (As := []) (rest := []) (mc := 0) (ms := 0) hC tw_638 tw_640 tw_6 tw_83 tw_641 yd_X4_readLabel (by decide) (ci := 7) rfl dX4_readName_35 hI.hx rfl (Nat.le_of_ble_eq_true rfl) (by first | omega | decide) (by first | omega | decide) ?_
    refine c_readLabel htr hI  (by first | omega | decide) (fun M7 hI => ?_)
    have hI : rd_I G M0 M7 x ta b kd tx ((k_readLabel tx ((k_acceptW tx s 42 2).2)).2) := hI
    have hl8 : ((k_readLabel tx ((k_acceptW tx s 42 2).2)).2).2.1.length ≤ ((k_acceptW tx s 42 2).2).2.1.length + 1 := k_readLabel_b tx ((k_acceptW tx s 42 2).2)
    show sg_W X M7 0 0 38 [some (.ref x), some (.int (nI 0))] [.int (md_b ((k_readLabel tx ((k_acceptW tx s 42 2).2)).1))]
    refine sg_ifB_ne (pc := 38) (b := (k_readLabel tx ((k_acceptW tx s 42 2).2)).1) 43 hC dX4_readName_38 (by decide) (fun h9 => ?_) (fun h9 => ?_)
    · refine sg_iincN (pc := 43) (a := 0) (b := 1) hC dX4_readName_43 rfl (nI_1 _) (by decide) ?_
      show sg_W X M7 0 0 46 [some (.ref x), some (.int (nI 1))] []
      refine sg_goto (pc := 46) 2 hC dX4_readName_46 (by decide) ?_
      refine sg_iload_n (pc := 2) (x := nI 1) hC dX4_readName_2 rfl ?_
      refine sg_iconst (pc := 3) (nI 3) hC dX4_readName_3 (by decide) ?_
      refine sg_icmpN_ge (pc := 4) (a := 1) (b := 3) 49 hC dX4_readName_4 (by decide) (by decide) (by decide) (fun h10 => absurd h10 (by decide)) (fun _ => ?_)
      refine sg_iload_n (pc := 7) (x := nI 1) hC dX4_readName_7 rfl ?_
      refine sg_ifN_le (pc := 8) (a := 1) 22 hC dX4_readName_8 (by decide) (by decide) (fun h11 => absurd h11 (by decide)) (fun _ => ?_)
      refine sg_aload_n (pc := 11) (v := .ref x) hC dX4_readName_11 rfl rfl ?_
      refine sg_bipush (pc := 12) (nI 46) hC dX4_readName_12 (by decide) ?_
      refine sg_callV (pc := 14) (As := [.int (nI 46)]) (rest := []) (mc := 0) (ms := 0) hC tw_626 tw_628 tw_3 tw_83 tw_629 yd_X4_accept (by decide) (ci := 7) rfl dX4_readName_14 hI.hx rfl (Nat.le_of_ble_eq_true rfl) (by first | omega | decide) (by first | omega | decide) ?_
      refine c_accept htr hI 46 (by first | omega | decide) (by first | omega | decide) (fun M12 hI => ?_)
      have hI : rd_I G M0 M12 x ta b kd tx ((k_accept tx ((k_readLabel tx ((k_acceptW tx s 42 2).2)).2) 46).2) := hI
      have hl13 : ((k_accept tx ((k_readLabel tx ((k_acceptW tx s 42 2).2)).2) 46).2).2.1 = ((k_readLabel tx ((k_acceptW tx s 42 2).2)).2).2.1 := congrArg Prod.fst (k_accept_b tx ((k_readLabel tx ((k_acceptW tx s 42 2).2)).2) 46)
      have hl14 : ((k_accept tx ((k_readLabel tx ((k_acceptW tx s 42 2).2)).2) 46).2).2.1.length = ((k_readLabel tx ((k_acceptW tx s 42 2).2)).2).2.1.length := by rw [hl13]
      show sg_W X M12 0 0 17 [some (.ref x), some (.int (nI 1))] [.int (md_b ((k_accept tx ((k_readLabel tx ((k_acceptW tx s 42 2).2)).2) 46).1))]
      refine sg_ifB_ne (pc := 17) (b := (k_accept tx ((k_readLabel tx ((k_acceptW tx s 42 2).2)).2) 46).1) 22 hC dX4_readName_17 (by decide) (fun h15 => ?_) (fun h15 => ?_)
      · refine sg_aload_n (pc := 22) (v := .ref x) hC dX4_readName_22 rfl rfl ?_
        refine sg_bipush (pc := 23) (nI 42) hC dX4_readName_23 (by decide) ?_
        refine sg_iconst (pc := 25) (nI 2) hC dX4_readName_25 (by decide) ?_
        refine sg_callV (pc := 26) (As := [.int (nI 42), .int (nI 2)]) (rest := []) (mc := 0) (ms := 0) hC tw_634 tw_636 tw_5 tw_83 tw_637 yd_X4_acceptWildcard (by decide) (ci := 7) rfl dX4_readName_26 hI.hx rfl (Nat.le_of_ble_eq_true rfl) (by first | omega | decide) (by first | omega | decide) ?_
        refine c_acceptW htr hI 42 2 (by first | omega | decide) (by first | omega | decide) (fun M16 hI => ?_)
        have hI : rd_I G M0 M16 x ta b kd tx ((k_acceptW tx ((k_accept tx ((k_readLabel tx ((k_acceptW tx s 42 2).2)).2) 46).2) 42 2).2) := hI
        have hl17 : ((k_acceptW tx ((k_accept tx ((k_readLabel tx ((k_acceptW tx s 42 2).2)).2) 46).2) 42 2).2).2.1 = ((k_accept tx ((k_readLabel tx ((k_acceptW tx s 42 2).2)).2) 46).2).2.1 := k_acceptW_b tx ((k_accept tx ((k_readLabel tx ((k_acceptW tx s 42 2).2)).2) 46).2) 42 2
        have hl18 : ((k_acceptW tx ((k_accept tx ((k_readLabel tx ((k_acceptW tx s 42 2).2)).2) 46).2) 42 2).2).2.1.length = ((k_accept tx ((k_readLabel tx ((k_acceptW tx s 42 2).2)).2) 46).2).2.1.length := by rw [hl17]
        show sg_W X M16 0 0 29 [some (.ref x), some (.int (nI 1))] [.int (md_b ((k_acceptW tx ((k_accept tx ((k_readLabel tx ((k_acceptW tx s 42 2).2)).2) 46).2) 42 2).1))]
        refine sg_ifB_eq (pc := 29) (b := (k_acceptW tx ((k_accept tx ((k_readLabel tx ((k_acceptW tx s 42 2).2)).2) 46).2) 42 2).1) 34 hC dX4_readName_29 (by decide) (fun h19 => ?_) (fun h19 => ?_)
        · refine sg_aload_n (pc := 34) (v := .ref x) hC dX4_readName_34 rfl rfl ?_
          refine sg_callV (pc := 35) (As := []) (rest := []) (mc := 0) (ms := 0) hC tw_638 tw_640 tw_6 tw_83 tw_641 yd_X4_readLabel (by decide) (ci := 7) rfl dX4_readName_35 hI.hx rfl (Nat.le_of_ble_eq_true rfl) (by first | omega | decide) (by first | omega | decide) ?_
          refine c_readLabel htr hI  (by first | omega | decide) (fun M20 hI => ?_)
          have hI : rd_I G M0 M20 x ta b kd tx ((k_readLabel tx ((k_acceptW tx ((k_accept tx ((k_readLabel tx ((k_acceptW tx s 42 2).2)).2) 46).2) 42 2).2)).2) := hI
          have hl21 : ((k_readLabel tx ((k_acceptW tx ((k_accept tx ((k_readLabel tx ((k_acceptW tx s 42 2).2)).2) 46).2) 42 2).2)).2).2.1.length ≤ ((k_acceptW tx ((k_accept tx ((k_readLabel tx ((k_acceptW tx s 42 2).2)).2) 46).2) 42 2).2).2.1.length + 1 := k_readLabel_b tx ((k_acceptW tx ((k_accept tx ((k_readLabel tx ((k_acceptW tx s 42 2).2)).2) 46).2) 42 2).2)
          show sg_W X M20 0 0 38 [some (.ref x), some (.int (nI 1))] [.int (md_b ((k_readLabel tx ((k_acceptW tx ((k_accept tx ((k_readLabel tx ((k_acceptW tx s 42 2).2)).2) 46).2) 42 2).2)).1))]
          refine sg_ifB_ne (pc := 38) (b := (k_readLabel tx ((k_acceptW tx ((k_accept tx ((k_readLabel tx ((k_acceptW tx s 42 2).2)).2) 46).2) 42 2).2)).1) 43 hC dX4_readName_38 (by decide) (fun h22 => ?_) (fun h22 => ?_)
          · refine sg_iincN (pc := 43) (a := 1) (b := 2) hC dX4_readName_43 rfl (nI_1 _) (by decide) ?_
            show sg_W X M20 0 0 46 [some (.ref x), some (.int (nI 2))] []
            refine sg_goto (pc := 46) 2 hC dX4_readName_46 (by decide) ?_
            refine sg_iload_n (pc := 2) (x := nI 2) hC dX4_readName_2 rfl ?_
            refine sg_iconst (pc := 3) (nI 3) hC dX4_readName_3 (by decide) ?_
            refine sg_icmpN_ge (pc := 4) (a := 2) (b := 3) 49 hC dX4_readName_4 (by decide) (by decide) (by decide) (fun h23 => absurd h23 (by decide)) (fun _ => ?_)
            refine sg_iload_n (pc := 7) (x := nI 2) hC dX4_readName_7 rfl ?_
            refine sg_ifN_le (pc := 8) (a := 2) 22 hC dX4_readName_8 (by decide) (by decide) (fun h24 => absurd h24 (by decide)) (fun _ => ?_)
            refine sg_aload_n (pc := 11) (v := .ref x) hC dX4_readName_11 rfl rfl ?_
            refine sg_bipush (pc := 12) (nI 46) hC dX4_readName_12 (by decide) ?_
            refine sg_callV (pc := 14) (As := [.int (nI 46)]) (rest := []) (mc := 0) (ms := 0) hC tw_626 tw_628 tw_3 tw_83 tw_629 yd_X4_accept (by decide) (ci := 7) rfl dX4_readName_14 hI.hx rfl (Nat.le_of_ble_eq_true rfl) (by first | omega | decide) (by first | omega | decide) ?_
            refine c_accept htr hI 46 (by first | omega | decide) (by first | omega | decide) (fun M25 hI => ?_)
            have hI : rd_I G M0 M25 x ta b kd tx ((k_accept tx ((k_readLabel tx ((k_acceptW tx ((k_accept tx ((k_readLabel tx ((k_acceptW tx s 42 2).2)).2) 46).2) 42 2).2)).2) 46).2) := hI
            have hl26 : ((k_accept tx ((k_readLabel tx ((k_acceptW tx ((k_accept tx ((k_readLabel tx ((k_acceptW tx s 42 2).2)).2) 46).2) 42 2).2)).2) 46).2).2.1 = ((k_readLabel tx ((k_acceptW tx ((k_accept tx ((k_readLabel tx ((k_acceptW tx s 42 2).2)).2) 46).2) 42 2).2)).2).2.1 := congrArg Prod.fst (k_accept_b tx ((k_readLabel tx ((k_acceptW tx ((k_accept tx ((k_readLabel tx ((k_acceptW tx s 42 2).2)).2) 46).2) 42 2).2)).2) 46)
            have hl27 : ((k_accept tx ((k_readLabel tx ((k_acceptW tx ((k_accept tx ((k_readLabel tx ((k_acceptW tx s 42 2).2)).2) 46).2) 42 2).2)).2) 46).2).2.1.length = ((k_readLabel tx ((k_acceptW tx ((k_accept tx ((k_readLabel tx ((k_acceptW tx s 42 2).2)).2) 46).2) 42 2).2)).2).2.1.length := by rw [hl26]
            show sg_W X M25 0 0 17 [some (.ref x), some (.int (nI 2))] [.int (md_b ((k_accept tx ((k_readLabel tx ((k_acceptW tx ((k_accept tx ((k_readLabel tx ((k_acceptW tx s 42 2).2)).2) 46).2) 42 2).2)).2) 46).1))]
            refine sg_ifB_ne (pc := 17) (b := (k_accept tx ((k_readLabel tx ((k_acceptW tx ((k_accept tx ((k_readLabel tx ((k_acceptW tx s 42 2).2)).2) 46).2) 42 2).2)).2) 46).1) 22 hC dX4_readName_17 (by decide) (fun h28 => ?_) (fun h28 => ?_)
            · refine sg_aload_n (pc := 22) (v := .ref x) hC dX4_readName_22 rfl rfl ?_
              refine sg_bipush (pc := 23) (nI 42) hC dX4_readName_23 (by decide) ?_
              refine sg_iconst (pc := 25) (nI 2) hC dX4_readName_25 (by decide) ?_
              refine sg_callV (pc := 26) (As := [.int (nI 42), .int (nI 2)]) (rest := []) (mc := 0) (ms := 0) hC tw_634 tw_636 tw_5 tw_83 tw_637 yd_X4_acceptWildcard (by decide) (ci := 7) rfl dX4_readName_26 hI.hx rfl (Nat.le_of_ble_eq_true rfl) (by first | omega | decide) (by first | omega | decide) ?_
              refine c_acceptW htr hI 42 2 (by first | omega | decide) (by first | omega | decide) (fun M29 hI => ?_)
              have hI : rd_I G M0 M29 x ta b kd tx ((k_acceptW tx ((k_accept tx ((k_readLabel tx ((k_acceptW tx ((k_accept tx ((k_readLabel tx ((k_acceptW tx s 42 2).2)).2) 46).2) 42 2).2)).2) 46).2) 42 2).2) := hI
              have hl30 : ((k_acceptW tx ((k_accept tx ((k_readLabel tx ((k_acceptW tx ((k_accept tx ((k_readLabel tx ((k_acceptW tx s 42 2).2)).2) 46).2) 42 2).2)).2) 46).2) 42 2).2).2.1 = ((k_accept tx ((k_readLabel tx ((k_acceptW tx ((k_accept tx ((k_readLabel tx ((k_acceptW tx s 42 2).2)).2) 46).2) 42 2).2)).2) 46).2).2.1 := k_acceptW_b tx ((k_accept tx ((k_readLabel tx ((k_acceptW tx ((k_accept tx ((k_readLabel tx ((k_acceptW tx s 42 2).2)).2) 46).2) 42 2).2)).2) 46).2) 42 2
              have hl31 : ((k_acceptW tx ((k_accept tx ((k_readLabel tx ((k_acceptW tx ((k_accept tx ((k_readLabel tx ((k_acceptW tx s 42 2).2)).2) 46).2) 42 2).2)).2) 46).2) 42 2).2).2.1.length = ((k_accept tx ((k_readLabel tx ((k_acceptW tx ((k_accept tx ((k_readLabel tx ((k_acceptW tx s 42 2).2)).2) 46).2) 42 2).2)).2) 46).2).2.1.length := by rw [hl30]
              show sg_W X M29 0 0 29 [some (.ref x), some (.int (nI 2))] [.int (md_b ((k_acceptW tx ((k_accept tx ((k_readLabel tx ((k_acceptW tx ((k_accept tx ((k_readLabel tx ((k_acceptW tx s 42 2).2)).2) 46).2) 42 2).2)).2) 46).2) 42 2).1))]
              refine sg_ifB_eq (pc := 29) (b := (k_acceptW tx ((k_accept tx ((k_readLabel tx ((k_acceptW tx ((k_accept tx ((k_readLabel tx ((k_acceptW tx s 42 2).2)).2) 46).2) 42 2).2)).2) 46).2) 42 2).1) 34 hC dX4_readName_29 (by decide) (fun h32 => ?_) (fun h32 => ?_)
              · refine sg_aload_n (pc := 34) (v := .ref x) hC dX4_readName_34 rfl rfl ?_
                refine sg_callV (pc := 35) (As := []) (rest := []) (mc := 0) (ms := 0) hC tw_638 tw_640 tw_6 tw_83 tw_641 yd_X4_readLabel (by decide) (ci := 7) rfl dX4_readName_35 hI.hx rfl (Nat.le_of_ble_eq_true rfl) (by first | omega | decide) (by first | omega | decide) ?_
                refine c_readLabel htr hI  (by first | omega | decide) (fun M33 hI => ?_)
                have hI : rd_I G M0 M33 x ta b kd tx ((k_readLabel tx ((k_acceptW tx ((k_accept tx ((k_readLabel tx ((k_acceptW tx ((k_accept tx ((k_readLabel tx ((k_acceptW tx s 42 2).2)).2) 46).2) 42 2).2)).2) 46).2) 42 2).2)).2) := hI
                have hl34 : ((k_readLabel tx ((k_acceptW tx ((k_accept tx ((k_readLabel tx ((k_acceptW tx ((k_accept tx ((k_readLabel tx ((k_acceptW tx s 42 2).2)).2) 46).2) 42 2).2)).2) 46).2) 42 2).2)).2).2.1.length ≤ ((k_acceptW tx ((k_accept tx ((k_readLabel tx ((k_acceptW tx ((k_accept tx ((k_readLabel tx ((k_acceptW tx s 42 2).2)).2) 46).2) 42 2).2)).2) 46).2) 42 2).2).2.1.length + 1 := k_readLabel_b tx ((k_acceptW tx ((k_accept tx ((k_readLabel tx ((k_acceptW tx ((k_accept tx ((k_readLabel tx ((k_acceptW tx s 42 2).2)).2) 46).2) 42 2).2)).2) 46).2) 42 2).2)
                show sg_W X M33 0 0 38 [some (.ref x), some (.int (nI 2))] [.int (md_b ((k_readLabel tx ((k_acceptW tx ((k_accept tx ((k_readLabel tx ((k_acceptW tx ((k_accept tx ((k_readLabel tx ((k_acceptW tx s 42 2).2)).2) 46).2) 42 2).2)).2) 46).2) 42 2).2)).1))]
                refine sg_ifB_ne (pc := 38) (b := (k_readLabel tx ((k_acceptW tx ((k_accept tx ((k_readLabel tx ((k_acceptW tx ((k_accept tx ((k_readLabel tx ((k_acceptW tx s 42 2).2)).2) 46).2) 42 2).2)).2) 46).2) 42 2).2)).1) 43 hC dX4_readName_38 (by decide) (fun h35 => ?_) (fun h35 => ?_)
                · refine sg_iincN (pc := 43) (a := 2) (b := 3) hC dX4_readName_43 rfl (nI_1 _) (by decide) ?_
                  show sg_W X M33 0 0 46 [some (.ref x), some (.int (nI 3))] []
                  refine sg_goto (pc := 46) 2 hC dX4_readName_46 (by decide) ?_
                  refine sg_iload_n (pc := 2) (x := nI 3) hC dX4_readName_2 rfl ?_
                  refine sg_iconst (pc := 3) (nI 3) hC dX4_readName_3 (by decide) ?_
                  refine sg_icmpN_ge (pc := 4) (a := 3) (b := 3) 49 hC dX4_readName_4 (by decide) (by decide) (by decide) (fun _ => ?_) (fun h36 => absurd h36 (by decide))
                  refine sg_iconst (pc := 49) (nI 1) hC dX4_readName_49 (by decide) ?_
                  have e9 : k_readName tx s = (true, (k_readLabel tx ((k_acceptW tx ((k_accept tx ((k_readLabel tx ((k_acceptW tx ((k_accept tx ((k_readLabel tx ((k_acceptW tx s 42 2).2)).2) 46).2) 42 2).2)).2) 46).2) 42 2).2)).2) := by rw [k_readName]; simp only [if_neg (ts9 h6), if_pos h9, if_pos h15, if_neg (ts9 h19), if_pos h22, if_pos h28, if_neg (ts9 h32), if_pos h35]
                  rw [e9] at hk
                  exact sg_zreturn (st := []) (v := md_b true) (pc := 50) (ty := .boolean) hC hR (md_narb _) dX4_readName_50 (hk M33 hI)
                · refine sg_iconst (pc := 41) (nI 0) hC dX4_readName_41 (by decide) ?_
                  have e9 : k_readName tx s = (false, (k_readLabel tx ((k_acceptW tx ((k_accept tx ((k_readLabel tx ((k_acceptW tx ((k_accept tx ((k_readLabel tx ((k_acceptW tx s 42 2).2)).2) 46).2) 42 2).2)).2) 46).2) 42 2).2)).2) := by rw [k_readName]; simp only [if_neg (ts9 h6), if_pos h9, if_pos h15, if_neg (ts9 h19), if_pos h22, if_pos h28, if_neg (ts9 h32), if_neg (ts9 h35)]
                  rw [e9] at hk
                  exact sg_zreturn (st := []) (v := md_b false) (pc := 42) (ty := .boolean) hC hR (md_narb _) dX4_readName_42 (hk M33 hI)
              · refine sg_iconst (pc := 32) (nI 1) hC dX4_readName_32 (by decide) ?_
                have e9 : k_readName tx s = (true, (k_acceptW tx ((k_accept tx ((k_readLabel tx ((k_acceptW tx ((k_accept tx ((k_readLabel tx ((k_acceptW tx s 42 2).2)).2) 46).2) 42 2).2)).2) 46).2) 42 2).2) := by rw [k_readName]; simp only [if_neg (ts9 h6), if_pos h9, if_pos h15, if_neg (ts9 h19), if_pos h22, if_pos h28, if_pos h32]
                rw [e9] at hk
                exact sg_zreturn (st := []) (v := md_b true) (pc := 33) (ty := .boolean) hC hR (md_narb _) dX4_readName_33 (hk M29 hI)
            · refine sg_iconst (pc := 20) (nI 1) hC dX4_readName_20 (by decide) ?_
              have e9 : k_readName tx s = (true, (k_accept tx ((k_readLabel tx ((k_acceptW tx ((k_accept tx ((k_readLabel tx ((k_acceptW tx s 42 2).2)).2) 46).2) 42 2).2)).2) 46).2) := by rw [k_readName]; simp only [if_neg (ts9 h6), if_pos h9, if_pos h15, if_neg (ts9 h19), if_pos h22, if_neg (ts9 h28)]
              rw [e9] at hk
              exact sg_zreturn (st := []) (v := md_b true) (pc := 21) (ty := .boolean) hC hR (md_narb _) dX4_readName_21 (hk M25 hI)
          · refine sg_iconst (pc := 41) (nI 0) hC dX4_readName_41 (by decide) ?_
            have e9 : k_readName tx s = (false, (k_readLabel tx ((k_acceptW tx ((k_accept tx ((k_readLabel tx ((k_acceptW tx s 42 2).2)).2) 46).2) 42 2).2)).2) := by rw [k_readName]; simp only [if_neg (ts9 h6), if_pos h9, if_pos h15, if_neg (ts9 h19), if_neg (ts9 h22)]
            rw [e9] at hk
            exact sg_zreturn (st := []) (v := md_b false) (pc := 42) (ty := .boolean) hC hR (md_narb _) dX4_readName_42 (hk M20 hI)
        · refine sg_iconst (pc := 32) (nI 1) hC dX4_readName_32 (by decide) ?_
          have e9 : k_readName tx s = (true, (k_acceptW tx ((k_accept tx ((k_readLabel tx ((k_acceptW tx s 42 2).2)).2) 46).2) 42 2).2) := by rw [k_readName]; simp only [if_neg (ts9 h6), if_pos h9, if_pos h15, if_pos h19]
          rw [e9] at hk
          exact sg_zreturn (st := []) (v := md_b true) (pc := 33) (ty := .boolean) hC hR (md_narb _) dX4_readName_33 (hk M16 hI)
      · refine sg_iconst (pc := 20) (nI 1) hC dX4_readName_20 (by decide) ?_
        have e9 : k_readName tx s = (true, (k_accept tx ((k_readLabel tx ((k_acceptW tx s 42 2).2)).2) 46).2) := by rw [k_readName]; simp only [if_neg (ts9 h6), if_pos h9, if_neg (ts9 h15)]
        rw [e9] at hk
        exact sg_zreturn (st := []) (v := md_b true) (pc := 21) (ty := .boolean) hC hR (md_narb _) dX4_readName_21 (hk M12 hI)
    · refine sg_iconst (pc := 41) (nI 0) hC dX4_readName_41 (by decide) ?_
      have e9 : k_readName tx s = (false, (k_readLabel tx ((k_acceptW tx s 42 2).2)).2) := by rw [k_readName]; simp only [if_neg (ts9 h6), if_neg (ts9 h9)]
      rw [e9] at hk
      exact sg_zreturn (st := []) (v := md_b false) (pc := 42) (ty := .boolean) hC hR (md_narb _) dX4_readName_42 (hk M7 hI)
  · refine sg_iconst (pc := 32) (nI 1) hC dX4_readName_32 (by decide) ?_
    have e9 : k_readName tx s = (true, (k_acceptW tx s 42 2).2) := by rw [k_readName]; simp only [if_pos h6]
    rw [e9] at hk
    exact sg_zreturn (st := []) (v := md_b true) (pc := 33) (ty := .boolean) hC hR (md_narb _) dX4_readName_33 (hk M3 hI)

def k_rhl2 (tx : List Nat) (s : RS) : Bool × RS := if (k_readLabel tx s).1 = true then if (k_accept tx ((k_readLabel tx s).2) 46).1 = true then if (k_readLabel tx ((k_accept tx ((k_readLabel tx s).2) 46).2)).1 = true then (true, (((k_readLabel tx ((k_accept tx ((k_readLabel tx s).2) 46).2)).2).1, (((k_readLabel tx ((k_accept tx ((k_readLabel tx s).2) 46).2)).2).2.1).reverse, ((k_readLabel tx ((k_accept tx ((k_readLabel tx s).2) 46).2)).2).2.2.1, ((k_readLabel tx ((k_accept tx ((k_readLabel tx s).2) 46).2)).2).2.2.2.1, ((k_readLabel tx ((k_accept tx ((k_readLabel tx s).2) 46).2)).2).2.2.2.2.1, ((k_readLabel tx ((k_accept tx ((k_readLabel tx s).2) 46).2)).2).2.2.2.2.2)) else (false, (k_readLabel tx ((k_accept tx ((k_readLabel tx s).2) 46).2)).2) else (true, (((k_accept tx ((k_readLabel tx s).2) 46).2).1, (((k_accept tx ((k_readLabel tx s).2) 46).2).2.1).reverse, ((k_accept tx ((k_readLabel tx s).2) 46).2).2.2.1, ((k_accept tx ((k_readLabel tx s).2) 46).2).2.2.2.1, ((k_accept tx ((k_readLabel tx s).2) 46).2).2.2.2.2.1, ((k_accept tx ((k_readLabel tx s).2) 46).2).2.2.2.2.2)) else (false, (k_readLabel tx s).2)
set_option maxHeartbeats 1000000 in
set_option maxRecDepth 100000 in
theorem c_rhl2 {l : Launch} {G : sg_G} {d : Nat} {M0 M : sg_M} {kr : Option Value → sg_M → Prop} {kx : String → sg_M → Prop} {x ta b kd : Nat} {tx : List Nat} {s : RS} (htr : l.stackTraces = false) (hI : rd_I G M0 M x ta b kd tx s) (hl : s.2.1.length = 0) (hk : ∀ M', rd_I G M0 M' x ta b kd tx (k_rhl2 tx s).2 → kr (some (.int (md_b (k_rhl2 tx s).1))) M') : sg_Met l G yX4_readHostLabels cX4_readHostLabels 3 (some .boolean) (d + 6) 0 0 [.ref x, .int (nI 2)] M kr kx := by
  refine sg_enter [some (.ref x), some (.int (nI 2)), none] (by decide) htr (Nat.le_of_ble_eq_true rfl) rfl ?_
  intro X hC hR
  have hC : sg_C X l G cX4_readHostLabels RX4 3 (d + 6) := hC
  have hn1 := hI.hn.1
  have hn2 := hI.hn.2
  have hcs := hI.hc
  refine sg_iconst (pc := 0) (nI 0) hC dX4_readHostLabels_0 (by decide) ?_
  refine sg_istore_n (pc := 1) (x := nI 0) hC dX4_readHostLabels_1 (by decide) ?_
  show sg_W X M 0 0 2 [some (.ref x), some (.int (nI 2)), some (.int (nI 0))] []
  refine sg_iload_n (pc := 2) (x := nI 0) hC dX4_readHostLabels_2 rfl ?_
  refine sg_iload_n (pc := 3) (x := nI 2) hC dX4_readHostLabels_3 rfl ?_
  refine sg_icmpN_ge (pc := 4) (a := 0) (b := 2) 38 hC dX4_readHostLabels_4 (by decide) (by decide) (by decide) (fun h1 => absurd h1 (by decide)) (fun _ => ?_)
  refine sg_iload_n (pc := 7) (x := nI 0) hC dX4_readHostLabels_7 rfl ?_
  refine sg_ifN_le (pc := 8) (a := 0) 23 hC dX4_readHostLabels_8 (by decide) (by decide) (fun _ => ?_) (fun h2 => absurd h2 (by decide))
  refine sg_aload_n (pc := 23) (v := .ref x) hC dX4_readHostLabels_23 rfl rfl ?_
  refine sg_callV (pc := 24) (As := []) (rest := []) (mc := 0) (ms := 0) hC tw_638 tw_640 tw_6 tw_83 tw_641 yd_X4_readLabel (by decide) (ci := 7) rfl dX4_readHostLabels_24 hI.hx rfl (Nat.le_of_ble_eq_true rfl) (by first | omega | decide) (by first | omega | decide) ?_
  refine c_readLabel htr hI  (by first | omega | decide) (fun M3 hI => ?_)
  have hI : rd_I G M0 M3 x ta b kd tx ((k_readLabel tx s).2) := hI
  have hl4 : ((k_readLabel tx s).2).2.1.length ≤ s.2.1.length + 1 := k_readLabel_b tx s
  show sg_W X M3 0 0 27 [some (.ref x), some (.int (nI 2)), some (.int (nI 0))] [.int (md_b ((k_readLabel tx s).1))]
  refine sg_ifB_ne (pc := 27) (b := (k_readLabel tx s).1) 32 hC dX4_readHostLabels_27 (by decide) (fun h5 => ?_) (fun h5 => ?_)
  · have hl6 := k_readLabel_t h5
    refine sg_iincN (pc := 32) (a := 0) (b := 1) hC dX4_readHostLabels_32 rfl (nI_1 _) (by decide) ?_
    show sg_W X M3 0 0 35 [some (.ref x), some (.int (nI 2)), some (.int (nI 1))] []
    refine sg_goto (pc := 35) 2 hC dX4_readHostLabels_35 (by decide) ?_
    refine sg_iload_n (pc := 2) (x := nI 1) hC dX4_readHostLabels_2 rfl ?_
    refine sg_iload_n (pc := 3) (x := nI 2) hC dX4_readHostLabels_3 rfl ?_
    refine sg_icmpN_ge (pc := 4) (a := 1) (b := 2) 38 hC dX4_readHostLabels_4 (by decide) (by decide) (by decide) (fun h7 => absurd h7 (by decide)) (fun _ => ?_)
    refine sg_iload_n (pc := 7) (x := nI 1) hC dX4_readHostLabels_7 rfl ?_
    refine sg_ifN_le (pc := 8) (a := 1) 23 hC dX4_readHostLabels_8 (by decide) (by decide) (fun h8 => absurd h8 (by decide)) (fun _ => ?_)
    refine sg_aload_n (pc := 11) (v := .ref x) hC dX4_readHostLabels_11 rfl rfl ?_
    refine sg_bipush (pc := 12) (nI 46) hC dX4_readHostLabels_12 (by decide) ?_
    refine sg_callV (pc := 14) (As := [.int (nI 46)]) (rest := []) (mc := 0) (ms := 0) hC tw_626 tw_628 tw_3 tw_83 tw_629 yd_X4_accept (by decide) (ci := 7) rfl dX4_readHostLabels_14 hI.hx rfl (Nat.le_of_ble_eq_true rfl) (by first | omega | decide) (by first | omega | decide) ?_
    refine c_accept htr hI 46 (by first | omega | decide) (by first | omega | decide) (fun M9 hI => ?_)
    have hI : rd_I G M0 M9 x ta b kd tx ((k_accept tx ((k_readLabel tx s).2) 46).2) := hI
    have hl10 : ((k_accept tx ((k_readLabel tx s).2) 46).2).2.1 = ((k_readLabel tx s).2).2.1 := congrArg Prod.fst (k_accept_b tx ((k_readLabel tx s).2) 46)
    have hl11 : ((k_accept tx ((k_readLabel tx s).2) 46).2).2.1.length = ((k_readLabel tx s).2).2.1.length := by rw [hl10]
    show sg_W X M9 0 0 17 [some (.ref x), some (.int (nI 2)), some (.int (nI 1))] [.int (md_b ((k_accept tx ((k_readLabel tx s).2) 46).1))]
    refine sg_ifB_ne (pc := 17) (b := (k_accept tx ((k_readLabel tx s).2) 46).1) 23 hC dX4_readHostLabels_17 (by decide) (fun h12 => ?_) (fun h12 => ?_)
    · refine sg_aload_n (pc := 23) (v := .ref x) hC dX4_readHostLabels_23 rfl rfl ?_
      refine sg_callV (pc := 24) (As := []) (rest := []) (mc := 0) (ms := 0) hC tw_638 tw_640 tw_6 tw_83 tw_641 yd_X4_readLabel (by decide) (ci := 7) rfl dX4_readHostLabels_24 hI.hx rfl (Nat.le_of_ble_eq_true rfl) (by first | omega | decide) (by first | omega | decide) ?_
      refine c_readLabel htr hI  (by first | omega | decide) (fun M13 hI => ?_)
      have hI : rd_I G M0 M13 x ta b kd tx ((k_readLabel tx ((k_accept tx ((k_readLabel tx s).2) 46).2)).2) := hI
      have hl14 : ((k_readLabel tx ((k_accept tx ((k_readLabel tx s).2) 46).2)).2).2.1.length ≤ ((k_accept tx ((k_readLabel tx s).2) 46).2).2.1.length + 1 := k_readLabel_b tx ((k_accept tx ((k_readLabel tx s).2) 46).2)
      show sg_W X M13 0 0 27 [some (.ref x), some (.int (nI 2)), some (.int (nI 1))] [.int (md_b ((k_readLabel tx ((k_accept tx ((k_readLabel tx s).2) 46).2)).1))]
      refine sg_ifB_ne (pc := 27) (b := (k_readLabel tx ((k_accept tx ((k_readLabel tx s).2) 46).2)).1) 32 hC dX4_readHostLabels_27 (by decide) (fun h15 => ?_) (fun h15 => ?_)
      · have hl16 := k_readLabel_t h15
        refine sg_iincN (pc := 32) (a := 1) (b := 2) hC dX4_readHostLabels_32 rfl (nI_1 _) (by decide) ?_
        show sg_W X M13 0 0 35 [some (.ref x), some (.int (nI 2)), some (.int (nI 2))] []
        refine sg_goto (pc := 35) 2 hC dX4_readHostLabels_35 (by decide) ?_
        refine sg_iload_n (pc := 2) (x := nI 2) hC dX4_readHostLabels_2 rfl ?_
        refine sg_iload_n (pc := 3) (x := nI 2) hC dX4_readHostLabels_3 rfl ?_
        refine sg_icmpN_ge (pc := 4) (a := 2) (b := 2) 38 hC dX4_readHostLabels_4 (by decide) (by decide) (by decide) (fun _ => ?_) (fun h17 => absurd h17 (by decide))
        refine sg_aload_n (pc := 38) (v := .ref x) hC dX4_readHostLabels_38 rfl rfl ?_
        refine rd_get (pc := 39) (i := 3) hC (by decide) tw_553 dX4_readHostLabels_39 hI rfl ?_
        show sg_W X M13 0 0 42 [some (.ref x), some (.int (nI 2)), some (.int (nI 2))] [.ref b]
        obtain ⟨_, _, _, hx18, -⟩ := id hI.hb
        refine sg_callV (pc := 42) (As := []) (rest := []) (mc := 0) (ms := 0) hC tw_702 tw_703 tw_704 tw_64 tw_705 yd_J4_reverse_43fcb (by decide) (ci := 1) rfl dX4_readHostLabels_42 hx18 rfl (Nat.le_of_ble_eq_true rfl) (by first | omega | decide) (by first | omega | decide) ?_
        refine c_sbRev htr hI.hb (by decide) (by decide) (by decide) (by omega) (by omega) (fun M19 hs20 hf21 => ?_)
        have hI := hI.bld hs20 hf21
        have hI : rd_I G M0 M19 x ta b kd tx ((((k_readLabel tx ((k_accept tx ((k_readLabel tx s).2) 46).2)).2).1, (((k_readLabel tx ((k_accept tx ((k_readLabel tx s).2) 46).2)).2).2.1).reverse, ((k_readLabel tx ((k_accept tx ((k_readLabel tx s).2) 46).2)).2).2.2.1, ((k_readLabel tx ((k_accept tx ((k_readLabel tx s).2) 46).2)).2).2.2.2.1, ((k_readLabel tx ((k_accept tx ((k_readLabel tx s).2) 46).2)).2).2.2.2.2.1, ((k_readLabel tx ((k_accept tx ((k_readLabel tx s).2) 46).2)).2).2.2.2.2.2)) := hI
        show sg_W X M19 0 0 45 [some (.ref x), some (.int (nI 2)), some (.int (nI 2))] [.ref b]
        refine sg_pop (pc := 45) hC dX4_readHostLabels_45 rfl ?_
        refine sg_iconst (pc := 46) (nI 1) hC dX4_readHostLabels_46 (by decide) ?_
        have e9 : k_rhl2 tx s = (true, (((k_readLabel tx ((k_accept tx ((k_readLabel tx s).2) 46).2)).2).1, (((k_readLabel tx ((k_accept tx ((k_readLabel tx s).2) 46).2)).2).2.1).reverse, ((k_readLabel tx ((k_accept tx ((k_readLabel tx s).2) 46).2)).2).2.2.1, ((k_readLabel tx ((k_accept tx ((k_readLabel tx s).2) 46).2)).2).2.2.2.1, ((k_readLabel tx ((k_accept tx ((k_readLabel tx s).2) 46).2)).2).2.2.2.2.1, ((k_readLabel tx ((k_accept tx ((k_readLabel tx s).2) 46).2)).2).2.2.2.2.2)) := by rw [k_rhl2]; simp only [if_pos h5, if_pos h12, if_pos h15]
        rw [e9] at hk
        exact sg_zreturn (st := []) (v := md_b true) (pc := 47) (ty := .boolean) hC hR (md_narb _) dX4_readHostLabels_47 (hk M19 hI)
      · refine sg_iconst (pc := 30) (nI 0) hC dX4_readHostLabels_30 (by decide) ?_
        have e9 : k_rhl2 tx s = (false, (k_readLabel tx ((k_accept tx ((k_readLabel tx s).2) 46).2)).2) := by rw [k_rhl2]; simp only [if_pos h5, if_pos h12, if_neg (ts9 h15)]
        rw [e9] at hk
        exact sg_zreturn (st := []) (v := md_b false) (pc := 31) (ty := .boolean) hC hR (md_narb _) dX4_readHostLabels_31 (hk M13 hI)
    · refine sg_goto (pc := 20) 38 hC dX4_readHostLabels_20 (by decide) ?_
      refine sg_aload_n (pc := 38) (v := .ref x) hC dX4_readHostLabels_38 rfl rfl ?_
      refine rd_get (pc := 39) (i := 3) hC (by decide) tw_553 dX4_readHostLabels_39 hI rfl ?_
      show sg_W X M9 0 0 42 [some (.ref x), some (.int (nI 2)), some (.int (nI 1))] [.ref b]
      obtain ⟨_, _, _, hx22, -⟩ := id hI.hb
      refine sg_callV (pc := 42) (As := []) (rest := []) (mc := 0) (ms := 0) hC tw_702 tw_703 tw_704 tw_64 tw_705 yd_J4_reverse_43fcb (by decide) (ci := 1) rfl dX4_readHostLabels_42 hx22 rfl (Nat.le_of_ble_eq_true rfl) (by first | omega | decide) (by first | omega | decide) ?_
      refine c_sbRev htr hI.hb (by decide) (by decide) (by decide) (by omega) (by omega) (fun M23 hs24 hf25 => ?_)
      have hI := hI.bld hs24 hf25
      have hI : rd_I G M0 M23 x ta b kd tx ((((k_accept tx ((k_readLabel tx s).2) 46).2).1, (((k_accept tx ((k_readLabel tx s).2) 46).2).2.1).reverse, ((k_accept tx ((k_readLabel tx s).2) 46).2).2.2.1, ((k_accept tx ((k_readLabel tx s).2) 46).2).2.2.2.1, ((k_accept tx ((k_readLabel tx s).2) 46).2).2.2.2.2.1, ((k_accept tx ((k_readLabel tx s).2) 46).2).2.2.2.2.2)) := hI
      show sg_W X M23 0 0 45 [some (.ref x), some (.int (nI 2)), some (.int (nI 1))] [.ref b]
      refine sg_pop (pc := 45) hC dX4_readHostLabels_45 rfl ?_
      refine sg_iconst (pc := 46) (nI 1) hC dX4_readHostLabels_46 (by decide) ?_
      have e9 : k_rhl2 tx s = (true, (((k_accept tx ((k_readLabel tx s).2) 46).2).1, (((k_accept tx ((k_readLabel tx s).2) 46).2).2.1).reverse, ((k_accept tx ((k_readLabel tx s).2) 46).2).2.2.1, ((k_accept tx ((k_readLabel tx s).2) 46).2).2.2.2.1, ((k_accept tx ((k_readLabel tx s).2) 46).2).2.2.2.2.1, ((k_accept tx ((k_readLabel tx s).2) 46).2).2.2.2.2.2)) := by rw [k_rhl2]; simp only [if_pos h5, if_neg (ts9 h12)]
      rw [e9] at hk
      exact sg_zreturn (st := []) (v := md_b true) (pc := 47) (ty := .boolean) hC hR (md_narb _) dX4_readHostLabels_47 (hk M23 hI)
  · refine sg_iconst (pc := 30) (nI 0) hC dX4_readHostLabels_30 (by decide) ?_
    have e9 : k_rhl2 tx s = (false, (k_readLabel tx s).2) := by rw [k_rhl2]; simp only [if_neg (ts9 h5)]
    rw [e9] at hk
    exact sg_zreturn (st := []) (v := md_b false) (pc := 31) (ty := .boolean) hC hR (md_narb _) dX4_readHostLabels_31 (hk M3 hI)

def k_rhl3 (tx : List Nat) (s : RS) : Bool × RS := if (k_readLabel tx s).1 = true then if (k_accept tx ((k_readLabel tx s).2) 46).1 = true then if (k_readLabel tx ((k_accept tx ((k_readLabel tx s).2) 46).2)).1 = true then if (k_accept tx ((k_readLabel tx ((k_accept tx ((k_readLabel tx s).2) 46).2)).2) 46).1 = true then if (k_readLabel tx ((k_accept tx ((k_readLabel tx ((k_accept tx ((k_readLabel tx s).2) 46).2)).2) 46).2)).1 = true then (true, (((k_readLabel tx ((k_accept tx ((k_readLabel tx ((k_accept tx ((k_readLabel tx s).2) 46).2)).2) 46).2)).2).1, (((k_readLabel tx ((k_accept tx ((k_readLabel tx ((k_accept tx ((k_readLabel tx s).2) 46).2)).2) 46).2)).2).2.1).reverse, ((k_readLabel tx ((k_accept tx ((k_readLabel tx ((k_accept tx ((k_readLabel tx s).2) 46).2)).2) 46).2)).2).2.2.1, ((k_readLabel tx ((k_accept tx ((k_readLabel tx ((k_accept tx ((k_readLabel tx s).2) 46).2)).2) 46).2)).2).2.2.2.1, ((k_readLabel tx ((k_accept tx ((k_readLabel tx ((k_accept tx ((k_readLabel tx s).2) 46).2)).2) 46).2)).2).2.2.2.2.1, ((k_readLabel tx ((k_accept tx ((k_readLabel tx ((k_accept tx ((k_readLabel tx s).2) 46).2)).2) 46).2)).2).2.2.2.2.2)) else (false, (k_readLabel tx ((k_accept tx ((k_readLabel tx ((k_accept tx ((k_readLabel tx s).2) 46).2)).2) 46).2)).2) else (true, (((k_accept tx ((k_readLabel tx ((k_accept tx ((k_readLabel tx s).2) 46).2)).2) 46).2).1, (((k_accept tx ((k_readLabel tx ((k_accept tx ((k_readLabel tx s).2) 46).2)).2) 46).2).2.1).reverse, ((k_accept tx ((k_readLabel tx ((k_accept tx ((k_readLabel tx s).2) 46).2)).2) 46).2).2.2.1, ((k_accept tx ((k_readLabel tx ((k_accept tx ((k_readLabel tx s).2) 46).2)).2) 46).2).2.2.2.1, ((k_accept tx ((k_readLabel tx ((k_accept tx ((k_readLabel tx s).2) 46).2)).2) 46).2).2.2.2.2.1, ((k_accept tx ((k_readLabel tx ((k_accept tx ((k_readLabel tx s).2) 46).2)).2) 46).2).2.2.2.2.2)) else (false, (k_readLabel tx ((k_accept tx ((k_readLabel tx s).2) 46).2)).2) else (true, (((k_accept tx ((k_readLabel tx s).2) 46).2).1, (((k_accept tx ((k_readLabel tx s).2) 46).2).2.1).reverse, ((k_accept tx ((k_readLabel tx s).2) 46).2).2.2.1, ((k_accept tx ((k_readLabel tx s).2) 46).2).2.2.2.1, ((k_accept tx ((k_readLabel tx s).2) 46).2).2.2.2.2.1, ((k_accept tx ((k_readLabel tx s).2) 46).2).2.2.2.2.2)) else (false, (k_readLabel tx s).2)
set_option maxHeartbeats 1000000 in
set_option maxRecDepth 100000 in
theorem c_rhl3 {l : Launch} {G : sg_G} {d : Nat} {M0 M : sg_M} {kr : Option Value → sg_M → Prop} {kx : String → sg_M → Prop} {x ta b kd : Nat} {tx : List Nat} {s : RS} (htr : l.stackTraces = false) (hI : rd_I G M0 M x ta b kd tx s) (hl : s.2.1.length = 0) (hk : ∀ M', rd_I G M0 M' x ta b kd tx (k_rhl3 tx s).2 → kr (some (.int (md_b (k_rhl3 tx s).1))) M') : sg_Met l G yX4_readHostLabels cX4_readHostLabels 3 (some .boolean) (d + 6) 0 0 [.ref x, .int (nI 3)] M kr kx := by
  refine sg_enter [some (.ref x), some (.int (nI 3)), none] (by decide) htr (Nat.le_of_ble_eq_true rfl) rfl ?_
  intro X hC hR
  have hC : sg_C X l G cX4_readHostLabels RX4 3 (d + 6) := hC
  have hn1 := hI.hn.1
  have hn2 := hI.hn.2
  have hcs := hI.hc
  refine sg_iconst (pc := 0) (nI 0) hC dX4_readHostLabels_0 (by decide) ?_
  refine sg_istore_n (pc := 1) (x := nI 0) hC dX4_readHostLabels_1 (by decide) ?_
  show sg_W X M 0 0 2 [some (.ref x), some (.int (nI 3)), some (.int (nI 0))] []
  refine sg_iload_n (pc := 2) (x := nI 0) hC dX4_readHostLabels_2 rfl ?_
  refine sg_iload_n (pc := 3) (x := nI 3) hC dX4_readHostLabels_3 rfl ?_
  refine sg_icmpN_ge (pc := 4) (a := 0) (b := 3) 38 hC dX4_readHostLabels_4 (by decide) (by decide) (by decide) (fun h1 => absurd h1 (by decide)) (fun _ => ?_)
  refine sg_iload_n (pc := 7) (x := nI 0) hC dX4_readHostLabels_7 rfl ?_
  refine sg_ifN_le (pc := 8) (a := 0) 23 hC dX4_readHostLabels_8 (by decide) (by decide) (fun _ => ?_) (fun h2 => absurd h2 (by decide))
  refine sg_aload_n (pc := 23) (v := .ref x) hC dX4_readHostLabels_23 rfl rfl ?_
  refine sg_callV (pc := 24) (As := []) (rest := []) (mc := 0) (ms := 0) hC tw_638 tw_640 tw_6 tw_83 tw_641 yd_X4_readLabel (by decide) (ci := 7) rfl dX4_readHostLabels_24 hI.hx rfl (Nat.le_of_ble_eq_true rfl) (by first | omega | decide) (by first | omega | decide) ?_
  refine c_readLabel htr hI  (by first | omega | decide) (fun M3 hI => ?_)
  have hI : rd_I G M0 M3 x ta b kd tx ((k_readLabel tx s).2) := hI
  have hl4 : ((k_readLabel tx s).2).2.1.length ≤ s.2.1.length + 1 := k_readLabel_b tx s
  show sg_W X M3 0 0 27 [some (.ref x), some (.int (nI 3)), some (.int (nI 0))] [.int (md_b ((k_readLabel tx s).1))]
  refine sg_ifB_ne (pc := 27) (b := (k_readLabel tx s).1) 32 hC dX4_readHostLabels_27 (by decide) (fun h5 => ?_) (fun h5 => ?_)
  · have hl6 := k_readLabel_t h5
    refine sg_iincN (pc := 32) (a := 0) (b := 1) hC dX4_readHostLabels_32 rfl (nI_1 _) (by decide) ?_
    show sg_W X M3 0 0 35 [some (.ref x), some (.int (nI 3)), some (.int (nI 1))] []
    refine sg_goto (pc := 35) 2 hC dX4_readHostLabels_35 (by decide) ?_
    refine sg_iload_n (pc := 2) (x := nI 1) hC dX4_readHostLabels_2 rfl ?_
    refine sg_iload_n (pc := 3) (x := nI 3) hC dX4_readHostLabels_3 rfl ?_
    refine sg_icmpN_ge (pc := 4) (a := 1) (b := 3) 38 hC dX4_readHostLabels_4 (by decide) (by decide) (by decide) (fun h7 => absurd h7 (by decide)) (fun _ => ?_)
    refine sg_iload_n (pc := 7) (x := nI 1) hC dX4_readHostLabels_7 rfl ?_
    refine sg_ifN_le (pc := 8) (a := 1) 23 hC dX4_readHostLabels_8 (by decide) (by decide) (fun h8 => absurd h8 (by decide)) (fun _ => ?_)
    refine sg_aload_n (pc := 11) (v := .ref x) hC dX4_readHostLabels_11 rfl rfl ?_
    refine sg_bipush (pc := 12) (nI 46) hC dX4_readHostLabels_12 (by decide) ?_
    refine sg_callV (pc := 14) (As := [.int (nI 46)]) (rest := []) (mc := 0) (ms := 0) hC tw_626 tw_628 tw_3 tw_83 tw_629 yd_X4_accept (by decide) (ci := 7) rfl dX4_readHostLabels_14 hI.hx rfl (Nat.le_of_ble_eq_true rfl) (by first | omega | decide) (by first | omega | decide) ?_
    refine c_accept htr hI 46 (by first | omega | decide) (by first | omega | decide) (fun M9 hI => ?_)
    have hI : rd_I G M0 M9 x ta b kd tx ((k_accept tx ((k_readLabel tx s).2) 46).2) := hI
    have hl10 : ((k_accept tx ((k_readLabel tx s).2) 46).2).2.1 = ((k_readLabel tx s).2).2.1 := congrArg Prod.fst (k_accept_b tx ((k_readLabel tx s).2) 46)
    have hl11 : ((k_accept tx ((k_readLabel tx s).2) 46).2).2.1.length = ((k_readLabel tx s).2).2.1.length := by rw [hl10]
    show sg_W X M9 0 0 17 [some (.ref x), some (.int (nI 3)), some (.int (nI 1))] [.int (md_b ((k_accept tx ((k_readLabel tx s).2) 46).1))]
    refine sg_ifB_ne (pc := 17) (b := (k_accept tx ((k_readLabel tx s).2) 46).1) 23 hC dX4_readHostLabels_17 (by decide) (fun h12 => ?_) (fun h12 => ?_)
    · refine sg_aload_n (pc := 23) (v := .ref x) hC dX4_readHostLabels_23 rfl rfl ?_
      refine sg_callV (pc := 24) (As := []) (rest := []) (mc := 0) (ms := 0) hC tw_638 tw_640 tw_6 tw_83 tw_641 yd_X4_readLabel (by decide) (ci := 7) rfl dX4_readHostLabels_24 hI.hx rfl (Nat.le_of_ble_eq_true rfl) (by first | omega | decide) (by first | omega | decide) ?_
      refine c_readLabel htr hI  (by first | omega | decide) (fun M13 hI => ?_)
      have hI : rd_I G M0 M13 x ta b kd tx ((k_readLabel tx ((k_accept tx ((k_readLabel tx s).2) 46).2)).2) := hI
      have hl14 : ((k_readLabel tx ((k_accept tx ((k_readLabel tx s).2) 46).2)).2).2.1.length ≤ ((k_accept tx ((k_readLabel tx s).2) 46).2).2.1.length + 1 := k_readLabel_b tx ((k_accept tx ((k_readLabel tx s).2) 46).2)
      show sg_W X M13 0 0 27 [some (.ref x), some (.int (nI 3)), some (.int (nI 1))] [.int (md_b ((k_readLabel tx ((k_accept tx ((k_readLabel tx s).2) 46).2)).1))]
      refine sg_ifB_ne (pc := 27) (b := (k_readLabel tx ((k_accept tx ((k_readLabel tx s).2) 46).2)).1) 32 hC dX4_readHostLabels_27 (by decide) (fun h15 => ?_) (fun h15 => ?_)
      · have hl16 := k_readLabel_t h15
        refine sg_iincN (pc := 32) (a := 1) (b := 2) hC dX4_readHostLabels_32 rfl (nI_1 _) (by decide) ?_
        show sg_W X M13 0 0 35 [some (.ref x), some (.int (nI 3)), some (.int (nI 2))] []
        refine sg_goto (pc := 35) 2 hC dX4_readHostLabels_35 (by decide) ?_
        refine sg_iload_n (pc := 2) (x := nI 2) hC dX4_readHostLabels_2 rfl ?_
        refine sg_iload_n (pc := 3) (x := nI 3) hC dX4_readHostLabels_3 rfl ?_
        refine sg_icmpN_ge (pc := 4) (a := 2) (b := 3) 38 hC dX4_readHostLabels_4 (by decide) (by decide) (by decide) (fun h17 => absurd h17 (by decide)) (fun _ => ?_)
        refine sg_iload_n (pc := 7) (x := nI 2) hC dX4_readHostLabels_7 rfl ?_
        refine sg_ifN_le (pc := 8) (a := 2) 23 hC dX4_readHostLabels_8 (by decide) (by decide) (fun h18 => absurd h18 (by decide)) (fun _ => ?_)
        refine sg_aload_n (pc := 11) (v := .ref x) hC dX4_readHostLabels_11 rfl rfl ?_
        refine sg_bipush (pc := 12) (nI 46) hC dX4_readHostLabels_12 (by decide) ?_
        refine sg_callV (pc := 14) (As := [.int (nI 46)]) (rest := []) (mc := 0) (ms := 0) hC tw_626 tw_628 tw_3 tw_83 tw_629 yd_X4_accept (by decide) (ci := 7) rfl dX4_readHostLabels_14 hI.hx rfl (Nat.le_of_ble_eq_true rfl) (by first | omega | decide) (by first | omega | decide) ?_
        refine c_accept htr hI 46 (by first | omega | decide) (by first | omega | decide) (fun M19 hI => ?_)
        have hI : rd_I G M0 M19 x ta b kd tx ((k_accept tx ((k_readLabel tx ((k_accept tx ((k_readLabel tx s).2) 46).2)).2) 46).2) := hI
        have hl20 : ((k_accept tx ((k_readLabel tx ((k_accept tx ((k_readLabel tx s).2) 46).2)).2) 46).2).2.1 = ((k_readLabel tx ((k_accept tx ((k_readLabel tx s).2) 46).2)).2).2.1 := congrArg Prod.fst (k_accept_b tx ((k_readLabel tx ((k_accept tx ((k_readLabel tx s).2) 46).2)).2) 46)
        have hl21 : ((k_accept tx ((k_readLabel tx ((k_accept tx ((k_readLabel tx s).2) 46).2)).2) 46).2).2.1.length = ((k_readLabel tx ((k_accept tx ((k_readLabel tx s).2) 46).2)).2).2.1.length := by rw [hl20]
        show sg_W X M19 0 0 17 [some (.ref x), some (.int (nI 3)), some (.int (nI 2))] [.int (md_b ((k_accept tx ((k_readLabel tx ((k_accept tx ((k_readLabel tx s).2) 46).2)).2) 46).1))]
        refine sg_ifB_ne (pc := 17) (b := (k_accept tx ((k_readLabel tx ((k_accept tx ((k_readLabel tx s).2) 46).2)).2) 46).1) 23 hC dX4_readHostLabels_17 (by decide) (fun h22 => ?_) (fun h22 => ?_)
        · refine sg_aload_n (pc := 23) (v := .ref x) hC dX4_readHostLabels_23 rfl rfl ?_
          refine sg_callV (pc := 24) (As := []) (rest := []) (mc := 0) (ms := 0) hC tw_638 tw_640 tw_6 tw_83 tw_641 yd_X4_readLabel (by decide) (ci := 7) rfl dX4_readHostLabels_24 hI.hx rfl (Nat.le_of_ble_eq_true rfl) (by first | omega | decide) (by first | omega | decide) ?_
          refine c_readLabel htr hI  (by first | omega | decide) (fun M23 hI => ?_)
          have hI : rd_I G M0 M23 x ta b kd tx ((k_readLabel tx ((k_accept tx ((k_readLabel tx ((k_accept tx ((k_readLabel tx s).2) 46).2)).2) 46).2)).2) := hI
          have hl24 : ((k_readLabel tx ((k_accept tx ((k_readLabel tx ((k_accept tx ((k_readLabel tx s).2) 46).2)).2) 46).2)).2).2.1.length ≤ ((k_accept tx ((k_readLabel tx ((k_accept tx ((k_readLabel tx s).2) 46).2)).2) 46).2).2.1.length + 1 := k_readLabel_b tx ((k_accept tx ((k_readLabel tx ((k_accept tx ((k_readLabel tx s).2) 46).2)).2) 46).2)
          show sg_W X M23 0 0 27 [some (.ref x), some (.int (nI 3)), some (.int (nI 2))] [.int (md_b ((k_readLabel tx ((k_accept tx ((k_readLabel tx ((k_accept tx ((k_readLabel tx s).2) 46).2)).2) 46).2)).1))]
          refine sg_ifB_ne (pc := 27) (b := (k_readLabel tx ((k_accept tx ((k_readLabel tx ((k_accept tx ((k_readLabel tx s).2) 46).2)).2) 46).2)).1) 32 hC dX4_readHostLabels_27 (by decide) (fun h25 => ?_) (fun h25 => ?_)
          · have hl26 := k_readLabel_t h25
            refine sg_iincN (pc := 32) (a := 2) (b := 3) hC dX4_readHostLabels_32 rfl (nI_1 _) (by decide) ?_
            show sg_W X M23 0 0 35 [some (.ref x), some (.int (nI 3)), some (.int (nI 3))] []
            refine sg_goto (pc := 35) 2 hC dX4_readHostLabels_35 (by decide) ?_
            refine sg_iload_n (pc := 2) (x := nI 3) hC dX4_readHostLabels_2 rfl ?_
            refine sg_iload_n (pc := 3) (x := nI 3) hC dX4_readHostLabels_3 rfl ?_
            refine sg_icmpN_ge (pc := 4) (a := 3) (b := 3) 38 hC dX4_readHostLabels_4 (by decide) (by decide) (by decide) (fun _ => ?_) (fun h27 => absurd h27 (by decide))
            refine sg_aload_n (pc := 38) (v := .ref x) hC dX4_readHostLabels_38 rfl rfl ?_
            refine rd_get (pc := 39) (i := 3) hC (by decide) tw_553 dX4_readHostLabels_39 hI rfl ?_
            show sg_W X M23 0 0 42 [some (.ref x), some (.int (nI 3)), some (.int (nI 3))] [.ref b]
            obtain ⟨_, _, _, hx28, -⟩ := id hI.hb
            refine sg_callV (pc := 42) (As := []) (rest := []) (mc := 0) (ms := 0) hC tw_702 tw_703 tw_704 tw_64 tw_705 yd_J4_reverse_43fcb (by decide) (ci := 1) rfl dX4_readHostLabels_42 hx28 rfl (Nat.le_of_ble_eq_true rfl) (by first | omega | decide) (by first | omega | decide) ?_
            refine c_sbRev htr hI.hb (by decide) (by decide) (by decide) (by omega) (by omega) (fun M29 hs30 hf31 => ?_)
            have hI := hI.bld hs30 hf31
            have hI : rd_I G M0 M29 x ta b kd tx ((((k_readLabel tx ((k_accept tx ((k_readLabel tx ((k_accept tx ((k_readLabel tx s).2) 46).2)).2) 46).2)).2).1, (((k_readLabel tx ((k_accept tx ((k_readLabel tx ((k_accept tx ((k_readLabel tx s).2) 46).2)).2) 46).2)).2).2.1).reverse, ((k_readLabel tx ((k_accept tx ((k_readLabel tx ((k_accept tx ((k_readLabel tx s).2) 46).2)).2) 46).2)).2).2.2.1, ((k_readLabel tx ((k_accept tx ((k_readLabel tx ((k_accept tx ((k_readLabel tx s).2) 46).2)).2) 46).2)).2).2.2.2.1, ((k_readLabel tx ((k_accept tx ((k_readLabel tx ((k_accept tx ((k_readLabel tx s).2) 46).2)).2) 46).2)).2).2.2.2.2.1, ((k_readLabel tx ((k_accept tx ((k_readLabel tx ((k_accept tx ((k_readLabel tx s).2) 46).2)).2) 46).2)).2).2.2.2.2.2)) := hI
            show sg_W X M29 0 0 45 [some (.ref x), some (.int (nI 3)), some (.int (nI 3))] [.ref b]
            refine sg_pop (pc := 45) hC dX4_readHostLabels_45 rfl ?_
            refine sg_iconst (pc := 46) (nI 1) hC dX4_readHostLabels_46 (by decide) ?_
            have e9 : k_rhl3 tx s = (true, (((k_readLabel tx ((k_accept tx ((k_readLabel tx ((k_accept tx ((k_readLabel tx s).2) 46).2)).2) 46).2)).2).1, (((k_readLabel tx ((k_accept tx ((k_readLabel tx ((k_accept tx ((k_readLabel tx s).2) 46).2)).2) 46).2)).2).2.1).reverse, ((k_readLabel tx ((k_accept tx ((k_readLabel tx ((k_accept tx ((k_readLabel tx s).2) 46).2)).2) 46).2)).2).2.2.1, ((k_readLabel tx ((k_accept tx ((k_readLabel tx ((k_accept tx ((k_readLabel tx s).2) 46).2)).2) 46).2)).2).2.2.2.1, ((k_readLabel tx ((k_accept tx ((k_readLabel tx ((k_accept tx ((k_readLabel tx s).2) 46).2)).2) 46).2)).2).2.2.2.2.1, ((k_readLabel tx ((k_accept tx ((k_readLabel tx ((k_accept tx ((k_readLabel tx s).2) 46).2)).2) 46).2)).2).2.2.2.2.2)) := by rw [k_rhl3]; simp only [if_pos h5, if_pos h12, if_pos h15, if_pos h22, if_pos h25]
            rw [e9] at hk
            exact sg_zreturn (st := []) (v := md_b true) (pc := 47) (ty := .boolean) hC hR (md_narb _) dX4_readHostLabels_47 (hk M29 hI)
          · refine sg_iconst (pc := 30) (nI 0) hC dX4_readHostLabels_30 (by decide) ?_
            have e9 : k_rhl3 tx s = (false, (k_readLabel tx ((k_accept tx ((k_readLabel tx ((k_accept tx ((k_readLabel tx s).2) 46).2)).2) 46).2)).2) := by rw [k_rhl3]; simp only [if_pos h5, if_pos h12, if_pos h15, if_pos h22, if_neg (ts9 h25)]
            rw [e9] at hk
            exact sg_zreturn (st := []) (v := md_b false) (pc := 31) (ty := .boolean) hC hR (md_narb _) dX4_readHostLabels_31 (hk M23 hI)
        · refine sg_goto (pc := 20) 38 hC dX4_readHostLabels_20 (by decide) ?_
          refine sg_aload_n (pc := 38) (v := .ref x) hC dX4_readHostLabels_38 rfl rfl ?_
          refine rd_get (pc := 39) (i := 3) hC (by decide) tw_553 dX4_readHostLabels_39 hI rfl ?_
          show sg_W X M19 0 0 42 [some (.ref x), some (.int (nI 3)), some (.int (nI 2))] [.ref b]
          obtain ⟨_, _, _, hx32, -⟩ := id hI.hb
          refine sg_callV (pc := 42) (As := []) (rest := []) (mc := 0) (ms := 0) hC tw_702 tw_703 tw_704 tw_64 tw_705 yd_J4_reverse_43fcb (by decide) (ci := 1) rfl dX4_readHostLabels_42 hx32 rfl (Nat.le_of_ble_eq_true rfl) (by first | omega | decide) (by first | omega | decide) ?_
          refine c_sbRev htr hI.hb (by decide) (by decide) (by decide) (by omega) (by omega) (fun M33 hs34 hf35 => ?_)
          have hI := hI.bld hs34 hf35
          have hI : rd_I G M0 M33 x ta b kd tx ((((k_accept tx ((k_readLabel tx ((k_accept tx ((k_readLabel tx s).2) 46).2)).2) 46).2).1, (((k_accept tx ((k_readLabel tx ((k_accept tx ((k_readLabel tx s).2) 46).2)).2) 46).2).2.1).reverse, ((k_accept tx ((k_readLabel tx ((k_accept tx ((k_readLabel tx s).2) 46).2)).2) 46).2).2.2.1, ((k_accept tx ((k_readLabel tx ((k_accept tx ((k_readLabel tx s).2) 46).2)).2) 46).2).2.2.2.1, ((k_accept tx ((k_readLabel tx ((k_accept tx ((k_readLabel tx s).2) 46).2)).2) 46).2).2.2.2.2.1, ((k_accept tx ((k_readLabel tx ((k_accept tx ((k_readLabel tx s).2) 46).2)).2) 46).2).2.2.2.2.2)) := hI
          show sg_W X M33 0 0 45 [some (.ref x), some (.int (nI 3)), some (.int (nI 2))] [.ref b]
          refine sg_pop (pc := 45) hC dX4_readHostLabels_45 rfl ?_
          refine sg_iconst (pc := 46) (nI 1) hC dX4_readHostLabels_46 (by decide) ?_
          have e9 : k_rhl3 tx s = (true, (((k_accept tx ((k_readLabel tx ((k_accept tx ((k_readLabel tx s).2) 46).2)).2) 46).2).1, (((k_accept tx ((k_readLabel tx ((k_accept tx ((k_readLabel tx s).2) 46).2)).2) 46).2).2.1).reverse, ((k_accept tx ((k_readLabel tx ((k_accept tx ((k_readLabel tx s).2) 46).2)).2) 46).2).2.2.1, ((k_accept tx ((k_readLabel tx ((k_accept tx ((k_readLabel tx s).2) 46).2)).2) 46).2).2.2.2.1, ((k_accept tx ((k_readLabel tx ((k_accept tx ((k_readLabel tx s).2) 46).2)).2) 46).2).2.2.2.2.1, ((k_accept tx ((k_readLabel tx ((k_accept tx ((k_readLabel tx s).2) 46).2)).2) 46).2).2.2.2.2.2)) := by rw [k_rhl3]; simp only [if_pos h5, if_pos h12, if_pos h15, if_neg (ts9 h22)]
          rw [e9] at hk
          exact sg_zreturn (st := []) (v := md_b true) (pc := 47) (ty := .boolean) hC hR (md_narb _) dX4_readHostLabels_47 (hk M33 hI)
      · refine sg_iconst (pc := 30) (nI 0) hC dX4_readHostLabels_30 (by decide) ?_
        have e9 : k_rhl3 tx s = (false, (k_readLabel tx ((k_accept tx ((k_readLabel tx s).2) 46).2)).2) := by rw [k_rhl3]; simp only [if_pos h5, if_pos h12, if_neg (ts9 h15)]
        rw [e9] at hk
        exact sg_zreturn (st := []) (v := md_b false) (pc := 31) (ty := .boolean) hC hR (md_narb _) dX4_readHostLabels_31 (hk M13 hI)
    · refine sg_goto (pc := 20) 38 hC dX4_readHostLabels_20 (by decide) ?_
      refine sg_aload_n (pc := 38) (v := .ref x) hC dX4_readHostLabels_38 rfl rfl ?_
      refine rd_get (pc := 39) (i := 3) hC (by decide) tw_553 dX4_readHostLabels_39 hI rfl ?_
      show sg_W X M9 0 0 42 [some (.ref x), some (.int (nI 3)), some (.int (nI 1))] [.ref b]
      obtain ⟨_, _, _, hx36, -⟩ := id hI.hb
      refine sg_callV (pc := 42) (As := []) (rest := []) (mc := 0) (ms := 0) hC tw_702 tw_703 tw_704 tw_64 tw_705 yd_J4_reverse_43fcb (by decide) (ci := 1) rfl dX4_readHostLabels_42 hx36 rfl (Nat.le_of_ble_eq_true rfl) (by first | omega | decide) (by first | omega | decide) ?_
      refine c_sbRev htr hI.hb (by decide) (by decide) (by decide) (by omega) (by omega) (fun M37 hs38 hf39 => ?_)
      have hI := hI.bld hs38 hf39
      have hI : rd_I G M0 M37 x ta b kd tx ((((k_accept tx ((k_readLabel tx s).2) 46).2).1, (((k_accept tx ((k_readLabel tx s).2) 46).2).2.1).reverse, ((k_accept tx ((k_readLabel tx s).2) 46).2).2.2.1, ((k_accept tx ((k_readLabel tx s).2) 46).2).2.2.2.1, ((k_accept tx ((k_readLabel tx s).2) 46).2).2.2.2.2.1, ((k_accept tx ((k_readLabel tx s).2) 46).2).2.2.2.2.2)) := hI
      show sg_W X M37 0 0 45 [some (.ref x), some (.int (nI 3)), some (.int (nI 1))] [.ref b]
      refine sg_pop (pc := 45) hC dX4_readHostLabels_45 rfl ?_
      refine sg_iconst (pc := 46) (nI 1) hC dX4_readHostLabels_46 (by decide) ?_
      have e9 : k_rhl3 tx s = (true, (((k_accept tx ((k_readLabel tx s).2) 46).2).1, (((k_accept tx ((k_readLabel tx s).2) 46).2).2.1).reverse, ((k_accept tx ((k_readLabel tx s).2) 46).2).2.2.1, ((k_accept tx ((k_readLabel tx s).2) 46).2).2.2.2.1, ((k_accept tx ((k_readLabel tx s).2) 46).2).2.2.2.2.1, ((k_accept tx ((k_readLabel tx s).2) 46).2).2.2.2.2.2)) := by rw [k_rhl3]; simp only [if_pos h5, if_neg (ts9 h12)]
      rw [e9] at hk
      exact sg_zreturn (st := []) (v := md_b true) (pc := 47) (ty := .boolean) hC hR (md_narb _) dX4_readHostLabels_47 (hk M37 hI)
  · refine sg_iconst (pc := 30) (nI 0) hC dX4_readHostLabels_30 (by decide) ?_
    have e9 : k_rhl3 tx s = (false, (k_readLabel tx s).2) := by rw [k_rhl3]; simp only [if_neg (ts9 h5)]
    rw [e9] at hk
    exact sg_zreturn (st := []) (v := md_b false) (pc := 31) (ty := .boolean) hC hR (md_narb _) dX4_readHostLabels_31 (hk M3 hI)

def k_readHost (tx : List Nat) (s : RS)  : Bool × RS := if (k_acceptW tx s 42 2).1 = true then if (k_accept tx ((k_acceptW tx s 42 2).2) 46).1 = true then if (k_rhl2 tx ((k_accept tx ((k_acceptW tx s 42 2).2) 46).2)).1 = true then (true, (k_rhl2 tx ((k_accept tx ((k_acceptW tx s 42 2).2) 46).2)).2) else (false, (k_rhl2 tx ((k_accept tx ((k_acceptW tx s 42 2).2) 46).2)).2) else (true, (k_accept tx ((k_acceptW tx s 42 2).2) 46).2) else ((k_rhl3 tx ((k_acceptW tx s 42 2).2)).1, (k_rhl3 tx ((k_acceptW tx s 42 2).2)).2)
set_option maxHeartbeats 1000000 in
set_option maxRecDepth 100000 in
theorem c_readHost {l : Launch} {G : sg_G} {d : Nat} {M0 M : sg_M} {kr : Option Value → sg_M → Prop} {kx : String → sg_M → Prop} {x ta b kd : Nat} {tx : List Nat} {s : RS} (htr : l.stackTraces = false) (hI : rd_I G M0 M x ta b kd tx s)  (hl : s.2.1.length = 0) (hk : ∀ M', rd_I G M0 M' x ta b kd tx (k_readHost tx s).2 → kr (some (.int (md_b (k_readHost tx s).1))) M') : sg_Met l G yX4_readHost cX4_readHost 1 (some .boolean) (d + 7) 0 0 [.ref x] M kr kx := by
  refine sg_enter [some (.ref x)] (by decide) htr (Nat.le_of_ble_eq_true rfl) rfl ?_
  intro X hC hR
  have hC : sg_C X l G cX4_readHost RX4 1 (d + 7) := hC
  have hn1 := hI.hn.1
  have hn2 := hI.hn.2
  have hcs := hI.hc
  refine sg_aload_n (pc := 0) (v := .ref x) hC dX4_readHost_0 rfl rfl ?_
  refine sg_bipush (pc := 1) (nI 42) hC dX4_readHost_1 (by decide) ?_
  refine sg_iconst (pc := 3) (nI 2) hC dX4_readHost_3 (by decide) ?_
  refine sg_callV (pc := 4) (As := [.int (nI 42), .int (nI 2)]) (rest := []) (mc := 0) (ms := 0) hC tw_634 tw_636 tw_5 tw_83 tw_637 yd_X4_acceptWildcard (by decide) (ci := 7) rfl dX4_readHost_4 hI.hx rfl (Nat.le_of_ble_eq_true rfl) (by first | omega | decide) (by first | omega | decide) ?_
  refine c_acceptW htr hI 42 2 (by first | omega | decide) (by first | omega | decide) (fun M1 hI => ?_)
  have hI : rd_I G M0 M1 x ta b kd tx ((k_acceptW tx s 42 2).2) := hI
  have hl2 : ((k_acceptW tx s 42 2).2).2.1 = s.2.1 := k_acceptW_b tx s 42 2
  have hl3 : ((k_acceptW tx s 42 2).2).2.1.length = s.2.1.length := by rw [hl2]
  show sg_W X M1 0 0 7 [some (.ref x)] [.int (md_b ((k_acceptW tx s 42 2).1))]
  refine sg_ifB_ne (pc := 7) (b := (k_acceptW tx s 42 2).1) 16 hC dX4_readHost_7 (by decide) (fun h4 => ?_) (fun h4 => ?_)
  · refine sg_aload_n (pc := 16) (v := .ref x) hC dX4_readHost_16 rfl rfl ?_
    refine sg_bipush (pc := 17) (nI 46) hC dX4_readHost_17 (by decide) ?_
    refine sg_callV (pc := 19) (As := [.int (nI 46)]) (rest := []) (mc := 0) (ms := 0) hC tw_626 tw_628 tw_3 tw_83 tw_629 yd_X4_accept (by decide) (ci := 7) rfl dX4_readHost_19 hI.hx rfl (Nat.le_of_ble_eq_true rfl) (by first | omega | decide) (by first | omega | decide) ?_
    refine c_accept htr hI 46 (by first | omega | decide) (by first | omega | decide) (fun M5 hI => ?_)
    have hI : rd_I G M0 M5 x ta b kd tx ((k_accept tx ((k_acceptW tx s 42 2).2) 46).2) := hI
    have hl6 : ((k_accept tx ((k_acceptW tx s 42 2).2) 46).2).2.1 = ((k_acceptW tx s 42 2).2).2.1 := congrArg Prod.fst (k_accept_b tx ((k_acceptW tx s 42 2).2) 46)
    have hl7 : ((k_accept tx ((k_acceptW tx s 42 2).2) 46).2).2.1.length = ((k_acceptW tx s 42 2).2).2.1.length := by rw [hl6]
    show sg_W X M5 0 0 22 [some (.ref x)] [.int (md_b ((k_accept tx ((k_acceptW tx s 42 2).2) 46).1))]
    refine sg_ifB_eq (pc := 22) (b := (k_accept tx ((k_acceptW tx s 42 2).2) 46).1) 33 hC dX4_readHost_22 (by decide) (fun h8 => ?_) (fun h8 => ?_)
    · refine sg_iconst (pc := 33) (nI 1) hC dX4_readHost_33 (by decide) ?_
      refine sg_goto (pc := 34) 38 hC dX4_readHost_34 (by decide) ?_
      have e9 : k_readHost tx s = (true, (k_accept tx ((k_acceptW tx s 42 2).2) 46).2) := by rw [k_readHost]; simp only [if_pos h4, if_neg (ts9 h8)]
      rw [e9] at hk
      exact sg_zreturn (st := []) (v := md_b true) (pc := 38) (ty := .boolean) hC hR (md_narb _) dX4_readHost_38 (hk M5 hI)
    · refine sg_aload_n (pc := 25) (v := .ref x) hC dX4_readHost_25 rfl rfl ?_
      refine sg_iconst (pc := 26) (nI 2) hC dX4_readHost_26 (by decide) ?_
      refine sg_callV (pc := 27) (As := [.int (nI 2)]) (rest := []) (mc := 0) (ms := 0) hC tw_698 tw_700 tw_9 tw_83 tw_701 yd_X4_readHostLabels (by decide) (ci := 7) rfl dX4_readHost_27 hI.hx rfl (Nat.le_of_ble_eq_true rfl) (by first | omega | decide) (by first | omega | decide) ?_
      refine c_rhl2 htr hI  (by first | omega | decide) (fun M9 hI => ?_)
      have hI : rd_I G M0 M9 x ta b kd tx ((k_rhl2 tx ((k_accept tx ((k_acceptW tx s 42 2).2) 46).2)).2) := hI
      show sg_W X M9 0 0 30 [some (.ref x)] [.int (md_b ((k_rhl2 tx ((k_accept tx ((k_acceptW tx s 42 2).2) 46).2)).1))]
      refine sg_ifB_eq (pc := 30) (b := (k_rhl2 tx ((k_accept tx ((k_acceptW tx s 42 2).2) 46).2)).1) 37 hC dX4_readHost_30 (by decide) (fun h10 => ?_) (fun h10 => ?_)
      · refine sg_iconst (pc := 37) (nI 0) hC dX4_readHost_37 (by decide) ?_
        have e9 : k_readHost tx s = (false, (k_rhl2 tx ((k_accept tx ((k_acceptW tx s 42 2).2) 46).2)).2) := by rw [k_readHost]; simp only [if_pos h4, if_pos h8, if_neg (ts9 h10)]
        rw [e9] at hk
        exact sg_zreturn (st := []) (v := md_b false) (pc := 38) (ty := .boolean) hC hR (md_narb _) dX4_readHost_38 (hk M9 hI)
      · refine sg_iconst (pc := 33) (nI 1) hC dX4_readHost_33 (by decide) ?_
        refine sg_goto (pc := 34) 38 hC dX4_readHost_34 (by decide) ?_
        have e9 : k_readHost tx s = (true, (k_rhl2 tx ((k_accept tx ((k_acceptW tx s 42 2).2) 46).2)).2) := by rw [k_readHost]; simp only [if_pos h4, if_pos h8, if_pos h10]
        rw [e9] at hk
        exact sg_zreturn (st := []) (v := md_b true) (pc := 38) (ty := .boolean) hC hR (md_narb _) dX4_readHost_38 (hk M9 hI)
  · refine sg_aload_n (pc := 10) (v := .ref x) hC dX4_readHost_10 rfl rfl ?_
    refine sg_iconst (pc := 11) (nI 3) hC dX4_readHost_11 (by decide) ?_
    refine sg_callV (pc := 12) (As := [.int (nI 3)]) (rest := []) (mc := 0) (ms := 0) hC tw_698 tw_700 tw_9 tw_83 tw_701 yd_X4_readHostLabels (by decide) (ci := 7) rfl dX4_readHost_12 hI.hx rfl (Nat.le_of_ble_eq_true rfl) (by first | omega | decide) (by first | omega | decide) ?_
    refine c_rhl3 htr hI  (by first | omega | decide) (fun M11 hI => ?_)
    have hI : rd_I G M0 M11 x ta b kd tx ((k_rhl3 tx ((k_acceptW tx s 42 2).2)).2) := hI
    show sg_W X M11 0 0 15 [some (.ref x)] [.int (md_b ((k_rhl3 tx ((k_acceptW tx s 42 2).2)).1))]
    have e9 : k_readHost tx s = ((k_rhl3 tx ((k_acceptW tx s 42 2).2)).1, (k_rhl3 tx ((k_acceptW tx s 42 2).2)).2) := by rw [k_readHost]; simp only [if_neg (ts9 h4)]
    rw [e9] at hk
    exact sg_zreturn (st := []) (v := md_b ((k_rhl3 tx ((k_acceptW tx s 42 2).2)).1)) (pc := 15) (ty := .boolean) hC hR (md_narb _) dX4_readHost_15 (hk M11 hI)
