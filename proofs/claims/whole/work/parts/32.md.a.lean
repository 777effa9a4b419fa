theorem ts9 {b : Bool} (h : b = false) : ¬ b = true := by rw [h]; decide
def md_in (v lo hi : Int32) : Bool := if v < lo then false else if hi < v then false else true
def md_type (N : Nat → Nat → Nat) (c : Nat) : Bool × (Nat → Nat → Nat) := if c < 32 then (false, md_set N 0 0 0) else if 126 < c then (false, md_set N 0 0 0) else if N 1 0 = 16 then (false, md_set N 0 0 0) else (true, md_set (md_set (md_set N 0 0 0) 2 (N 1 0) c) 1 0 (N 1 0 + 1))
set_option maxHeartbeats 4000000 in
set_option maxRecDepth 100000 in
/-- in -/
theorem mm_in {l : Launch} {G : sg_G} {d : Nat} {M0 M : sg_M} {x : Nat} {ad : Nat → Nat} {N : Nat → Nat → Nat} {kr : Option Value → sg_M → Prop} {kx : String → sg_M → Prop} (htr : l.stackTraces = false) (v lo hi : Int32) (hk : kr (some (.int (md_b (md_in v lo hi)))) M) : sg_Met l G yX7_in cX7_in 3 (some .boolean) (d + 0) 0 0 [.int v, .int lo, .int hi] M kr kx := by
  refine sg_enter [some (.int v), some (.int lo), some (.int hi)] (by decide) htr (Nat.le_of_ble_eq_true rfl) rfl ?_
  intro X hC hR
  have hC : sg_C X l G cX7_in RX7 3 (d + 0) := hC
  refine sg_iload_n (pc := 0) (x := v) hC dX7_in_0 rfl ?_
  refine sg_iload_n (pc := 1) (x := lo) hC dX7_in_1 rfl ?_
  refine sg_icmp_lt (pc := 2) (x := v) (y := lo) 14 hC dX7_in_2 (by decide) (fun h1 => ?_) (fun h1 => ?_)
  · refine sg_iconst (pc := 14) (nI 0) hC dX7_in_14 (by decide) ?_
    have e9 : md_in v lo hi = false := by rw [md_in, if_pos h1]
    rw [e9] at hk
    exact sg_zreturn (st := []) (v := md_b false) (pc := 15) (ty := .boolean) hC hR (md_narb _) dX7_in_15 hk
  · refine sg_iload_n (pc := 5) (x := v) hC dX7_in_5 rfl ?_
    refine sg_iload_n (pc := 6) (x := hi) hC dX7_in_6 rfl ?_
    refine sg_icmp_gt (pc := 7) (x := v) (y := hi) 14 hC dX7_in_7 (by decide) (fun h2 => ?_) (fun h2 => ?_)
    · refine sg_iconst (pc := 14) (nI 0) hC dX7_in_14 (by decide) ?_
      have e9 : md_in v lo hi = false := by rw [md_in, if_neg h1, if_pos h2]
      rw [e9] at hk
      exact sg_zreturn (st := []) (v := md_b false) (pc := 15) (ty := .boolean) hC hR (md_narb _) dX7_in_15 hk
    · refine sg_iconst (pc := 10) (nI 1) hC dX7_in_10 (by decide) ?_
      refine sg_goto (pc := 11) 15 hC dX7_in_11 (by decide) ?_
      have e9 : md_in v lo hi = true := by rw [md_in, if_neg h1, if_neg h2]
      rw [e9] at hk
      exact sg_zreturn (st := []) (v := md_b true) (pc := 15) (ty := .boolean) hC hR (md_narb _) dX7_in_15 hk

set_option maxHeartbeats 4000000 in
set_option maxRecDepth 100000 in
/-- fail -/
theorem mm_fail {l : Launch} {G : sg_G} {d : Nat} {M0 M : sg_M} {x : Nat} {ad : Nat → Nat} {N : Nat → Nat → Nat} {kr : Option Value → sg_M → Prop} {kx : String → sg_M → Prop} (htr : l.stackTraces = false) (hI : md_I M0 M x ad N) (c : Nat) (hc : c < 65536) (hk : ∀ M', md_I M0 M' x ad (md_set N 0 0 c) → kr (some (.int (nI 0))) M') : sg_Met l G yX7_fail cX7_fail 2 (some .int) (d + 0) 0 0 [.ref x, .int (nI c)] M kr kx := by
  refine sg_enter [some (.ref x), some (.int (nI c))] (by decide) htr (Nat.le_of_ble_eq_true rfl) rfl ?_
  intro X hC hR
  have hC : sg_C X l G cX7_fail RX7 2 (d + 0) := hC
  refine sg_aload_n (pc := 0) (v := .ref x) hC dX7_fail_0 rfl rfl ?_
  refine sg_iload_n (pc := 1) (x := nI c) hC dX7_fail_1 rfl ?_
  refine md_put0 (pc := 2) (v := c) hC tw_1182 dX7_fail_2 hI (by omega) (fun M hI => ?_)
  refine sg_iconst (pc := 5) (nI 0) hC dX7_fail_5 (by decide) ?_
  exact sg_ireturn (st := []) (v := nI 0) (pc := 6) hC hR dX7_fail_6 (hk M hI)

set_option maxHeartbeats 4000000 in
set_option maxRecDepth 100000 in
/-- type -/
theorem mm_type {l : Launch} {G : sg_G} {d : Nat} {M0 M : sg_M} {x : Nat} {ad : Nat → Nat} {N : Nat → Nat → Nat} {kr : Option Value → sg_M → Prop} {kx : String → sg_M → Prop} (htr : l.stackTraces = false) (hI : md_I M0 M x ad N) (c : Nat) (hc : c < 65536) (ht : N 1 0 ≤ 16) (hk : ∀ M', md_I M0 M' x ad (md_type N c).2 → kr (some (.int (md_b (md_type N c).1))) M') : sg_Met l G yX7_type cX7_type 2 (some .boolean) (d + 0) 0 0 [.ref x, .int (nI c)] M kr kx := by
  refine sg_enter [some (.ref x), some (.int (nI c))] (by decide) htr (Nat.le_of_ble_eq_true rfl) rfl ?_
  intro X hC hR
  have hC : sg_C X l G cX7_type RX7 2 (d + 0) := hC
  refine sg_aload_n (pc := 0) (v := .ref x) hC dX7_type_0 rfl rfl ?_
  refine sg_iconst (pc := 1) (nI 0) hC dX7_type_1 (by decide) ?_
  refine md_put0 (pc := 2) (v := 0) hC tw_1182 dX7_type_2 hI (by omega) (fun M hI => ?_)
  refine sg_iload_n (pc := 5) (x := nI c) hC dX7_type_5 rfl ?_
  refine sg_bipush (pc := 6) (nI 32) hC dX7_type_6 (by decide) ?_
  refine sg_icmpN_lt (pc := 8) (a := c) (b := 32) 26 hC dX7_type_8 (by decide) (by omega) (by omega) (fun h1 => ?_) (fun h1 => ?_)
  · refine sg_iconst (pc := 26) (nI 0) hC dX7_type_26 (by decide) ?_
    have e9 : md_type N c = (false, (md_set N 0 0 0)) := by rw [md_type, if_pos h1]
    rw [e9] at hk
    exact sg_zreturn (st := []) (v := md_b false) (pc := 27) (ty := .boolean) hC hR (md_narb _) dX7_type_27 (hk M hI)
  · refine sg_iload_n (pc := 11) (x := nI c) hC dX7_type_11 rfl ?_
    refine sg_bipush (pc := 12) (nI 126) hC dX7_type_12 (by decide) ?_
    refine sg_icmpN_gt (pc := 14) (a := c) (b := 126) 26 hC dX7_type_14 (by decide) (by omega) (by omega) (fun h2 => ?_) (fun h2 => ?_)
    · refine sg_iconst (pc := 26) (nI 0) hC dX7_type_26 (by decide) ?_
      have e9 : md_type N c = (false, (md_set N 0 0 0)) := by rw [md_type, if_neg (Nat.not_lt.mpr h1), if_pos h2]
      rw [e9] at hk
      exact sg_zreturn (st := []) (v := md_b false) (pc := 27) (ty := .boolean) hC hR (md_narb _) dX7_type_27 (hk M hI)
    · refine sg_aload_n (pc := 17) (v := .ref x) hC dX7_type_17 rfl rfl ?_
      refine md_get (pc := 18) (i := 1) hC (by decide) tw_1183 dX7_type_18 hI rfl ?_
      have hb18_22 := hI.lt 1 0
      show sg_W X M 0 0 21 [some (.ref x), some (.int (nI c))] [.int (nI (N 1 0))]
      refine sg_bipush (pc := 21) (nI 16) hC dX7_type_21 (by decide) ?_
      refine sg_icmpN_ne (pc := 23) (a := N 1 0) (b := 16) 28 hC dX7_type_23 (by decide) (by omega) (by omega) (fun h3 => ?_) (fun h3 => ?_)
      · refine sg_aload_n (pc := 28) (v := .ref x) hC dX7_type_28 rfl rfl ?_
        refine md_get (pc := 29) (i := 2) hC (by decide) tw_1184 dX7_type_29 hI rfl ?_
        refine sg_aload_n (pc := 32) (v := .ref x) hC dX7_type_32 rfl rfl ?_
        refine md_get (pc := 33) (i := 1) hC (by decide) tw_1183 dX7_type_33 hI rfl ?_
        have hb33_30 := hI.lt 1 0
        show sg_W X M 0 0 36 [some (.ref x), some (.int (nI c))] [.int (nI (N 1 0)), .ref (ad 2)]
        refine sg_iload_n (pc := 36) (x := nI c) hC dX7_type_36 rfl ?_
        refine md_cast (pc := 37) (i := 2) (j := N 1 0) (v := c) hC dX7_type_37 hI rfl (by omega) (by decide) (by omega) (fun M hI => ?_)
        refine sg_aload_n (pc := 38) (v := .ref x) hC dX7_type_38 rfl rfl ?_
        refine sg_dup (pc := 39) hC dX7_type_39 rfl ?_
        refine md_get (pc := 40) (i := 1) hC (by decide) tw_1183 dX7_type_40 hI rfl ?_
        have hb40_37 := hI.lt 1 0
        show sg_W X M 0 0 43 [some (.ref x), some (.int (nI c))] [.int (nI (N 1 0)), .ref x]
        refine sg_iconst (pc := 43) (nI 1) hC dX7_type_43 (by decide) ?_
        refine sg_iaddN (pc := 44) (a := N 1 0) (b := 1) hC dX7_type_44 ?_
        refine md_put1 (pc := 45) (v := (N 1 0) + 1) hC tw_1183 dX7_type_45 hI (by omega) (fun M hI => ?_)
        refine sg_iconst (pc := 48) (nI 1) hC dX7_type_48 (by decide) ?_
        have e9 : md_type N c = (true, (md_set (md_set (md_set N 0 0 0) 2 (N 1 0) c) 1 0 ((N 1 0) + 1))) := by rw [md_type, if_neg (Nat.not_lt.mpr h1), if_neg (Nat.not_lt.mpr h2), if_neg h3]
        rw [e9] at hk
        exact sg_zreturn (st := []) (v := md_b true) (pc := 49) (ty := .boolean) hC hR (md_narb _) dX7_type_49 (hk M hI)
      · refine sg_iconst (pc := 26) (nI 0) hC dX7_type_26 (by decide) ?_
        have e9 : md_type N c = (false, (md_set N 0 0 0)) := by rw [md_type, if_neg (Nat.not_lt.mpr h1), if_neg (Nat.not_lt.mpr h2), if_pos h3]
        rw [e9] at hk
        exact sg_zreturn (st := []) (v := md_b false) (pc := 27) (ty := .boolean) hC hR (md_narb _) dX7_type_27 (hk M hI)
