/-- -1, or a number -/
def md_o (r : Option Nat) : Int32 := match r with
  | none => -1
  | some k => nI k
theorem ts9 {b : Bool} (h : b = false) : ¬ b = true := by rw [h]; decide
theorem md_i2c {v : Nat} (h : v < 65536) : ((nI v).toUInt32 % 65536).toInt32 = nI v := by
  rw [pk_char, pk_tn (by omega), Nat.mod_eq_of_lt h]
theorem md_orI (a b : Nat) : nI a ||| nI b = nI (a ||| b) := by
  apply Int32.toBitVec_inj.mp
  show (BitVec.ofNat 32 a) ||| (BitVec.ofNat 32 b) = BitVec.ofNat 32 (a ||| b)
  apply BitVec.eq_of_getLsbD_eq
  intro i hi
  simp [BitVec.getLsbD_ofNat, Nat.testBit_or, hi]
theorem md_andI (a b : Nat) : nI a &&& nI b = nI (a &&& b) := by
  apply Int32.toBitVec_inj.mp
  show (BitVec.ofNat 32 a) &&& (BitVec.ofNat 32 b) = BitVec.ofNat 32 (a &&& b)
  apply BitVec.eq_of_getLsbD_eq
  intro i hi
  simp [BitVec.getLsbD_ofNat, Nat.testBit_and, hi]
section SGO
variable {X : sg_X} {l : Launch} {G : sg_G} {cc : ByteArray} {own : String} {nL d : Nat} {M : sg_M} {cb sb pc : Nat} {L : List (Option Value)} {st : List Value}
theorem md_oneg {r : Option Nat} (h : ∀ k, r = some k → k < 2 ^ 31) : md_o r < 0 ↔ r = none := by
  cases r with
  | none => simp [md_o]
  | some k =>
    have := nI_pos (h k rfl)
    simp [md_o, this]
theorem sg_ifO_lt {r : Option Nat} {off : Int} (tgt : Nat) (hC : sg_C X l G cc own nL d) (hd : decode cc pc = .ok (.ifCond .lt off, 3)) (ht : (pc : Int) + off = (tgt : Int)) (hr : ∀ k, r = some k → k < 2 ^ 31) (kt : r = none → sg_W X M cb sb tgt L st) (kf : ¬ r = none → sg_W X M cb sb (pc + 3) L st) : sg_W X M cb sb pc L (.int (md_o r) :: st) :=
  sg_if_lt tgt hC hd ht (fun h => kt ((md_oneg hr).mp h)) (fun h => kf (fun e => h ((md_oneg hr).mpr e)))
theorem sg_ifO_ge {r : Option Nat} {off : Int} (tgt : Nat) (hC : sg_C X l G cc own nL d) (hd : decode cc pc = .ok (.ifCond .ge off, 3)) (ht : (pc : Int) + off = (tgt : Int)) (hr : ∀ k, r = some k → k < 2 ^ 31) (kt : ¬ r = none → sg_W X M cb sb tgt L st) (kf : r = none → sg_W X M cb sb (pc + 3) L st) : sg_W X M cb sb pc L (.int (md_o r) :: st) :=
  sg_if_ge tgt hC hd ht (fun h => kt (fun e => absurd ((md_oneg hr).mpr e) (Int32.not_lt.mpr h))) (fun h => kf ((md_oneg hr).mp (Int32.not_le.mp h)))
theorem sg_iandN {a b : Nat} (hC : sg_C X l G cc own nL d) (hd : decode cc pc = .ok (.iand, 1)) (k : sg_W X M cb sb (pc + 1) L (.int (nI (a &&& b)) :: st)) : sg_W X M cb sb pc L (.int (nI b) :: .int (nI a) :: st) := sg_iand hC hd (by rw [md_andI]; exact k)
theorem sg_iorN {a b : Nat} (hC : sg_C X l G cc own nL d) (hd : decode cc pc = .ok (.ior, 1)) (k : sg_W X M cb sb (pc + 1) L (.int (nI (a ||| b)) :: st)) : sg_W X M cb sb pc L (.int (nI b) :: .int (nI a) :: st) := sg_ior hC hd (by rw [md_orI]; exact k)
end SGO

def md_in (v : Int32) (lo : Int32) (hi : Int32) : Bool := if v < lo then false else if hi < v then false else true
set_option maxHeartbeats 4000000 in
set_option maxRecDepth 100000 in
theorem mm_in {l : Launch} {G : sg_G} {d : Nat} {M : sg_M} {kr : Option Value → sg_M → Prop} {kx : String → sg_M → Prop} (htr : l.stackTraces = false) (v : Int32) (lo : Int32) (hi : Int32)  (hk : kr (some (.int (md_b (md_in v lo hi)))) M) : sg_Met l G yX7_in cX7_in 3 (some .boolean) (d + 0) 0 0 [.int v, .int lo, .int hi] M kr kx := by
  refine sg_enter [some (.int v), some (.int lo), some (.int hi)] (by decide) htr (Nat.le_of_ble_eq_true rfl) rfl ?_
  intro X hC hR
  have hC : sg_C X l G cX7_in RX7 3 (d + 0) := hC
  refine sg_iload_n (pc := 0) (x := v) hC dX7_in_0 rfl ?_
  refine sg_iload_n (pc := 1) (x := lo) hC dX7_in_1 rfl ?_
  refine sg_icmp_lt (pc := 2) (x := v) (y := lo) 14 hC dX7_in_2 (by decide) (fun h1 => ?_) (fun h1 => ?_)
  · refine sg_iconst (pc := 14) (nI 0) hC dX7_in_14 (by decide) ?_
    have e9 : md_in v lo hi = false := by rw [md_in]; simp only [if_pos h1]
    rw [e9] at hk
    exact sg_zreturn (st := []) (v := md_b false) (pc := 15) (ty := .boolean) hC hR (md_narb _) dX7_in_15 hk
  · refine sg_iload_n (pc := 5) (x := v) hC dX7_in_5 rfl ?_
    refine sg_iload_n (pc := 6) (x := hi) hC dX7_in_6 rfl ?_
    refine sg_icmp_gt (pc := 7) (x := v) (y := hi) 14 hC dX7_in_7 (by decide) (fun h2 => ?_) (fun h2 => ?_)
    · refine sg_iconst (pc := 14) (nI 0) hC dX7_in_14 (by decide) ?_
      have e9 : md_in v lo hi = false := by rw [md_in]; simp only [if_neg h1, if_pos h2]
      rw [e9] at hk
      exact sg_zreturn (st := []) (v := md_b false) (pc := 15) (ty := .boolean) hC hR (md_narb _) dX7_in_15 hk
    · refine sg_iconst (pc := 10) (nI 1) hC dX7_in_10 (by decide) ?_
      refine sg_goto (pc := 11) 15 hC dX7_in_11 (by decide) ?_
      have e9 : md_in v lo hi = true := by rw [md_in]; simp only [if_neg h1, if_neg h2]
      rw [e9] at hk
      exact sg_zreturn (st := []) (v := md_b true) (pc := 15) (ty := .boolean) hC hR (md_narb _) dX7_in_15 hk

def md_fail (N : Nat → Nat → Nat) (c : Nat) : Nat × (Nat → Nat → Nat) := (0, (md_set N 0 0 c))
set_option maxHeartbeats 4000000 in
set_option maxRecDepth 100000 in
theorem mm_fail {l : Launch} {G : sg_G} {d : Nat} {M0 M : sg_M} {x : Nat} {ad : Nat → Nat} {N : Nat → Nat → Nat} {kr : Option Value → sg_M → Prop} {kx : String → sg_M → Prop} (htr : l.stackTraces = false) (hI : md_I M0 M x ad N) (c : Nat) (hc : c < 65536) (hk : ∀ M', md_I M0 M' x ad (md_fail N c).2 → kr (some (.int (nI (md_fail N c).1))) M') : sg_Met l G yX7_fail cX7_fail 2 (some .int) (d + 0) 0 0 [.ref x, .int (nI c)] M kr kx := by
  refine sg_enter [some (.ref x), some (.int (nI c))] (by decide) htr (Nat.le_of_ble_eq_true rfl) rfl ?_
  intro X hC hR
  have hC : sg_C X l G cX7_fail RX7 2 (d + 0) := hC
  refine sg_aload_n (pc := 0) (v := .ref x) hC dX7_fail_0 rfl rfl ?_
  refine sg_iload_n (pc := 1) (x := nI c) hC dX7_fail_1 rfl ?_
  refine md_put0 (pc := 2) (v := c) hC tw_1186 dX7_fail_2 hI (by first | omega | exact Nat.lt_of_le_of_lt Nat.and_le_left (by omega) | exact Nat.or_lt_two_pow (n := 16) (by omega) (by omega)) (fun M hI => ?_)
  refine sg_iconst (pc := 5) (nI 0) hC dX7_fail_5 (by decide) ?_
  have e9 : md_fail N c = (0, (md_set N 0 0 c)) := by rw [md_fail]
  rw [e9] at hk
  exact sg_ireturn (st := []) (v := nI 0) (pc := 6) hC hR dX7_fail_6 (hk M hI)

def md_type (N : Nat → Nat → Nat) (c : Nat) : Bool × (Nat → Nat → Nat) := if c < 32 then (false, (md_set N 0 0 0)) else if 126 < c then (false, (md_set N 0 0 0)) else if N 1 0 = 16 then (false, (md_set N 0 0 0)) else (true, (md_set (md_set (md_set N 0 0 0) 2 (N 1 0) c) 1 0 ((N 1 0) + 1)))
set_option maxHeartbeats 4000000 in
set_option maxRecDepth 100000 in
theorem mm_type {l : Launch} {G : sg_G} {d : Nat} {M0 M : sg_M} {x : Nat} {ad : Nat → Nat} {N : Nat → Nat → Nat} {kr : Option Value → sg_M → Prop} {kx : String → sg_M → Prop} (htr : l.stackTraces = false) (hI : md_I M0 M x ad N) (c : Nat) (hc : c < 65536) (ht : N 1 0 ≤ 16) (hk : ∀ M', md_I M0 M' x ad (md_type N c).2 → kr (some (.int (md_b (md_type N c).1))) M') : sg_Met l G yX7_type cX7_type 2 (some .boolean) (d + 0) 0 0 [.ref x, .int (nI c)] M kr kx := by
  refine sg_enter [some (.ref x), some (.int (nI c))] (by decide) htr (Nat.le_of_ble_eq_true rfl) rfl ?_
  intro X hC hR
  have hC : sg_C X l G cX7_type RX7 2 (d + 0) := hC
  refine sg_aload_n (pc := 0) (v := .ref x) hC dX7_type_0 rfl rfl ?_
  refine sg_iconst (pc := 1) (nI 0) hC dX7_type_1 (by decide) ?_
  refine md_put0 (pc := 2) (v := 0) hC tw_1186 dX7_type_2 hI (by first | omega | exact Nat.lt_of_le_of_lt Nat.and_le_left (by omega) | exact Nat.or_lt_two_pow (n := 16) (by omega) (by omega)) (fun M hI => ?_)
  refine sg_iload_n (pc := 5) (x := nI c) hC dX7_type_5 rfl ?_
  refine sg_bipush (pc := 6) (nI 32) hC dX7_type_6 (by decide) ?_
  refine sg_icmpN_lt (pc := 8) (a := c) (b := 32) 26 hC dX7_type_8 (by decide) (by first | omega | exact Nat.lt_of_le_of_lt Nat.and_le_left (by omega) | exact Nat.or_lt_two_pow (n := 16) (by omega) (by omega)) (by first | omega | exact Nat.lt_of_le_of_lt Nat.and_le_left (by omega) | exact Nat.or_lt_two_pow (n := 16) (by omega) (by omega)) (fun h1 => ?_) (fun h1 => ?_)
  · refine sg_iconst (pc := 26) (nI 0) hC dX7_type_26 (by decide) ?_
    have e9 : md_type N c = (false, (md_set N 0 0 0)) := by rw [md_type]; simp only [if_pos h1]
    rw [e9] at hk
    exact sg_zreturn (st := []) (v := md_b false) (pc := 27) (ty := .boolean) hC hR (md_narb _) dX7_type_27 (hk M hI)
  · refine sg_iload_n (pc := 11) (x := nI c) hC dX7_type_11 rfl ?_
    refine sg_bipush (pc := 12) (nI 126) hC dX7_type_12 (by decide) ?_
    refine sg_icmpN_gt (pc := 14) (a := c) (b := 126) 26 hC dX7_type_14 (by decide) (by first | omega | exact Nat.lt_of_le_of_lt Nat.and_le_left (by omega) | exact Nat.or_lt_two_pow (n := 16) (by omega) (by omega)) (by first | omega | exact Nat.lt_of_le_of_lt Nat.and_le_left (by omega) | exact Nat.or_lt_two_pow (n := 16) (by omega) (by omega)) (fun h2 => ?_) (fun h2 => ?_)
    · refine sg_iconst (pc := 26) (nI 0) hC dX7_type_26 (by decide) ?_
      have e9 : md_type N c = (false, (md_set N 0 0 0)) := by rw [md_type]; simp only [if_neg (Nat.not_lt.mpr h1), if_pos h2]
      rw [e9] at hk
      exact sg_zreturn (st := []) (v := md_b false) (pc := 27) (ty := .boolean) hC hR (md_narb _) dX7_type_27 (hk M hI)
    · refine sg_aload_n (pc := 17) (v := .ref x) hC dX7_type_17 rfl rfl ?_
      refine md_get (pc := 18) (i := 1) hC (by decide) tw_1187 dX7_type_18 hI rfl ?_
      have hb3 : N 1 0 < 65536 := hI.lt 1 0
      show sg_W X M 0 0 21 [some (.ref x), some (.int (nI c))] [.int (nI (N 1 0))]
      refine sg_bipush (pc := 21) (nI 16) hC dX7_type_21 (by decide) ?_
      refine sg_icmpN_ne (pc := 23) (a := N 1 0) (b := 16) 28 hC dX7_type_23 (by decide) (by first | omega | exact Nat.lt_of_le_of_lt Nat.and_le_left (by omega) | exact Nat.or_lt_two_pow (n := 16) (by omega) (by omega)) (by first | omega | exact Nat.lt_of_le_of_lt Nat.and_le_left (by omega) | exact Nat.or_lt_two_pow (n := 16) (by omega) (by omega)) (fun h4 => ?_) (fun h4 => ?_)
      · refine sg_aload_n (pc := 28) (v := .ref x) hC dX7_type_28 rfl rfl ?_
        refine md_get (pc := 29) (i := 2) hC (by decide) tw_1188 dX7_type_29 hI rfl ?_
        refine sg_aload_n (pc := 32) (v := .ref x) hC dX7_type_32 rfl rfl ?_
        refine md_get (pc := 33) (i := 1) hC (by decide) tw_1187 dX7_type_33 hI rfl ?_
        have hb5 : N 1 0 < 65536 := hI.lt 1 0
        show sg_W X M 0 0 36 [some (.ref x), some (.int (nI c))] [.int (nI (N 1 0)), .ref (ad 2)]
        refine sg_iload_n (pc := 36) (x := nI c) hC dX7_type_36 rfl ?_
        refine md_cast (pc := 37) (i := 2) (j := N 1 0) (v := c) hC dX7_type_37 hI rfl (by first | omega | exact Nat.lt_of_le_of_lt Nat.and_le_left (by omega) | exact Nat.or_lt_two_pow (n := 16) (by omega) (by omega)) (by decide) (by first | omega | exact Nat.lt_of_le_of_lt Nat.and_le_left (by omega) | exact Nat.or_lt_two_pow (n := 16) (by omega) (by omega)) (fun M hI => ?_)
        refine sg_aload_n (pc := 38) (v := .ref x) hC dX7_type_38 rfl rfl ?_
        refine sg_dup (pc := 39) hC dX7_type_39 rfl ?_
        refine md_get (pc := 40) (i := 1) hC (by decide) tw_1187 dX7_type_40 hI rfl ?_
        have hb6 : N 1 0 < 65536 := hI.lt 1 0
        show sg_W X M 0 0 43 [some (.ref x), some (.int (nI c))] [.int (nI (N 1 0)), .ref x]
        refine sg_iconst (pc := 43) (nI 1) hC dX7_type_43 (by decide) ?_
        refine sg_iaddN (pc := 44) (a := N 1 0) (b := 1) hC dX7_type_44 ?_
        refine md_put1 (pc := 45) (v := (N 1 0) + 1) hC tw_1187 dX7_type_45 hI (by first | omega | exact Nat.lt_of_le_of_lt Nat.and_le_left (by omega) | exact Nat.or_lt_two_pow (n := 16) (by omega) (by omega)) (fun M hI => ?_)
        refine sg_iconst (pc := 48) (nI 1) hC dX7_type_48 (by decide) ?_
        have e9 : md_type N c = (true, (md_set (md_set (md_set N 0 0 0) 2 (N 1 0) c) 1 0 ((N 1 0) + 1))) := by rw [md_type]; simp only [if_neg (Nat.not_lt.mpr h1), if_neg (Nat.not_lt.mpr h2), if_neg h4]
        rw [e9] at hk
        exact sg_zreturn (st := []) (v := md_b true) (pc := 49) (ty := .boolean) hC hR (md_narb _) dX7_type_49 (hk M hI)
      · refine sg_iconst (pc := 26) (nI 0) hC dX7_type_26 (by decide) ?_
        have e9 : md_type N c = (false, (md_set N 0 0 0)) := by rw [md_type]; simp only [if_neg (Nat.not_lt.mpr h1), if_neg (Nat.not_lt.mpr h2), if_pos h4]
        rw [e9] at hk
        exact sg_zreturn (st := []) (v := md_b false) (pc := 27) (ty := .boolean) hC hR (md_narb _) dX7_type_27 (hk M hI)

def md_isLabel (c : Nat) : Bool := if c < 97 then false else if 105 < c then false else true
set_option maxHeartbeats 4000000 in
set_option maxRecDepth 100000 in
theorem mm_isLabel {l : Launch} {G : sg_G} {d : Nat} {M : sg_M} {kr : Option Value → sg_M → Prop} {kx : String → sg_M → Prop} (htr : l.stackTraces = false) (c : Nat) (hc : c < 65536) (hk : kr (some (.int (md_b (md_isLabel c)))) M) : sg_Met l G yX7_isLabel cX7_isLabel 1 (some .boolean) (d + 0) 0 0 [.int (nI c)] M kr kx := by
  refine sg_enter [some (.int (nI c))] (by decide) htr (Nat.le_of_ble_eq_true rfl) rfl ?_
  intro X hC hR
  have hC : sg_C X l G cX7_isLabel RX7 1 (d + 0) := hC
  refine sg_iload_n (pc := 0) (x := nI c) hC dX7_isLabel_0 rfl ?_
  refine sg_bipush (pc := 1) (nI 97) hC dX7_isLabel_1 (by decide) ?_
  refine sg_icmpN_lt (pc := 3) (a := c) (b := 97) 16 hC dX7_isLabel_3 (by decide) (by first | omega | exact Nat.lt_of_le_of_lt Nat.and_le_left (by omega) | exact Nat.or_lt_two_pow (n := 16) (by omega) (by omega)) (by first | omega | exact Nat.lt_of_le_of_lt Nat.and_le_left (by omega) | exact Nat.or_lt_two_pow (n := 16) (by omega) (by omega)) (fun h1 => ?_) (fun h1 => ?_)
  · refine sg_iconst (pc := 16) (nI 0) hC dX7_isLabel_16 (by decide) ?_
    have e9 : md_isLabel c = false := by rw [md_isLabel]; simp only [if_pos h1]
    rw [e9] at hk
    exact sg_zreturn (st := []) (v := md_b false) (pc := 17) (ty := .boolean) hC hR (md_narb _) dX7_isLabel_17 hk
  · refine sg_iload_n (pc := 6) (x := nI c) hC dX7_isLabel_6 rfl ?_
    refine sg_bipush (pc := 7) (nI 105) hC dX7_isLabel_7 (by decide) ?_
    refine sg_icmpN_gt (pc := 9) (a := c) (b := 105) 16 hC dX7_isLabel_9 (by decide) (by first | omega | exact Nat.lt_of_le_of_lt Nat.and_le_left (by omega) | exact Nat.or_lt_two_pow (n := 16) (by omega) (by omega)) (by first | omega | exact Nat.lt_of_le_of_lt Nat.and_le_left (by omega) | exact Nat.or_lt_two_pow (n := 16) (by omega) (by omega)) (fun h2 => ?_) (fun h2 => ?_)
    · refine sg_iconst (pc := 16) (nI 0) hC dX7_isLabel_16 (by decide) ?_
      have e9 : md_isLabel c = false := by rw [md_isLabel]; simp only [if_neg (Nat.not_lt.mpr h1), if_pos h2]
      rw [e9] at hk
      exact sg_zreturn (st := []) (v := md_b false) (pc := 17) (ty := .boolean) hC hR (md_narb _) dX7_isLabel_17 hk
    · refine sg_iconst (pc := 12) (nI 1) hC dX7_isLabel_12 (by decide) ?_
      refine sg_goto (pc := 13) 17 hC dX7_isLabel_13 (by decide) ?_
      have e9 : md_isLabel c = true := by rw [md_isLabel]; simp only [if_neg (Nat.not_lt.mpr h1), if_neg (Nat.not_lt.mpr h2)]
      rw [e9] at hk
      exact sg_zreturn (st := []) (v := md_b true) (pc := 17) (ty := .boolean) hC hR (md_narb _) dX7_isLabel_17 hk

def md_isDigit (c : Nat) : Bool := if c < 48 then false else if 57 < c then false else true
set_option maxHeartbeats 4000000 in
set_option maxRecDepth 100000 in
theorem mm_isDigit {l : Launch} {G : sg_G} {d : Nat} {M : sg_M} {kr : Option Value → sg_M → Prop} {kx : String → sg_M → Prop} (htr : l.stackTraces = false) (c : Nat) (hc : c < 65536) (hk : kr (some (.int (md_b (md_isDigit c)))) M) : sg_Met l G yX7_isDigit cX7_isDigit 1 (some .boolean) (d + 0) 0 0 [.int (nI c)] M kr kx := by
  refine sg_enter [some (.int (nI c))] (by decide) htr (Nat.le_of_ble_eq_true rfl) rfl ?_
  intro X hC hR
  have hC : sg_C X l G cX7_isDigit RX7 1 (d + 0) := hC
  refine sg_iload_n (pc := 0) (x := nI c) hC dX7_isDigit_0 rfl ?_
  refine sg_bipush (pc := 1) (nI 48) hC dX7_isDigit_1 (by decide) ?_
  refine sg_icmpN_lt (pc := 3) (a := c) (b := 48) 16 hC dX7_isDigit_3 (by decide) (by first | omega | exact Nat.lt_of_le_of_lt Nat.and_le_left (by omega) | exact Nat.or_lt_two_pow (n := 16) (by omega) (by omega)) (by first | omega | exact Nat.lt_of_le_of_lt Nat.and_le_left (by omega) | exact Nat.or_lt_two_pow (n := 16) (by omega) (by omega)) (fun h1 => ?_) (fun h1 => ?_)
  · refine sg_iconst (pc := 16) (nI 0) hC dX7_isDigit_16 (by decide) ?_
    have e9 : md_isDigit c = false := by rw [md_isDigit]; simp only [if_pos h1]
    rw [e9] at hk
    exact sg_zreturn (st := []) (v := md_b false) (pc := 17) (ty := .boolean) hC hR (md_narb _) dX7_isDigit_17 hk
  · refine sg_iload_n (pc := 6) (x := nI c) hC dX7_isDigit_6 rfl ?_
    refine sg_bipush (pc := 7) (nI 57) hC dX7_isDigit_7 (by decide) ?_
    refine sg_icmpN_gt (pc := 9) (a := c) (b := 57) 16 hC dX7_isDigit_9 (by decide) (by first | omega | exact Nat.lt_of_le_of_lt Nat.and_le_left (by omega) | exact Nat.or_lt_two_pow (n := 16) (by omega) (by omega)) (by first | omega | exact Nat.lt_of_le_of_lt Nat.and_le_left (by omega) | exact Nat.or_lt_two_pow (n := 16) (by omega) (by omega)) (fun h2 => ?_) (fun h2 => ?_)
    · refine sg_iconst (pc := 16) (nI 0) hC dX7_isDigit_16 (by decide) ?_
      have e9 : md_isDigit c = false := by rw [md_isDigit]; simp only [if_neg (Nat.not_lt.mpr h1), if_pos h2]
      rw [e9] at hk
      exact sg_zreturn (st := []) (v := md_b false) (pc := 17) (ty := .boolean) hC hR (md_narb _) dX7_isDigit_17 hk
    · refine sg_iconst (pc := 12) (nI 1) hC dX7_isDigit_12 (by decide) ?_
      refine sg_goto (pc := 13) 17 hC dX7_isDigit_13 (by decide) ?_
      have e9 : md_isDigit c = true := by rw [md_isDigit]; simp only [if_neg (Nat.not_lt.mpr h1), if_neg (Nat.not_lt.mpr h2)]
      rw [e9] at hk
      exact sg_zreturn (st := []) (v := md_b true) (pc := 17) (ty := .boolean) hC hR (md_narb _) dX7_isDigit_17 hk

def md_letterOf (c : Nat) : Nat := if c = 114 then 1 else if c = 119 then 2 else if c = 120 then 4 else if c = 100 then 8 else 0
set_option maxHeartbeats 4000000 in
set_option maxRecDepth 100000 in
theorem mm_letterOf {l : Launch} {G : sg_G} {d : Nat} {M : sg_M} {kr : Option Value → sg_M → Prop} {kx : String → sg_M → Prop} (htr : l.stackTraces = false) (c : Nat) (hc : c < 65536) (hk : kr (some (.int (nI (md_letterOf c)))) M) : sg_Met l G yX7_letterOf cX7_letterOf 1 (some .int) (d + 0) 0 0 [.int (nI c)] M kr kx := by
  refine sg_enter [some (.int (nI c))] (by decide) htr (Nat.le_of_ble_eq_true rfl) rfl ?_
  intro X hC hR
  have hC : sg_C X l G cX7_letterOf RX7 1 (d + 0) := hC
  refine sg_iload_n (pc := 0) (x := nI c) hC dX7_letterOf_0 rfl ?_
  refine sg_bipush (pc := 1) (nI 114) hC dX7_letterOf_1 (by decide) ?_
  refine sg_icmpN_ne (pc := 3) (a := c) (b := 114) 10 hC dX7_letterOf_3 (by decide) (by first | omega | exact Nat.lt_of_le_of_lt Nat.and_le_left (by omega) | exact Nat.or_lt_two_pow (n := 16) (by omega) (by omega)) (by first | omega | exact Nat.lt_of_le_of_lt Nat.and_le_left (by omega) | exact Nat.or_lt_two_pow (n := 16) (by omega) (by omega)) (fun h1 => ?_) (fun h1 => ?_)
  · refine sg_iload_n (pc := 10) (x := nI c) hC dX7_letterOf_10 rfl ?_
    refine sg_bipush (pc := 11) (nI 119) hC dX7_letterOf_11 (by decide) ?_
    refine sg_icmpN_ne (pc := 13) (a := c) (b := 119) 20 hC dX7_letterOf_13 (by decide) (by first | omega | exact Nat.lt_of_le_of_lt Nat.and_le_left (by omega) | exact Nat.or_lt_two_pow (n := 16) (by omega) (by omega)) (by first | omega | exact Nat.lt_of_le_of_lt Nat.and_le_left (by omega) | exact Nat.or_lt_two_pow (n := 16) (by omega) (by omega)) (fun h2 => ?_) (fun h2 => ?_)
    · refine sg_iload_n (pc := 20) (x := nI c) hC dX7_letterOf_20 rfl ?_
      refine sg_bipush (pc := 21) (nI 120) hC dX7_letterOf_21 (by decide) ?_
      refine sg_icmpN_ne (pc := 23) (a := c) (b := 120) 30 hC dX7_letterOf_23 (by decide) (by first | omega | exact Nat.lt_of_le_of_lt Nat.and_le_left (by omega) | exact Nat.or_lt_two_pow (n := 16) (by omega) (by omega)) (by first | omega | exact Nat.lt_of_le_of_lt Nat.and_le_left (by omega) | exact Nat.or_lt_two_pow (n := 16) (by omega) (by omega)) (fun h3 => ?_) (fun h3 => ?_)
      · refine sg_iload_n (pc := 30) (x := nI c) hC dX7_letterOf_30 rfl ?_
        refine sg_bipush (pc := 31) (nI 100) hC dX7_letterOf_31 (by decide) ?_
        refine sg_icmpN_ne (pc := 33) (a := c) (b := 100) 41 hC dX7_letterOf_33 (by decide) (by first | omega | exact Nat.lt_of_le_of_lt Nat.and_le_left (by omega) | exact Nat.or_lt_two_pow (n := 16) (by omega) (by omega)) (by first | omega | exact Nat.lt_of_le_of_lt Nat.and_le_left (by omega) | exact Nat.or_lt_two_pow (n := 16) (by omega) (by omega)) (fun h4 => ?_) (fun h4 => ?_)
        · refine sg_iconst (pc := 41) (nI 0) hC dX7_letterOf_41 (by decide) ?_
          have e9 : md_letterOf c = 0 := by rw [md_letterOf]; simp only [if_neg h1, if_neg h2, if_neg h3, if_neg h4]
          rw [e9] at hk
          exact sg_ireturn (st := []) (v := nI 0) (pc := 42) hC hR dX7_letterOf_42 hk
        · refine sg_bipush (pc := 36) (nI 8) hC dX7_letterOf_36 (by decide) ?_
          refine sg_goto (pc := 38) 42 hC dX7_letterOf_38 (by decide) ?_
          have e9 : md_letterOf c = 8 := by rw [md_letterOf]; simp only [if_neg h1, if_neg h2, if_neg h3, if_pos h4]
          rw [e9] at hk
          exact sg_ireturn (st := []) (v := nI 8) (pc := 42) hC hR dX7_letterOf_42 hk
      · refine sg_iconst (pc := 26) (nI 4) hC dX7_letterOf_26 (by decide) ?_
        refine sg_goto (pc := 27) 42 hC dX7_letterOf_27 (by decide) ?_
        have e9 : md_letterOf c = 4 := by rw [md_letterOf]; simp only [if_neg h1, if_neg h2, if_pos h3]
        rw [e9] at hk
        exact sg_ireturn (st := []) (v := nI 4) (pc := 42) hC hR dX7_letterOf_42 hk
    · refine sg_iconst (pc := 16) (nI 2) hC dX7_letterOf_16 (by decide) ?_
      refine sg_goto (pc := 17) 42 hC dX7_letterOf_17 (by decide) ?_
      have e9 : md_letterOf c = 2 := by rw [md_letterOf]; simp only [if_neg h1, if_pos h2]
      rw [e9] at hk
      exact sg_ireturn (st := []) (v := nI 2) (pc := 42) hC hR dX7_letterOf_42 hk
  · refine sg_iconst (pc := 6) (nI 1) hC dX7_letterOf_6 (by decide) ?_
    refine sg_goto (pc := 7) 42 hC dX7_letterOf_7 (by decide) ?_
    have e9 : md_letterOf c = 1 := by rw [md_letterOf]; simp only [if_pos h1]
    rw [e9] at hk
    exact sg_ireturn (st := []) (v := nI 1) (pc := 42) hC hR dX7_letterOf_42 hk

def md_addLabel (N : Nat → Nat → Nat) (p : Nat) (c : Nat) : Nat → Nat → Nat := (md_set (md_set N 5 ((3 * p) + (N 4 p)) (c - 97)) 4 p ((N 4 p) + 1))
set_option maxHeartbeats 4000000 in
set_option maxRecDepth 100000 in
theorem mm_addLabel {l : Launch} {G : sg_G} {d : Nat} {M0 M : sg_M} {x : Nat} {ad : Nat → Nat} {N : Nat → Nat → Nat} {kr : Option Value → sg_M → Prop} {kx : String → sg_M → Prop} (htr : l.stackTraces = false) (hI : md_I M0 M x ad N) (p : Nat) (c : Nat) (hp : p < 86) (hc1 : 97 ≤ c) (hc2 : c ≤ 105) (hl : N 4 p < 3) (hk : ∀ M', md_I M0 M' x ad (md_addLabel N p c) → kr none M') : sg_Met l G yX7_addLabel cX7_addLabel 3 none (d + 0) 0 0 [.ref x, .int (nI p), .int (nI c)] M kr kx := by
  refine sg_enter [some (.ref x), some (.int (nI p)), some (.int (nI c))] (by decide) htr (Nat.le_of_ble_eq_true rfl) rfl ?_
  intro X hC hR
  have hC : sg_C X l G cX7_addLabel RX7 3 (d + 0) := hC
  refine sg_aload_n (pc := 0) (v := .ref x) hC dX7_addLabel_0 rfl rfl ?_
  refine md_get (pc := 1) (i := 5) hC (by decide) tw_1191 dX7_addLabel_1 hI rfl ?_
  refine sg_iconst (pc := 4) (nI 3) hC dX7_addLabel_4 (by decide) ?_
  refine sg_iload_n (pc := 5) (x := nI p) hC dX7_addLabel_5 rfl ?_
  refine sg_imulN (pc := 6) (a := 3) (b := p) hC dX7_addLabel_6 ?_
  refine sg_aload_n (pc := 7) (v := .ref x) hC dX7_addLabel_7 rfl rfl ?_
  refine md_get (pc := 8) (i := 4) hC (by decide) tw_1190 dX7_addLabel_8 hI rfl ?_
  refine sg_iload_n (pc := 11) (x := nI p) hC dX7_addLabel_11 rfl ?_
  refine md_iald (pc := 12) (i := 4) (j := p) hC dX7_addLabel_12 hI rfl (by first | omega | exact Nat.lt_of_le_of_lt Nat.and_le_left (by omega) | exact Nat.or_lt_two_pow (n := 16) (by omega) (by omega)) (by decide) (fun hv1 => ?_)
  show sg_W X M 0 0 13 [some (.ref x), some (.int (nI p)), some (.int (nI c))] [.int (nI (N 4 p)), .int (nI (3 * p)), .ref (ad 5)]
  refine sg_iaddN (pc := 13) (a := 3 * p) (b := N 4 p) hC dX7_addLabel_13 ?_
  refine sg_iload_n (pc := 14) (x := nI c) hC dX7_addLabel_14 rfl ?_
  refine sg_bipush (pc := 15) (nI 97) hC dX7_addLabel_15 (by decide) ?_
  refine sg_isubN (pc := 17) (a := c) (b := 97) hC dX7_addLabel_17 (by first | omega | exact Nat.lt_of_le_of_lt Nat.and_le_left (by omega) | exact Nat.or_lt_two_pow (n := 16) (by omega) (by omega)) ?_
  refine md_iast (pc := 18) (i := 5) (j := (3 * p) + (N 4 p)) (v := c - 97) hC dX7_addLabel_18 hI rfl (by first | omega | exact Nat.lt_of_le_of_lt Nat.and_le_left (by omega) | exact Nat.or_lt_two_pow (n := 16) (by omega) (by omega)) (by decide) (by first | omega | exact Nat.lt_of_le_of_lt Nat.and_le_left (by omega) | exact Nat.or_lt_two_pow (n := 16) (by omega) (by omega)) (fun M hI => ?_)
  refine sg_aload_n (pc := 19) (v := .ref x) hC dX7_addLabel_19 rfl rfl ?_
  refine md_get (pc := 20) (i := 4) hC (by decide) tw_1190 dX7_addLabel_20 hI rfl ?_
  refine sg_iload_n (pc := 23) (x := nI p) hC dX7_addLabel_23 rfl ?_
  refine sg_dup2 (pc := 24) hC dX7_addLabel_24 rfl rfl ?_
  refine md_iald (pc := 25) (i := 4) (j := p) hC dX7_addLabel_25 hI rfl (by first | omega | exact Nat.lt_of_le_of_lt Nat.and_le_left (by omega) | exact Nat.or_lt_two_pow (n := 16) (by omega) (by omega)) (by decide) (fun hv2 => ?_)
  have hv2 : N 4 p < 65536 := hv2
  show sg_W X M 0 0 26 [some (.ref x), some (.int (nI p)), some (.int (nI c))] [.int (nI (N 4 p)), .int (nI p), .ref (ad 4)]
  refine sg_iconst (pc := 26) (nI 1) hC dX7_addLabel_26 (by decide) ?_
  refine sg_iaddN (pc := 27) (a := N 4 p) (b := 1) hC dX7_addLabel_27 ?_
  refine md_iast (pc := 28) (i := 4) (j := p) (v := (N 4 p) + 1) hC dX7_addLabel_28 hI rfl (by first | omega | exact Nat.lt_of_le_of_lt Nat.and_le_left (by omega) | exact Nat.or_lt_two_pow (n := 16) (by omega) (by omega)) (by decide) (by first | omega | exact Nat.lt_of_le_of_lt Nat.and_le_left (by omega) | exact Nat.or_lt_two_pow (n := 16) (by omega) (by omega)) (fun M hI => ?_)
  have e9 : md_addLabel N p c = (md_set (md_set N 5 ((3 * p) + (N 4 p)) (c - 97)) 4 p ((N 4 p) + 1)) := by rw [md_addLabel]
  rw [e9] at hk
  exact sg_vreturn (st := []) (pc := 29) hC hR dX7_addLabel_29 (hk M hI)

def md_starred (N : Nat → Nat → Nat) (p : Nat) (how : Nat) (nx : Nat) : Nat × (Nat → Nat → Nat) := (nx, (md_set N 6 p how))
set_option maxHeartbeats 4000000 in
set_option maxRecDepth 100000 in
theorem mm_starred {l : Launch} {G : sg_G} {d : Nat} {M0 M : sg_M} {x : Nat} {ad : Nat → Nat} {N : Nat → Nat → Nat} {kr : Option Value → sg_M → Prop} {kx : String → sg_M → Prop} (htr : l.stackTraces = false) (hI : md_I M0 M x ad N) (p : Nat) (how : Nat) (nx : Nat) (hp : p < 86) (hh : how < 65536) (hk : ∀ M', md_I M0 M' x ad (md_starred N p how nx).2 → kr (some (.int (nI (md_starred N p how nx).1))) M') : sg_Met l G yX7_starred cX7_starred 4 (some .int) (d + 0) 0 0 [.ref x, .int (nI p), .int (nI how), .int (nI nx)] M kr kx := by
  refine sg_enter [some (.ref x), some (.int (nI p)), some (.int (nI how)), some (.int (nI nx))] (by decide) htr (Nat.le_of_ble_eq_true rfl) rfl ?_
  intro X hC hR
  have hC : sg_C X l G cX7_starred RX7 4 (d + 0) := hC
  refine sg_aload_n (pc := 0) (v := .ref x) hC dX7_starred_0 rfl rfl ?_
  refine md_get (pc := 1) (i := 6) hC (by decide) tw_1192 dX7_starred_1 hI rfl ?_
  refine sg_iload_n (pc := 4) (x := nI p) hC dX7_starred_4 rfl ?_
  refine sg_iload_n (pc := 5) (x := nI how) hC dX7_starred_5 rfl ?_
  refine md_iast (pc := 6) (i := 6) (j := p) (v := how) hC dX7_starred_6 hI rfl (by first | omega | exact Nat.lt_of_le_of_lt Nat.and_le_left (by omega) | exact Nat.or_lt_two_pow (n := 16) (by omega) (by omega)) (by decide) (by first | omega | exact Nat.lt_of_le_of_lt Nat.and_le_left (by omega) | exact Nat.or_lt_two_pow (n := 16) (by omega) (by omega)) (fun M hI => ?_)
  refine sg_iload_n (pc := 7) (x := nI nx) hC dX7_starred_7 rfl ?_
  have e9 : md_starred N p how nx = (nx, (md_set N 6 p how)) := by rw [md_starred]
  rw [e9] at hk
  exact sg_ireturn (st := []) (v := nI nx) (pc := 8) hC hR dX7_starred_8 (hk M hI)
