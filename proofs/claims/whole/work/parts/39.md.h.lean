def md_p (a : Nat) : Int32 := nI a - nI 1
theorem md_p_pos {a : Nat} (h : ¬ a = 0) : md_p a = nI (a - 1) := pk_sub (by omega)
theorem md_m1 (a : Nat) : nI a + Int32.ofInt (-1) = md_p a := by
  unfold md_p
  rw [Int32.sub_eq_add_neg]
  congr 1
theorem md_p0 : md_p 0 = -1 := by decide
theorem md_in_pred {v : Int32} {n : Nat} (h : md_in v (nI 0) (md_p n) = true) (hn : n < 2 ^ 31) : v = nI v.toNatClampNeg ∧ v.toNatClampNeg < n := by
  by_cases h0 : n = 0
  · subst h0
    rw [md_p0] at h
    unfold md_in at h
    split at h
    · cases h
    · split at h
      · cases h
      · exfalso
        have h1 : ¬ v < nI 0 := by assumption
        have h2 : ¬ (-1 : Int32) < v := by assumption
        rw [Int32.lt_iff_toInt_lt] at h1 h2
        have e1 : (nI 0).toInt = 0 := by decide
        have e2 : (-1 : Int32).toInt = -1 := by decide
        omega
  · rw [md_p_pos h0] at h
    obtain ⟨h1, h2⟩ := md_in_nat h (by omega)
    exact ⟨h1, by omega⟩
section SGP
variable {X : sg_X} {l : Launch} {G : sg_G} {cc : ByteArray} {own : String} {nL d : Nat} {M : sg_M} {cb sb pc : Nat} {L : List (Option Value)} {st : List Value}
theorem sg_ifP_lt {a : Nat} {off : Int} (tgt : Nat) (hC : sg_C X l G cc own nL d) (hd : decode cc pc = .ok (.ifCond .lt off, 3)) (ht : (pc : Int) + off = (tgt : Int)) (ha : a < 2 ^ 31) (kt : a = 0 → sg_W X M cb sb tgt L st) (kf : ¬ a = 0 → sg_W X M cb sb (pc + 3) L st) : sg_W X M cb sb pc L (.int (md_p a) :: st) :=
  sg_if_lt tgt hC hd ht (fun h => kt (by
    by_cases h0 : a = 0
    · exact h0
    · rw [md_p_pos h0] at h
      exact absurd h (nI_pos (by omega)))) (fun h => kf (fun e => h (by rw [e, md_p0]; decide)))
end SGP

def md_revoke1 : Nat → (Nat → Nat → Nat) → Nat → Nat → Nat × (Nat → Nat → Nat)
  | 0, N, _, _ => (0, N)
  | f + 1, N, src, k => if N 12 src ≤ k + 1 then ((N 12 src) - 1, (md_set N 12 src ((N 12 src) - 1))) else md_revoke1 f (md_copy N ((9 + (6 * src)) + k) ((8 + (6 * src)) + k)) src (k + 1)
theorem md_revoke1_s (f : Nat) (N : Nat → Nat → Nat) (src : Nat) (k : Nat) : md_revoke1 (f + 1) N src k = if N 12 src ≤ k + 1 then ((N 12 src) - 1, (md_set N 12 src ((N 12 src) - 1))) else md_revoke1 f (md_copy N ((9 + (6 * src)) + k) ((8 + (6 * src)) + k)) src (k + 1) := rfl
set_option maxHeartbeats 4000000 in
set_option maxRecDepth 100000 in
theorem mm_revoke1 {X : sg_X} {l : Launch} {G : sg_G} {d : Nat} {M0 : sg_M} {x : Nat} {ad : Nat → Nat} {kr : Option Value → sg_M → Prop} {kx : String → sg_M → Prop} (htr : l.stackTraces = false) (hC : sg_C X l G cX7_revoke RX7 4 (d + 2)) (hR : sg_R X yX7_revoke kr kx (some .int)) : ∀ (f : Nat) (src : Nat) (k : Nat) (N : Nat → Nat → Nat) {M : sg_M} (hI : md_I M0 M x ad N) (hf : N 12 src - k < f) (hs : src < 6) (hw : ∀ r, N 4 r ≤ 3) (hg : ∀ r, N 12 r ≤ 6) (hk9 : k < N 12 src) (hk : ∀ M', md_I M0 M' x ad (md_revoke1 f N src k).2 → kr (some (.int (nI (md_revoke1 f N src k).1))) M'), sg_W X M 0 0 44 [some (.ref x), some (.int (nI src)), none, some (.int (nI k))] [] := by
  intro f
  induction f with
  | zero =>
    intro src k N M hI hf
    exact absurd hf (Nat.not_lt_zero _)
  | succ f ih =>
    intro src k N M hI hf hs hw hg hk9 hk
    have hg0 := hg src
    refine sg_iload_n (pc := 44) (x := nI k) hC dX7_revoke_44 rfl ?_
    refine sg_iconst (pc := 45) (nI 1) hC dX7_revoke_45 (by decide) ?_
    refine sg_iaddN (pc := 46) (a := k) (b := 1) hC dX7_revoke_46 ?_
    refine sg_aload_n (pc := 47) (v := .ref x) hC dX7_revoke_47 rfl rfl ?_
    refine md_get (pc := 48) (i := 12) hC (by decide) tw_1198 dX7_revoke_48 hI rfl ?_
    refine sg_iload_n (pc := 51) (x := nI src) hC dX7_revoke_51 rfl ?_
    refine md_iald (pc := 52) (i := 12) (j := src) hC dX7_revoke_52 hI rfl (by first | omega | exact Nat.lt_of_le_of_lt Nat.and_le_left (by omega) | exact Nat.or_lt_two_pow (n := 16) (by omega) (by omega) | (simp [md_set, va_up]; done) | (simp [md_set, va_up]; omega)) (by decide) (fun hv1 => ?_)
    show sg_W X M 0 0 53 [some (.ref x), some (.int (nI src)), none, some (.int (nI k))] [.int (nI (N 12 src)), .int (nI (k + 1))]
    have hW2 := hg src
    refine sg_icmpN_ge (pc := 53) (a := k + 1) (b := N 12 src) 84 hC dX7_revoke_53 (by decide) (by first | omega | exact Nat.lt_of_le_of_lt Nat.and_le_left (by omega) | exact Nat.or_lt_two_pow (n := 16) (by omega) (by omega) | (simp [md_set, va_up]; done) | (simp [md_set, va_up]; omega)) (by first | omega | exact Nat.lt_of_le_of_lt Nat.and_le_left (by omega) | exact Nat.or_lt_two_pow (n := 16) (by omega) (by omega) | (simp [md_set, va_up]; done) | (simp [md_set, va_up]; omega)) (fun h3 => ?_) (fun h3 => ?_)
    · refine sg_aload_n (pc := 84) (v := .ref x) hC dX7_revoke_84 rfl rfl ?_
      refine md_get (pc := 85) (i := 12) hC (by decide) tw_1198 dX7_revoke_85 hI rfl ?_
      refine sg_iload_n (pc := 88) (x := nI src) hC dX7_revoke_88 rfl ?_
      refine sg_dup2 (pc := 89) hC dX7_revoke_89 rfl rfl ?_
      refine md_iald (pc := 90) (i := 12) (j := src) hC dX7_revoke_90 hI rfl (by first | omega | exact Nat.lt_of_le_of_lt Nat.and_le_left (by omega) | exact Nat.or_lt_two_pow (n := 16) (by omega) (by omega) | (simp [md_set, va_up]; done) | (simp [md_set, va_up]; omega)) (by decide) (fun hv4 => ?_)
      show sg_W X M 0 0 91 [some (.ref x), some (.int (nI src)), none, some (.int (nI k))] [.int (nI (N 12 src)), .int (nI src), .ref (ad 12)]
      have hW5 := hg src
      refine sg_iconst (pc := 91) (nI 1) hC dX7_revoke_91 (by decide) ?_
      refine sg_isubN (pc := 92) (a := N 12 src) (b := 1) hC dX7_revoke_92 (by first | omega | exact Nat.lt_of_le_of_lt Nat.and_le_left (by omega) | exact Nat.or_lt_two_pow (n := 16) (by omega) (by omega) | (simp [md_set, va_up]; done) | (simp [md_set, va_up]; omega)) ?_
      refine md_iast (pc := 93) (i := 12) (j := src) (v := (N 12 src) - 1) hC dX7_revoke_93 hI rfl (by first | omega | exact Nat.lt_of_le_of_lt Nat.and_le_left (by omega) | exact Nat.or_lt_two_pow (n := 16) (by omega) (by omega) | (simp [md_set, va_up]; done) | (simp [md_set, va_up]; omega)) (by decide) (by first | omega | exact Nat.lt_of_le_of_lt Nat.and_le_left (by omega) | exact Nat.or_lt_two_pow (n := 16) (by omega) (by omega) | (simp [md_set, va_up]; done) | (simp [md_set, va_up]; omega)) (fun M hI => ?_)
      refine sg_aload_n (pc := 94) (v := .ref x) hC dX7_revoke_94 rfl rfl ?_
      refine md_get (pc := 95) (i := 12) hC (by decide) tw_1198 dX7_revoke_95 hI rfl ?_
      refine sg_iload_n (pc := 98) (x := nI src) hC dX7_revoke_98 rfl ?_
      refine md_iald (pc := 99) (i := 12) (j := src) hC dX7_revoke_99 hI rfl (by first | omega | exact Nat.lt_of_le_of_lt Nat.and_le_left (by omega) | exact Nat.or_lt_two_pow (n := 16) (by omega) (by omega) | (simp [md_set, va_up]; done) | (simp [md_set, va_up]; omega)) (by decide) (fun hv6 => ?_)
      rw [show (md_set N 12 src ((N 12 src) - 1)) 12 src = (N 12 src) - 1 from by simp [md_set, va_up]]
      show sg_W X M 0 0 100 [some (.ref x), some (.int (nI src)), none, some (.int (nI k))] [.int (nI ((N 12 src) - 1))]
      have e9 : md_revoke1 (f + 1) N src k = ((N 12 src) - 1, (md_set N 12 src ((N 12 src) - 1))) := by rw [md_revoke1_s]; simp only [if_pos h3]
      rw [e9] at hk
      exact sg_ireturn (st := []) (v := nI ((N 12 src) - 1)) (pc := 100) hC hR dX7_revoke_100 (hk M hI)
    · refine sg_aload_n (pc := 56) (v := .ref x) hC dX7_revoke_56 rfl rfl ?_
      refine sg_bipush (pc := 57) (nI 9) hC dX7_revoke_57 (by decide) ?_
      refine sg_bipush (pc := 59) (nI 6) hC dX7_revoke_59 (by decide) ?_
      refine sg_iload_n (pc := 61) (x := nI src) hC dX7_revoke_61 rfl ?_
      refine sg_imulN (pc := 62) (a := 6) (b := src) hC dX7_revoke_62 ?_
      refine sg_iaddN (pc := 63) (a := 9) (b := 6 * src) hC dX7_revoke_63 ?_
      refine sg_iload_n (pc := 64) (x := nI k) hC dX7_revoke_64 rfl ?_
      refine sg_iaddN (pc := 65) (a := 9 + (6 * src)) (b := k) hC dX7_revoke_65 ?_
      refine sg_bipush (pc := 66) (nI 8) hC dX7_revoke_66 (by decide) ?_
      refine sg_bipush (pc := 68) (nI 6) hC dX7_revoke_68 (by decide) ?_
      refine sg_iload_n (pc := 70) (x := nI src) hC dX7_revoke_70 rfl ?_
      refine sg_imulN (pc := 71) (a := 6) (b := src) hC dX7_revoke_71 ?_
      refine sg_iaddN (pc := 72) (a := 8) (b := 6 * src) hC dX7_revoke_72 ?_
      refine sg_iload_n (pc := 73) (x := nI k) hC dX7_revoke_73 rfl ?_
      refine sg_iaddN (pc := 74) (a := 8 + (6 * src)) (b := k) hC dX7_revoke_74 ?_
      refine sg_callV (pc := 75) (As := [.int (nI ((9 + (6 * src)) + k)), .int (nI ((8 + (6 * src)) + k))]) (rest := []) (mc := 0) (ms := 0) hC tw_1329 tw_1331 tw_44 tw_72 tw_1332 yd_X7_copy (by decide) (ci := 10) rfl dX7_revoke_75 hI.x rfl (Nat.le_of_ble_eq_true rfl) (Nat.zero_le _) (Nat.zero_le _) ?_
      refine mm_copy htr hI ((9 + (6 * src)) + k) ((8 + (6 * src)) + k) (by first | omega | exact Nat.lt_of_le_of_lt Nat.and_le_left (by omega) | exact Nat.or_lt_two_pow (n := 16) (by omega) (by omega) | (simp [md_set, va_up]; done) | (simp [md_set, va_up]; omega)) (by first | omega | exact Nat.lt_of_le_of_lt Nat.and_le_left (by omega) | exact Nat.or_lt_two_pow (n := 16) (by omega) (by omega) | (simp [md_set, va_up]; done) | (simp [md_set, va_up]; omega)) (fun M hI => ?_)
      show sg_W X M 0 0 78 [some (.ref x), some (.int (nI src)), none, some (.int (nI k))] []
      have hw9 : ∀ r, (md_copy N ((9 + (6 * src)) + k) ((8 + (6 * src)) + k)) 4 r ≤ 3 := md_copy_lab (fun r9 => hw r9)
      have hg9 : ∀ r, (md_copy N ((9 + (6 * src)) + k) ((8 + (6 * src)) + k)) 12 r ≤ 6 := fun r9 => hg r9
      have hc8 : (md_copy N ((9 + (6 * src)) + k) ((8 + (6 * src)) + k)) 12 src = N 12 src := rfl
      refine sg_iincN (pc := 78) (a := k) (b := k + 1) hC dX7_revoke_78 rfl (nI_1 _) (by decide) ?_
      show sg_W X M 0 0 81 [some (.ref x), some (.int (nI src)), none, some (.int (nI (k + 1)))] []
      refine sg_goto (pc := 81) 44 hC dX7_revoke_81 (by decide) ?_
      have e9 : md_revoke1 (f + 1) N src k = md_revoke1 f (md_copy N ((9 + (6 * src)) + k) ((8 + (6 * src)) + k)) src (k + 1) := by rw [md_revoke1_s]; simp only [if_neg (Nat.not_le.mpr h3)]
      rw [e9] at hk
      refine sg_loc (L' := [some (.ref x), some (.int (nI src)), none, some (.int (nI ((k + 1))))]) ⟨rfl, ⟨rfl, ⟨rfl, trivial⟩⟩⟩ ?_
      exact ih src (k + 1) _ hI (by first | omega | exact Nat.lt_of_le_of_lt Nat.and_le_left (by omega) | exact Nat.or_lt_two_pow (n := 16) (by omega) (by omega) | (simp [md_set, va_up]; done) | (simp [md_set, va_up]; omega)) (by first | omega | exact Nat.lt_of_le_of_lt Nat.and_le_left (by omega) | exact Nat.or_lt_two_pow (n := 16) (by omega) (by omega) | (simp [md_set, va_up]; done) | (simp [md_set, va_up]; omega)) (by intro r9; first | exact hw r9 | (show N 4 r9 ≤ 3; exact hw r9) | exact hw9 r9) (by intro r9; first | exact hg r9 | (show N 12 r9 ≤ 6; exact hg r9) | exact hg9 r9) (by first | omega | exact Nat.lt_of_le_of_lt Nat.and_le_left (by omega) | exact Nat.or_lt_two_pow (n := 16) (by omega) (by omega) | (simp [md_set, va_up]; done) | (simp [md_set, va_up]; omega)) hk

def md_revoke (N : Nat → Nat → Nat) (src : Int32) (i : Int32) : Nat × (Nat → Nat → Nat) := if (md_in src (nI 0) (nI 5)) = true then if (md_in i (nI 0) (md_p (N 12 src.toNatClampNeg))) = true then md_revoke1 (7) (md_set N 0 0 0) src.toNatClampNeg i.toNatClampNeg else ((md_fail (md_set N 0 0 0) 2).1, (md_fail (md_set N 0 0 0) 2).2) else ((md_fail (md_set N 0 0 0) 1).1, (md_fail (md_set N 0 0 0) 1).2)
set_option maxHeartbeats 4000000 in
set_option maxRecDepth 100000 in
theorem mm_revoke {l : Launch} {G : sg_G} {d : Nat} {M0 M : sg_M} {x : Nat} {ad : Nat → Nat} {N : Nat → Nat → Nat} {kr : Option Value → sg_M → Prop} {kx : String → sg_M → Prop} (htr : l.stackTraces = false) (hI : md_I M0 M x ad N) (src : Int32) (i : Int32) (hw : ∀ r, N 4 r ≤ 3) (hg : ∀ r, N 12 r ≤ 6) (hk : ∀ M', md_I M0 M' x ad (md_revoke N src i).2 → kr (some (.int (nI (md_revoke N src i).1))) M') : sg_Met l G yX7_revoke cX7_revoke 4 (some .int) (d + 2) 0 0 [.ref x, .int src, .int i] M kr kx := by
  refine sg_enter [some (.ref x), some (.int src), some (.int i), none] (by decide) htr (Nat.le_of_ble_eq_true rfl) rfl ?_
  intro X hC hR
  have hC : sg_C X l G cX7_revoke RX7 4 (d + 2) := hC
  refine sg_aload_n (pc := 0) (v := .ref x) hC dX7_revoke_0 rfl rfl ?_
  refine sg_iconst (pc := 1) (nI 0) hC dX7_revoke_1 (by decide) ?_
  refine md_put0 (pc := 2) (v := 0) hC tw_1186 dX7_revoke_2 hI (by first | omega | exact Nat.lt_of_le_of_lt Nat.and_le_left (by omega) | exact Nat.or_lt_two_pow (n := 16) (by omega) (by omega) | (simp [md_set, va_up]; done) | (simp [md_set, va_up]; omega)) (fun M hI => ?_)
  refine sg_iload_n (pc := 5) (x := src) hC dX7_revoke_5 rfl ?_
  refine sg_iconst (pc := 6) (nI 0) hC dX7_revoke_6 (by decide) ?_
  refine sg_iconst (pc := 7) (nI 5) hC dX7_revoke_7 (by decide) ?_
  refine sg_callS (pc := 8) (As := [.int src, .int (nI 0), .int (nI 5)]) (rest := []) (mc := 0) (ms := 0) hC tw_1270 tw_1271 tw_72 tw_1272 yd_X7_in (by decide) dX7_revoke_8 rfl (Nat.le_of_ble_eq_true rfl) (Nat.zero_le _) (Nat.zero_le _) ?_
  refine mm_in htr  src (nI 0) (nI 5)  ?_
  show sg_W X M 0 0 11 [some (.ref x), some (.int src), some (.int i), none] [.int (md_b ((md_in src (nI 0) (nI 5))))]
  refine sg_ifB_ne (pc := 11) (b := (md_in src (nI 0) (nI 5))) 20 hC dX7_revoke_11 (by decide) (fun h1 => ?_) (fun h1 => ?_)
  · obtain ⟨hs2, hs3⟩ := md_in_nat h1 (by first | omega | exact Nat.lt_of_le_of_lt Nat.and_le_left (by omega) | exact Nat.or_lt_two_pow (n := 16) (by omega) (by omega) | (simp [md_set, va_up]; done) | (simp [md_set, va_up]; omega))
    rw [hs2]
    show sg_W X M 0 0 20 [some (.ref x), some (.int (nI src.toNatClampNeg)), some (.int i), none] []
    refine sg_iload_n (pc := 20) (x := i) hC dX7_revoke_20 rfl ?_
    refine sg_iconst (pc := 21) (nI 0) hC dX7_revoke_21 (by decide) ?_
    refine sg_aload_n (pc := 22) (v := .ref x) hC dX7_revoke_22 rfl rfl ?_
    refine md_get (pc := 23) (i := 12) hC (by decide) tw_1198 dX7_revoke_23 hI rfl ?_
    refine sg_iload_n (pc := 26) (x := nI src.toNatClampNeg) hC dX7_revoke_26 rfl ?_
    refine md_iald (pc := 27) (i := 12) (j := src.toNatClampNeg) hC dX7_revoke_27 hI rfl (by first | omega | exact Nat.lt_of_le_of_lt Nat.and_le_left (by omega) | exact Nat.or_lt_two_pow (n := 16) (by omega) (by omega) | (simp [md_set, va_up]; done) | (simp [md_set, va_up]; omega)) (by decide) (fun hv4 => ?_)
    have hv4 : N 12 src.toNatClampNeg < 65536 := hv4
    show sg_W X M 0 0 28 [some (.ref x), some (.int (nI src.toNatClampNeg)), some (.int i), none] [.int (nI (N 12 src.toNatClampNeg)), .int (nI 0), .int i]
    have hW5 := hg src.toNatClampNeg
    refine sg_iconst (pc := 28) (nI 1) hC dX7_revoke_28 (by decide) ?_
    refine sg_isub (pc := 29) (x := nI (N 12 src.toNatClampNeg)) (y := nI 1) hC dX7_revoke_29 ?_
    show sg_W X M 0 0 30 [some (.ref x), some (.int (nI src.toNatClampNeg)), some (.int i), none] [.int (md_p (N 12 src.toNatClampNeg)), .int (nI 0), .int i]
    refine sg_callS (pc := 30) (As := [.int i, .int (nI 0), .int (md_p (N 12 src.toNatClampNeg))]) (rest := []) (mc := 0) (ms := 0) hC tw_1270 tw_1271 tw_72 tw_1272 yd_X7_in (by decide) dX7_revoke_30 rfl (Nat.le_of_ble_eq_true rfl) (Nat.zero_le _) (Nat.zero_le _) ?_
    refine mm_in htr  i (nI 0) (md_p (N 12 src.toNatClampNeg))  ?_
    show sg_W X M 0 0 33 [some (.ref x), some (.int (nI src.toNatClampNeg)), some (.int i), none] [.int (md_b ((md_in i (nI 0) (md_p (N 12 src.toNatClampNeg)))))]
    refine sg_ifB_ne (pc := 33) (b := (md_in i (nI 0) (md_p (N 12 src.toNatClampNeg)))) 42 hC dX7_revoke_33 (by decide) (fun h6 => ?_) (fun h6 => ?_)
    · obtain ⟨hs7, hs8⟩ := md_in_pred h6 (by first | omega | exact Nat.lt_of_le_of_lt Nat.and_le_left (by omega) | exact Nat.or_lt_two_pow (n := 16) (by omega) (by omega) | (simp [md_set, va_up]; done) | (simp [md_set, va_up]; omega))
      rw [hs7]
      show sg_W X M 0 0 42 [some (.ref x), some (.int (nI src.toNatClampNeg)), some (.int (nI i.toNatClampNeg)), none] []
      refine sg_iload_n (pc := 42) (x := nI i.toNatClampNeg) hC dX7_revoke_42 rfl ?_
      refine sg_istore_n (pc := 43) (x := nI i.toNatClampNeg) hC dX7_revoke_43 (by decide) ?_
      show sg_W X M 0 0 44 [some (.ref x), some (.int (nI src.toNatClampNeg)), some (.int (nI i.toNatClampNeg)), some (.int (nI i.toNatClampNeg))] []
      have e9 : md_revoke N src i = md_revoke1 (7) (md_set N 0 0 0) src.toNatClampNeg i.toNatClampNeg := by rw [md_revoke]; simp only [if_pos h1, if_pos h6]
      rw [e9] at hk
      refine sg_loc (L' := [some (.ref x), some (.int (nI src.toNatClampNeg)), none, some (.int (nI i.toNatClampNeg))]) ⟨rfl, ⟨rfl, ⟨rfl, trivial⟩⟩⟩ ?_
      exact mm_revoke1 htr hC hR (7) src.toNatClampNeg i.toNatClampNeg _ hI (by first | omega | exact Nat.lt_of_le_of_lt Nat.and_le_left (by omega) | exact Nat.or_lt_two_pow (n := 16) (by omega) (by omega) | (simp [md_set, va_up]; done) | (simp [md_set, va_up]; omega)) (by first | omega | exact Nat.lt_of_le_of_lt Nat.and_le_left (by omega) | exact Nat.or_lt_two_pow (n := 16) (by omega) (by omega) | (simp [md_set, va_up]; done) | (simp [md_set, va_up]; omega)) (by intro r9; first | exact hw r9 | (show N 4 r9 ≤ 3; exact hw r9) | exact hw9 r9) (by intro r9; first | exact hg r9 | (show N 12 r9 ≤ 6; exact hg r9) | exact hg9 r9) (by first | omega | exact Nat.lt_of_le_of_lt Nat.and_le_left (by omega) | exact Nat.or_lt_two_pow (n := 16) (by omega) (by omega) | (simp [md_set, va_up]; done) | (simp [md_set, va_up]; omega)) hk
    · refine sg_aload_n (pc := 36) (v := .ref x) hC dX7_revoke_36 rfl rfl ?_
      refine sg_iconst (pc := 37) (nI 2) hC dX7_revoke_37 (by decide) ?_
      refine sg_callV (pc := 38) (As := [.int (nI 2)]) (rest := []) (mc := 0) (ms := 0) hC tw_1273 tw_1275 tw_33 tw_72 tw_1276 yd_X7_fail (by decide) (ci := 10) rfl dX7_revoke_38 hI.x rfl (Nat.le_of_ble_eq_true rfl) (Nat.zero_le _) (Nat.zero_le _) ?_
      refine mm_fail htr hI 2 (by first | omega | exact Nat.lt_of_le_of_lt Nat.and_le_left (by omega) | exact Nat.or_lt_two_pow (n := 16) (by omega) (by omega) | (simp [md_set, va_up]; done) | (simp [md_set, va_up]; omega)) (fun M hI => ?_)
      show sg_W X M 0 0 41 [some (.ref x), some (.int (nI src.toNatClampNeg)), some (.int i), none] [.int (nI ((md_fail (md_set N 0 0 0) 2).1))]
      have e9 : md_revoke N src i = ((md_fail (md_set N 0 0 0) 2).1, (md_fail (md_set N 0 0 0) 2).2) := by rw [md_revoke]; simp only [if_pos h1, if_neg (ts9 h6)]
      rw [e9] at hk
      exact sg_ireturn (st := []) (v := nI ((md_fail (md_set N 0 0 0) 2).1)) (pc := 41) hC hR dX7_revoke_41 (hk M hI)
  · refine sg_aload_n (pc := 14) (v := .ref x) hC dX7_revoke_14 rfl rfl ?_
    refine sg_iconst (pc := 15) (nI 1) hC dX7_revoke_15 (by decide) ?_
    refine sg_callV (pc := 16) (As := [.int (nI 1)]) (rest := []) (mc := 0) (ms := 0) hC tw_1273 tw_1275 tw_33 tw_72 tw_1276 yd_X7_fail (by decide) (ci := 10) rfl dX7_revoke_16 hI.x rfl (Nat.le_of_ble_eq_true rfl) (Nat.zero_le _) (Nat.zero_le _) ?_
    refine mm_fail htr hI 1 (by first | omega | exact Nat.lt_of_le_of_lt Nat.and_le_left (by omega) | exact Nat.or_lt_two_pow (n := 16) (by omega) (by omega) | (simp [md_set, va_up]; done) | (simp [md_set, va_up]; omega)) (fun M hI => ?_)
    show sg_W X M 0 0 19 [some (.ref x), some (.int src), some (.int i), none] [.int (nI ((md_fail (md_set N 0 0 0) 1).1))]
    have e9 : md_revoke N src i = ((md_fail (md_set N 0 0 0) 1).1, (md_fail (md_set N 0 0 0) 1).2) := by rw [md_revoke]; simp only [if_neg (ts9 h1)]
    rw [e9] at hk
    exact sg_ireturn (st := []) (v := nI ((md_fail (md_set N 0 0 0) 1).1)) (pc := 19) hC hR dX7_revoke_19 (hk M hI)

def md_many (w : Nat) : Nat := (((((0 + ((w >>> 0) &&& 1)) + ((w >>> 1) &&& 1)) + ((w >>> 2) &&& 1)) + ((w >>> 3) &&& 1)) + ((w >>> 4) &&& 1)) + ((w >>> 5) &&& 1)
set_option maxHeartbeats 4000000 in
set_option maxRecDepth 100000 in
theorem mm_many {l : Launch} {G : sg_G} {d : Nat} {M : sg_M} {kr : Option Value → sg_M → Prop} {kx : String → sg_M → Prop} (htr : l.stackTraces = false) (w : Nat) (hw6 : w < 64) (hk : kr (some (.int (nI (md_many w)))) M) : sg_Met l G yX7_many cX7_many 3 (some .int) (d + 0) 0 0 [.int (nI w)] M kr kx := by
  refine sg_enter [some (.int (nI w)), none, none] (by decide) htr (Nat.le_of_ble_eq_true rfl) rfl ?_
  intro X hC hR
  have hC : sg_C X l G cX7_many RX7 3 (d + 0) := hC
  refine sg_iconst (pc := 0) (nI 0) hC dX7_many_0 (by decide) ?_
  refine sg_istore_n (pc := 1) (x := nI 0) hC dX7_many_1 (by decide) ?_
  show sg_W X M 0 0 2 [some (.int (nI w)), some (.int (nI 0)), none] []
  refine sg_iconst (pc := 2) (nI 0) hC dX7_many_2 (by decide) ?_
  refine sg_istore_n (pc := 3) (x := nI 0) hC dX7_many_3 (by decide) ?_
  show sg_W X M 0 0 4 [some (.int (nI w)), some (.int (nI 0)), some (.int (nI 0))] []
  refine sg_iload_n (pc := 4) (x := nI 0) hC dX7_many_4 rfl ?_
  refine sg_bipush (pc := 5) (nI 6) hC dX7_many_5 (by decide) ?_
  refine sg_icmpN_ge (pc := 7) (a := 0) (b := 6) 24 hC dX7_many_7 (by decide) (by decide) (by decide) (fun h1 => absurd h1 (by decide)) (fun _ => ?_)
  refine sg_iload_n (pc := 10) (x := nI 0) hC dX7_many_10 rfl ?_
  refine sg_iload_n (pc := 11) (x := nI w) hC dX7_many_11 rfl ?_
  refine sg_iload_n (pc := 12) (x := nI 0) hC dX7_many_12 rfl ?_
  refine sg_ishrN (pc := 13) (a := w) (b := 0) hC dX7_many_13 (by first | omega | exact Nat.lt_of_le_of_lt Nat.and_le_left (by omega) | exact Nat.or_lt_two_pow (n := 16) (by omega) (by omega) | (simp [md_set, va_up]; done) | (simp [md_set, va_up]; omega)) (by omega) ?_
  refine sg_iconst (pc := 14) (nI 1) hC dX7_many_14 (by decide) ?_
  refine sg_iandN (pc := 15) (a := w >>> 0) (b := 1) hC dX7_many_15 ?_
  refine sg_iaddN (pc := 16) (a := 0) (b := (w >>> 0) &&& 1) hC dX7_many_16 ?_
  refine sg_istore_n (pc := 17) (x := nI (0 + ((w >>> 0) &&& 1))) hC dX7_many_17 (by decide) ?_
  show sg_W X M 0 0 18 [some (.int (nI w)), some (.int (nI (0 + ((w >>> 0) &&& 1)))), some (.int (nI 0))] []
  refine sg_iincN (pc := 18) (a := 0) (b := 1) hC dX7_many_18 rfl (nI_1 _) (by decide) ?_
  show sg_W X M 0 0 21 [some (.int (nI w)), some (.int (nI (0 + ((w >>> 0) &&& 1)))), some (.int (nI 1))] []
  refine sg_goto (pc := 21) 4 hC dX7_many_21 (by decide) ?_
  refine sg_iload_n (pc := 4) (x := nI 1) hC dX7_many_4 rfl ?_
  refine sg_bipush (pc := 5) (nI 6) hC dX7_many_5 (by decide) ?_
  refine sg_icmpN_ge (pc := 7) (a := 1) (b := 6) 24 hC dX7_many_7 (by decide) (by decide) (by decide) (fun h2 => absurd h2 (by decide)) (fun _ => ?_)
  refine sg_iload_n (pc := 10) (x := nI (0 + ((w >>> 0) &&& 1))) hC dX7_many_10 rfl ?_
  refine sg_iload_n (pc := 11) (x := nI w) hC dX7_many_11 rfl ?_
  refine sg_iload_n (pc := 12) (x := nI 1) hC dX7_many_12 rfl ?_
  refine sg_ishrN (pc := 13) (a := w) (b := 1) hC dX7_many_13 (by first | omega | exact Nat.lt_of_le_of_lt Nat.and_le_left (by omega) | exact Nat.or_lt_two_pow (n := 16) (by omega) (by omega) | (simp [md_set, va_up]; done) | (simp [md_set, va_up]; omega)) (by omega) ?_
  refine sg_iconst (pc := 14) (nI 1) hC dX7_many_14 (by decide) ?_
  refine sg_iandN (pc := 15) (a := w >>> 1) (b := 1) hC dX7_many_15 ?_
  refine sg_iaddN (pc := 16) (a := 0 + ((w >>> 0) &&& 1)) (b := (w >>> 1) &&& 1) hC dX7_many_16 ?_
  refine sg_istore_n (pc := 17) (x := nI ((0 + ((w >>> 0) &&& 1)) + ((w >>> 1) &&& 1))) hC dX7_many_17 (by decide) ?_
  show sg_W X M 0 0 18 [some (.int (nI w)), some (.int (nI ((0 + ((w >>> 0) &&& 1)) + ((w >>> 1) &&& 1)))), some (.int (nI 1))] []
  refine sg_iincN (pc := 18) (a := 1) (b := 2) hC dX7_many_18 rfl (nI_1 _) (by decide) ?_
  show sg_W X M 0 0 21 [some (.int (nI w)), some (.int (nI ((0 + ((w >>> 0) &&& 1)) + ((w >>> 1) &&& 1)))), some (.int (nI 2))] []
  refine sg_goto (pc := 21) 4 hC dX7_many_21 (by decide) ?_
  refine sg_iload_n (pc := 4) (x := nI 2) hC dX7_many_4 rfl ?_
  refine sg_bipush (pc := 5) (nI 6) hC dX7_many_5 (by decide) ?_
  refine sg_icmpN_ge (pc := 7) (a := 2) (b := 6) 24 hC dX7_many_7 (by decide) (by decide) (by decide) (fun h3 => absurd h3 (by decide)) (fun _ => ?_)
  refine sg_iload_n (pc := 10) (x := nI ((0 + ((w >>> 0) &&& 1)) + ((w >>> 1) &&& 1))) hC dX7_many_10 rfl ?_
  refine sg_iload_n (pc := 11) (x := nI w) hC dX7_many_11 rfl ?_
  refine sg_iload_n (pc := 12) (x := nI 2) hC dX7_many_12 rfl ?_
  refine sg_ishrN (pc := 13) (a := w) (b := 2) hC dX7_many_13 (by first | omega | exact Nat.lt_of_le_of_lt Nat.and_le_left (by omega) | exact Nat.or_lt_two_pow (n := 16) (by omega) (by omega) | (simp [md_set, va_up]; done) | (simp [md_set, va_up]; omega)) (by omega) ?_
  refine sg_iconst (pc := 14) (nI 1) hC dX7_many_14 (by decide) ?_
  refine sg_iandN (pc := 15) (a := w >>> 2) (b := 1) hC dX7_many_15 ?_
  refine sg_iaddN (pc := 16) (a := (0 + ((w >>> 0) &&& 1)) + ((w >>> 1) &&& 1)) (b := (w >>> 2) &&& 1) hC dX7_many_16 ?_
  refine sg_istore_n (pc := 17) (x := nI (((0 + ((w >>> 0) &&& 1)) + ((w >>> 1) &&& 1)) + ((w >>> 2) &&& 1))) hC dX7_many_17 (by decide) ?_
  show sg_W X M 0 0 18 [some (.int (nI w)), some (.int (nI (((0 + ((w >>> 0) &&& 1)) + ((w >>> 1) &&& 1)) + ((w >>> 2) &&& 1)))), some (.int (nI 2))] []
  refine sg_iincN (pc := 18) (a := 2) (b := 3) hC dX7_many_18 rfl (nI_1 _) (by decide) ?_
  show sg_W X M 0 0 21 [some (.int (nI w)), some (.int (nI (((0 + ((w >>> 0) &&& 1)) + ((w >>> 1) &&& 1)) + ((w >>> 2) &&& 1)))), some (.int (nI 3))] []
  refine sg_goto (pc := 21) 4 hC dX7_many_21 (by decide) ?_
  refine sg_iload_n (pc := 4) (x := nI 3) hC dX7_many_4 rfl ?_
  refine sg_bipush (pc := 5) (nI 6) hC dX7_many_5 (by decide) ?_
  refine sg_icmpN_ge (pc := 7) (a := 3) (b := 6) 24 hC dX7_many_7 (by decide) (by decide) (by decide) (fun h4 => absurd h4 (by decide)) (fun _ => ?_)
  refine sg_iload_n (pc := 10) (x := nI (((0 + ((w >>> 0) &&& 1)) + ((w >>> 1) &&& 1)) + ((w >>> 2) &&& 1))) hC dX7_many_10 rfl ?_
  refine sg_iload_n (pc := 11) (x := nI w) hC dX7_many_11 rfl ?_
  refine sg_iload_n (pc := 12) (x := nI 3) hC dX7_many_12 rfl ?_
  refine sg_ishrN (pc := 13) (a := w) (b := 3) hC dX7_many_13 (by first | omega | exact Nat.lt_of_le_of_lt Nat.and_le_left (by omega) | exact Nat.or_lt_two_pow (n := 16) (by omega) (by omega) | (simp [md_set, va_up]; done) | (simp [md_set, va_up]; omega)) (by omega) ?_
  refine sg_iconst (pc := 14) (nI 1) hC dX7_many_14 (by decide) ?_
  refine sg_iandN (pc := 15) (a := w >>> 3) (b := 1) hC dX7_many_15 ?_
  refine sg_iaddN (pc := 16) (a := ((0 + ((w >>> 0) &&& 1)) + ((w >>> 1) &&& 1)) + ((w >>> 2) &&& 1)) (b := (w >>> 3) &&& 1) hC dX7_many_16 ?_
  refine sg_istore_n (pc := 17) (x := nI ((((0 + ((w >>> 0) &&& 1)) + ((w >>> 1) &&& 1)) + ((w >>> 2) &&& 1)) + ((w >>> 3) &&& 1))) hC dX7_many_17 (by decide) ?_
  show sg_W X M 0 0 18 [some (.int (nI w)), some (.int (nI ((((0 + ((w >>> 0) &&& 1)) + ((w >>> 1) &&& 1)) + ((w >>> 2) &&& 1)) + ((w >>> 3) &&& 1)))), some (.int (nI 3))] []
  refine sg_iincN (pc := 18) (a := 3) (b := 4) hC dX7_many_18 rfl (nI_1 _) (by decide) ?_
  show sg_W X M 0 0 21 [some (.int (nI w)), some (.int (nI ((((0 + ((w >>> 0) &&& 1)) + ((w >>> 1) &&& 1)) + ((w >>> 2) &&& 1)) + ((w >>> 3) &&& 1)))), some (.int (nI 4))] []
  refine sg_goto (pc := 21) 4 hC dX7_many_21 (by decide) ?_
  refine sg_iload_n (pc := 4) (x := nI 4) hC dX7_many_4 rfl ?_
  refine sg_bipush (pc := 5) (nI 6) hC dX7_many_5 (by decide) ?_
  refine sg_icmpN_ge (pc := 7) (a := 4) (b := 6) 24 hC dX7_many_7 (by decide) (by decide) (by decide) (fun h5 => absurd h5 (by decide)) (fun _ => ?_)
  refine sg_iload_n (pc := 10) (x := nI ((((0 + ((w >>> 0) &&& 1)) + ((w >>> 1) &&& 1)) + ((w >>> 2) &&& 1)) + ((w >>> 3) &&& 1))) hC dX7_many_10 rfl ?_
  refine sg_iload_n (pc := 11) (x := nI w) hC dX7_many_11 rfl ?_
  refine sg_iload_n (pc := 12) (x := nI 4) hC dX7_many_12 rfl ?_
  refine sg_ishrN (pc := 13) (a := w) (b := 4) hC dX7_many_13 (by first | omega | exact Nat.lt_of_le_of_lt Nat.and_le_left (by omega) | exact Nat.or_lt_two_pow (n := 16) (by omega) (by omega) | (simp [md_set, va_up]; done) | (simp [md_set, va_up]; omega)) (by omega) ?_
  refine sg_iconst (pc := 14) (nI 1) hC dX7_many_14 (by decide) ?_
  refine sg_iandN (pc := 15) (a := w >>> 4) (b := 1) hC dX7_many_15 ?_
  refine sg_iaddN (pc := 16) (a := (((0 + ((w >>> 0) &&& 1)) + ((w >>> 1) &&& 1)) + ((w >>> 2) &&& 1)) + ((w >>> 3) &&& 1)) (b := (w >>> 4) &&& 1) hC dX7_many_16 ?_
  refine sg_istore_n (pc := 17) (x := nI (((((0 + ((w >>> 0) &&& 1)) + ((w >>> 1) &&& 1)) + ((w >>> 2) &&& 1)) + ((w >>> 3) &&& 1)) + ((w >>> 4) &&& 1))) hC dX7_many_17 (by decide) ?_
  show sg_W X M 0 0 18 [some (.int (nI w)), some (.int (nI (((((0 + ((w >>> 0) &&& 1)) + ((w >>> 1) &&& 1)) + ((w >>> 2) &&& 1)) + ((w >>> 3) &&& 1)) + ((w >>> 4) &&& 1)))), some (.int (nI 4))] []
  refine sg_iincN (pc := 18) (a := 4) (b := 5) hC dX7_many_18 rfl (nI_1 _) (by decide) ?_
  show sg_W X M 0 0 21 [some (.int (nI w)), some (.int (nI (((((0 + ((w >>> 0) &&& 1)) + ((w >>> 1) &&& 1)) + ((w >>> 2) &&& 1)) + ((w >>> 3) &&& 1)) + ((w >>> 4) &&& 1)))), some (.int (nI 5))] []
  refine sg_goto (pc := 21) 4 hC dX7_many_21 (by decide) ?_
  refine sg_iload_n (pc := 4) (x := nI 5) hC dX7_many_4 rfl ?_
  refine sg_bipush (pc := 5) (nI 6) hC dX7_many_5 (by decide) ?_
  refine sg_icmpN_ge (pc := 7) (a := 5) (b := 6) 24 hC dX7_many_7 (by decide) (by decide) (by decide) (fun h6 => absurd h6 (by decide)) (fun _ => ?_)
  refine sg_iload_n (pc := 10) (x := nI (((((0 + ((w >>> 0) &&& 1)) + ((w >>> 1) &&& 1)) + ((w >>> 2) &&& 1)) + ((w >>> 3) &&& 1)) + ((w >>> 4) &&& 1))) hC dX7_many_10 rfl ?_
  refine sg_iload_n (pc := 11) (x := nI w) hC dX7_many_11 rfl ?_
  refine sg_iload_n (pc := 12) (x := nI 5) hC dX7_many_12 rfl ?_
  refine sg_ishrN (pc := 13) (a := w) (b := 5) hC dX7_many_13 (by first | omega | exact Nat.lt_of_le_of_lt Nat.and_le_left (by omega) | exact Nat.or_lt_two_pow (n := 16) (by omega) (by omega) | (simp [md_set, va_up]; done) | (simp [md_set, va_up]; omega)) (by omega) ?_
  refine sg_iconst (pc := 14) (nI 1) hC dX7_many_14 (by decide) ?_
  refine sg_iandN (pc := 15) (a := w >>> 5) (b := 1) hC dX7_many_15 ?_
  refine sg_iaddN (pc := 16) (a := ((((0 + ((w >>> 0) &&& 1)) + ((w >>> 1) &&& 1)) + ((w >>> 2) &&& 1)) + ((w >>> 3) &&& 1)) + ((w >>> 4) &&& 1)) (b := (w >>> 5) &&& 1) hC dX7_many_16 ?_
  refine sg_istore_n (pc := 17) (x := nI ((((((0 + ((w >>> 0) &&& 1)) + ((w >>> 1) &&& 1)) + ((w >>> 2) &&& 1)) + ((w >>> 3) &&& 1)) + ((w >>> 4) &&& 1)) + ((w >>> 5) &&& 1))) hC dX7_many_17 (by decide) ?_
  show sg_W X M 0 0 18 [some (.int (nI w)), some (.int (nI ((((((0 + ((w >>> 0) &&& 1)) + ((w >>> 1) &&& 1)) + ((w >>> 2) &&& 1)) + ((w >>> 3) &&& 1)) + ((w >>> 4) &&& 1)) + ((w >>> 5) &&& 1)))), some (.int (nI 5))] []
  refine sg_iincN (pc := 18) (a := 5) (b := 6) hC dX7_many_18 rfl (nI_1 _) (by decide) ?_
  show sg_W X M 0 0 21 [some (.int (nI w)), some (.int (nI ((((((0 + ((w >>> 0) &&& 1)) + ((w >>> 1) &&& 1)) + ((w >>> 2) &&& 1)) + ((w >>> 3) &&& 1)) + ((w >>> 4) &&& 1)) + ((w >>> 5) &&& 1)))), some (.int (nI 6))] []
  refine sg_goto (pc := 21) 4 hC dX7_many_21 (by decide) ?_
  refine sg_iload_n (pc := 4) (x := nI 6) hC dX7_many_4 rfl ?_
  refine sg_bipush (pc := 5) (nI 6) hC dX7_many_5 (by decide) ?_
  refine sg_icmpN_ge (pc := 7) (a := 6) (b := 6) 24 hC dX7_many_7 (by decide) (by decide) (by decide) (fun _ => ?_) (fun h7 => absurd h7 (by decide))
  refine sg_iload_n (pc := 24) (x := nI ((((((0 + ((w >>> 0) &&& 1)) + ((w >>> 1) &&& 1)) + ((w >>> 2) &&& 1)) + ((w >>> 3) &&& 1)) + ((w >>> 4) &&& 1)) + ((w >>> 5) &&& 1))) hC dX7_many_24 rfl ?_
  have e9 : md_many w = (((((0 + ((w >>> 0) &&& 1)) + ((w >>> 1) &&& 1)) + ((w >>> 2) &&& 1)) + ((w >>> 3) &&& 1)) + ((w >>> 4) &&& 1)) + ((w >>> 5) &&& 1) := by rw [md_many]
  rw [e9] at hk
  exact sg_ireturn (st := []) (v := nI ((((((0 + ((w >>> 0) &&& 1)) + ((w >>> 1) &&& 1)) + ((w >>> 2) &&& 1)) + ((w >>> 3) &&& 1)) + ((w >>> 4) &&& 1)) + ((w >>> 5) &&& 1))) (pc := 25) hC hR dX7_many_25 hk

theorem md_or64 {a b : Nat} (ha : a < 64) (hb : b < 6) : a ||| (1 <<< b) < 64 := Nat.or_lt_two_pow (n := 6) ha (by
  rcases (show b = 0 ∨ b = 1 ∨ b = 2 ∨ b = 3 ∨ b = 4 ∨ b = 5 by omega) with rfl | rfl | rfl | rfl | rfl | rfl <;> decide)

def md_walked1 : Nat → (Nat → Nat → Nat) → Nat → Option Nat → Nat → Nat → Nat
  | 0, N, _, _, _, _ => 0
  | f + 1, N, t, q, w, k => if k = 0 then w ||| (N 14 t) else if N 17 ((10 * t) + (k - 1)) = 0 then md_walked1 f N t q (w ||| (1 <<< (N 16 ((10 * t) + (k - 1))))) (k - 1) else if N 3 (44 + ((10 * t) + (k - 1))) = 0 then (w ||| (1 <<< (N 16 ((10 * t) + (k - 1))))) ||| (N 18 ((10 * t) + (k - 1))) else (match q with | none => md_walked1 f N t q (w ||| (1 <<< (N 16 ((10 * t) + (k - 1))))) (k - 1) | some q16 => if (md_takes N (44 + ((10 * t) + (k - 1))) q16) = true then (w ||| (1 <<< (N 16 ((10 * t) + (k - 1))))) ||| (N 18 ((10 * t) + (k - 1))) else md_walked1 f N t (some q16) (w ||| (1 <<< (N 16 ((10 * t) + (k - 1))))) (k - 1))
theorem md_walked1_s (f : Nat) (N : Nat → Nat → Nat) (t : Nat) (q : Option Nat) (w : Nat) (k : Nat) : md_walked1 (f + 1) N t q w k = if k = 0 then w ||| (N 14 t) else if N 17 ((10 * t) + (k - 1)) = 0 then md_walked1 f N t q (w ||| (1 <<< (N 16 ((10 * t) + (k - 1))))) (k - 1) else if N 3 (44 + ((10 * t) + (k - 1))) = 0 then (w ||| (1 <<< (N 16 ((10 * t) + (k - 1))))) ||| (N 18 ((10 * t) + (k - 1))) else (match q with | none => md_walked1 f N t q (w ||| (1 <<< (N 16 ((10 * t) + (k - 1))))) (k - 1) | some q16 => if (md_takes N (44 + ((10 * t) + (k - 1))) q16) = true then (w ||| (1 <<< (N 16 ((10 * t) + (k - 1))))) ||| (N 18 ((10 * t) + (k - 1))) else md_walked1 f N t (some q16) (w ||| (1 <<< (N 16 ((10 * t) + (k - 1))))) (k - 1)) := rfl
set_option maxHeartbeats 4000000 in
set_option maxRecDepth 100000 in
theorem mm_walked1 {X : sg_X} {l : Launch} {G : sg_G} {d : Nat} {M0 : sg_M} {x : Nat} {ad : Nat → Nat} {kr : Option Value → sg_M → Prop} {kx : String → sg_M → Prop} (htr : l.stackTraces = false) (hC : sg_C X l G cX7_walked RX7 7 (d + 4)) (hR : sg_R X yX7_walked kr kx (some .int)) : ∀ (f : Nat) (t : Nat) (q : Option Nat) (w : Nat) (k : Nat) (N : Nat → Nat → Nat) {M : sg_M} (hI : md_I M0 M x ad N) (hf : k < f) (ht : t < 4) (hqo : ∀ k, q = some k → k < 86) (hw6 : w < 64) (hk9 : k ≤ 10) (hw : ∀ r, N 4 r ≤ 3) (hsr : ∀ r, N 16 r < 6) (hbd : ∀ r, N 18 r < 64) (hmd : ∀ r, N 14 r < 64) (hk : kr (some (.int (nI (md_walked1 f N t q w k)))) M), sg_W X M 0 0 12 [some (.ref x), some (.int (nI t)), some (.int (md_o q)), some (.int (nI w)), some (.int (md_p k)), none, none] [] := by
  intro f
  induction f with
  | zero =>
    intro t q w k N M hI hf
    exact absurd hf (Nat.not_lt_zero _)
  | succ f ih =>
    intro t q w k N M hI hf ht hqo hw6 hk9 hw hsr hbd hmd hk
    refine sg_iload (pc := 12) (x := md_p k) hC dX7_walked_12 rfl ?_
    refine sg_ifP_lt (pc := 14) (a := k) 106 hC dX7_walked_14 (by decide) (by first | omega | exact Nat.lt_of_le_of_lt Nat.and_le_left (by omega) | exact Nat.or_lt_two_pow (n := 16) (by omega) (by omega) | (simp [md_set, va_up]; done) | (simp [md_set, va_up]; omega)) (fun h1 => ?_) (fun h1 => ?_)
    · refine sg_iload_n (pc := 106) (x := nI w) hC dX7_walked_106 rfl ?_
      refine sg_aload_n (pc := 107) (v := .ref x) hC dX7_walked_107 rfl rfl ?_
      refine md_get (pc := 108) (i := 14) hC (by decide) tw_1200 dX7_walked_108 hI rfl ?_
      refine sg_iload_n (pc := 111) (x := nI t) hC dX7_walked_111 rfl ?_
      refine md_iald (pc := 112) (i := 14) (j := t) hC dX7_walked_112 hI rfl (by first | omega | exact Nat.lt_of_le_of_lt Nat.and_le_left (by omega) | exact Nat.or_lt_two_pow (n := 16) (by omega) (by omega) | (simp [md_set, va_up]; done) | (simp [md_set, va_up]; omega)) (by decide) (fun hv2 => ?_)
      show sg_W X M 0 0 113 [some (.ref x), some (.int (nI t)), some (.int (md_o q)), some (.int (nI w)), some (.int (md_p k)), none, none] [.int (nI (N 14 t)), .int (nI w)]
      have hW3 := hmd t
      refine sg_iorN (pc := 113) (a := w) (b := N 14 t) hC dX7_walked_113 ?_
      have e9 : md_walked1 (f + 1) N t q w k = w ||| (N 14 t) := by rw [md_walked1_s]; simp only [if_pos h1]
      rw [e9] at hk
      exact sg_ireturn (st := []) (v := nI (w ||| (N 14 t))) (pc := 114) hC hR dX7_walked_114 hk
    · rw [md_p_pos h1]
      show sg_W X M 0 0 17 [some (.ref x), some (.int (nI t)), some (.int (md_o q)), some (.int (nI w)), some (.int (nI (k - 1))), none, none] []
      refine sg_bipush (pc := 17) (nI 10) hC dX7_walked_17 (by decide) ?_
      refine sg_iload_n (pc := 19) (x := nI t) hC dX7_walked_19 rfl ?_
      refine sg_imulN (pc := 20) (a := 10) (b := t) hC dX7_walked_20 ?_
      refine sg_iload (pc := 21) (x := nI (k - 1)) hC dX7_walked_21 rfl ?_
      refine sg_iaddN (pc := 23) (a := 10 * t) (b := k - 1) hC dX7_walked_23 ?_
      refine sg_istore (pc := 24) (x := nI ((10 * t) + (k - 1))) hC dX7_walked_24 (by decide) ?_
      show sg_W X M 0 0 26 [some (.ref x), some (.int (nI t)), some (.int (md_o q)), some (.int (nI w)), some (.int (nI (k - 1))), some (.int (nI ((10 * t) + (k - 1)))), none] []
      refine sg_iload_n (pc := 26) (x := nI w) hC dX7_walked_26 rfl ?_
      refine sg_iconst (pc := 27) (nI 1) hC dX7_walked_27 (by decide) ?_
      refine sg_aload_n (pc := 28) (v := .ref x) hC dX7_walked_28 rfl rfl ?_
      refine md_get (pc := 29) (i := 16) hC (by decide) tw_1202 dX7_walked_29 hI rfl ?_
      refine sg_iload (pc := 32) (x := nI ((10 * t) + (k - 1))) hC dX7_walked_32 rfl ?_
      refine md_iald (pc := 34) (i := 16) (j := (10 * t) + (k - 1)) hC dX7_walked_34 hI rfl (by first | omega | exact Nat.lt_of_le_of_lt Nat.and_le_left (by omega) | exact Nat.or_lt_two_pow (n := 16) (by omega) (by omega) | (simp [md_set, va_up]; done) | (simp [md_set, va_up]; omega)) (by decide) (fun hv4 => ?_)
      show sg_W X M 0 0 35 [some (.ref x), some (.int (nI t)), some (.int (md_o q)), some (.int (nI w)), some (.int (nI (k - 1))), some (.int (nI ((10 * t) + (k - 1)))), none] [.int (nI (N 16 ((10 * t) + (k - 1)))), .int (nI 1), .int (nI w)]
      have hW5 := hsr ((10 * t) + (k - 1))
      refine sg_ishlN (pc := 35) (a := 1) (b := N 16 ((10 * t) + (k - 1))) hC dX7_walked_35 (by first | omega | exact Nat.lt_of_le_of_lt Nat.and_le_left (by omega) | exact Nat.or_lt_two_pow (n := 16) (by omega) (by omega) | (simp [md_set, va_up]; done) | (simp [md_set, va_up]; omega)) (by exact md_sh1 (by omega)) ?_
      refine sg_iorN (pc := 36) (a := w) (b := 1 <<< (N 16 ((10 * t) + (k - 1)))) hC dX7_walked_36 ?_
      refine sg_istore_n (pc := 37) (x := nI (w ||| (1 <<< (N 16 ((10 * t) + (k - 1)))))) hC dX7_walked_37 (by decide) ?_
      show sg_W X M 0 0 38 [some (.ref x), some (.int (nI t)), some (.int (md_o q)), some (.int (nI (w ||| (1 <<< (N 16 ((10 * t) + (k - 1))))))), some (.int (nI (k - 1))), some (.int (nI ((10 * t) + (k - 1)))), none] []
      refine sg_aload_n (pc := 38) (v := .ref x) hC dX7_walked_38 rfl rfl ?_
      refine md_get (pc := 39) (i := 17) hC (by decide) tw_1203 dX7_walked_39 hI rfl ?_
      refine sg_iload (pc := 42) (x := nI ((10 * t) + (k - 1))) hC dX7_walked_42 rfl ?_
      refine md_zald (pc := 44) (i := 17) (j := (10 * t) + (k - 1)) hC dX7_walked_44 hI rfl (by first | omega | exact Nat.lt_of_le_of_lt Nat.and_le_left (by omega) | exact Nat.or_lt_two_pow (n := 16) (by omega) (by omega) | (simp [md_set, va_up]; done) | (simp [md_set, va_up]; omega)) (by decide) (fun hv6 => ?_)
      show sg_W X M 0 0 45 [some (.ref x), some (.int (nI t)), some (.int (md_o q)), some (.int (nI (w ||| (1 <<< (N 16 ((10 * t) + (k - 1))))))), some (.int (nI (k - 1))), some (.int (nI ((10 * t) + (k - 1)))), none] [.int (nI (N 17 ((10 * t) + (k - 1))))]
      refine sg_ifN_eq (pc := 45) (a := N 17 ((10 * t) + (k - 1))) 82 hC dX7_walked_45 (by decide) (by first | omega | exact Nat.lt_of_le_of_lt Nat.and_le_left (by omega) | exact Nat.or_lt_two_pow (n := 16) (by omega) (by omega) | (simp [md_set, va_up]; done) | (simp [md_set, va_up]; omega)) (fun h7 => ?_) (fun h7 => ?_)
      · refine sg_iconst (pc := 82) (nI 0) hC dX7_walked_82 (by decide) ?_
        refine sg_istore (pc := 83) (x := nI 0) hC dX7_walked_83 (by decide) ?_
        show sg_W X M 0 0 85 [some (.ref x), some (.int (nI t)), some (.int (md_o q)), some (.int (nI (w ||| (1 <<< (N 16 ((10 * t) + (k - 1))))))), some (.int (nI (k - 1))), some (.int (nI ((10 * t) + (k - 1)))), some (.int (nI 0))] []
        refine sg_iload (pc := 85) (x := nI 0) hC dX7_walked_85 rfl ?_
        refine sg_ifN_eq (pc := 87) (a := 0) 100 hC dX7_walked_87 (by decide) (by decide) (fun _ => ?_) (fun h8 => absurd h8 (by decide))
        refine sg_iinc (pc := 100) (x := nI (k - 1)) (md_p (k - 1)) hC dX7_walked_100 rfl (md_m1 _) (by decide) ?_
        show sg_W X M 0 0 103 [some (.ref x), some (.int (nI t)), some (.int (md_o q)), some (.int (nI (w ||| (1 <<< (N 16 ((10 * t) + (k - 1))))))), some (.int (md_p (k - 1))), some (.int (nI ((10 * t) + (k - 1)))), some (.int (nI 0))] []
        refine sg_goto (pc := 103) 12 hC dX7_walked_103 (by decide) ?_
        have e9 : md_walked1 (f + 1) N t q w k = md_walked1 f N t q (w ||| (1 <<< (N 16 ((10 * t) + (k - 1))))) (k - 1) := by rw [md_walked1_s]; simp only [if_neg h1, if_pos h7]
        rw [e9] at hk
        refine sg_loc (L' := [some (.ref x), some (.int (nI t)), some (.int (md_o q)), some (.int (nI ((w ||| (1 <<< (N 16 ((10 * t) + (k - 1)))))))), some (.int (md_p ((k - 1)))), none, none]) ⟨rfl, ⟨rfl, ⟨rfl, ⟨rfl, ⟨rfl, trivial⟩⟩⟩⟩⟩ ?_
        exact ih t q (w ||| (1 <<< (N 16 ((10 * t) + (k - 1))))) (k - 1) _ hI (by first | omega | exact Nat.lt_of_le_of_lt Nat.and_le_left (by omega) | exact Nat.or_lt_two_pow (n := 16) (by omega) (by omega) | (simp [md_set, va_up]; done) | (simp [md_set, va_up]; omega)) (by first | omega | exact Nat.lt_of_le_of_lt Nat.and_le_left (by omega) | exact Nat.or_lt_two_pow (n := 16) (by omega) (by omega) | (simp [md_set, va_up]; done) | (simp [md_set, va_up]; omega)) hqo (by first | omega | exact md_or64 (by omega) (by omega)) (by first | omega | exact Nat.lt_of_le_of_lt Nat.and_le_left (by omega) | exact Nat.or_lt_two_pow (n := 16) (by omega) (by omega) | (simp [md_set, va_up]; done) | (simp [md_set, va_up]; omega)) hw hsr hbd hmd hk
      · refine sg_aload_n (pc := 48) (v := .ref x) hC dX7_walked_48 rfl rfl ?_
        refine md_get (pc := 49) (i := 3) hC (by decide) tw_1189 dX7_walked_49 hI rfl ?_
        refine sg_bipush (pc := 52) (nI 44) hC dX7_walked_52 (by decide) ?_
        refine sg_iload (pc := 54) (x := nI ((10 * t) + (k - 1))) hC dX7_walked_54 rfl ?_
        refine sg_iaddN (pc := 56) (a := 44) (b := (10 * t) + (k - 1)) hC dX7_walked_56 ?_
        refine md_iald (pc := 57) (i := 3) (j := 44 + ((10 * t) + (k - 1))) hC dX7_walked_57 hI rfl (by first | omega | exact Nat.lt_of_le_of_lt Nat.and_le_left (by omega) | exact Nat.or_lt_two_pow (n := 16) (by omega) (by omega) | (simp [md_set, va_up]; done) | (simp [md_set, va_up]; omega)) (by decide) (fun hv9 => ?_)
        show sg_W X M 0 0 58 [some (.ref x), some (.int (nI t)), some (.int (md_o q)), some (.int (nI (w ||| (1 <<< (N 16 ((10 * t) + (k - 1))))))), some (.int (nI (k - 1))), some (.int (nI ((10 * t) + (k - 1)))), none] [.int (nI (N 3 (44 + ((10 * t) + (k - 1)))))]
        refine sg_ifN_eq (pc := 58) (a := N 3 (44 + ((10 * t) + (k - 1)))) 78 hC dX7_walked_58 (by decide) (by first | omega | exact Nat.lt_of_le_of_lt Nat.and_le_left (by omega) | exact Nat.or_lt_two_pow (n := 16) (by omega) (by omega) | (simp [md_set, va_up]; done) | (simp [md_set, va_up]; omega)) (fun h10 => ?_) (fun h10 => ?_)
        · refine sg_iconst (pc := 78) (nI 1) hC dX7_walked_78 (by decide) ?_
          refine sg_goto (pc := 79) 83 hC dX7_walked_79 (by decide) ?_
          refine sg_istore (pc := 83) (x := nI 1) hC dX7_walked_83 (by decide) ?_
          show sg_W X M 0 0 85 [some (.ref x), some (.int (nI t)), some (.int (md_o q)), some (.int (nI (w ||| (1 <<< (N 16 ((10 * t) + (k - 1))))))), some (.int (nI (k - 1))), some (.int (nI ((10 * t) + (k - 1)))), some (.int (nI 1))] []
          refine sg_iload (pc := 85) (x := nI 1) hC dX7_walked_85 rfl ?_
          refine sg_ifN_eq (pc := 87) (a := 1) 100 hC dX7_walked_87 (by decide) (by decide) (fun h11 => absurd h11 (by decide)) (fun _ => ?_)
          refine sg_iload_n (pc := 90) (x := nI (w ||| (1 <<< (N 16 ((10 * t) + (k - 1)))))) hC dX7_walked_90 rfl ?_
          refine sg_aload_n (pc := 91) (v := .ref x) hC dX7_walked_91 rfl rfl ?_
          refine md_get (pc := 92) (i := 18) hC (by decide) tw_1204 dX7_walked_92 hI rfl ?_
          refine sg_iload (pc := 95) (x := nI ((10 * t) + (k - 1))) hC dX7_walked_95 rfl ?_
          refine md_iald (pc := 97) (i := 18) (j := (10 * t) + (k - 1)) hC dX7_walked_97 hI rfl (by first | omega | exact Nat.lt_of_le_of_lt Nat.and_le_left (by omega) | exact Nat.or_lt_two_pow (n := 16) (by omega) (by omega) | (simp [md_set, va_up]; done) | (simp [md_set, va_up]; omega)) (by decide) (fun hv12 => ?_)
          show sg_W X M 0 0 98 [some (.ref x), some (.int (nI t)), some (.int (md_o q)), some (.int (nI (w ||| (1 <<< (N 16 ((10 * t) + (k - 1))))))), some (.int (nI (k - 1))), some (.int (nI ((10 * t) + (k - 1)))), some (.int (nI 1))] [.int (nI (N 18 ((10 * t) + (k - 1)))), .int (nI (w ||| (1 <<< (N 16 ((10 * t) + (k - 1))))))]
          have hW13 := hbd ((10 * t) + (k - 1))
          refine sg_iorN (pc := 98) (a := w ||| (1 <<< (N 16 ((10 * t) + (k - 1))))) (b := N 18 ((10 * t) + (k - 1))) hC dX7_walked_98 ?_
          have e9 : md_walked1 (f + 1) N t q w k = (w ||| (1 <<< (N 16 ((10 * t) + (k - 1))))) ||| (N 18 ((10 * t) + (k - 1))) := by rw [md_walked1_s]; simp only [if_neg h1, if_neg h7, if_pos h10]
          rw [e9] at hk
          exact sg_ireturn (st := []) (v := nI ((w ||| (1 <<< (N 16 ((10 * t) + (k - 1))))) ||| (N 18 ((10 * t) + (k - 1))))) (pc := 99) hC hR dX7_walked_99 hk
        · refine sg_iload_n (pc := 61) (x := md_o q) hC dX7_walked_61 rfl ?_
          refine sg_ifO_lt (pc := 62) (r := q) 82 hC dX7_walked_62 (by decide) (fun k9 hk9 => by have := hqo k9 hk9; omega) (fun h14 => ?_) (fun h14 => ?_)
          · refine sg_iconst (pc := 82) (nI 0) hC dX7_walked_82 (by decide) ?_
            refine sg_istore (pc := 83) (x := nI 0) hC dX7_walked_83 (by decide) ?_
            show sg_W X M 0 0 85 [some (.ref x), some (.int (nI t)), some (.int (md_o q)), some (.int (nI (w ||| (1 <<< (N 16 ((10 * t) + (k - 1))))))), some (.int (nI (k - 1))), some (.int (nI ((10 * t) + (k - 1)))), some (.int (nI 0))] []
            refine sg_iload (pc := 85) (x := nI 0) hC dX7_walked_85 rfl ?_
            refine sg_ifN_eq (pc := 87) (a := 0) 100 hC dX7_walked_87 (by decide) (by decide) (fun _ => ?_) (fun h15 => absurd h15 (by decide))
            refine sg_iinc (pc := 100) (x := nI (k - 1)) (md_p (k - 1)) hC dX7_walked_100 rfl (md_m1 _) (by decide) ?_
            show sg_W X M 0 0 103 [some (.ref x), some (.int (nI t)), some (.int (md_o q)), some (.int (nI (w ||| (1 <<< (N 16 ((10 * t) + (k - 1))))))), some (.int (md_p (k - 1))), some (.int (nI ((10 * t) + (k - 1)))), some (.int (nI 0))] []
            refine sg_goto (pc := 103) 12 hC dX7_walked_103 (by decide) ?_
            have e9 : md_walked1 (f + 1) N t q w k = md_walked1 f N t q (w ||| (1 <<< (N 16 ((10 * t) + (k - 1))))) (k - 1) := by rw [md_walked1_s]; simp only [if_neg h1, if_neg h7, if_neg h10, h14]
            rw [e9] at hk
            refine sg_loc (L' := [some (.ref x), some (.int (nI t)), some (.int (md_o q)), some (.int (nI ((w ||| (1 <<< (N 16 ((10 * t) + (k - 1)))))))), some (.int (md_p ((k - 1)))), none, none]) ⟨rfl, ⟨rfl, ⟨rfl, ⟨rfl, ⟨rfl, trivial⟩⟩⟩⟩⟩ ?_
            exact ih t q (w ||| (1 <<< (N 16 ((10 * t) + (k - 1))))) (k - 1) _ hI (by first | omega | exact Nat.lt_of_le_of_lt Nat.and_le_left (by omega) | exact Nat.or_lt_two_pow (n := 16) (by omega) (by omega) | (simp [md_set, va_up]; done) | (simp [md_set, va_up]; omega)) (by first | omega | exact Nat.lt_of_le_of_lt Nat.and_le_left (by omega) | exact Nat.or_lt_two_pow (n := 16) (by omega) (by omega) | (simp [md_set, va_up]; done) | (simp [md_set, va_up]; omega)) hqo (by first | omega | exact md_or64 (by omega) (by omega)) (by first | omega | exact Nat.lt_of_le_of_lt Nat.and_le_left (by omega) | exact Nat.or_lt_two_pow (n := 16) (by omega) (by omega) | (simp [md_set, va_up]; done) | (simp [md_set, va_up]; omega)) hw hsr hbd hmd hk
          · obtain ⟨q16, hq17⟩ := md_os h14
            rw [hq17]
            show sg_W X M 0 0 65 [some (.ref x), some (.int (nI t)), some (.int (nI q16)), some (.int (nI (w ||| (1 <<< (N 16 ((10 * t) + (k - 1))))))), some (.int (nI (k - 1))), some (.int (nI ((10 * t) + (k - 1)))), none] []
            have hz18 := hqo q16 hq17
            refine sg_aload_n (pc := 65) (v := .ref x) hC dX7_walked_65 rfl rfl ?_
            refine sg_bipush (pc := 66) (nI 44) hC dX7_walked_66 (by decide) ?_
            refine sg_iload (pc := 68) (x := nI ((10 * t) + (k - 1))) hC dX7_walked_68 rfl ?_
            refine sg_iaddN (pc := 70) (a := 44) (b := (10 * t) + (k - 1)) hC dX7_walked_70 ?_
            refine sg_iload_n (pc := 71) (x := nI q16) hC dX7_walked_71 rfl ?_
            refine sg_callV (pc := 72) (As := [.int (nI (44 + ((10 * t) + (k - 1)))), .int (nI q16)]) (rest := []) (mc := 0) (ms := 0) hC tw_1357 tw_1359 tw_49 tw_72 tw_1360 yd_X7_takes (by decide) (ci := 10) rfl dX7_walked_72 hI.x rfl (Nat.le_of_ble_eq_true rfl) (Nat.zero_le _) (Nat.zero_le _) ?_
            refine mm_takes htr hI (44 + ((10 * t) + (k - 1))) q16 (by first | omega | exact Nat.lt_of_le_of_lt Nat.and_le_left (by omega) | exact Nat.or_lt_two_pow (n := 16) (by omega) (by omega) | (simp [md_set, va_up]; done) | (simp [md_set, va_up]; omega)) (by first | omega | exact Nat.lt_of_le_of_lt Nat.and_le_left (by omega) | exact Nat.or_lt_two_pow (n := 16) (by omega) (by omega) | (simp [md_set, va_up]; done) | (simp [md_set, va_up]; omega)) hw ?_
            show sg_W X M 0 0 75 [some (.ref x), some (.int (nI t)), some (.int (nI q16)), some (.int (nI (w ||| (1 <<< (N 16 ((10 * t) + (k - 1))))))), some (.int (nI (k - 1))), some (.int (nI ((10 * t) + (k - 1)))), none] [.int (md_b ((md_takes N (44 + ((10 * t) + (k - 1))) q16)))]
            refine sg_ifB_eq (pc := 75) (b := (md_takes N (44 + ((10 * t) + (k - 1))) q16)) 82 hC dX7_walked_75 (by decide) (fun h19 => ?_) (fun h19 => ?_)
            · refine sg_iconst (pc := 82) (nI 0) hC dX7_walked_82 (by decide) ?_
              refine sg_istore (pc := 83) (x := nI 0) hC dX7_walked_83 (by decide) ?_
              show sg_W X M 0 0 85 [some (.ref x), some (.int (nI t)), some (.int (nI q16)), some (.int (nI (w ||| (1 <<< (N 16 ((10 * t) + (k - 1))))))), some (.int (nI (k - 1))), some (.int (nI ((10 * t) + (k - 1)))), some (.int (nI 0))] []
              refine sg_iload (pc := 85) (x := nI 0) hC dX7_walked_85 rfl ?_
              refine sg_ifN_eq (pc := 87) (a := 0) 100 hC dX7_walked_87 (by decide) (by decide) (fun _ => ?_) (fun h20 => absurd h20 (by decide))
              refine sg_iinc (pc := 100) (x := nI (k - 1)) (md_p (k - 1)) hC dX7_walked_100 rfl (md_m1 _) (by decide) ?_
              show sg_W X M 0 0 103 [some (.ref x), some (.int (nI t)), some (.int (nI q16)), some (.int (nI (w ||| (1 <<< (N 16 ((10 * t) + (k - 1))))))), some (.int (md_p (k - 1))), some (.int (nI ((10 * t) + (k - 1)))), some (.int (nI 0))] []
              refine sg_goto (pc := 103) 12 hC dX7_walked_103 (by decide) ?_
              have e9 : md_walked1 (f + 1) N t q w k = md_walked1 f N t (some q16) (w ||| (1 <<< (N 16 ((10 * t) + (k - 1))))) (k - 1) := by rw [md_walked1_s]; simp only [if_neg h1, if_neg h7, if_neg h10, hq17, if_neg (ts9 h19)]
              rw [e9] at hk
              refine sg_loc (L' := [some (.ref x), some (.int (nI t)), some (.int (md_o ((some q16)))), some (.int (nI ((w ||| (1 <<< (N 16 ((10 * t) + (k - 1)))))))), some (.int (md_p ((k - 1)))), none, none]) ⟨rfl, ⟨rfl, ⟨rfl, ⟨rfl, ⟨rfl, trivial⟩⟩⟩⟩⟩ ?_
              exact ih t (some q16) (w ||| (1 <<< (N 16 ((10 * t) + (k - 1))))) (k - 1) _ hI (by first | omega | exact Nat.lt_of_le_of_lt Nat.and_le_left (by omega) | exact Nat.or_lt_two_pow (n := 16) (by omega) (by omega) | (simp [md_set, va_up]; done) | (simp [md_set, va_up]; omega)) (by first | omega | exact Nat.lt_of_le_of_lt Nat.and_le_left (by omega) | exact Nat.or_lt_two_pow (n := 16) (by omega) (by omega) | (simp [md_set, va_up]; done) | (simp [md_set, va_up]; omega)) (by first | (intro k9 hk9; cases hk9; omega) | (intro k9 hk9; cases hk9)) (by first | omega | exact md_or64 (by omega) (by omega)) (by first | omega | exact Nat.lt_of_le_of_lt Nat.and_le_left (by omega) | exact Nat.or_lt_two_pow (n := 16) (by omega) (by omega) | (simp [md_set, va_up]; done) | (simp [md_set, va_up]; omega)) hw hsr hbd hmd hk
            · refine sg_iconst (pc := 78) (nI 1) hC dX7_walked_78 (by decide) ?_
              refine sg_goto (pc := 79) 83 hC dX7_walked_79 (by decide) ?_
              refine sg_istore (pc := 83) (x := nI 1) hC dX7_walked_83 (by decide) ?_
              show sg_W X M 0 0 85 [some (.ref x), some (.int (nI t)), some (.int (nI q16)), some (.int (nI (w ||| (1 <<< (N 16 ((10 * t) + (k - 1))))))), some (.int (nI (k - 1))), some (.int (nI ((10 * t) + (k - 1)))), some (.int (nI 1))] []
              refine sg_iload (pc := 85) (x := nI 1) hC dX7_walked_85 rfl ?_
              refine sg_ifN_eq (pc := 87) (a := 1) 100 hC dX7_walked_87 (by decide) (by decide) (fun h21 => absurd h21 (by decide)) (fun _ => ?_)
              refine sg_iload_n (pc := 90) (x := nI (w ||| (1 <<< (N 16 ((10 * t) + (k - 1)))))) hC dX7_walked_90 rfl ?_
              refine sg_aload_n (pc := 91) (v := .ref x) hC dX7_walked_91 rfl rfl ?_
              refine md_get (pc := 92) (i := 18) hC (by decide) tw_1204 dX7_walked_92 hI rfl ?_
              refine sg_iload (pc := 95) (x := nI ((10 * t) + (k - 1))) hC dX7_walked_95 rfl ?_
              refine md_iald (pc := 97) (i := 18) (j := (10 * t) + (k - 1)) hC dX7_walked_97 hI rfl (by first | omega | exact Nat.lt_of_le_of_lt Nat.and_le_left (by omega) | exact Nat.or_lt_two_pow (n := 16) (by omega) (by omega) | (simp [md_set, va_up]; done) | (simp [md_set, va_up]; omega)) (by decide) (fun hv22 => ?_)
              show sg_W X M 0 0 98 [some (.ref x), some (.int (nI t)), some (.int (nI q16)), some (.int (nI (w ||| (1 <<< (N 16 ((10 * t) + (k - 1))))))), some (.int (nI (k - 1))), some (.int (nI ((10 * t) + (k - 1)))), some (.int (nI 1))] [.int (nI (N 18 ((10 * t) + (k - 1)))), .int (nI (w ||| (1 <<< (N 16 ((10 * t) + (k - 1))))))]
              have hW23 := hbd ((10 * t) + (k - 1))
              refine sg_iorN (pc := 98) (a := w ||| (1 <<< (N 16 ((10 * t) + (k - 1))))) (b := N 18 ((10 * t) + (k - 1))) hC dX7_walked_98 ?_
              have e9 : md_walked1 (f + 1) N t q w k = (w ||| (1 <<< (N 16 ((10 * t) + (k - 1))))) ||| (N 18 ((10 * t) + (k - 1))) := by rw [md_walked1_s]; simp only [if_neg h1, if_neg h7, if_neg h10, hq17, if_pos h19]
              rw [e9] at hk
              exact sg_ireturn (st := []) (v := nI ((w ||| (1 <<< (N 16 ((10 * t) + (k - 1))))) ||| (N 18 ((10 * t) + (k - 1))))) (pc := 99) hC hR dX7_walked_99 hk

def md_walked (N : Nat → Nat → Nat) (t : Nat) (q : Option Nat) : Nat := md_walked1 (11) N t q 0 (N 15 t)
set_option maxHeartbeats 4000000 in
set_option maxRecDepth 100000 in
theorem mm_walked {l : Launch} {G : sg_G} {d : Nat} {M0 M : sg_M} {x : Nat} {ad : Nat → Nat} {N : Nat → Nat → Nat} {kr : Option Value → sg_M → Prop} {kx : String → sg_M → Prop} (htr : l.stackTraces = false) (hI : md_I M0 M x ad N) (t : Nat) (q : Option Nat) (ht : t < 4) (hqo : ∀ k, q = some k → k < 86) (hw : ∀ r, N 4 r ≤ 3) (hfr : ∀ r, N 15 r ≤ 10) (hsr : ∀ r, N 16 r < 6) (hbd : ∀ r, N 18 r < 64) (hmd : ∀ r, N 14 r < 64) (hk : kr (some (.int (nI (md_walked N t q)))) M) : sg_Met l G yX7_walked cX7_walked 7 (some .int) (d + 4) 0 0 [.ref x, .int (nI t), .int (md_o q)] M kr kx := by
  refine sg_enter [some (.ref x), some (.int (nI t)), some (.int (md_o q)), none, none, none, none] (by decide) htr (Nat.le_of_ble_eq_true rfl) rfl ?_
  intro X hC hR
  have hC : sg_C X l G cX7_walked RX7 7 (d + 4) := hC
  refine sg_iconst (pc := 0) (nI 0) hC dX7_walked_0 (by decide) ?_
  refine sg_istore_n (pc := 1) (x := nI 0) hC dX7_walked_1 (by decide) ?_
  show sg_W X M 0 0 2 [some (.ref x), some (.int (nI t)), some (.int (md_o q)), some (.int (nI 0)), none, none, none] []
  refine sg_aload_n (pc := 2) (v := .ref x) hC dX7_walked_2 rfl rfl ?_
  refine md_get (pc := 3) (i := 15) hC (by decide) tw_1201 dX7_walked_3 hI rfl ?_
  refine sg_iload_n (pc := 6) (x := nI t) hC dX7_walked_6 rfl ?_
  refine md_iald (pc := 7) (i := 15) (j := t) hC dX7_walked_7 hI rfl (by first | omega | exact Nat.lt_of_le_of_lt Nat.and_le_left (by omega) | exact Nat.or_lt_two_pow (n := 16) (by omega) (by omega) | (simp [md_set, va_up]; done) | (simp [md_set, va_up]; omega)) (by decide) (fun hv1 => ?_)
  show sg_W X M 0 0 8 [some (.ref x), some (.int (nI t)), some (.int (md_o q)), some (.int (nI 0)), none, none, none] [.int (nI (N 15 t))]
  have hW2 := hfr t
  refine sg_iconst (pc := 8) (nI 1) hC dX7_walked_8 (by decide) ?_
  refine sg_isub (pc := 9) (x := nI (N 15 t)) (y := nI 1) hC dX7_walked_9 ?_
  show sg_W X M 0 0 10 [some (.ref x), some (.int (nI t)), some (.int (md_o q)), some (.int (nI 0)), none, none, none] [.int (md_p (N 15 t))]
  refine sg_istore (pc := 10) (x := md_p (N 15 t)) hC dX7_walked_10 (by decide) ?_
  show sg_W X M 0 0 12 [some (.ref x), some (.int (nI t)), some (.int (md_o q)), some (.int (nI 0)), some (.int (md_p (N 15 t))), none, none] []
  have e9 : md_walked N t q = md_walked1 (11) N t q 0 (N 15 t) := by rw [md_walked]
  rw [e9] at hk
  refine sg_loc (L' := [some (.ref x), some (.int (nI t)), some (.int (md_o q)), some (.int (nI 0)), some (.int (md_p ((N 15 t)))), none, none]) ⟨rfl, ⟨rfl, ⟨rfl, ⟨rfl, ⟨rfl, trivial⟩⟩⟩⟩⟩ ?_
  exact mm_walked1 htr hC hR (11) t q 0 (N 15 t) _ hI (by first | omega | exact Nat.lt_of_le_of_lt Nat.and_le_left (by omega) | exact Nat.or_lt_two_pow (n := 16) (by omega) (by omega) | (simp [md_set, va_up]; done) | (simp [md_set, va_up]; omega)) (by first | omega | exact Nat.lt_of_le_of_lt Nat.and_le_left (by omega) | exact Nat.or_lt_two_pow (n := 16) (by omega) (by omega) | (simp [md_set, va_up]; done) | (simp [md_set, va_up]; omega)) hqo (by first | omega | exact md_or64 (by omega) (by omega)) (by first | omega | exact Nat.lt_of_le_of_lt Nat.and_le_left (by omega) | exact Nat.or_lt_two_pow (n := 16) (by omega) (by omega) | (simp [md_set, va_up]; done) | (simp [md_set, va_up]; omega)) hw hsr hbd hmd hk
