theorem md_sub3 {a b : Nat} (ha : a ≤ 3) (hb : b ≤ 3) : ¬ (nI a - nI b) < 0 → (nI a - nI b).toNatClampNeg ≤ 3 := by
  rcases (show a = 0 ∨ a = 1 ∨ a = 2 ∨ a = 3 by omega) with rfl | rfl | rfl | rfl <;> rcases (show b = 0 ∨ b = 1 ∨ b = 2 ∨ b = 3 by omega) with rfl | rfl | rfl | rfl <;> decide
theorem md_sl : ∀ n, n < 32 → ((nI n &&& 31).toBitVec.smod 32).toNat = n := by decide
section SGSH
variable {X : sg_X} {l : Launch} {G : sg_G} {cc : ByteArray} {own : String} {nL d : Nat} {M : sg_M} {cb sb pc : Nat} {L : List (Option Value)} {st : List Value}
theorem sg_ishlN {a b : Nat} (hC : sg_C X l G cc own nL d) (hd : decode cc pc = .ok (.ishl, 1)) (hb : b < 32) (h : a <<< b < 2 ^ 31) (k : sg_W X M cb sb (pc + 1) L (.int (nI (a <<< b)) :: st)) : sg_W X M cb sb pc L (.int (nI b) :: .int (nI a) :: st) := sg_ishl hC hd (by
  rw [Nat.shiftLeft_eq] at h k
  rw [pk_shlN _ b (md_sl b hb) (by omega)]; exact k)
theorem sg_ishrN {a b : Nat} (hC : sg_C X l G cc own nL d) (hd : decode cc pc = .ok (.ishr, 1)) (hb : b < 32) (h : a < 2 ^ 31) (k : sg_W X M cb sb (pc + 1) L (.int (nI (a >>> b)) :: st)) : sg_W X M cb sb pc L (.int (nI b) :: .int (nI a) :: st) := sg_ishr hC hd (by
  rw [Nat.shiftRight_eq_div_pow] at k
  rw [pk_shrN h _ b (md_sl b hb)]; exact k)
end SGSH

def md_alike1 : Nat → (Nat → Nat → Nat) → Nat → Nat → Nat → Int32 → Bool → Nat → Bool
  | 0, N, _, _, _, _, _, _ => false
  | f + 1, N, p, q, n, fr, sm, k => if n ≤ k then sm else if sm = true then if N 5 ((3 * p) + k) = N 5 (((3 * q) + fr.toNatClampNeg) + k) then md_alike1 f N p q n (nI fr.toNatClampNeg) true (k + 1) else md_alike1 f N p q n (nI fr.toNatClampNeg) false (k + 1) else sm
theorem md_alike1_s (f : Nat) (N : Nat → Nat → Nat) (p : Nat) (q : Nat) (n : Nat) (fr : Int32) (sm : Bool) (k : Nat) : md_alike1 (f + 1) N p q n fr sm k = if n ≤ k then sm else if sm = true then if N 5 ((3 * p) + k) = N 5 (((3 * q) + fr.toNatClampNeg) + k) then md_alike1 f N p q n (nI fr.toNatClampNeg) true (k + 1) else md_alike1 f N p q n (nI fr.toNatClampNeg) false (k + 1) else sm := rfl
set_option maxHeartbeats 4000000 in
set_option maxRecDepth 100000 in
theorem mm_alike1 {X : sg_X} {l : Launch} {G : sg_G} {d : Nat} {M0 : sg_M} {x : Nat} {ad : Nat → Nat} {kr : Option Value → sg_M → Prop} {kx : String → sg_M → Prop} (htr : l.stackTraces = false) (hC : sg_C X l G cX7_alike RX7 7 (d + 0)) (hR : sg_R X yX7_alike kr kx (some .boolean)) : ∀ (f : Nat) (p : Nat) (q : Nat) (n : Nat) (fr : Int32) (sm : Bool) (k : Nat) (N : Nat → Nat → Nat) {M : sg_M} (hI : md_I M0 M x ad N) (hf : n - k < f) (hp : p < 86) (hq : q < 86) (hn : n ≤ 3) (hk9 : k ≤ n) (hs : sm = true → fr = nI fr.toNatClampNeg ∧ fr.toNatClampNeg + n ≤ 3) (hk : kr (some (.int (md_b (md_alike1 f N p q n fr sm k)))) M), sg_W X M 0 0 28 [some (.ref x), some (.int (nI p)), some (.int (nI q)), some (.int (nI n)), some (.int fr), some (.int (md_b sm)), some (.int (nI k))] [] := by
  intro f
  induction f with
  | zero =>
    intro p q n fr sm k N M hI hf
    exact absurd hf (Nat.not_lt_zero _)
  | succ f ih =>
    intro p q n fr sm k N M hI hf hp hq hn hk9 hs hk
    refine sg_iload (pc := 28) (x := nI k) hC dX7_alike_28 rfl ?_
    refine sg_iload_n (pc := 30) (x := nI n) hC dX7_alike_30 rfl ?_
    refine sg_icmpN_ge (pc := 31) (a := k) (b := n) 80 hC dX7_alike_31 (by decide) (by first | omega | exact Nat.lt_of_le_of_lt Nat.and_le_left (by omega) | exact Nat.or_lt_two_pow (n := 16) (by omega) (by omega) | (simp [md_set, va_up]; done) | (simp [md_set, va_up]; omega)) (by first | omega | exact Nat.lt_of_le_of_lt Nat.and_le_left (by omega) | exact Nat.or_lt_two_pow (n := 16) (by omega) (by omega) | (simp [md_set, va_up]; done) | (simp [md_set, va_up]; omega)) (fun h1 => ?_) (fun h1 => ?_)
    · refine sg_iload (pc := 80) (x := md_b sm) hC dX7_alike_80 rfl ?_
      have e9 : md_alike1 (f + 1) N p q n fr sm k = sm := by rw [md_alike1_s]; simp only [if_pos h1]
      rw [e9] at hk
      exact sg_zreturn (st := []) (v := md_b sm) (pc := 82) (ty := .boolean) hC hR (md_narb _) dX7_alike_82 hk
    · refine sg_iload (pc := 34) (x := md_b sm) hC dX7_alike_34 rfl ?_
      refine sg_ifB_eq (pc := 36) (b := sm) 80 hC dX7_alike_36 (by decide) (fun h2 => ?_) (fun h2 => ?_)
      · refine sg_iload (pc := 80) (x := md_b sm) hC dX7_alike_80 rfl ?_
        have e9 : md_alike1 (f + 1) N p q n fr sm k = sm := by rw [md_alike1_s]; simp only [if_neg (Nat.not_le.mpr h1), if_neg (ts9 h2)]
        rw [e9] at hk
        exact sg_zreturn (st := []) (v := md_b sm) (pc := 82) (ty := .boolean) hC hR (md_narb _) dX7_alike_82 hk
      · obtain ⟨hs3, hs4⟩ := hs h2
        rw [hs3]
        show sg_W X M 0 0 39 [some (.ref x), some (.int (nI p)), some (.int (nI q)), some (.int (nI n)), some (.int (nI fr.toNatClampNeg)), some (.int (md_b sm)), some (.int (nI k))] []
        refine sg_aload_n (pc := 39) (v := .ref x) hC dX7_alike_39 rfl rfl ?_
        refine md_get (pc := 40) (i := 5) hC (by decide) tw_1191 dX7_alike_40 hI rfl ?_
        refine sg_iconst (pc := 43) (nI 3) hC dX7_alike_43 (by decide) ?_
        refine sg_iload_n (pc := 44) (x := nI p) hC dX7_alike_44 rfl ?_
        refine sg_imulN (pc := 45) (a := 3) (b := p) hC dX7_alike_45 ?_
        refine sg_iload (pc := 46) (x := nI k) hC dX7_alike_46 rfl ?_
        refine sg_iaddN (pc := 48) (a := 3 * p) (b := k) hC dX7_alike_48 ?_
        refine md_iald (pc := 49) (i := 5) (j := (3 * p) + k) hC dX7_alike_49 hI rfl (by first | omega | exact Nat.lt_of_le_of_lt Nat.and_le_left (by omega) | exact Nat.or_lt_two_pow (n := 16) (by omega) (by omega) | (simp [md_set, va_up]; done) | (simp [md_set, va_up]; omega)) (by decide) (fun hv5 => ?_)
        show sg_W X M 0 0 50 [some (.ref x), some (.int (nI p)), some (.int (nI q)), some (.int (nI n)), some (.int (nI fr.toNatClampNeg)), some (.int (md_b sm)), some (.int (nI k))] [.int (nI (N 5 ((3 * p) + k)))]
        refine sg_aload_n (pc := 50) (v := .ref x) hC dX7_alike_50 rfl rfl ?_
        refine md_get (pc := 51) (i := 5) hC (by decide) tw_1191 dX7_alike_51 hI rfl ?_
        refine sg_iconst (pc := 54) (nI 3) hC dX7_alike_54 (by decide) ?_
        refine sg_iload_n (pc := 55) (x := nI q) hC dX7_alike_55 rfl ?_
        refine sg_imulN (pc := 56) (a := 3) (b := q) hC dX7_alike_56 ?_
        refine sg_iload (pc := 57) (x := nI fr.toNatClampNeg) hC dX7_alike_57 rfl ?_
        refine sg_iaddN (pc := 59) (a := 3 * q) (b := fr.toNatClampNeg) hC dX7_alike_59 ?_
        refine sg_iload (pc := 60) (x := nI k) hC dX7_alike_60 rfl ?_
        refine sg_iaddN (pc := 62) (a := (3 * q) + fr.toNatClampNeg) (b := k) hC dX7_alike_62 ?_
        refine md_iald (pc := 63) (i := 5) (j := ((3 * q) + fr.toNatClampNeg) + k) hC dX7_alike_63 hI rfl (by first | omega | exact Nat.lt_of_le_of_lt Nat.and_le_left (by omega) | exact Nat.or_lt_two_pow (n := 16) (by omega) (by omega) | (simp [md_set, va_up]; done) | (simp [md_set, va_up]; omega)) (by decide) (fun hv6 => ?_)
        show sg_W X M 0 0 64 [some (.ref x), some (.int (nI p)), some (.int (nI q)), some (.int (nI n)), some (.int (nI fr.toNatClampNeg)), some (.int (md_b sm)), some (.int (nI k))] [.int (nI (N 5 (((3 * q) + fr.toNatClampNeg) + k))), .int (nI (N 5 ((3 * p) + k)))]
        refine sg_icmpN_ne (pc := 64) (a := N 5 ((3 * p) + k)) (b := N 5 (((3 * q) + fr.toNatClampNeg) + k)) 71 hC dX7_alike_64 (by decide) (by first | omega | exact Nat.lt_of_le_of_lt Nat.and_le_left (by omega) | exact Nat.or_lt_two_pow (n := 16) (by omega) (by omega) | (simp [md_set, va_up]; done) | (simp [md_set, va_up]; omega)) (by first | omega | exact Nat.lt_of_le_of_lt Nat.and_le_left (by omega) | exact Nat.or_lt_two_pow (n := 16) (by omega) (by omega) | (simp [md_set, va_up]; done) | (simp [md_set, va_up]; omega)) (fun h7 => ?_) (fun h7 => ?_)
        · refine sg_iconst (pc := 71) (nI 0) hC dX7_alike_71 (by decide) ?_
          refine sg_istore (pc := 72) (x := nI 0) hC dX7_alike_72 (by decide) ?_
          show sg_W X M 0 0 74 [some (.ref x), some (.int (nI p)), some (.int (nI q)), some (.int (nI n)), some (.int (nI fr.toNatClampNeg)), some (.int (nI 0)), some (.int (nI k))] []
          refine sg_iincN (pc := 74) (a := k) (b := k + 1) hC dX7_alike_74 rfl (nI_1 _) (by decide) ?_
          show sg_W X M 0 0 77 [some (.ref x), some (.int (nI p)), some (.int (nI q)), some (.int (nI n)), some (.int (nI fr.toNatClampNeg)), some (.int (nI 0)), some (.int (nI (k + 1)))] []
          refine sg_goto (pc := 77) 28 hC dX7_alike_77 (by decide) ?_
          have e9 : md_alike1 (f + 1) N p q n fr sm k = md_alike1 f N p q n (nI fr.toNatClampNeg) false (k + 1) := by rw [md_alike1_s]; simp only [if_neg (Nat.not_le.mpr h1), if_pos h2, if_neg h7]
          rw [e9] at hk
          refine sg_loc (L' := [some (.ref x), some (.int (nI p)), some (.int (nI q)), some (.int (nI n)), some (.int ((nI fr.toNatClampNeg))), some (.int (md_b false)), some (.int (nI ((k + 1))))]) ⟨rfl, ⟨rfl, ⟨rfl, ⟨rfl, ⟨rfl, ⟨rfl, ⟨rfl, trivial⟩⟩⟩⟩⟩⟩⟩ ?_
          exact ih p q n (nI fr.toNatClampNeg) false (k + 1) _ hI (by first | omega | exact Nat.lt_of_le_of_lt Nat.and_le_left (by omega) | exact Nat.or_lt_two_pow (n := 16) (by omega) (by omega) | (simp [md_set, va_up]; done) | (simp [md_set, va_up]; omega)) (by first | omega | exact Nat.lt_of_le_of_lt Nat.and_le_left (by omega) | exact Nat.or_lt_two_pow (n := 16) (by omega) (by omega) | (simp [md_set, va_up]; done) | (simp [md_set, va_up]; omega)) (by first | omega | exact Nat.lt_of_le_of_lt Nat.and_le_left (by omega) | exact Nat.or_lt_two_pow (n := 16) (by omega) (by omega) | (simp [md_set, va_up]; done) | (simp [md_set, va_up]; omega)) (by first | omega | exact Nat.lt_of_le_of_lt Nat.and_le_left (by omega) | exact Nat.or_lt_two_pow (n := 16) (by omega) (by omega) | (simp [md_set, va_up]; done) | (simp [md_set, va_up]; omega)) (by first | omega | exact Nat.lt_of_le_of_lt Nat.and_le_left (by omega) | exact Nat.or_lt_two_pow (n := 16) (by omega) (by omega) | (simp [md_set, va_up]; done) | (simp [md_set, va_up]; omega)) (fun h9 => absurd h9 (by decide)) hk
        · refine sg_iconst (pc := 67) (nI 1) hC dX7_alike_67 (by decide) ?_
          refine sg_goto (pc := 68) 72 hC dX7_alike_68 (by decide) ?_
          refine sg_istore (pc := 72) (x := nI 1) hC dX7_alike_72 (by decide) ?_
          show sg_W X M 0 0 74 [some (.ref x), some (.int (nI p)), some (.int (nI q)), some (.int (nI n)), some (.int (nI fr.toNatClampNeg)), some (.int (nI 1)), some (.int (nI k))] []
          refine sg_iincN (pc := 74) (a := k) (b := k + 1) hC dX7_alike_74 rfl (nI_1 _) (by decide) ?_
          show sg_W X M 0 0 77 [some (.ref x), some (.int (nI p)), some (.int (nI q)), some (.int (nI n)), some (.int (nI fr.toNatClampNeg)), some (.int (nI 1)), some (.int (nI (k + 1)))] []
          refine sg_goto (pc := 77) 28 hC dX7_alike_77 (by decide) ?_
          have e9 : md_alike1 (f + 1) N p q n fr sm k = md_alike1 f N p q n (nI fr.toNatClampNeg) true (k + 1) := by rw [md_alike1_s]; simp only [if_neg (Nat.not_le.mpr h1), if_pos h2, if_pos h7]
          rw [e9] at hk
          refine sg_loc (L' := [some (.ref x), some (.int (nI p)), some (.int (nI q)), some (.int (nI n)), some (.int ((nI fr.toNatClampNeg))), some (.int (md_b true)), some (.int (nI ((k + 1))))]) ⟨rfl, ⟨rfl, ⟨rfl, ⟨rfl, ⟨rfl, ⟨rfl, ⟨rfl, trivial⟩⟩⟩⟩⟩⟩⟩ ?_
          exact ih p q n (nI fr.toNatClampNeg) true (k + 1) _ hI (by first | omega | exact Nat.lt_of_le_of_lt Nat.and_le_left (by omega) | exact Nat.or_lt_two_pow (n := 16) (by omega) (by omega) | (simp [md_set, va_up]; done) | (simp [md_set, va_up]; omega)) (by first | omega | exact Nat.lt_of_le_of_lt Nat.and_le_left (by omega) | exact Nat.or_lt_two_pow (n := 16) (by omega) (by omega) | (simp [md_set, va_up]; done) | (simp [md_set, va_up]; omega)) (by first | omega | exact Nat.lt_of_le_of_lt Nat.and_le_left (by omega) | exact Nat.or_lt_two_pow (n := 16) (by omega) (by omega) | (simp [md_set, va_up]; done) | (simp [md_set, va_up]; omega)) (by first | omega | exact Nat.lt_of_le_of_lt Nat.and_le_left (by omega) | exact Nat.or_lt_two_pow (n := 16) (by omega) (by omega) | (simp [md_set, va_up]; done) | (simp [md_set, va_up]; omega)) (by first | omega | exact Nat.lt_of_le_of_lt Nat.and_le_left (by omega) | exact Nat.or_lt_two_pow (n := 16) (by omega) (by omega) | (simp [md_set, va_up]; done) | (simp [md_set, va_up]; omega)) (fun _ => ⟨by rw [nI_clamp (by omega)], by rw [nI_clamp (by omega)]; omega⟩) hk

def md_alike (N : Nat → Nat → Nat) (p : Nat) (q : Nat) (n : Nat) (fr : Int32) : Bool := if fr < 0 then md_alike1 (4) N p q n fr false 0 else if N 4 q < fr.toNatClampNeg + n then md_alike1 (4) N p q n (nI fr.toNatClampNeg) false 0 else md_alike1 (4) N p q n (nI fr.toNatClampNeg) true 0
set_option maxHeartbeats 4000000 in
set_option maxRecDepth 100000 in
theorem mm_alike {l : Launch} {G : sg_G} {d : Nat} {M0 M : sg_M} {x : Nat} {ad : Nat → Nat} {N : Nat → Nat → Nat} {kr : Option Value → sg_M → Prop} {kx : String → sg_M → Prop} (htr : l.stackTraces = false) (hI : md_I M0 M x ad N) (p : Nat) (q : Nat) (n : Nat) (fr : Int32) (hp : p < 86) (hq : q < 86) (hw : ∀ r, N 4 r ≤ 3) (hn : n ≤ 3) (hf : ¬ fr < 0 → fr.toNatClampNeg ≤ 3) (hk : kr (some (.int (md_b (md_alike N p q n fr)))) M) : sg_Met l G yX7_alike cX7_alike 7 (some .boolean) (d + 0) 0 0 [.ref x, .int (nI p), .int (nI q), .int (nI n), .int fr] M kr kx := by
  refine sg_enter [some (.ref x), some (.int (nI p)), some (.int (nI q)), some (.int (nI n)), some (.int fr), none, none] (by decide) htr (Nat.le_of_ble_eq_true rfl) rfl ?_
  intro X hC hR
  have hC : sg_C X l G cX7_alike RX7 7 (d + 0) := hC
  refine sg_iload (pc := 0) (x := fr) hC dX7_alike_0 rfl ?_
  refine sg_if_lt (pc := 2) (x := fr) 22 hC dX7_alike_2 (by decide) (fun h1 => ?_) (fun h1 => ?_)
  · refine sg_iconst (pc := 22) (nI 0) hC dX7_alike_22 (by decide) ?_
    refine sg_istore (pc := 23) (x := nI 0) hC dX7_alike_23 (by decide) ?_
    show sg_W X M 0 0 25 [some (.ref x), some (.int (nI p)), some (.int (nI q)), some (.int (nI n)), some (.int fr), some (.int (nI 0)), none] []
    refine sg_iconst (pc := 25) (nI 0) hC dX7_alike_25 (by decide) ?_
    refine sg_istore (pc := 26) (x := nI 0) hC dX7_alike_26 (by decide) ?_
    show sg_W X M 0 0 28 [some (.ref x), some (.int (nI p)), some (.int (nI q)), some (.int (nI n)), some (.int fr), some (.int (nI 0)), some (.int (nI 0))] []
    have e9 : md_alike N p q n fr = md_alike1 (4) N p q n fr false 0 := by rw [md_alike]; simp only [if_pos h1]
    rw [e9] at hk
    refine sg_loc (L' := [some (.ref x), some (.int (nI p)), some (.int (nI q)), some (.int (nI n)), some (.int fr), some (.int (md_b false)), some (.int (nI 0))]) ⟨rfl, ⟨rfl, ⟨rfl, ⟨rfl, ⟨rfl, ⟨rfl, ⟨rfl, trivial⟩⟩⟩⟩⟩⟩⟩ ?_
    exact mm_alike1 htr hC hR (4) p q n fr false 0 _ hI (by first | omega | exact Nat.lt_of_le_of_lt Nat.and_le_left (by omega) | exact Nat.or_lt_two_pow (n := 16) (by omega) (by omega) | (simp [md_set, va_up]; done) | (simp [md_set, va_up]; omega)) (by first | omega | exact Nat.lt_of_le_of_lt Nat.and_le_left (by omega) | exact Nat.or_lt_two_pow (n := 16) (by omega) (by omega) | (simp [md_set, va_up]; done) | (simp [md_set, va_up]; omega)) (by first | omega | exact Nat.lt_of_le_of_lt Nat.and_le_left (by omega) | exact Nat.or_lt_two_pow (n := 16) (by omega) (by omega) | (simp [md_set, va_up]; done) | (simp [md_set, va_up]; omega)) (by first | omega | exact Nat.lt_of_le_of_lt Nat.and_le_left (by omega) | exact Nat.or_lt_two_pow (n := 16) (by omega) (by omega) | (simp [md_set, va_up]; done) | (simp [md_set, va_up]; omega)) (by first | omega | exact Nat.lt_of_le_of_lt Nat.and_le_left (by omega) | exact Nat.or_lt_two_pow (n := 16) (by omega) (by omega) | (simp [md_set, va_up]; done) | (simp [md_set, va_up]; omega)) (fun h9 => absurd h9 (by decide)) hk
  · obtain ⟨hs2, hs3⟩ := md_nat h1
    rw [hs2]
    show sg_W X M 0 0 5 [some (.ref x), some (.int (nI p)), some (.int (nI q)), some (.int (nI n)), some (.int (nI fr.toNatClampNeg)), none, none] []
    have hf9 := hf h1
    refine sg_iload (pc := 5) (x := nI fr.toNatClampNeg) hC dX7_alike_5 rfl ?_
    refine sg_iload_n (pc := 7) (x := nI n) hC dX7_alike_7 rfl ?_
    refine sg_iaddN (pc := 8) (a := fr.toNatClampNeg) (b := n) hC dX7_alike_8 ?_
    refine sg_aload_n (pc := 9) (v := .ref x) hC dX7_alike_9 rfl rfl ?_
    refine md_get (pc := 10) (i := 4) hC (by decide) tw_1190 dX7_alike_10 hI rfl ?_
    refine sg_iload_n (pc := 13) (x := nI q) hC dX7_alike_13 rfl ?_
    refine md_iald (pc := 14) (i := 4) (j := q) hC dX7_alike_14 hI rfl (by first | omega | exact Nat.lt_of_le_of_lt Nat.and_le_left (by omega) | exact Nat.or_lt_two_pow (n := 16) (by omega) (by omega) | (simp [md_set, va_up]; done) | (simp [md_set, va_up]; omega)) (by decide) (fun hv4 => ?_)
    show sg_W X M 0 0 15 [some (.ref x), some (.int (nI p)), some (.int (nI q)), some (.int (nI n)), some (.int (nI fr.toNatClampNeg)), none, none] [.int (nI (N 4 q)), .int (nI (fr.toNatClampNeg + n))]
    have hL5 := hw q
    refine sg_icmpN_gt (pc := 15) (a := fr.toNatClampNeg + n) (b := N 4 q) 22 hC dX7_alike_15 (by decide) (by first | omega | exact Nat.lt_of_le_of_lt Nat.and_le_left (by omega) | exact Nat.or_lt_two_pow (n := 16) (by omega) (by omega) | (simp [md_set, va_up]; done) | (simp [md_set, va_up]; omega)) (by first | omega | exact Nat.lt_of_le_of_lt Nat.and_le_left (by omega) | exact Nat.or_lt_two_pow (n := 16) (by omega) (by omega) | (simp [md_set, va_up]; done) | (simp [md_set, va_up]; omega)) (fun h6 => ?_) (fun h6 => ?_)
    · refine sg_iconst (pc := 22) (nI 0) hC dX7_alike_22 (by decide) ?_
      refine sg_istore (pc := 23) (x := nI 0) hC dX7_alike_23 (by decide) ?_
      show sg_W X M 0 0 25 [some (.ref x), some (.int (nI p)), some (.int (nI q)), some (.int (nI n)), some (.int (nI fr.toNatClampNeg)), some (.int (nI 0)), none] []
      refine sg_iconst (pc := 25) (nI 0) hC dX7_alike_25 (by decide) ?_
      refine sg_istore (pc := 26) (x := nI 0) hC dX7_alike_26 (by decide) ?_
      show sg_W X M 0 0 28 [some (.ref x), some (.int (nI p)), some (.int (nI q)), some (.int (nI n)), some (.int (nI fr.toNatClampNeg)), some (.int (nI 0)), some (.int (nI 0))] []
      have e9 : md_alike N p q n fr = md_alike1 (4) N p q n (nI fr.toNatClampNeg) false 0 := by rw [md_alike]; simp only [if_neg h1, if_pos h6]
      rw [e9] at hk
      refine sg_loc (L' := [some (.ref x), some (.int (nI p)), some (.int (nI q)), some (.int (nI n)), some (.int ((nI fr.toNatClampNeg))), some (.int (md_b false)), some (.int (nI 0))]) ⟨rfl, ⟨rfl, ⟨rfl, ⟨rfl, ⟨rfl, ⟨rfl, ⟨rfl, trivial⟩⟩⟩⟩⟩⟩⟩ ?_
      exact mm_alike1 htr hC hR (4) p q n (nI fr.toNatClampNeg) false 0 _ hI (by first | omega | exact Nat.lt_of_le_of_lt Nat.and_le_left (by omega) | exact Nat.or_lt_two_pow (n := 16) (by omega) (by omega) | (simp [md_set, va_up]; done) | (simp [md_set, va_up]; omega)) (by first | omega | exact Nat.lt_of_le_of_lt Nat.and_le_left (by omega) | exact Nat.or_lt_two_pow (n := 16) (by omega) (by omega) | (simp [md_set, va_up]; done) | (simp [md_set, va_up]; omega)) (by first | omega | exact Nat.lt_of_le_of_lt Nat.and_le_left (by omega) | exact Nat.or_lt_two_pow (n := 16) (by omega) (by omega) | (simp [md_set, va_up]; done) | (simp [md_set, va_up]; omega)) (by first | omega | exact Nat.lt_of_le_of_lt Nat.and_le_left (by omega) | exact Nat.or_lt_two_pow (n := 16) (by omega) (by omega) | (simp [md_set, va_up]; done) | (simp [md_set, va_up]; omega)) (by first | omega | exact Nat.lt_of_le_of_lt Nat.and_le_left (by omega) | exact Nat.or_lt_two_pow (n := 16) (by omega) (by omega) | (simp [md_set, va_up]; done) | (simp [md_set, va_up]; omega)) (fun h9 => absurd h9 (by decide)) hk
    · refine sg_iconst (pc := 18) (nI 1) hC dX7_alike_18 (by decide) ?_
      refine sg_goto (pc := 19) 23 hC dX7_alike_19 (by decide) ?_
      refine sg_istore (pc := 23) (x := nI 1) hC dX7_alike_23 (by decide) ?_
      show sg_W X M 0 0 25 [some (.ref x), some (.int (nI p)), some (.int (nI q)), some (.int (nI n)), some (.int (nI fr.toNatClampNeg)), some (.int (nI 1)), none] []
      refine sg_iconst (pc := 25) (nI 0) hC dX7_alike_25 (by decide) ?_
      refine sg_istore (pc := 26) (x := nI 0) hC dX7_alike_26 (by decide) ?_
      show sg_W X M 0 0 28 [some (.ref x), some (.int (nI p)), some (.int (nI q)), some (.int (nI n)), some (.int (nI fr.toNatClampNeg)), some (.int (nI 1)), some (.int (nI 0))] []
      have e9 : md_alike N p q n fr = md_alike1 (4) N p q n (nI fr.toNatClampNeg) true 0 := by rw [md_alike]; simp only [if_neg h1, if_neg (Nat.not_lt.mpr h6)]
      rw [e9] at hk
      refine sg_loc (L' := [some (.ref x), some (.int (nI p)), some (.int (nI q)), some (.int (nI n)), some (.int ((nI fr.toNatClampNeg))), some (.int (md_b true)), some (.int (nI 0))]) ⟨rfl, ⟨rfl, ⟨rfl, ⟨rfl, ⟨rfl, ⟨rfl, ⟨rfl, trivial⟩⟩⟩⟩⟩⟩⟩ ?_
      exact mm_alike1 htr hC hR (4) p q n (nI fr.toNatClampNeg) true 0 _ hI (by first | omega | exact Nat.lt_of_le_of_lt Nat.and_le_left (by omega) | exact Nat.or_lt_two_pow (n := 16) (by omega) (by omega) | (simp [md_set, va_up]; done) | (simp [md_set, va_up]; omega)) (by first | omega | exact Nat.lt_of_le_of_lt Nat.and_le_left (by omega) | exact Nat.or_lt_two_pow (n := 16) (by omega) (by omega) | (simp [md_set, va_up]; done) | (simp [md_set, va_up]; omega)) (by first | omega | exact Nat.lt_of_le_of_lt Nat.and_le_left (by omega) | exact Nat.or_lt_two_pow (n := 16) (by omega) (by omega) | (simp [md_set, va_up]; done) | (simp [md_set, va_up]; omega)) (by first | omega | exact Nat.lt_of_le_of_lt Nat.and_le_left (by omega) | exact Nat.or_lt_two_pow (n := 16) (by omega) (by omega) | (simp [md_set, va_up]; done) | (simp [md_set, va_up]; omega)) (by first | omega | exact Nat.lt_of_le_of_lt Nat.and_le_left (by omega) | exact Nat.or_lt_two_pow (n := 16) (by omega) (by omega) | (simp [md_set, va_up]; done) | (simp [md_set, va_up]; omega)) (fun _ => ⟨by rw [nI_clamp (by omega)], by rw [nI_clamp (by omega)]; omega⟩) hk

def md_sameLabels (N : Nat → Nat → Nat) (p : Nat) (q : Nat) : Bool := if N 4 p = N 4 q then if (md_alike N p q (N 4 p) (nI 0)) = true then true else false else false
set_option maxHeartbeats 4000000 in
set_option maxRecDepth 100000 in
theorem mm_sameLabels {l : Launch} {G : sg_G} {d : Nat} {M0 M : sg_M} {x : Nat} {ad : Nat → Nat} {N : Nat → Nat → Nat} {kr : Option Value → sg_M → Prop} {kx : String → sg_M → Prop} (htr : l.stackTraces = false) (hI : md_I M0 M x ad N) (p : Nat) (q : Nat) (hp : p < 86) (hq : q < 86) (hw : ∀ r, N 4 r ≤ 3) (hk : kr (some (.int (md_b (md_sameLabels N p q)))) M) : sg_Met l G yX7_sameLabels cX7_sameLabels 3 (some .boolean) (d + 1) 0 0 [.ref x, .int (nI p), .int (nI q)] M kr kx := by
  refine sg_enter [some (.ref x), some (.int (nI p)), some (.int (nI q))] (by decide) htr (Nat.le_of_ble_eq_true rfl) rfl ?_
  intro X hC hR
  have hC : sg_C X l G cX7_sameLabels RX7 3 (d + 1) := hC
  refine sg_aload_n (pc := 0) (v := .ref x) hC dX7_sameLabels_0 rfl rfl ?_
  refine md_get (pc := 1) (i := 4) hC (by decide) tw_1190 dX7_sameLabels_1 hI rfl ?_
  refine sg_iload_n (pc := 4) (x := nI p) hC dX7_sameLabels_4 rfl ?_
  refine md_iald (pc := 5) (i := 4) (j := p) hC dX7_sameLabels_5 hI rfl (by first | omega | exact Nat.lt_of_le_of_lt Nat.and_le_left (by omega) | exact Nat.or_lt_two_pow (n := 16) (by omega) (by omega) | (simp [md_set, va_up]; done) | (simp [md_set, va_up]; omega)) (by decide) (fun hv1 => ?_)
  show sg_W X M 0 0 6 [some (.ref x), some (.int (nI p)), some (.int (nI q))] [.int (nI (N 4 p))]
  have hL2 := hw p
  refine sg_aload_n (pc := 6) (v := .ref x) hC dX7_sameLabels_6 rfl rfl ?_
  refine md_get (pc := 7) (i := 4) hC (by decide) tw_1190 dX7_sameLabels_7 hI rfl ?_
  refine sg_iload_n (pc := 10) (x := nI q) hC dX7_sameLabels_10 rfl ?_
  refine md_iald (pc := 11) (i := 4) (j := q) hC dX7_sameLabels_11 hI rfl (by first | omega | exact Nat.lt_of_le_of_lt Nat.and_le_left (by omega) | exact Nat.or_lt_two_pow (n := 16) (by omega) (by omega) | (simp [md_set, va_up]; done) | (simp [md_set, va_up]; omega)) (by decide) (fun hv3 => ?_)
  show sg_W X M 0 0 12 [some (.ref x), some (.int (nI p)), some (.int (nI q))] [.int (nI (N 4 q)), .int (nI (N 4 p))]
  have hL4 := hw q
  refine sg_icmpN_ne (pc := 12) (a := N 4 p) (b := N 4 q) 35 hC dX7_sameLabels_12 (by decide) (by first | omega | exact Nat.lt_of_le_of_lt Nat.and_le_left (by omega) | exact Nat.or_lt_two_pow (n := 16) (by omega) (by omega) | (simp [md_set, va_up]; done) | (simp [md_set, va_up]; omega)) (by first | omega | exact Nat.lt_of_le_of_lt Nat.and_le_left (by omega) | exact Nat.or_lt_two_pow (n := 16) (by omega) (by omega) | (simp [md_set, va_up]; done) | (simp [md_set, va_up]; omega)) (fun h5 => ?_) (fun h5 => ?_)
  · refine sg_iconst (pc := 35) (nI 0) hC dX7_sameLabels_35 (by decide) ?_
    have e9 : md_sameLabels N p q = false := by rw [md_sameLabels]; simp only [if_neg h5]
    rw [e9] at hk
    exact sg_zreturn (st := []) (v := md_b false) (pc := 36) (ty := .boolean) hC hR (md_narb _) dX7_sameLabels_36 hk
  · refine sg_aload_n (pc := 15) (v := .ref x) hC dX7_sameLabels_15 rfl rfl ?_
    refine sg_iload_n (pc := 16) (x := nI p) hC dX7_sameLabels_16 rfl ?_
    refine sg_iload_n (pc := 17) (x := nI q) hC dX7_sameLabels_17 rfl ?_
    refine sg_aload_n (pc := 18) (v := .ref x) hC dX7_sameLabels_18 rfl rfl ?_
    refine md_get (pc := 19) (i := 4) hC (by decide) tw_1190 dX7_sameLabels_19 hI rfl ?_
    refine sg_iload_n (pc := 22) (x := nI p) hC dX7_sameLabels_22 rfl ?_
    refine md_iald (pc := 23) (i := 4) (j := p) hC dX7_sameLabels_23 hI rfl (by first | omega | exact Nat.lt_of_le_of_lt Nat.and_le_left (by omega) | exact Nat.or_lt_two_pow (n := 16) (by omega) (by omega) | (simp [md_set, va_up]; done) | (simp [md_set, va_up]; omega)) (by decide) (fun hv6 => ?_)
    show sg_W X M 0 0 24 [some (.ref x), some (.int (nI p)), some (.int (nI q))] [.int (nI (N 4 p)), .int (nI q), .int (nI p), .ref x]
    have hL7 := hw p
    refine sg_iconst (pc := 24) (nI 0) hC dX7_sameLabels_24 (by decide) ?_
    refine sg_callV (pc := 25) (As := [.int (nI p), .int (nI q), .int (nI (N 4 p)), .int (nI 0)]) (rest := []) (mc := 0) (ms := 0) hC tw_1369 tw_1371 tw_52 tw_72 tw_1372 yd_X7_alike (by decide) (ci := 10) rfl dX7_sameLabels_25 hI.x rfl (Nat.le_of_ble_eq_true rfl) (Nat.zero_le _) (Nat.zero_le _) ?_
    refine mm_alike htr hI p q (N 4 p) (nI 0) (by first | omega | exact Nat.lt_of_le_of_lt Nat.and_le_left (by omega) | exact Nat.or_lt_two_pow (n := 16) (by omega) (by omega) | (simp [md_set, va_up]; done) | (simp [md_set, va_up]; omega)) (by first | omega | exact Nat.lt_of_le_of_lt Nat.and_le_left (by omega) | exact Nat.or_lt_two_pow (n := 16) (by omega) (by omega) | (simp [md_set, va_up]; done) | (simp [md_set, va_up]; omega)) hw (by first | omega | exact Nat.lt_of_le_of_lt Nat.and_le_left (by omega) | exact Nat.or_lt_two_pow (n := 16) (by omega) (by omega) | (simp [md_set, va_up]; done) | (simp [md_set, va_up]; omega)) (fun _ => by decide) ?_
    show sg_W X M 0 0 28 [some (.ref x), some (.int (nI p)), some (.int (nI q))] [.int (md_b ((md_alike N p q (N 4 p) (nI 0))))]
    refine sg_ifB_eq (pc := 28) (b := (md_alike N p q (N 4 p) (nI 0))) 35 hC dX7_sameLabels_28 (by decide) (fun h8 => ?_) (fun h8 => ?_)
    · refine sg_iconst (pc := 35) (nI 0) hC dX7_sameLabels_35 (by decide) ?_
      have e9 : md_sameLabels N p q = false := by rw [md_sameLabels]; simp only [if_pos h5, if_neg (ts9 h8)]
      rw [e9] at hk
      exact sg_zreturn (st := []) (v := md_b false) (pc := 36) (ty := .boolean) hC hR (md_narb _) dX7_sameLabels_36 hk
    · refine sg_iconst (pc := 31) (nI 1) hC dX7_sameLabels_31 (by decide) ?_
      refine sg_goto (pc := 32) 36 hC dX7_sameLabels_32 (by decide) ?_
      have e9 : md_sameLabels N p q = true := by rw [md_sameLabels]; simp only [if_pos h5, if_pos h8]
      rw [e9] at hk
      exact sg_zreturn (st := []) (v := md_b true) (pc := 36) (ty := .boolean) hC hR (md_narb _) dX7_sameLabels_36 hk

def md_pathTakes (N : Nat → Nat → Nat) (p : Nat) (q : Nat) : Bool := if N 6 p = 0 then if N 6 q = 0 then if (md_sameLabels N p q) = true then true else false else false else if N 6 p = 1 then if N 6 q = 1 then if (md_sameLabels N p q) = true then true else if N 6 q = 0 then if N 4 q = (N 4 p) + 1 then if (md_alike N p q (N 4 p) (nI 0)) = true then true else false else false else false else if N 6 q = 0 then if N 4 q = (N 4 p) + 1 then if (md_alike N p q (N 4 p) (nI 0)) = true then true else false else false else false else if (md_alike N p q (N 4 p) (nI 0)) = true then if N 4 p < N 4 q then true else if N 6 q ≤ 0 then false else true else false
set_option maxHeartbeats 4000000 in
set_option maxRecDepth 100000 in
theorem mm_pathTakes {l : Launch} {G : sg_G} {d : Nat} {M0 M : sg_M} {x : Nat} {ad : Nat → Nat} {N : Nat → Nat → Nat} {kr : Option Value → sg_M → Prop} {kx : String → sg_M → Prop} (htr : l.stackTraces = false) (hI : md_I M0 M x ad N) (p : Nat) (q : Nat) (hp : p < 86) (hq : q < 86) (hw : ∀ r, N 4 r ≤ 3) (hk : kr (some (.int (md_b (md_pathTakes N p q)))) M) : sg_Met l G yX7_pathTakes cX7_pathTakes 4 (some .boolean) (d + 2) 0 0 [.ref x, .int (nI p), .int (nI q)] M kr kx := by
  refine sg_enter [some (.ref x), some (.int (nI p)), some (.int (nI q)), none] (by decide) htr (Nat.le_of_ble_eq_true rfl) rfl ?_
  intro X hC hR
  have hC : sg_C X l G cX7_pathTakes RX7 4 (d + 2) := hC
  refine sg_aload_n (pc := 0) (v := .ref x) hC dX7_pathTakes_0 rfl rfl ?_
  refine md_get (pc := 1) (i := 4) hC (by decide) tw_1190 dX7_pathTakes_1 hI rfl ?_
  refine sg_iload_n (pc := 4) (x := nI p) hC dX7_pathTakes_4 rfl ?_
  refine md_iald (pc := 5) (i := 4) (j := p) hC dX7_pathTakes_5 hI rfl (by first | omega | exact Nat.lt_of_le_of_lt Nat.and_le_left (by omega) | exact Nat.or_lt_two_pow (n := 16) (by omega) (by omega) | (simp [md_set, va_up]; done) | (simp [md_set, va_up]; omega)) (by decide) (fun hv1 => ?_)
  show sg_W X M 0 0 6 [some (.ref x), some (.int (nI p)), some (.int (nI q)), none] [.int (nI (N 4 p))]
  have hL2 := hw p
  refine sg_istore_n (pc := 6) (x := nI (N 4 p)) hC dX7_pathTakes_6 (by decide) ?_
  show sg_W X M 0 0 7 [some (.ref x), some (.int (nI p)), some (.int (nI q)), some (.int (nI (N 4 p)))] []
  refine sg_aload_n (pc := 7) (v := .ref x) hC dX7_pathTakes_7 rfl rfl ?_
  refine md_get (pc := 8) (i := 6) hC (by decide) tw_1192 dX7_pathTakes_8 hI rfl ?_
  refine sg_iload_n (pc := 11) (x := nI p) hC dX7_pathTakes_11 rfl ?_
  refine md_iald (pc := 12) (i := 6) (j := p) hC dX7_pathTakes_12 hI rfl (by first | omega | exact Nat.lt_of_le_of_lt Nat.and_le_left (by omega) | exact Nat.or_lt_two_pow (n := 16) (by omega) (by omega) | (simp [md_set, va_up]; done) | (simp [md_set, va_up]; omega)) (by decide) (fun hv3 => ?_)
  show sg_W X M 0 0 13 [some (.ref x), some (.int (nI p)), some (.int (nI q)), some (.int (nI (N 4 p)))] [.int (nI (N 6 p))]
  refine sg_ifN_ne (pc := 13) (a := N 6 p) 40 hC dX7_pathTakes_13 (by decide) (by first | omega | exact Nat.lt_of_le_of_lt Nat.and_le_left (by omega) | exact Nat.or_lt_two_pow (n := 16) (by omega) (by omega) | (simp [md_set, va_up]; done) | (simp [md_set, va_up]; omega)) (fun h4 => ?_) (fun h4 => ?_)
  · refine sg_aload_n (pc := 40) (v := .ref x) hC dX7_pathTakes_40 rfl rfl ?_
    refine md_get (pc := 41) (i := 6) hC (by decide) tw_1192 dX7_pathTakes_41 hI rfl ?_
    refine sg_iload_n (pc := 44) (x := nI p) hC dX7_pathTakes_44 rfl ?_
    refine md_iald (pc := 45) (i := 6) (j := p) hC dX7_pathTakes_45 hI rfl (by first | omega | exact Nat.lt_of_le_of_lt Nat.and_le_left (by omega) | exact Nat.or_lt_two_pow (n := 16) (by omega) (by omega) | (simp [md_set, va_up]; done) | (simp [md_set, va_up]; omega)) (by decide) (fun hv5 => ?_)
    show sg_W X M 0 0 46 [some (.ref x), some (.int (nI p)), some (.int (nI q)), some (.int (nI (N 4 p)))] [.int (nI (N 6 p))]
    refine sg_iconst (pc := 46) (nI 1) hC dX7_pathTakes_46 (by decide) ?_
    refine sg_icmpN_ne (pc := 47) (a := N 6 p) (b := 1) 107 hC dX7_pathTakes_47 (by decide) (by first | omega | exact Nat.lt_of_le_of_lt Nat.and_le_left (by omega) | exact Nat.or_lt_two_pow (n := 16) (by omega) (by omega) | (simp [md_set, va_up]; done) | (simp [md_set, va_up]; omega)) (by first | omega | exact Nat.lt_of_le_of_lt Nat.and_le_left (by omega) | exact Nat.or_lt_two_pow (n := 16) (by omega) (by omega) | (simp [md_set, va_up]; done) | (simp [md_set, va_up]; omega)) (fun h6 => ?_) (fun h6 => ?_)
    · refine sg_aload_n (pc := 107) (v := .ref x) hC dX7_pathTakes_107 rfl rfl ?_
      refine sg_iload_n (pc := 108) (x := nI p) hC dX7_pathTakes_108 rfl ?_
      refine sg_iload_n (pc := 109) (x := nI q) hC dX7_pathTakes_109 rfl ?_
      refine sg_iload_n (pc := 110) (x := nI (N 4 p)) hC dX7_pathTakes_110 rfl ?_
      refine sg_iconst (pc := 111) (nI 0) hC dX7_pathTakes_111 (by decide) ?_
      refine sg_callV (pc := 112) (As := [.int (nI p), .int (nI q), .int (nI (N 4 p)), .int (nI 0)]) (rest := []) (mc := 0) (ms := 0) hC tw_1369 tw_1371 tw_52 tw_72 tw_1372 yd_X7_alike (by decide) (ci := 10) rfl dX7_pathTakes_112 hI.x rfl (Nat.le_of_ble_eq_true rfl) (Nat.zero_le _) (Nat.zero_le _) ?_
      refine mm_alike htr hI p q (N 4 p) (nI 0) (by first | omega | exact Nat.lt_of_le_of_lt Nat.and_le_left (by omega) | exact Nat.or_lt_two_pow (n := 16) (by omega) (by omega) | (simp [md_set, va_up]; done) | (simp [md_set, va_up]; omega)) (by first | omega | exact Nat.lt_of_le_of_lt Nat.and_le_left (by omega) | exact Nat.or_lt_two_pow (n := 16) (by omega) (by omega) | (simp [md_set, va_up]; done) | (simp [md_set, va_up]; omega)) hw (by first | omega | exact Nat.lt_of_le_of_lt Nat.and_le_left (by omega) | exact Nat.or_lt_two_pow (n := 16) (by omega) (by omega) | (simp [md_set, va_up]; done) | (simp [md_set, va_up]; omega)) (fun _ => by decide) ?_
      show sg_W X M 0 0 115 [some (.ref x), some (.int (nI p)), some (.int (nI q)), some (.int (nI (N 4 p)))] [.int (md_b ((md_alike N p q (N 4 p) (nI 0))))]
      refine sg_ifB_eq (pc := 115) (b := (md_alike N p q (N 4 p) (nI 0))) 141 hC dX7_pathTakes_115 (by decide) (fun h7 => ?_) (fun h7 => ?_)
      · refine sg_iconst (pc := 141) (nI 0) hC dX7_pathTakes_141 (by decide) ?_
        have e9 : md_pathTakes N p q = false := by rw [md_pathTakes]; simp only [if_neg h4, if_neg h6, if_neg (ts9 h7)]
        rw [e9] at hk
        exact sg_zreturn (st := []) (v := md_b false) (pc := 142) (ty := .boolean) hC hR (md_narb _) dX7_pathTakes_142 hk
      · refine sg_aload_n (pc := 118) (v := .ref x) hC dX7_pathTakes_118 rfl rfl ?_
        refine md_get (pc := 119) (i := 4) hC (by decide) tw_1190 dX7_pathTakes_119 hI rfl ?_
        refine sg_iload_n (pc := 122) (x := nI q) hC dX7_pathTakes_122 rfl ?_
        refine md_iald (pc := 123) (i := 4) (j := q) hC dX7_pathTakes_123 hI rfl (by first | omega | exact Nat.lt_of_le_of_lt Nat.and_le_left (by omega) | exact Nat.or_lt_two_pow (n := 16) (by omega) (by omega) | (simp [md_set, va_up]; done) | (simp [md_set, va_up]; omega)) (by decide) (fun hv8 => ?_)
        show sg_W X M 0 0 124 [some (.ref x), some (.int (nI p)), some (.int (nI q)), some (.int (nI (N 4 p)))] [.int (nI (N 4 q))]
        have hL9 := hw q
        refine sg_iload_n (pc := 124) (x := nI (N 4 p)) hC dX7_pathTakes_124 rfl ?_
        refine sg_icmpN_gt (pc := 125) (a := N 4 q) (b := N 4 p) 137 hC dX7_pathTakes_125 (by decide) (by first | omega | exact Nat.lt_of_le_of_lt Nat.and_le_left (by omega) | exact Nat.or_lt_two_pow (n := 16) (by omega) (by omega) | (simp [md_set, va_up]; done) | (simp [md_set, va_up]; omega)) (by first | omega | exact Nat.lt_of_le_of_lt Nat.and_le_left (by omega) | exact Nat.or_lt_two_pow (n := 16) (by omega) (by omega) | (simp [md_set, va_up]; done) | (simp [md_set, va_up]; omega)) (fun h10 => ?_) (fun h10 => ?_)
        · refine sg_iconst (pc := 137) (nI 1) hC dX7_pathTakes_137 (by decide) ?_
          refine sg_goto (pc := 138) 142 hC dX7_pathTakes_138 (by decide) ?_
          have e9 : md_pathTakes N p q = true := by rw [md_pathTakes]; simp only [if_neg h4, if_neg h6, if_pos h7, if_pos h10]
          rw [e9] at hk
          exact sg_zreturn (st := []) (v := md_b true) (pc := 142) (ty := .boolean) hC hR (md_narb _) dX7_pathTakes_142 hk
        · refine sg_aload_n (pc := 128) (v := .ref x) hC dX7_pathTakes_128 rfl rfl ?_
          refine md_get (pc := 129) (i := 6) hC (by decide) tw_1192 dX7_pathTakes_129 hI rfl ?_
          refine sg_iload_n (pc := 132) (x := nI q) hC dX7_pathTakes_132 rfl ?_
          refine md_iald (pc := 133) (i := 6) (j := q) hC dX7_pathTakes_133 hI rfl (by first | omega | exact Nat.lt_of_le_of_lt Nat.and_le_left (by omega) | exact Nat.or_lt_two_pow (n := 16) (by omega) (by omega) | (simp [md_set, va_up]; done) | (simp [md_set, va_up]; omega)) (by decide) (fun hv11 => ?_)
          show sg_W X M 0 0 134 [some (.ref x), some (.int (nI p)), some (.int (nI q)), some (.int (nI (N 4 p)))] [.int (nI (N 6 q))]
          refine sg_ifN_le (pc := 134) (a := N 6 q) 141 hC dX7_pathTakes_134 (by decide) (by first | omega | exact Nat.lt_of_le_of_lt Nat.and_le_left (by omega) | exact Nat.or_lt_two_pow (n := 16) (by omega) (by omega) | (simp [md_set, va_up]; done) | (simp [md_set, va_up]; omega)) (fun h12 => ?_) (fun h12 => ?_)
          · refine sg_iconst (pc := 141) (nI 0) hC dX7_pathTakes_141 (by decide) ?_
            have e9 : md_pathTakes N p q = false := by rw [md_pathTakes]; simp only [if_neg h4, if_neg h6, if_pos h7, if_neg (Nat.not_lt.mpr h10), if_pos h12]
            rw [e9] at hk
            exact sg_zreturn (st := []) (v := md_b false) (pc := 142) (ty := .boolean) hC hR (md_narb _) dX7_pathTakes_142 hk
          · refine sg_iconst (pc := 137) (nI 1) hC dX7_pathTakes_137 (by decide) ?_
            refine sg_goto (pc := 138) 142 hC dX7_pathTakes_138 (by decide) ?_
            have e9 : md_pathTakes N p q = true := by rw [md_pathTakes]; simp only [if_neg h4, if_neg h6, if_pos h7, if_neg (Nat.not_lt.mpr h10), if_neg (Nat.not_le.mpr h12)]
            rw [e9] at hk
            exact sg_zreturn (st := []) (v := md_b true) (pc := 142) (ty := .boolean) hC hR (md_narb _) dX7_pathTakes_142 hk
    · refine sg_aload_n (pc := 50) (v := .ref x) hC dX7_pathTakes_50 rfl rfl ?_
      refine md_get (pc := 51) (i := 6) hC (by decide) tw_1192 dX7_pathTakes_51 hI rfl ?_
      refine sg_iload_n (pc := 54) (x := nI q) hC dX7_pathTakes_54 rfl ?_
      refine md_iald (pc := 55) (i := 6) (j := q) hC dX7_pathTakes_55 hI rfl (by first | omega | exact Nat.lt_of_le_of_lt Nat.and_le_left (by omega) | exact Nat.or_lt_two_pow (n := 16) (by omega) (by omega) | (simp [md_set, va_up]; done) | (simp [md_set, va_up]; omega)) (by decide) (fun hv13 => ?_)
      show sg_W X M 0 0 56 [some (.ref x), some (.int (nI p)), some (.int (nI q)), some (.int (nI (N 4 p)))] [.int (nI (N 6 q))]
      refine sg_iconst (pc := 56) (nI 1) hC dX7_pathTakes_56 (by decide) ?_
      refine sg_icmpN_ne (pc := 57) (a := N 6 q) (b := 1) 69 hC dX7_pathTakes_57 (by decide) (by first | omega | exact Nat.lt_of_le_of_lt Nat.and_le_left (by omega) | exact Nat.or_lt_two_pow (n := 16) (by omega) (by omega) | (simp [md_set, va_up]; done) | (simp [md_set, va_up]; omega)) (by first | omega | exact Nat.lt_of_le_of_lt Nat.and_le_left (by omega) | exact Nat.or_lt_two_pow (n := 16) (by omega) (by omega) | (simp [md_set, va_up]; done) | (simp [md_set, va_up]; omega)) (fun h14 => ?_) (fun h14 => ?_)
      · refine sg_aload_n (pc := 69) (v := .ref x) hC dX7_pathTakes_69 rfl rfl ?_
        refine md_get (pc := 70) (i := 6) hC (by decide) tw_1192 dX7_pathTakes_70 hI rfl ?_
        refine sg_iload_n (pc := 73) (x := nI q) hC dX7_pathTakes_73 rfl ?_
        refine md_iald (pc := 74) (i := 6) (j := q) hC dX7_pathTakes_74 hI rfl (by first | omega | exact Nat.lt_of_le_of_lt Nat.and_le_left (by omega) | exact Nat.or_lt_two_pow (n := 16) (by omega) (by omega) | (simp [md_set, va_up]; done) | (simp [md_set, va_up]; omega)) (by decide) (fun hv15 => ?_)
        show sg_W X M 0 0 75 [some (.ref x), some (.int (nI p)), some (.int (nI q)), some (.int (nI (N 4 p)))] [.int (nI (N 6 q))]
        refine sg_ifN_ne (pc := 75) (a := N 6 q) 105 hC dX7_pathTakes_75 (by decide) (by first | omega | exact Nat.lt_of_le_of_lt Nat.and_le_left (by omega) | exact Nat.or_lt_two_pow (n := 16) (by omega) (by omega) | (simp [md_set, va_up]; done) | (simp [md_set, va_up]; omega)) (fun h16 => ?_) (fun h16 => ?_)
        · refine sg_iconst (pc := 105) (nI 0) hC dX7_pathTakes_105 (by decide) ?_
          have e9 : md_pathTakes N p q = false := by rw [md_pathTakes]; simp only [if_neg h4, if_pos h6, if_neg h14, if_neg h16]
          rw [e9] at hk
          exact sg_zreturn (st := []) (v := md_b false) (pc := 106) (ty := .boolean) hC hR (md_narb _) dX7_pathTakes_106 hk
        · refine sg_aload_n (pc := 78) (v := .ref x) hC dX7_pathTakes_78 rfl rfl ?_
          refine md_get (pc := 79) (i := 4) hC (by decide) tw_1190 dX7_pathTakes_79 hI rfl ?_
          refine sg_iload_n (pc := 82) (x := nI q) hC dX7_pathTakes_82 rfl ?_
          refine md_iald (pc := 83) (i := 4) (j := q) hC dX7_pathTakes_83 hI rfl (by first | omega | exact Nat.lt_of_le_of_lt Nat.and_le_left (by omega) | exact Nat.or_lt_two_pow (n := 16) (by omega) (by omega) | (simp [md_set, va_up]; done) | (simp [md_set, va_up]; omega)) (by decide) (fun hv17 => ?_)
          show sg_W X M 0 0 84 [some (.ref x), some (.int (nI p)), some (.int (nI q)), some (.int (nI (N 4 p)))] [.int (nI (N 4 q))]
          have hL18 := hw q
          refine sg_iload_n (pc := 84) (x := nI (N 4 p)) hC dX7_pathTakes_84 rfl ?_
          refine sg_iconst (pc := 85) (nI 1) hC dX7_pathTakes_85 (by decide) ?_
          refine sg_iaddN (pc := 86) (a := N 4 p) (b := 1) hC dX7_pathTakes_86 ?_
          refine sg_icmpN_ne (pc := 87) (a := N 4 q) (b := (N 4 p) + 1) 105 hC dX7_pathTakes_87 (by decide) (by first | omega | exact Nat.lt_of_le_of_lt Nat.and_le_left (by omega) | exact Nat.or_lt_two_pow (n := 16) (by omega) (by omega) | (simp [md_set, va_up]; done) | (simp [md_set, va_up]; omega)) (by first | omega | exact Nat.lt_of_le_of_lt Nat.and_le_left (by omega) | exact Nat.or_lt_two_pow (n := 16) (by omega) (by omega) | (simp [md_set, va_up]; done) | (simp [md_set, va_up]; omega)) (fun h19 => ?_) (fun h19 => ?_)
          · refine sg_iconst (pc := 105) (nI 0) hC dX7_pathTakes_105 (by decide) ?_
            have e9 : md_pathTakes N p q = false := by rw [md_pathTakes]; simp only [if_neg h4, if_pos h6, if_neg h14, if_pos h16, if_neg h19]
            rw [e9] at hk
            exact sg_zreturn (st := []) (v := md_b false) (pc := 106) (ty := .boolean) hC hR (md_narb _) dX7_pathTakes_106 hk
          · refine sg_aload_n (pc := 90) (v := .ref x) hC dX7_pathTakes_90 rfl rfl ?_
            refine sg_iload_n (pc := 91) (x := nI p) hC dX7_pathTakes_91 rfl ?_
            refine sg_iload_n (pc := 92) (x := nI q) hC dX7_pathTakes_92 rfl ?_
            refine sg_iload_n (pc := 93) (x := nI (N 4 p)) hC dX7_pathTakes_93 rfl ?_
            refine sg_iconst (pc := 94) (nI 0) hC dX7_pathTakes_94 (by decide) ?_
            refine sg_callV (pc := 95) (As := [.int (nI p), .int (nI q), .int (nI (N 4 p)), .int (nI 0)]) (rest := []) (mc := 0) (ms := 0) hC tw_1369 tw_1371 tw_52 tw_72 tw_1372 yd_X7_alike (by decide) (ci := 10) rfl dX7_pathTakes_95 hI.x rfl (Nat.le_of_ble_eq_true rfl) (Nat.zero_le _) (Nat.zero_le _) ?_
            refine mm_alike htr hI p q (N 4 p) (nI 0) (by first | omega | exact Nat.lt_of_le_of_lt Nat.and_le_left (by omega) | exact Nat.or_lt_two_pow (n := 16) (by omega) (by omega) | (simp [md_set, va_up]; done) | (simp [md_set, va_up]; omega)) (by first | omega | exact Nat.lt_of_le_of_lt Nat.and_le_left (by omega) | exact Nat.or_lt_two_pow (n := 16) (by omega) (by omega) | (simp [md_set, va_up]; done) | (simp [md_set, va_up]; omega)) hw (by first | omega | exact Nat.lt_of_le_of_lt Nat.and_le_left (by omega) | exact Nat.or_lt_two_pow (n := 16) (by omega) (by omega) | (simp [md_set, va_up]; done) | (simp [md_set, va_up]; omega)) (fun _ => by decide) ?_
            show sg_W X M 0 0 98 [some (.ref x), some (.int (nI p)), some (.int (nI q)), some (.int (nI (N 4 p)))] [.int (md_b ((md_alike N p q (N 4 p) (nI 0))))]
            refine sg_ifB_eq (pc := 98) (b := (md_alike N p q (N 4 p) (nI 0))) 105 hC dX7_pathTakes_98 (by decide) (fun h20 => ?_) (fun h20 => ?_)
            · refine sg_iconst (pc := 105) (nI 0) hC dX7_pathTakes_105 (by decide) ?_
              have e9 : md_pathTakes N p q = false := by rw [md_pathTakes]; simp only [if_neg h4, if_pos h6, if_neg h14, if_pos h16, if_pos h19, if_neg (ts9 h20)]
              rw [e9] at hk
              exact sg_zreturn (st := []) (v := md_b false) (pc := 106) (ty := .boolean) hC hR (md_narb _) dX7_pathTakes_106 hk
            · refine sg_iconst (pc := 101) (nI 1) hC dX7_pathTakes_101 (by decide) ?_
              refine sg_goto (pc := 102) 106 hC dX7_pathTakes_102 (by decide) ?_
              have e9 : md_pathTakes N p q = true := by rw [md_pathTakes]; simp only [if_neg h4, if_pos h6, if_neg h14, if_pos h16, if_pos h19, if_pos h20]
              rw [e9] at hk
              exact sg_zreturn (st := []) (v := md_b true) (pc := 106) (ty := .boolean) hC hR (md_narb _) dX7_pathTakes_106 hk
      · refine sg_aload_n (pc := 60) (v := .ref x) hC dX7_pathTakes_60 rfl rfl ?_
        refine sg_iload_n (pc := 61) (x := nI p) hC dX7_pathTakes_61 rfl ?_
        refine sg_iload_n (pc := 62) (x := nI q) hC dX7_pathTakes_62 rfl ?_
        refine sg_callV (pc := 63) (As := [.int (nI p), .int (nI q)]) (rest := []) (mc := 0) (ms := 0) hC tw_1365 tw_1367 tw_51 tw_72 tw_1368 yd_X7_sameLabels (by decide) (ci := 10) rfl dX7_pathTakes_63 hI.x rfl (Nat.le_of_ble_eq_true rfl) (Nat.zero_le _) (Nat.zero_le _) ?_
        refine mm_sameLabels htr hI p q (by first | omega | exact Nat.lt_of_le_of_lt Nat.and_le_left (by omega) | exact Nat.or_lt_two_pow (n := 16) (by omega) (by omega) | (simp [md_set, va_up]; done) | (simp [md_set, va_up]; omega)) (by first | omega | exact Nat.lt_of_le_of_lt Nat.and_le_left (by omega) | exact Nat.or_lt_two_pow (n := 16) (by omega) (by omega) | (simp [md_set, va_up]; done) | (simp [md_set, va_up]; omega)) hw ?_
        show sg_W X M 0 0 66 [some (.ref x), some (.int (nI p)), some (.int (nI q)), some (.int (nI (N 4 p)))] [.int (md_b ((md_sameLabels N p q)))]
        refine sg_ifB_ne (pc := 66) (b := (md_sameLabels N p q)) 101 hC dX7_pathTakes_66 (by decide) (fun h21 => ?_) (fun h21 => ?_)
        · refine sg_iconst (pc := 101) (nI 1) hC dX7_pathTakes_101 (by decide) ?_
          refine sg_goto (pc := 102) 106 hC dX7_pathTakes_102 (by decide) ?_
          have e9 : md_pathTakes N p q = true := by rw [md_pathTakes]; simp only [if_neg h4, if_pos h6, if_pos h14, if_pos h21]
          rw [e9] at hk
          exact sg_zreturn (st := []) (v := md_b true) (pc := 106) (ty := .boolean) hC hR (md_narb _) dX7_pathTakes_106 hk
        · refine sg_aload_n (pc := 69) (v := .ref x) hC dX7_pathTakes_69 rfl rfl ?_
          refine md_get (pc := 70) (i := 6) hC (by decide) tw_1192 dX7_pathTakes_70 hI rfl ?_
          refine sg_iload_n (pc := 73) (x := nI q) hC dX7_pathTakes_73 rfl ?_
          refine md_iald (pc := 74) (i := 6) (j := q) hC dX7_pathTakes_74 hI rfl (by first | omega | exact Nat.lt_of_le_of_lt Nat.and_le_left (by omega) | exact Nat.or_lt_two_pow (n := 16) (by omega) (by omega) | (simp [md_set, va_up]; done) | (simp [md_set, va_up]; omega)) (by decide) (fun hv22 => ?_)
          show sg_W X M 0 0 75 [some (.ref x), some (.int (nI p)), some (.int (nI q)), some (.int (nI (N 4 p)))] [.int (nI (N 6 q))]
          refine sg_ifN_ne (pc := 75) (a := N 6 q) 105 hC dX7_pathTakes_75 (by decide) (by first | omega | exact Nat.lt_of_le_of_lt Nat.and_le_left (by omega) | exact Nat.or_lt_two_pow (n := 16) (by omega) (by omega) | (simp [md_set, va_up]; done) | (simp [md_set, va_up]; omega)) (fun h23 => ?_) (fun h23 => ?_)
          · refine sg_iconst (pc := 105) (nI 0) hC dX7_pathTakes_105 (by decide) ?_
            have e9 : md_pathTakes N p q = false := by rw [md_pathTakes]; simp only [if_neg h4, if_pos h6, if_pos h14, if_neg (ts9 h21), if_neg h23]
            rw [e9] at hk
            exact sg_zreturn (st := []) (v := md_b false) (pc := 106) (ty := .boolean) hC hR (md_narb _) dX7_pathTakes_106 hk
          · refine sg_aload_n (pc := 78) (v := .ref x) hC dX7_pathTakes_78 rfl rfl ?_
            refine md_get (pc := 79) (i := 4) hC (by decide) tw_1190 dX7_pathTakes_79 hI rfl ?_
            refine sg_iload_n (pc := 82) (x := nI q) hC dX7_pathTakes_82 rfl ?_
            refine md_iald (pc := 83) (i := 4) (j := q) hC dX7_pathTakes_83 hI rfl (by first | omega | exact Nat.lt_of_le_of_lt Nat.and_le_left (by omega) | exact Nat.or_lt_two_pow (n := 16) (by omega) (by omega) | (simp [md_set, va_up]; done) | (simp [md_set, va_up]; omega)) (by decide) (fun hv24 => ?_)
            show sg_W X M 0 0 84 [some (.ref x), some (.int (nI p)), some (.int (nI q)), some (.int (nI (N 4 p)))] [.int (nI (N 4 q))]
            have hL25 := hw q
            refine sg_iload_n (pc := 84) (x := nI (N 4 p)) hC dX7_pathTakes_84 rfl ?_
            refine sg_iconst (pc := 85) (nI 1) hC dX7_pathTakes_85 (by decide) ?_
            refine sg_iaddN (pc := 86) (a := N 4 p) (b := 1) hC dX7_pathTakes_86 ?_
            refine sg_icmpN_ne (pc := 87) (a := N 4 q) (b := (N 4 p) + 1) 105 hC dX7_pathTakes_87 (by decide) (by first | omega | exact Nat.lt_of_le_of_lt Nat.and_le_left (by omega) | exact Nat.or_lt_two_pow (n := 16) (by omega) (by omega) | (simp [md_set, va_up]; done) | (simp [md_set, va_up]; omega)) (by first | omega | exact Nat.lt_of_le_of_lt Nat.and_le_left (by omega) | exact Nat.or_lt_two_pow (n := 16) (by omega) (by omega) | (simp [md_set, va_up]; done) | (simp [md_set, va_up]; omega)) (fun h26 => ?_) (fun h26 => ?_)
            · refine sg_iconst (pc := 105) (nI 0) hC dX7_pathTakes_105 (by decide) ?_
              have e9 : md_pathTakes N p q = false := by rw [md_pathTakes]; simp only [if_neg h4, if_pos h6, if_pos h14, if_neg (ts9 h21), if_pos h23, if_neg h26]
              rw [e9] at hk
              exact sg_zreturn (st := []) (v := md_b false) (pc := 106) (ty := .boolean) hC hR (md_narb _) dX7_pathTakes_106 hk
            · refine sg_aload_n (pc := 90) (v := .ref x) hC dX7_pathTakes_90 rfl rfl ?_
              refine sg_iload_n (pc := 91) (x := nI p) hC dX7_pathTakes_91 rfl ?_
              refine sg_iload_n (pc := 92) (x := nI q) hC dX7_pathTakes_92 rfl ?_
              refine sg_iload_n (pc := 93) (x := nI (N 4 p)) hC dX7_pathTakes_93 rfl ?_
              refine sg_iconst (pc := 94) (nI 0) hC dX7_pathTakes_94 (by decide) ?_
              refine sg_callV (pc := 95) (As := [.int (nI p), .int (nI q), .int (nI (N 4 p)), .int (nI 0)]) (rest := []) (mc := 0) (ms := 0) hC tw_1369 tw_1371 tw_52 tw_72 tw_1372 yd_X7_alike (by decide) (ci := 10) rfl dX7_pathTakes_95 hI.x rfl (Nat.le_of_ble_eq_true rfl) (Nat.zero_le _) (Nat.zero_le _) ?_
              refine mm_alike htr hI p q (N 4 p) (nI 0) (by first | omega | exact Nat.lt_of_le_of_lt Nat.and_le_left (by omega) | exact Nat.or_lt_two_pow (n := 16) (by omega) (by omega) | (simp [md_set, va_up]; done) | (simp [md_set, va_up]; omega)) (by first | omega | exact Nat.lt_of_le_of_lt Nat.and_le_left (by omega) | exact Nat.or_lt_two_pow (n := 16) (by omega) (by omega) | (simp [md_set, va_up]; done) | (simp [md_set, va_up]; omega)) hw (by first | omega | exact Nat.lt_of_le_of_lt Nat.and_le_left (by omega) | exact Nat.or_lt_two_pow (n := 16) (by omega) (by omega) | (simp [md_set, va_up]; done) | (simp [md_set, va_up]; omega)) (fun _ => by decide) ?_
              show sg_W X M 0 0 98 [some (.ref x), some (.int (nI p)), some (.int (nI q)), some (.int (nI (N 4 p)))] [.int (md_b ((md_alike N p q (N 4 p) (nI 0))))]
              refine sg_ifB_eq (pc := 98) (b := (md_alike N p q (N 4 p) (nI 0))) 105 hC dX7_pathTakes_98 (by decide) (fun h27 => ?_) (fun h27 => ?_)
              · refine sg_iconst (pc := 105) (nI 0) hC dX7_pathTakes_105 (by decide) ?_
                have e9 : md_pathTakes N p q = false := by rw [md_pathTakes]; simp only [if_neg h4, if_pos h6, if_pos h14, if_neg (ts9 h21), if_pos h23, if_pos h26, if_neg (ts9 h27)]
                rw [e9] at hk
                exact sg_zreturn (st := []) (v := md_b false) (pc := 106) (ty := .boolean) hC hR (md_narb _) dX7_pathTakes_106 hk
              · refine sg_iconst (pc := 101) (nI 1) hC dX7_pathTakes_101 (by decide) ?_
                refine sg_goto (pc := 102) 106 hC dX7_pathTakes_102 (by decide) ?_
                have e9 : md_pathTakes N p q = true := by rw [md_pathTakes]; simp only [if_neg h4, if_pos h6, if_pos h14, if_neg (ts9 h21), if_pos h23, if_pos h26, if_pos h27]
                rw [e9] at hk
                exact sg_zreturn (st := []) (v := md_b true) (pc := 106) (ty := .boolean) hC hR (md_narb _) dX7_pathTakes_106 hk
  · refine sg_aload_n (pc := 16) (v := .ref x) hC dX7_pathTakes_16 rfl rfl ?_
    refine md_get (pc := 17) (i := 6) hC (by decide) tw_1192 dX7_pathTakes_17 hI rfl ?_
    refine sg_iload_n (pc := 20) (x := nI q) hC dX7_pathTakes_20 rfl ?_
    refine md_iald (pc := 21) (i := 6) (j := q) hC dX7_pathTakes_21 hI rfl (by first | omega | exact Nat.lt_of_le_of_lt Nat.and_le_left (by omega) | exact Nat.or_lt_two_pow (n := 16) (by omega) (by omega) | (simp [md_set, va_up]; done) | (simp [md_set, va_up]; omega)) (by decide) (fun hv28 => ?_)
    show sg_W X M 0 0 22 [some (.ref x), some (.int (nI p)), some (.int (nI q)), some (.int (nI (N 4 p)))] [.int (nI (N 6 q))]
    refine sg_ifN_ne (pc := 22) (a := N 6 q) 38 hC dX7_pathTakes_22 (by decide) (by first | omega | exact Nat.lt_of_le_of_lt Nat.and_le_left (by omega) | exact Nat.or_lt_two_pow (n := 16) (by omega) (by omega) | (simp [md_set, va_up]; done) | (simp [md_set, va_up]; omega)) (fun h29 => ?_) (fun h29 => ?_)
    · refine sg_iconst (pc := 38) (nI 0) hC dX7_pathTakes_38 (by decide) ?_
      have e9 : md_pathTakes N p q = false := by rw [md_pathTakes]; simp only [if_pos h4, if_neg h29]
      rw [e9] at hk
      exact sg_zreturn (st := []) (v := md_b false) (pc := 39) (ty := .boolean) hC hR (md_narb _) dX7_pathTakes_39 hk
    · refine sg_aload_n (pc := 25) (v := .ref x) hC dX7_pathTakes_25 rfl rfl ?_
      refine sg_iload_n (pc := 26) (x := nI p) hC dX7_pathTakes_26 rfl ?_
      refine sg_iload_n (pc := 27) (x := nI q) hC dX7_pathTakes_27 rfl ?_
      refine sg_callV (pc := 28) (As := [.int (nI p), .int (nI q)]) (rest := []) (mc := 0) (ms := 0) hC tw_1365 tw_1367 tw_51 tw_72 tw_1368 yd_X7_sameLabels (by decide) (ci := 10) rfl dX7_pathTakes_28 hI.x rfl (Nat.le_of_ble_eq_true rfl) (Nat.zero_le _) (Nat.zero_le _) ?_
      refine mm_sameLabels htr hI p q (by first | omega | exact Nat.lt_of_le_of_lt Nat.and_le_left (by omega) | exact Nat.or_lt_two_pow (n := 16) (by omega) (by omega) | (simp [md_set, va_up]; done) | (simp [md_set, va_up]; omega)) (by first | omega | exact Nat.lt_of_le_of_lt Nat.and_le_left (by omega) | exact Nat.or_lt_two_pow (n := 16) (by omega) (by omega) | (simp [md_set, va_up]; done) | (simp [md_set, va_up]; omega)) hw ?_
      show sg_W X M 0 0 31 [some (.ref x), some (.int (nI p)), some (.int (nI q)), some (.int (nI (N 4 p)))] [.int (md_b ((md_sameLabels N p q)))]
      refine sg_ifB_eq (pc := 31) (b := (md_sameLabels N p q)) 38 hC dX7_pathTakes_31 (by decide) (fun h30 => ?_) (fun h30 => ?_)
      · refine sg_iconst (pc := 38) (nI 0) hC dX7_pathTakes_38 (by decide) ?_
        have e9 : md_pathTakes N p q = false := by rw [md_pathTakes]; simp only [if_pos h4, if_pos h29, if_neg (ts9 h30)]
        rw [e9] at hk
        exact sg_zreturn (st := []) (v := md_b false) (pc := 39) (ty := .boolean) hC hR (md_narb _) dX7_pathTakes_39 hk
      · refine sg_iconst (pc := 34) (nI 1) hC dX7_pathTakes_34 (by decide) ?_
        refine sg_goto (pc := 35) 39 hC dX7_pathTakes_35 (by decide) ?_
        have e9 : md_pathTakes N p q = true := by rw [md_pathTakes]; simp only [if_pos h4, if_pos h29, if_pos h30]
        rw [e9] at hk
        exact sg_zreturn (st := []) (v := md_b true) (pc := 39) (ty := .boolean) hC hR (md_narb _) dX7_pathTakes_39 hk

def md_rowTakes (N : Nat → Nat → Nat) (p : Nat) (q : Nat) : Bool := if N 6 p = 0 then if N 6 q = 0 then if (md_sameLabels N p q) = true then true else false else false else if N 4 p = 0 then true else if N 3 p = 3 then if (md_alike N p q (N 4 p) ((nI (N 4 q)) - (nI (N 4 p)))) = true then if N 4 p < N 4 q then true else if N 6 q = 1 then true else false else false else if (md_alike N p q (N 4 p) (nI 0)) = true then if N 4 p < N 4 q then true else if N 6 q = 1 then true else false else false
set_option maxHeartbeats 4000000 in
set_option maxRecDepth 100000 in
theorem mm_rowTakes {l : Launch} {G : sg_G} {d : Nat} {M0 M : sg_M} {x : Nat} {ad : Nat → Nat} {N : Nat → Nat → Nat} {kr : Option Value → sg_M → Prop} {kx : String → sg_M → Prop} (htr : l.stackTraces = false) (hI : md_I M0 M x ad N) (p : Nat) (q : Nat) (hp : p < 86) (hq : q < 86) (hw : ∀ r, N 4 r ≤ 3) (hk : kr (some (.int (md_b (md_rowTakes N p q)))) M) : sg_Met l G yX7_rowTakes cX7_rowTakes 4 (some .boolean) (d + 2) 0 0 [.ref x, .int (nI p), .int (nI q)] M kr kx := by
  refine sg_enter [some (.ref x), some (.int (nI p)), some (.int (nI q)), none] (by decide) htr (Nat.le_of_ble_eq_true rfl) rfl ?_
  intro X hC hR
  have hC : sg_C X l G cX7_rowTakes RX7 4 (d + 2) := hC
  refine sg_aload_n (pc := 0) (v := .ref x) hC dX7_rowTakes_0 rfl rfl ?_
  refine md_get (pc := 1) (i := 4) hC (by decide) tw_1190 dX7_rowTakes_1 hI rfl ?_
  refine sg_iload_n (pc := 4) (x := nI p) hC dX7_rowTakes_4 rfl ?_
  refine md_iald (pc := 5) (i := 4) (j := p) hC dX7_rowTakes_5 hI rfl (by first | omega | exact Nat.lt_of_le_of_lt Nat.and_le_left (by omega) | exact Nat.or_lt_two_pow (n := 16) (by omega) (by omega) | (simp [md_set, va_up]; done) | (simp [md_set, va_up]; omega)) (by decide) (fun hv1 => ?_)
  show sg_W X M 0 0 6 [some (.ref x), some (.int (nI p)), some (.int (nI q)), none] [.int (nI (N 4 p))]
  have hL2 := hw p
  refine sg_istore_n (pc := 6) (x := nI (N 4 p)) hC dX7_rowTakes_6 (by decide) ?_
  show sg_W X M 0 0 7 [some (.ref x), some (.int (nI p)), some (.int (nI q)), some (.int (nI (N 4 p)))] []
  refine sg_aload_n (pc := 7) (v := .ref x) hC dX7_rowTakes_7 rfl rfl ?_
  refine md_get (pc := 8) (i := 6) hC (by decide) tw_1192 dX7_rowTakes_8 hI rfl ?_
  refine sg_iload_n (pc := 11) (x := nI p) hC dX7_rowTakes_11 rfl ?_
  refine md_iald (pc := 12) (i := 6) (j := p) hC dX7_rowTakes_12 hI rfl (by first | omega | exact Nat.lt_of_le_of_lt Nat.and_le_left (by omega) | exact Nat.or_lt_two_pow (n := 16) (by omega) (by omega) | (simp [md_set, va_up]; done) | (simp [md_set, va_up]; omega)) (by decide) (fun hv3 => ?_)
  show sg_W X M 0 0 13 [some (.ref x), some (.int (nI p)), some (.int (nI q)), some (.int (nI (N 4 p)))] [.int (nI (N 6 p))]
  refine sg_ifN_ne (pc := 13) (a := N 6 p) 40 hC dX7_rowTakes_13 (by decide) (by first | omega | exact Nat.lt_of_le_of_lt Nat.and_le_left (by omega) | exact Nat.or_lt_two_pow (n := 16) (by omega) (by omega) | (simp [md_set, va_up]; done) | (simp [md_set, va_up]; omega)) (fun h4 => ?_) (fun h4 => ?_)
  · refine sg_iload_n (pc := 40) (x := nI (N 4 p)) hC dX7_rowTakes_40 rfl ?_
    refine sg_ifN_eq (pc := 41) (a := N 4 p) 96 hC dX7_rowTakes_41 (by decide) (by first | omega | exact Nat.lt_of_le_of_lt Nat.and_le_left (by omega) | exact Nat.or_lt_two_pow (n := 16) (by omega) (by omega) | (simp [md_set, va_up]; done) | (simp [md_set, va_up]; omega)) (fun h5 => ?_) (fun h5 => ?_)
    · refine sg_iconst (pc := 96) (nI 1) hC dX7_rowTakes_96 (by decide) ?_
      refine sg_goto (pc := 97) 101 hC dX7_rowTakes_97 (by decide) ?_
      have e9 : md_rowTakes N p q = true := by rw [md_rowTakes]; simp only [if_neg h4, if_pos h5]
      rw [e9] at hk
      exact sg_zreturn (st := []) (v := md_b true) (pc := 101) (ty := .boolean) hC hR (md_narb _) dX7_rowTakes_101 hk
    · refine sg_aload_n (pc := 44) (v := .ref x) hC dX7_rowTakes_44 rfl rfl ?_
      refine sg_iload_n (pc := 45) (x := nI p) hC dX7_rowTakes_45 rfl ?_
      refine sg_iload_n (pc := 46) (x := nI q) hC dX7_rowTakes_46 rfl ?_
      refine sg_iload_n (pc := 47) (x := nI (N 4 p)) hC dX7_rowTakes_47 rfl ?_
      refine sg_aload_n (pc := 48) (v := .ref x) hC dX7_rowTakes_48 rfl rfl ?_
      refine md_get (pc := 49) (i := 3) hC (by decide) tw_1189 dX7_rowTakes_49 hI rfl ?_
      refine sg_iload_n (pc := 52) (x := nI p) hC dX7_rowTakes_52 rfl ?_
      refine md_iald (pc := 53) (i := 3) (j := p) hC dX7_rowTakes_53 hI rfl (by first | omega | exact Nat.lt_of_le_of_lt Nat.and_le_left (by omega) | exact Nat.or_lt_two_pow (n := 16) (by omega) (by omega) | (simp [md_set, va_up]; done) | (simp [md_set, va_up]; omega)) (by decide) (fun hv6 => ?_)
      show sg_W X M 0 0 54 [some (.ref x), some (.int (nI p)), some (.int (nI q)), some (.int (nI (N 4 p)))] [.int (nI (N 3 p)), .int (nI (N 4 p)), .int (nI q), .int (nI p), .ref x]
      refine sg_iconst (pc := 54) (nI 3) hC dX7_rowTakes_54 (by decide) ?_
      refine sg_icmpN_ne (pc := 55) (a := N 3 p) (b := 3) 69 hC dX7_rowTakes_55 (by decide) (by first | omega | exact Nat.lt_of_le_of_lt Nat.and_le_left (by omega) | exact Nat.or_lt_two_pow (n := 16) (by omega) (by omega) | (simp [md_set, va_up]; done) | (simp [md_set, va_up]; omega)) (by first | omega | exact Nat.lt_of_le_of_lt Nat.and_le_left (by omega) | exact Nat.or_lt_two_pow (n := 16) (by omega) (by omega) | (simp [md_set, va_up]; done) | (simp [md_set, va_up]; omega)) (fun h7 => ?_) (fun h7 => ?_)
      · refine sg_iconst (pc := 69) (nI 0) hC dX7_rowTakes_69 (by decide) ?_
        refine sg_callV (pc := 70) (As := [.int (nI p), .int (nI q), .int (nI (N 4 p)), .int (nI 0)]) (rest := []) (mc := 0) (ms := 0) hC tw_1369 tw_1371 tw_52 tw_72 tw_1372 yd_X7_alike (by decide) (ci := 10) rfl dX7_rowTakes_70 hI.x rfl (Nat.le_of_ble_eq_true rfl) (Nat.zero_le _) (Nat.zero_le _) ?_
        refine mm_alike htr hI p q (N 4 p) (nI 0) (by first | omega | exact Nat.lt_of_le_of_lt Nat.and_le_left (by omega) | exact Nat.or_lt_two_pow (n := 16) (by omega) (by omega) | (simp [md_set, va_up]; done) | (simp [md_set, va_up]; omega)) (by first | omega | exact Nat.lt_of_le_of_lt Nat.and_le_left (by omega) | exact Nat.or_lt_two_pow (n := 16) (by omega) (by omega) | (simp [md_set, va_up]; done) | (simp [md_set, va_up]; omega)) hw (by first | omega | exact Nat.lt_of_le_of_lt Nat.and_le_left (by omega) | exact Nat.or_lt_two_pow (n := 16) (by omega) (by omega) | (simp [md_set, va_up]; done) | (simp [md_set, va_up]; omega)) (fun _ => by decide) ?_
        show sg_W X M 0 0 73 [some (.ref x), some (.int (nI p)), some (.int (nI q)), some (.int (nI (N 4 p)))] [.int (md_b ((md_alike N p q (N 4 p) (nI 0))))]
        refine sg_ifB_eq (pc := 73) (b := (md_alike N p q (N 4 p) (nI 0))) 100 hC dX7_rowTakes_73 (by decide) (fun h8 => ?_) (fun h8 => ?_)
        · refine sg_iconst (pc := 100) (nI 0) hC dX7_rowTakes_100 (by decide) ?_
          have e9 : md_rowTakes N p q = false := by rw [md_rowTakes]; simp only [if_neg h4, if_neg h5, if_neg h7, if_neg (ts9 h8)]
          rw [e9] at hk
          exact sg_zreturn (st := []) (v := md_b false) (pc := 101) (ty := .boolean) hC hR (md_narb _) dX7_rowTakes_101 hk
        · refine sg_aload_n (pc := 76) (v := .ref x) hC dX7_rowTakes_76 rfl rfl ?_
          refine md_get (pc := 77) (i := 4) hC (by decide) tw_1190 dX7_rowTakes_77 hI rfl ?_
          refine sg_iload_n (pc := 80) (x := nI q) hC dX7_rowTakes_80 rfl ?_
          refine md_iald (pc := 81) (i := 4) (j := q) hC dX7_rowTakes_81 hI rfl (by first | omega | exact Nat.lt_of_le_of_lt Nat.and_le_left (by omega) | exact Nat.or_lt_two_pow (n := 16) (by omega) (by omega) | (simp [md_set, va_up]; done) | (simp [md_set, va_up]; omega)) (by decide) (fun hv9 => ?_)
          show sg_W X M 0 0 82 [some (.ref x), some (.int (nI p)), some (.int (nI q)), some (.int (nI (N 4 p)))] [.int (nI (N 4 q))]
          have hL10 := hw q
          refine sg_iload_n (pc := 82) (x := nI (N 4 p)) hC dX7_rowTakes_82 rfl ?_
          refine sg_icmpN_gt (pc := 83) (a := N 4 q) (b := N 4 p) 96 hC dX7_rowTakes_83 (by decide) (by first | omega | exact Nat.lt_of_le_of_lt Nat.and_le_left (by omega) | exact Nat.or_lt_two_pow (n := 16) (by omega) (by omega) | (simp [md_set, va_up]; done) | (simp [md_set, va_up]; omega)) (by first | omega | exact Nat.lt_of_le_of_lt Nat.and_le_left (by omega) | exact Nat.or_lt_two_pow (n := 16) (by omega) (by omega) | (simp [md_set, va_up]; done) | (simp [md_set, va_up]; omega)) (fun h11 => ?_) (fun h11 => ?_)
          · refine sg_iconst (pc := 96) (nI 1) hC dX7_rowTakes_96 (by decide) ?_
            refine sg_goto (pc := 97) 101 hC dX7_rowTakes_97 (by decide) ?_
            have e9 : md_rowTakes N p q = true := by rw [md_rowTakes]; simp only [if_neg h4, if_neg h5, if_neg h7, if_pos h8, if_pos h11]
            rw [e9] at hk
            exact sg_zreturn (st := []) (v := md_b true) (pc := 101) (ty := .boolean) hC hR (md_narb _) dX7_rowTakes_101 hk
          · refine sg_aload_n (pc := 86) (v := .ref x) hC dX7_rowTakes_86 rfl rfl ?_
            refine md_get (pc := 87) (i := 6) hC (by decide) tw_1192 dX7_rowTakes_87 hI rfl ?_
            refine sg_iload_n (pc := 90) (x := nI q) hC dX7_rowTakes_90 rfl ?_
            refine md_iald (pc := 91) (i := 6) (j := q) hC dX7_rowTakes_91 hI rfl (by first | omega | exact Nat.lt_of_le_of_lt Nat.and_le_left (by omega) | exact Nat.or_lt_two_pow (n := 16) (by omega) (by omega) | (simp [md_set, va_up]; done) | (simp [md_set, va_up]; omega)) (by decide) (fun hv12 => ?_)
            show sg_W X M 0 0 92 [some (.ref x), some (.int (nI p)), some (.int (nI q)), some (.int (nI (N 4 p)))] [.int (nI (N 6 q))]
            refine sg_iconst (pc := 92) (nI 1) hC dX7_rowTakes_92 (by decide) ?_
            refine sg_icmpN_ne (pc := 93) (a := N 6 q) (b := 1) 100 hC dX7_rowTakes_93 (by decide) (by first | omega | exact Nat.lt_of_le_of_lt Nat.and_le_left (by omega) | exact Nat.or_lt_two_pow (n := 16) (by omega) (by omega) | (simp [md_set, va_up]; done) | (simp [md_set, va_up]; omega)) (by first | omega | exact Nat.lt_of_le_of_lt Nat.and_le_left (by omega) | exact Nat.or_lt_two_pow (n := 16) (by omega) (by omega) | (simp [md_set, va_up]; done) | (simp [md_set, va_up]; omega)) (fun h13 => ?_) (fun h13 => ?_)
            · refine sg_iconst (pc := 100) (nI 0) hC dX7_rowTakes_100 (by decide) ?_
              have e9 : md_rowTakes N p q = false := by rw [md_rowTakes]; simp only [if_neg h4, if_neg h5, if_neg h7, if_pos h8, if_neg (Nat.not_lt.mpr h11), if_neg h13]
              rw [e9] at hk
              exact sg_zreturn (st := []) (v := md_b false) (pc := 101) (ty := .boolean) hC hR (md_narb _) dX7_rowTakes_101 hk
            · refine sg_iconst (pc := 96) (nI 1) hC dX7_rowTakes_96 (by decide) ?_
              refine sg_goto (pc := 97) 101 hC dX7_rowTakes_97 (by decide) ?_
              have e9 : md_rowTakes N p q = true := by rw [md_rowTakes]; simp only [if_neg h4, if_neg h5, if_neg h7, if_pos h8, if_neg (Nat.not_lt.mpr h11), if_pos h13]
              rw [e9] at hk
              exact sg_zreturn (st := []) (v := md_b true) (pc := 101) (ty := .boolean) hC hR (md_narb _) dX7_rowTakes_101 hk
      · refine sg_aload_n (pc := 58) (v := .ref x) hC dX7_rowTakes_58 rfl rfl ?_
        refine md_get (pc := 59) (i := 4) hC (by decide) tw_1190 dX7_rowTakes_59 hI rfl ?_
        refine sg_iload_n (pc := 62) (x := nI q) hC dX7_rowTakes_62 rfl ?_
        refine md_iald (pc := 63) (i := 4) (j := q) hC dX7_rowTakes_63 hI rfl (by first | omega | exact Nat.lt_of_le_of_lt Nat.and_le_left (by omega) | exact Nat.or_lt_two_pow (n := 16) (by omega) (by omega) | (simp [md_set, va_up]; done) | (simp [md_set, va_up]; omega)) (by decide) (fun hv14 => ?_)
        show sg_W X M 0 0 64 [some (.ref x), some (.int (nI p)), some (.int (nI q)), some (.int (nI (N 4 p)))] [.int (nI (N 4 q)), .int (nI (N 4 p)), .int (nI q), .int (nI p), .ref x]
        have hL15 := hw q
        refine sg_iload_n (pc := 64) (x := nI (N 4 p)) hC dX7_rowTakes_64 rfl ?_
        refine sg_isub (pc := 65) (x := nI (N 4 q)) (y := nI (N 4 p)) hC dX7_rowTakes_65 ?_
        refine sg_goto (pc := 66) 70 hC dX7_rowTakes_66 (by decide) ?_
        refine sg_callV (pc := 70) (As := [.int (nI p), .int (nI q), .int (nI (N 4 p)), .int ((nI (N 4 q)) - (nI (N 4 p)))]) (rest := []) (mc := 0) (ms := 0) hC tw_1369 tw_1371 tw_52 tw_72 tw_1372 yd_X7_alike (by decide) (ci := 10) rfl dX7_rowTakes_70 hI.x rfl (Nat.le_of_ble_eq_true rfl) (Nat.zero_le _) (Nat.zero_le _) ?_
        refine mm_alike htr hI p q (N 4 p) ((nI (N 4 q)) - (nI (N 4 p))) (by first | omega | exact Nat.lt_of_le_of_lt Nat.and_le_left (by omega) | exact Nat.or_lt_two_pow (n := 16) (by omega) (by omega) | (simp [md_set, va_up]; done) | (simp [md_set, va_up]; omega)) (by first | omega | exact Nat.lt_of_le_of_lt Nat.and_le_left (by omega) | exact Nat.or_lt_two_pow (n := 16) (by omega) (by omega) | (simp [md_set, va_up]; done) | (simp [md_set, va_up]; omega)) hw (by first | omega | exact Nat.lt_of_le_of_lt Nat.and_le_left (by omega) | exact Nat.or_lt_two_pow (n := 16) (by omega) (by omega) | (simp [md_set, va_up]; done) | (simp [md_set, va_up]; omega)) (md_sub3 (by omega) (by omega)) ?_
        show sg_W X M 0 0 73 [some (.ref x), some (.int (nI p)), some (.int (nI q)), some (.int (nI (N 4 p)))] [.int (md_b ((md_alike N p q (N 4 p) ((nI (N 4 q)) - (nI (N 4 p))))))]
        refine sg_ifB_eq (pc := 73) (b := (md_alike N p q (N 4 p) ((nI (N 4 q)) - (nI (N 4 p))))) 100 hC dX7_rowTakes_73 (by decide) (fun h16 => ?_) (fun h16 => ?_)
        · refine sg_iconst (pc := 100) (nI 0) hC dX7_rowTakes_100 (by decide) ?_
          have e9 : md_rowTakes N p q = false := by rw [md_rowTakes]; simp only [if_neg h4, if_neg h5, if_pos h7, if_neg (ts9 h16)]
          rw [e9] at hk
          exact sg_zreturn (st := []) (v := md_b false) (pc := 101) (ty := .boolean) hC hR (md_narb _) dX7_rowTakes_101 hk
        · refine sg_aload_n (pc := 76) (v := .ref x) hC dX7_rowTakes_76 rfl rfl ?_
          refine md_get (pc := 77) (i := 4) hC (by decide) tw_1190 dX7_rowTakes_77 hI rfl ?_
          refine sg_iload_n (pc := 80) (x := nI q) hC dX7_rowTakes_80 rfl ?_
          refine md_iald (pc := 81) (i := 4) (j := q) hC dX7_rowTakes_81 hI rfl (by first | omega | exact Nat.lt_of_le_of_lt Nat.and_le_left (by omega) | exact Nat.or_lt_two_pow (n := 16) (by omega) (by omega) | (simp [md_set, va_up]; done) | (simp [md_set, va_up]; omega)) (by decide) (fun hv17 => ?_)
          show sg_W X M 0 0 82 [some (.ref x), some (.int (nI p)), some (.int (nI q)), some (.int (nI (N 4 p)))] [.int (nI (N 4 q))]
          have hL18 := hw q
          refine sg_iload_n (pc := 82) (x := nI (N 4 p)) hC dX7_rowTakes_82 rfl ?_
          refine sg_icmpN_gt (pc := 83) (a := N 4 q) (b := N 4 p) 96 hC dX7_rowTakes_83 (by decide) (by first | omega | exact Nat.lt_of_le_of_lt Nat.and_le_left (by omega) | exact Nat.or_lt_two_pow (n := 16) (by omega) (by omega) | (simp [md_set, va_up]; done) | (simp [md_set, va_up]; omega)) (by first | omega | exact Nat.lt_of_le_of_lt Nat.and_le_left (by omega) | exact Nat.or_lt_two_pow (n := 16) (by omega) (by omega) | (simp [md_set, va_up]; done) | (simp [md_set, va_up]; omega)) (fun h19 => ?_) (fun h19 => ?_)
          · refine sg_iconst (pc := 96) (nI 1) hC dX7_rowTakes_96 (by decide) ?_
            refine sg_goto (pc := 97) 101 hC dX7_rowTakes_97 (by decide) ?_
            have e9 : md_rowTakes N p q = true := by rw [md_rowTakes]; simp only [if_neg h4, if_neg h5, if_pos h7, if_pos h16, if_pos h19]
            rw [e9] at hk
            exact sg_zreturn (st := []) (v := md_b true) (pc := 101) (ty := .boolean) hC hR (md_narb _) dX7_rowTakes_101 hk
          · refine sg_aload_n (pc := 86) (v := .ref x) hC dX7_rowTakes_86 rfl rfl ?_
            refine md_get (pc := 87) (i := 6) hC (by decide) tw_1192 dX7_rowTakes_87 hI rfl ?_
            refine sg_iload_n (pc := 90) (x := nI q) hC dX7_rowTakes_90 rfl ?_
            refine md_iald (pc := 91) (i := 6) (j := q) hC dX7_rowTakes_91 hI rfl (by first | omega | exact Nat.lt_of_le_of_lt Nat.and_le_left (by omega) | exact Nat.or_lt_two_pow (n := 16) (by omega) (by omega) | (simp [md_set, va_up]; done) | (simp [md_set, va_up]; omega)) (by decide) (fun hv20 => ?_)
            show sg_W X M 0 0 92 [some (.ref x), some (.int (nI p)), some (.int (nI q)), some (.int (nI (N 4 p)))] [.int (nI (N 6 q))]
            refine sg_iconst (pc := 92) (nI 1) hC dX7_rowTakes_92 (by decide) ?_
            refine sg_icmpN_ne (pc := 93) (a := N 6 q) (b := 1) 100 hC dX7_rowTakes_93 (by decide) (by first | omega | exact Nat.lt_of_le_of_lt Nat.and_le_left (by omega) | exact Nat.or_lt_two_pow (n := 16) (by omega) (by omega) | (simp [md_set, va_up]; done) | (simp [md_set, va_up]; omega)) (by first | omega | exact Nat.lt_of_le_of_lt Nat.and_le_left (by omega) | exact Nat.or_lt_two_pow (n := 16) (by omega) (by omega) | (simp [md_set, va_up]; done) | (simp [md_set, va_up]; omega)) (fun h21 => ?_) (fun h21 => ?_)
            · refine sg_iconst (pc := 100) (nI 0) hC dX7_rowTakes_100 (by decide) ?_
              have e9 : md_rowTakes N p q = false := by rw [md_rowTakes]; simp only [if_neg h4, if_neg h5, if_pos h7, if_pos h16, if_neg (Nat.not_lt.mpr h19), if_neg h21]
              rw [e9] at hk
              exact sg_zreturn (st := []) (v := md_b false) (pc := 101) (ty := .boolean) hC hR (md_narb _) dX7_rowTakes_101 hk
            · refine sg_iconst (pc := 96) (nI 1) hC dX7_rowTakes_96 (by decide) ?_
              refine sg_goto (pc := 97) 101 hC dX7_rowTakes_97 (by decide) ?_
              have e9 : md_rowTakes N p q = true := by rw [md_rowTakes]; simp only [if_neg h4, if_neg h5, if_pos h7, if_pos h16, if_neg (Nat.not_lt.mpr h19), if_pos h21]
              rw [e9] at hk
              exact sg_zreturn (st := []) (v := md_b true) (pc := 101) (ty := .boolean) hC hR (md_narb _) dX7_rowTakes_101 hk
  · refine sg_aload_n (pc := 16) (v := .ref x) hC dX7_rowTakes_16 rfl rfl ?_
    refine md_get (pc := 17) (i := 6) hC (by decide) tw_1192 dX7_rowTakes_17 hI rfl ?_
    refine sg_iload_n (pc := 20) (x := nI q) hC dX7_rowTakes_20 rfl ?_
    refine md_iald (pc := 21) (i := 6) (j := q) hC dX7_rowTakes_21 hI rfl (by first | omega | exact Nat.lt_of_le_of_lt Nat.and_le_left (by omega) | exact Nat.or_lt_two_pow (n := 16) (by omega) (by omega) | (simp [md_set, va_up]; done) | (simp [md_set, va_up]; omega)) (by decide) (fun hv22 => ?_)
    show sg_W X M 0 0 22 [some (.ref x), some (.int (nI p)), some (.int (nI q)), some (.int (nI (N 4 p)))] [.int (nI (N 6 q))]
    refine sg_ifN_ne (pc := 22) (a := N 6 q) 38 hC dX7_rowTakes_22 (by decide) (by first | omega | exact Nat.lt_of_le_of_lt Nat.and_le_left (by omega) | exact Nat.or_lt_two_pow (n := 16) (by omega) (by omega) | (simp [md_set, va_up]; done) | (simp [md_set, va_up]; omega)) (fun h23 => ?_) (fun h23 => ?_)
    · refine sg_iconst (pc := 38) (nI 0) hC dX7_rowTakes_38 (by decide) ?_
      have e9 : md_rowTakes N p q = false := by rw [md_rowTakes]; simp only [if_pos h4, if_neg h23]
      rw [e9] at hk
      exact sg_zreturn (st := []) (v := md_b false) (pc := 39) (ty := .boolean) hC hR (md_narb _) dX7_rowTakes_39 hk
    · refine sg_aload_n (pc := 25) (v := .ref x) hC dX7_rowTakes_25 rfl rfl ?_
      refine sg_iload_n (pc := 26) (x := nI p) hC dX7_rowTakes_26 rfl ?_
      refine sg_iload_n (pc := 27) (x := nI q) hC dX7_rowTakes_27 rfl ?_
      refine sg_callV (pc := 28) (As := [.int (nI p), .int (nI q)]) (rest := []) (mc := 0) (ms := 0) hC tw_1365 tw_1367 tw_51 tw_72 tw_1368 yd_X7_sameLabels (by decide) (ci := 10) rfl dX7_rowTakes_28 hI.x rfl (Nat.le_of_ble_eq_true rfl) (Nat.zero_le _) (Nat.zero_le _) ?_
      refine mm_sameLabels htr hI p q (by first | omega | exact Nat.lt_of_le_of_lt Nat.and_le_left (by omega) | exact Nat.or_lt_two_pow (n := 16) (by omega) (by omega) | (simp [md_set, va_up]; done) | (simp [md_set, va_up]; omega)) (by first | omega | exact Nat.lt_of_le_of_lt Nat.and_le_left (by omega) | exact Nat.or_lt_two_pow (n := 16) (by omega) (by omega) | (simp [md_set, va_up]; done) | (simp [md_set, va_up]; omega)) hw ?_
      show sg_W X M 0 0 31 [some (.ref x), some (.int (nI p)), some (.int (nI q)), some (.int (nI (N 4 p)))] [.int (md_b ((md_sameLabels N p q)))]
      refine sg_ifB_eq (pc := 31) (b := (md_sameLabels N p q)) 38 hC dX7_rowTakes_31 (by decide) (fun h24 => ?_) (fun h24 => ?_)
      · refine sg_iconst (pc := 38) (nI 0) hC dX7_rowTakes_38 (by decide) ?_
        have e9 : md_rowTakes N p q = false := by rw [md_rowTakes]; simp only [if_pos h4, if_pos h23, if_neg (ts9 h24)]
        rw [e9] at hk
        exact sg_zreturn (st := []) (v := md_b false) (pc := 39) (ty := .boolean) hC hR (md_narb _) dX7_rowTakes_39 hk
      · refine sg_iconst (pc := 34) (nI 1) hC dX7_rowTakes_34 (by decide) ?_
        refine sg_goto (pc := 35) 39 hC dX7_rowTakes_35 (by decide) ?_
        have e9 : md_rowTakes N p q = true := by rw [md_rowTakes]; simp only [if_pos h4, if_pos h23, if_pos h24]
        rw [e9] at hk
        exact sg_zreturn (st := []) (v := md_b true) (pc := 39) (ty := .boolean) hC hR (md_narb _) dX7_rowTakes_39 hk

def md_takes (N : Nat → Nat → Nat) (p : Nat) (q : Nat) : Bool := if N 3 p = 1 then true else if N 3 p = N 3 q then if N 3 p = 2 then if (md_pathTakes N p q) = true then if (N 7 p) &&& (N 7 q) = N 7 q then true else false else false else if (md_rowTakes N p q) = true then if N 3 p = 4 then true else if N 8 q < N 8 p then false else if N 9 p < N 9 q then false else true else false else false
set_option maxHeartbeats 4000000 in
set_option maxRecDepth 100000 in
theorem mm_takes {l : Launch} {G : sg_G} {d : Nat} {M0 M : sg_M} {x : Nat} {ad : Nat → Nat} {N : Nat → Nat → Nat} {kr : Option Value → sg_M → Prop} {kx : String → sg_M → Prop} (htr : l.stackTraces = false) (hI : md_I M0 M x ad N) (p : Nat) (q : Nat) (hp : p < 86) (hq : q < 86) (hw : ∀ r, N 4 r ≤ 3) (hk : kr (some (.int (md_b (md_takes N p q)))) M) : sg_Met l G yX7_takes cX7_takes 3 (some .boolean) (d + 3) 0 0 [.ref x, .int (nI p), .int (nI q)] M kr kx := by
  refine sg_enter [some (.ref x), some (.int (nI p)), some (.int (nI q))] (by decide) htr (Nat.le_of_ble_eq_true rfl) rfl ?_
  intro X hC hR
  have hC : sg_C X l G cX7_takes RX7 3 (d + 3) := hC
  refine sg_aload_n (pc := 0) (v := .ref x) hC dX7_takes_0 rfl rfl ?_
  refine md_get (pc := 1) (i := 3) hC (by decide) tw_1189 dX7_takes_1 hI rfl ?_
  refine sg_iload_n (pc := 4) (x := nI p) hC dX7_takes_4 rfl ?_
  refine md_iald (pc := 5) (i := 3) (j := p) hC dX7_takes_5 hI rfl (by first | omega | exact Nat.lt_of_le_of_lt Nat.and_le_left (by omega) | exact Nat.or_lt_two_pow (n := 16) (by omega) (by omega) | (simp [md_set, va_up]; done) | (simp [md_set, va_up]; omega)) (by decide) (fun hv1 => ?_)
  show sg_W X M 0 0 6 [some (.ref x), some (.int (nI p)), some (.int (nI q))] [.int (nI (N 3 p))]
  refine sg_iconst (pc := 6) (nI 1) hC dX7_takes_6 (by decide) ?_
  refine sg_icmpN_ne (pc := 7) (a := N 3 p) (b := 1) 12 hC dX7_takes_7 (by decide) (by first | omega | exact Nat.lt_of_le_of_lt Nat.and_le_left (by omega) | exact Nat.or_lt_two_pow (n := 16) (by omega) (by omega) | (simp [md_set, va_up]; done) | (simp [md_set, va_up]; omega)) (by first | omega | exact Nat.lt_of_le_of_lt Nat.and_le_left (by omega) | exact Nat.or_lt_two_pow (n := 16) (by omega) (by omega) | (simp [md_set, va_up]; done) | (simp [md_set, va_up]; omega)) (fun h2 => ?_) (fun h2 => ?_)
  · refine sg_aload_n (pc := 12) (v := .ref x) hC dX7_takes_12 rfl rfl ?_
    refine md_get (pc := 13) (i := 3) hC (by decide) tw_1189 dX7_takes_13 hI rfl ?_
    refine sg_iload_n (pc := 16) (x := nI p) hC dX7_takes_16 rfl ?_
    refine md_iald (pc := 17) (i := 3) (j := p) hC dX7_takes_17 hI rfl (by first | omega | exact Nat.lt_of_le_of_lt Nat.and_le_left (by omega) | exact Nat.or_lt_two_pow (n := 16) (by omega) (by omega) | (simp [md_set, va_up]; done) | (simp [md_set, va_up]; omega)) (by decide) (fun hv3 => ?_)
    show sg_W X M 0 0 18 [some (.ref x), some (.int (nI p)), some (.int (nI q))] [.int (nI (N 3 p))]
    refine sg_aload_n (pc := 18) (v := .ref x) hC dX7_takes_18 rfl rfl ?_
    refine md_get (pc := 19) (i := 3) hC (by decide) tw_1189 dX7_takes_19 hI rfl ?_
    refine sg_iload_n (pc := 22) (x := nI q) hC dX7_takes_22 rfl ?_
    refine md_iald (pc := 23) (i := 3) (j := q) hC dX7_takes_23 hI rfl (by first | omega | exact Nat.lt_of_le_of_lt Nat.and_le_left (by omega) | exact Nat.or_lt_two_pow (n := 16) (by omega) (by omega) | (simp [md_set, va_up]; done) | (simp [md_set, va_up]; omega)) (by decide) (fun hv4 => ?_)
    show sg_W X M 0 0 24 [some (.ref x), some (.int (nI p)), some (.int (nI q))] [.int (nI (N 3 q)), .int (nI (N 3 p))]
    refine sg_icmpN_eq (pc := 24) (a := N 3 p) (b := N 3 q) 29 hC dX7_takes_24 (by decide) (by first | omega | exact Nat.lt_of_le_of_lt Nat.and_le_left (by omega) | exact Nat.or_lt_two_pow (n := 16) (by omega) (by omega) | (simp [md_set, va_up]; done) | (simp [md_set, va_up]; omega)) (by first | omega | exact Nat.lt_of_le_of_lt Nat.and_le_left (by omega) | exact Nat.or_lt_two_pow (n := 16) (by omega) (by omega) | (simp [md_set, va_up]; done) | (simp [md_set, va_up]; omega)) (fun h5 => ?_) (fun h5 => ?_)
    · refine sg_aload_n (pc := 29) (v := .ref x) hC dX7_takes_29 rfl rfl ?_
      refine md_get (pc := 30) (i := 3) hC (by decide) tw_1189 dX7_takes_30 hI rfl ?_
      refine sg_iload_n (pc := 33) (x := nI p) hC dX7_takes_33 rfl ?_
      refine md_iald (pc := 34) (i := 3) (j := p) hC dX7_takes_34 hI rfl (by first | omega | exact Nat.lt_of_le_of_lt Nat.and_le_left (by omega) | exact Nat.or_lt_two_pow (n := 16) (by omega) (by omega) | (simp [md_set, va_up]; done) | (simp [md_set, va_up]; omega)) (by decide) (fun hv6 => ?_)
      show sg_W X M 0 0 35 [some (.ref x), some (.int (nI p)), some (.int (nI q))] [.int (nI (N 3 p))]
      refine sg_iconst (pc := 35) (nI 2) hC dX7_takes_35 (by decide) ?_
      refine sg_icmpN_ne (pc := 36) (a := N 3 p) (b := 2) 76 hC dX7_takes_36 (by decide) (by first | omega | exact Nat.lt_of_le_of_lt Nat.and_le_left (by omega) | exact Nat.or_lt_two_pow (n := 16) (by omega) (by omega) | (simp [md_set, va_up]; done) | (simp [md_set, va_up]; omega)) (by first | omega | exact Nat.lt_of_le_of_lt Nat.and_le_left (by omega) | exact Nat.or_lt_two_pow (n := 16) (by omega) (by omega) | (simp [md_set, va_up]; done) | (simp [md_set, va_up]; omega)) (fun h7 => ?_) (fun h7 => ?_)
      · refine sg_aload_n (pc := 76) (v := .ref x) hC dX7_takes_76 rfl rfl ?_
        refine sg_iload_n (pc := 77) (x := nI p) hC dX7_takes_77 rfl ?_
        refine sg_iload_n (pc := 78) (x := nI q) hC dX7_takes_78 rfl ?_
        refine sg_callV (pc := 79) (As := [.int (nI p), .int (nI q)]) (rest := []) (mc := 0) (ms := 0) hC tw_1373 tw_1375 tw_53 tw_72 tw_1376 yd_X7_rowTakes (by decide) (ci := 10) rfl dX7_takes_79 hI.x rfl (Nat.le_of_ble_eq_true rfl) (Nat.zero_le _) (Nat.zero_le _) ?_
        refine mm_rowTakes htr hI p q (by first | omega | exact Nat.lt_of_le_of_lt Nat.and_le_left (by omega) | exact Nat.or_lt_two_pow (n := 16) (by omega) (by omega) | (simp [md_set, va_up]; done) | (simp [md_set, va_up]; omega)) (by first | omega | exact Nat.lt_of_le_of_lt Nat.and_le_left (by omega) | exact Nat.or_lt_two_pow (n := 16) (by omega) (by omega) | (simp [md_set, va_up]; done) | (simp [md_set, va_up]; omega)) hw ?_
        show sg_W X M 0 0 82 [some (.ref x), some (.int (nI p)), some (.int (nI q))] [.int (md_b ((md_rowTakes N p q)))]
        refine sg_ifB_eq (pc := 82) (b := (md_rowTakes N p q)) 129 hC dX7_takes_82 (by decide) (fun h8 => ?_) (fun h8 => ?_)
        · refine sg_iconst (pc := 129) (nI 0) hC dX7_takes_129 (by decide) ?_
          have e9 : md_takes N p q = false := by rw [md_takes]; simp only [if_neg h2, if_pos h5, if_neg h7, if_neg (ts9 h8)]
          rw [e9] at hk
          exact sg_zreturn (st := []) (v := md_b false) (pc := 130) (ty := .boolean) hC hR (md_narb _) dX7_takes_130 hk
        · refine sg_aload_n (pc := 85) (v := .ref x) hC dX7_takes_85 rfl rfl ?_
          refine md_get (pc := 86) (i := 3) hC (by decide) tw_1189 dX7_takes_86 hI rfl ?_
          refine sg_iload_n (pc := 89) (x := nI p) hC dX7_takes_89 rfl ?_
          refine md_iald (pc := 90) (i := 3) (j := p) hC dX7_takes_90 hI rfl (by first | omega | exact Nat.lt_of_le_of_lt Nat.and_le_left (by omega) | exact Nat.or_lt_two_pow (n := 16) (by omega) (by omega) | (simp [md_set, va_up]; done) | (simp [md_set, va_up]; omega)) (by decide) (fun hv9 => ?_)
          show sg_W X M 0 0 91 [some (.ref x), some (.int (nI p)), some (.int (nI q))] [.int (nI (N 3 p))]
          refine sg_iconst (pc := 91) (nI 4) hC dX7_takes_91 (by decide) ?_
          refine sg_icmpN_eq (pc := 92) (a := N 3 p) (b := 4) 125 hC dX7_takes_92 (by decide) (by first | omega | exact Nat.lt_of_le_of_lt Nat.and_le_left (by omega) | exact Nat.or_lt_two_pow (n := 16) (by omega) (by omega) | (simp [md_set, va_up]; done) | (simp [md_set, va_up]; omega)) (by first | omega | exact Nat.lt_of_le_of_lt Nat.and_le_left (by omega) | exact Nat.or_lt_two_pow (n := 16) (by omega) (by omega) | (simp [md_set, va_up]; done) | (simp [md_set, va_up]; omega)) (fun h10 => ?_) (fun h10 => ?_)
          · refine sg_iconst (pc := 125) (nI 1) hC dX7_takes_125 (by decide) ?_
            refine sg_goto (pc := 126) 130 hC dX7_takes_126 (by decide) ?_
            have e9 : md_takes N p q = true := by rw [md_takes]; simp only [if_neg h2, if_pos h5, if_neg h7, if_pos h8, if_pos h10]
            rw [e9] at hk
            exact sg_zreturn (st := []) (v := md_b true) (pc := 130) (ty := .boolean) hC hR (md_narb _) dX7_takes_130 hk
          · refine sg_aload_n (pc := 95) (v := .ref x) hC dX7_takes_95 rfl rfl ?_
            refine md_get (pc := 96) (i := 8) hC (by decide) tw_1194 dX7_takes_96 hI rfl ?_
            refine sg_iload_n (pc := 99) (x := nI p) hC dX7_takes_99 rfl ?_
            refine md_iald (pc := 100) (i := 8) (j := p) hC dX7_takes_100 hI rfl (by first | omega | exact Nat.lt_of_le_of_lt Nat.and_le_left (by omega) | exact Nat.or_lt_two_pow (n := 16) (by omega) (by omega) | (simp [md_set, va_up]; done) | (simp [md_set, va_up]; omega)) (by decide) (fun hv11 => ?_)
            show sg_W X M 0 0 101 [some (.ref x), some (.int (nI p)), some (.int (nI q))] [.int (nI (N 8 p))]
            refine sg_aload_n (pc := 101) (v := .ref x) hC dX7_takes_101 rfl rfl ?_
            refine md_get (pc := 102) (i := 8) hC (by decide) tw_1194 dX7_takes_102 hI rfl ?_
            refine sg_iload_n (pc := 105) (x := nI q) hC dX7_takes_105 rfl ?_
            refine md_iald (pc := 106) (i := 8) (j := q) hC dX7_takes_106 hI rfl (by first | omega | exact Nat.lt_of_le_of_lt Nat.and_le_left (by omega) | exact Nat.or_lt_two_pow (n := 16) (by omega) (by omega) | (simp [md_set, va_up]; done) | (simp [md_set, va_up]; omega)) (by decide) (fun hv12 => ?_)
            show sg_W X M 0 0 107 [some (.ref x), some (.int (nI p)), some (.int (nI q))] [.int (nI (N 8 q)), .int (nI (N 8 p))]
            refine sg_icmpN_gt (pc := 107) (a := N 8 p) (b := N 8 q) 129 hC dX7_takes_107 (by decide) (by first | omega | exact Nat.lt_of_le_of_lt Nat.and_le_left (by omega) | exact Nat.or_lt_two_pow (n := 16) (by omega) (by omega) | (simp [md_set, va_up]; done) | (simp [md_set, va_up]; omega)) (by first | omega | exact Nat.lt_of_le_of_lt Nat.and_le_left (by omega) | exact Nat.or_lt_two_pow (n := 16) (by omega) (by omega) | (simp [md_set, va_up]; done) | (simp [md_set, va_up]; omega)) (fun h13 => ?_) (fun h13 => ?_)
            · refine sg_iconst (pc := 129) (nI 0) hC dX7_takes_129 (by decide) ?_
              have e9 : md_takes N p q = false := by rw [md_takes]; simp only [if_neg h2, if_pos h5, if_neg h7, if_pos h8, if_neg h10, if_pos h13]
              rw [e9] at hk
              exact sg_zreturn (st := []) (v := md_b false) (pc := 130) (ty := .boolean) hC hR (md_narb _) dX7_takes_130 hk
            · refine sg_aload_n (pc := 110) (v := .ref x) hC dX7_takes_110 rfl rfl ?_
              refine md_get (pc := 111) (i := 9) hC (by decide) tw_1195 dX7_takes_111 hI rfl ?_
              refine sg_iload_n (pc := 114) (x := nI q) hC dX7_takes_114 rfl ?_
              refine md_iald (pc := 115) (i := 9) (j := q) hC dX7_takes_115 hI rfl (by first | omega | exact Nat.lt_of_le_of_lt Nat.and_le_left (by omega) | exact Nat.or_lt_two_pow (n := 16) (by omega) (by omega) | (simp [md_set, va_up]; done) | (simp [md_set, va_up]; omega)) (by decide) (fun hv14 => ?_)
              show sg_W X M 0 0 116 [some (.ref x), some (.int (nI p)), some (.int (nI q))] [.int (nI (N 9 q))]
              refine sg_aload_n (pc := 116) (v := .ref x) hC dX7_takes_116 rfl rfl ?_
              refine md_get (pc := 117) (i := 9) hC (by decide) tw_1195 dX7_takes_117 hI rfl ?_
              refine sg_iload_n (pc := 120) (x := nI p) hC dX7_takes_120 rfl ?_
              refine md_iald (pc := 121) (i := 9) (j := p) hC dX7_takes_121 hI rfl (by first | omega | exact Nat.lt_of_le_of_lt Nat.and_le_left (by omega) | exact Nat.or_lt_two_pow (n := 16) (by omega) (by omega) | (simp [md_set, va_up]; done) | (simp [md_set, va_up]; omega)) (by decide) (fun hv15 => ?_)
              show sg_W X M 0 0 122 [some (.ref x), some (.int (nI p)), some (.int (nI q))] [.int (nI (N 9 p)), .int (nI (N 9 q))]
              refine sg_icmpN_gt (pc := 122) (a := N 9 q) (b := N 9 p) 129 hC dX7_takes_122 (by decide) (by first | omega | exact Nat.lt_of_le_of_lt Nat.and_le_left (by omega) | exact Nat.or_lt_two_pow (n := 16) (by omega) (by omega) | (simp [md_set, va_up]; done) | (simp [md_set, va_up]; omega)) (by first | omega | exact Nat.lt_of_le_of_lt Nat.and_le_left (by omega) | exact Nat.or_lt_two_pow (n := 16) (by omega) (by omega) | (simp [md_set, va_up]; done) | (simp [md_set, va_up]; omega)) (fun h16 => ?_) (fun h16 => ?_)
              · refine sg_iconst (pc := 129) (nI 0) hC dX7_takes_129 (by decide) ?_
                have e9 : md_takes N p q = false := by rw [md_takes]; simp only [if_neg h2, if_pos h5, if_neg h7, if_pos h8, if_neg h10, if_neg (Nat.not_lt.mpr h13), if_pos h16]
                rw [e9] at hk
                exact sg_zreturn (st := []) (v := md_b false) (pc := 130) (ty := .boolean) hC hR (md_narb _) dX7_takes_130 hk
              · refine sg_iconst (pc := 125) (nI 1) hC dX7_takes_125 (by decide) ?_
                refine sg_goto (pc := 126) 130 hC dX7_takes_126 (by decide) ?_
                have e9 : md_takes N p q = true := by rw [md_takes]; simp only [if_neg h2, if_pos h5, if_neg h7, if_pos h8, if_neg h10, if_neg (Nat.not_lt.mpr h13), if_neg (Nat.not_lt.mpr h16)]
                rw [e9] at hk
                exact sg_zreturn (st := []) (v := md_b true) (pc := 130) (ty := .boolean) hC hR (md_narb _) dX7_takes_130 hk
      · refine sg_aload_n (pc := 39) (v := .ref x) hC dX7_takes_39 rfl rfl ?_
        refine sg_iload_n (pc := 40) (x := nI p) hC dX7_takes_40 rfl ?_
        refine sg_iload_n (pc := 41) (x := nI q) hC dX7_takes_41 rfl ?_
        refine sg_callV (pc := 42) (As := [.int (nI p), .int (nI q)]) (rest := []) (mc := 0) (ms := 0) hC tw_1361 tw_1363 tw_50 tw_72 tw_1364 yd_X7_pathTakes (by decide) (ci := 10) rfl dX7_takes_42 hI.x rfl (Nat.le_of_ble_eq_true rfl) (Nat.zero_le _) (Nat.zero_le _) ?_
        refine mm_pathTakes htr hI p q (by first | omega | exact Nat.lt_of_le_of_lt Nat.and_le_left (by omega) | exact Nat.or_lt_two_pow (n := 16) (by omega) (by omega) | (simp [md_set, va_up]; done) | (simp [md_set, va_up]; omega)) (by first | omega | exact Nat.lt_of_le_of_lt Nat.and_le_left (by omega) | exact Nat.or_lt_two_pow (n := 16) (by omega) (by omega) | (simp [md_set, va_up]; done) | (simp [md_set, va_up]; omega)) hw ?_
        show sg_W X M 0 0 45 [some (.ref x), some (.int (nI p)), some (.int (nI q))] [.int (md_b ((md_pathTakes N p q)))]
        refine sg_ifB_eq (pc := 45) (b := (md_pathTakes N p q)) 74 hC dX7_takes_45 (by decide) (fun h17 => ?_) (fun h17 => ?_)
        · refine sg_iconst (pc := 74) (nI 0) hC dX7_takes_74 (by decide) ?_
          have e9 : md_takes N p q = false := by rw [md_takes]; simp only [if_neg h2, if_pos h5, if_pos h7, if_neg (ts9 h17)]
          rw [e9] at hk
          exact sg_zreturn (st := []) (v := md_b false) (pc := 75) (ty := .boolean) hC hR (md_narb _) dX7_takes_75 hk
        · refine sg_aload_n (pc := 48) (v := .ref x) hC dX7_takes_48 rfl rfl ?_
          refine md_get (pc := 49) (i := 7) hC (by decide) tw_1193 dX7_takes_49 hI rfl ?_
          refine sg_iload_n (pc := 52) (x := nI p) hC dX7_takes_52 rfl ?_
          refine md_iald (pc := 53) (i := 7) (j := p) hC dX7_takes_53 hI rfl (by first | omega | exact Nat.lt_of_le_of_lt Nat.and_le_left (by omega) | exact Nat.or_lt_two_pow (n := 16) (by omega) (by omega) | (simp [md_set, va_up]; done) | (simp [md_set, va_up]; omega)) (by decide) (fun hv18 => ?_)
          show sg_W X M 0 0 54 [some (.ref x), some (.int (nI p)), some (.int (nI q))] [.int (nI (N 7 p))]
          refine sg_aload_n (pc := 54) (v := .ref x) hC dX7_takes_54 rfl rfl ?_
          refine md_get (pc := 55) (i := 7) hC (by decide) tw_1193 dX7_takes_55 hI rfl ?_
          refine sg_iload_n (pc := 58) (x := nI q) hC dX7_takes_58 rfl ?_
          refine md_iald (pc := 59) (i := 7) (j := q) hC dX7_takes_59 hI rfl (by first | omega | exact Nat.lt_of_le_of_lt Nat.and_le_left (by omega) | exact Nat.or_lt_two_pow (n := 16) (by omega) (by omega) | (simp [md_set, va_up]; done) | (simp [md_set, va_up]; omega)) (by decide) (fun hv19 => ?_)
          show sg_W X M 0 0 60 [some (.ref x), some (.int (nI p)), some (.int (nI q))] [.int (nI (N 7 q)), .int (nI (N 7 p))]
          refine sg_iandN (pc := 60) (a := N 7 p) (b := N 7 q) hC dX7_takes_60 ?_
          refine sg_aload_n (pc := 61) (v := .ref x) hC dX7_takes_61 rfl rfl ?_
          refine md_get (pc := 62) (i := 7) hC (by decide) tw_1193 dX7_takes_62 hI rfl ?_
          refine sg_iload_n (pc := 65) (x := nI q) hC dX7_takes_65 rfl ?_
          refine md_iald (pc := 66) (i := 7) (j := q) hC dX7_takes_66 hI rfl (by first | omega | exact Nat.lt_of_le_of_lt Nat.and_le_left (by omega) | exact Nat.or_lt_two_pow (n := 16) (by omega) (by omega) | (simp [md_set, va_up]; done) | (simp [md_set, va_up]; omega)) (by decide) (fun hv20 => ?_)
          show sg_W X M 0 0 67 [some (.ref x), some (.int (nI p)), some (.int (nI q))] [.int (nI (N 7 q)), .int (nI ((N 7 p) &&& (N 7 q)))]
          refine sg_icmpN_ne (pc := 67) (a := (N 7 p) &&& (N 7 q)) (b := N 7 q) 74 hC dX7_takes_67 (by decide) (by first | omega | exact Nat.lt_of_le_of_lt Nat.and_le_left (by omega) | exact Nat.or_lt_two_pow (n := 16) (by omega) (by omega) | (simp [md_set, va_up]; done) | (simp [md_set, va_up]; omega)) (by first | omega | exact Nat.lt_of_le_of_lt Nat.and_le_left (by omega) | exact Nat.or_lt_two_pow (n := 16) (by omega) (by omega) | (simp [md_set, va_up]; done) | (simp [md_set, va_up]; omega)) (fun h21 => ?_) (fun h21 => ?_)
          · refine sg_iconst (pc := 74) (nI 0) hC dX7_takes_74 (by decide) ?_
            have e9 : md_takes N p q = false := by rw [md_takes]; simp only [if_neg h2, if_pos h5, if_pos h7, if_pos h17, if_neg h21]
            rw [e9] at hk
            exact sg_zreturn (st := []) (v := md_b false) (pc := 75) (ty := .boolean) hC hR (md_narb _) dX7_takes_75 hk
          · refine sg_iconst (pc := 70) (nI 1) hC dX7_takes_70 (by decide) ?_
            refine sg_goto (pc := 71) 75 hC dX7_takes_71 (by decide) ?_
            have e9 : md_takes N p q = true := by rw [md_takes]; simp only [if_neg h2, if_pos h5, if_pos h7, if_pos h17, if_pos h21]
            rw [e9] at hk
            exact sg_zreturn (st := []) (v := md_b true) (pc := 75) (ty := .boolean) hC hR (md_narb _) dX7_takes_75 hk
    · refine sg_iconst (pc := 27) (nI 0) hC dX7_takes_27 (by decide) ?_
      have e9 : md_takes N p q = false := by rw [md_takes]; simp only [if_neg h2, if_neg h5]
      rw [e9] at hk
      exact sg_zreturn (st := []) (v := md_b false) (pc := 28) (ty := .boolean) hC hR (md_narb _) dX7_takes_28 hk
  · refine sg_iconst (pc := 10) (nI 1) hC dX7_takes_10 (by decide) ?_
    have e9 : md_takes N p q = true := by rw [md_takes]; simp only [if_pos h2]
    rw [e9] at hk
    exact sg_zreturn (st := []) (v := md_b true) (pc := 11) (ty := .boolean) hC hR (md_narb _) dX7_takes_11 hk
