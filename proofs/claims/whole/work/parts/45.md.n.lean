theorem md_fdivok {n m : Nat} (hn : n ≤ 6) (h1 : 1 ≤ m) (h2 : m ≤ 6) : vf_n32 (FP.fdiv (FP.i2f (nI n)) (FP.i2f (nI m))) := by
  have key : ∀ n, n < 7 → ∀ m, m < 7 → 1 ≤ m → vf_n32 (FP.fdiv (FP.i2f (nI n)) (FP.i2f (nI m))) := by
    unfold vf_n32
    decide +kernel
  exact key n (by omega) m (by omega) h1

def md_idle1 : Nat → (Nat → Nat → Nat) → Nat → Nat → Nat → Bool → Nat → UInt32 × (Nat → Nat → Nat)
  | 0, N, _, _, _, _, _ => (0, N)
  | f + 1, N, src, n, i, b, j => if N 12 src ≤ j then if b = true then if N 12 src ≤ i + 1 then if N 12 src = 0 then (0, N) else (FP.fdiv (FP.i2f (nI (n + 1))) (FP.i2f (nI (N 12 src))), N) else md_idle1 f N src (n + 1) (i + 1) false 0 else if N 12 src ≤ i + 1 then if N 12 src = 0 then (0, N) else (FP.fdiv (FP.i2f (nI n)) (FP.i2f (nI (N 12 src))), N) else md_idle1 f N src n (i + 1) false 0 else if b = true then md_idle1 f N src n i true (j + 1) else if j = i then md_idle1 f N src n i false (j + 1) else if (md_takes N ((8 + (6 * src)) + j) ((8 + (6 * src)) + i)) = true then md_idle1 f N src n i true (j + 1) else md_idle1 f N src n i false (j + 1)
theorem md_idle1_s (f : Nat) (N : Nat → Nat → Nat) (src : Nat) (n : Nat) (i : Nat) (b : Bool) (j : Nat) : md_idle1 (f + 1) N src n i b j = if N 12 src ≤ j then if b = true then if N 12 src ≤ i + 1 then if N 12 src = 0 then (0, N) else (FP.fdiv (FP.i2f (nI (n + 1))) (FP.i2f (nI (N 12 src))), N) else md_idle1 f N src (n + 1) (i + 1) false 0 else if N 12 src ≤ i + 1 then if N 12 src = 0 then (0, N) else (FP.fdiv (FP.i2f (nI n)) (FP.i2f (nI (N 12 src))), N) else md_idle1 f N src n (i + 1) false 0 else if b = true then md_idle1 f N src n i true (j + 1) else if j = i then md_idle1 f N src n i false (j + 1) else if (md_takes N ((8 + (6 * src)) + j) ((8 + (6 * src)) + i)) = true then md_idle1 f N src n i true (j + 1) else md_idle1 f N src n i false (j + 1) := rfl
set_option maxHeartbeats 4000000 in
set_option maxRecDepth 100000 in
theorem mm_idle1 {X : sg_X} {l : Launch} {G : sg_G} {d : Nat} {M0 : sg_M} {x : Nat} {ad : Nat → Nat} {kr : Option Value → sg_M → Prop} {kx : String → sg_M → Prop} (htr : l.stackTraces = false) (hC : sg_C X l G cX7_idle RX7 6 (d + 4)) (hR : sg_R X yX7_idle kr kx (some .float)) : ∀ (f : Nat) (src : Nat) (n : Nat) (i : Nat) (b : Bool) (j : Nat) (N : Nat → Nat → Nat) {M : sg_M} (hI : md_I M0 M x ad N) (hf : (6 - i) * 7 + (6 - j) < f) (hs : src < 6) (hw : ∀ r, N 4 r ≤ 3) (hg : ∀ r, N 12 r ≤ 6) (hi : i < N 12 src) (hj : j ≤ N 12 src) (hn : n ≤ i) (hk : ∀ M', md_I M0 M' x ad (md_idle1 f N src n i b j).2 → kr (some (.float (md_idle1 f N src n i b j).1)) M'), sg_W X M 0 0 41 [some (.ref x), some (.int (nI src)), some (.int (nI n)), some (.int (nI i)), some (.int (md_b b)), some (.int (nI j))] [] := by
  intro f
  induction f with
  | zero =>
    intro src n i b j N M hI hf
    exact absurd hf (Nat.not_lt_zero _)
  | succ f ih =>
    intro src n i b j N M hI hf hs hw hg hi hj hn hk
    have hg0 := hg src
    refine sg_iload (pc := 41) (x := nI j) hC dX7_idle_41 rfl ?_
    refine sg_aload_n (pc := 43) (v := .ref x) hC dX7_idle_43 rfl rfl ?_
    refine md_get (pc := 44) (i := 12) hC (by decide) tw_1198 dX7_idle_44 hI rfl ?_
    refine sg_iload_n (pc := 47) (x := nI src) hC dX7_idle_47 rfl ?_
    refine md_iald (pc := 48) (i := 12) (j := src) hC dX7_idle_48 hI rfl (by first | omega | exact Nat.lt_of_le_of_lt Nat.and_le_left (by omega) | exact Nat.or_lt_two_pow (n := 16) (by omega) (by omega) | (simp [md_set, va_up]; done) | (simp [md_set, va_up]; omega) | exact Nat.or_lt_two_pow (n := 6) (by omega) (by omega) | (simp [md_put, md_set, va_up]; omega) | (simp [md_put, md_set, va_up]; done)) (by decide) (fun hv1 => ?_)
    show sg_W X M 0 0 49 [some (.ref x), some (.int (nI src)), some (.int (nI n)), some (.int (nI i)), some (.int (md_b b)), some (.int (nI j))] [.int (nI (N 12 src)), .int (nI j)]
    have hW2 := hg src
    refine sg_icmpN_ge (pc := 49) (a := j) (b := N 12 src) 102 hC dX7_idle_49 (by decide) (by first | omega | exact Nat.lt_of_le_of_lt Nat.and_le_left (by omega) | exact Nat.or_lt_two_pow (n := 16) (by omega) (by omega) | (simp [md_set, va_up]; done) | (simp [md_set, va_up]; omega) | exact Nat.or_lt_two_pow (n := 6) (by omega) (by omega) | (simp [md_put, md_set, va_up]; omega) | (simp [md_put, md_set, va_up]; done)) (by first | omega | exact Nat.lt_of_le_of_lt Nat.and_le_left (by omega) | exact Nat.or_lt_two_pow (n := 16) (by omega) (by omega) | (simp [md_set, va_up]; done) | (simp [md_set, va_up]; omega) | exact Nat.or_lt_two_pow (n := 6) (by omega) (by omega) | (simp [md_put, md_set, va_up]; omega) | (simp [md_put, md_set, va_up]; done)) (fun h3 => ?_) (fun h3 => ?_)
    · refine sg_iload (pc := 102) (x := md_b b) hC dX7_idle_102 rfl ?_
      refine sg_ifB_eq (pc := 104) (b := b) 113 hC dX7_idle_104 (by decide) (fun h4 => ?_) (fun h4 => ?_)
      · refine sg_iload_n (pc := 113) (x := nI n) hC dX7_idle_113 rfl ?_
        refine sg_istore_n (pc := 114) (x := nI n) hC dX7_idle_114 (by decide) ?_
        show sg_W X M 0 0 115 [some (.ref x), some (.int (nI src)), some (.int (nI n)), some (.int (nI i)), some (.int (md_b b)), some (.int (nI j))] []
        refine sg_iincN (pc := 115) (a := i) (b := i + 1) hC dX7_idle_115 rfl (nI_1 _) (by decide) ?_
        show sg_W X M 0 0 118 [some (.ref x), some (.int (nI src)), some (.int (nI n)), some (.int (nI (i + 1))), some (.int (md_b b)), some (.int (nI j))] []
        refine sg_goto (pc := 118) 25 hC dX7_idle_118 (by decide) ?_
        refine sg_iload_n (pc := 25) (x := nI (i + 1)) hC dX7_idle_25 rfl ?_
        refine sg_aload_n (pc := 26) (v := .ref x) hC dX7_idle_26 rfl rfl ?_
        refine md_get (pc := 27) (i := 12) hC (by decide) tw_1198 dX7_idle_27 hI rfl ?_
        refine sg_iload_n (pc := 30) (x := nI src) hC dX7_idle_30 rfl ?_
        refine md_iald (pc := 31) (i := 12) (j := src) hC dX7_idle_31 hI rfl (by first | omega | exact Nat.lt_of_le_of_lt Nat.and_le_left (by omega) | exact Nat.or_lt_two_pow (n := 16) (by omega) (by omega) | (simp [md_set, va_up]; done) | (simp [md_set, va_up]; omega) | exact Nat.or_lt_two_pow (n := 6) (by omega) (by omega) | (simp [md_put, md_set, va_up]; omega) | (simp [md_put, md_set, va_up]; done)) (by decide) (fun hv5 => ?_)
        show sg_W X M 0 0 32 [some (.ref x), some (.int (nI src)), some (.int (nI n)), some (.int (nI (i + 1))), some (.int (md_b b)), some (.int (nI j))] [.int (nI (N 12 src)), .int (nI (i + 1))]
        have hW6 := hg src
        refine sg_icmpN_ge (pc := 32) (a := i + 1) (b := N 12 src) 121 hC dX7_idle_32 (by decide) (by first | omega | exact Nat.lt_of_le_of_lt Nat.and_le_left (by omega) | exact Nat.or_lt_two_pow (n := 16) (by omega) (by omega) | (simp [md_set, va_up]; done) | (simp [md_set, va_up]; omega) | exact Nat.or_lt_two_pow (n := 6) (by omega) (by omega) | (simp [md_put, md_set, va_up]; omega) | (simp [md_put, md_set, va_up]; done)) (by first | omega | exact Nat.lt_of_le_of_lt Nat.and_le_left (by omega) | exact Nat.or_lt_two_pow (n := 16) (by omega) (by omega) | (simp [md_set, va_up]; done) | (simp [md_set, va_up]; omega) | exact Nat.or_lt_two_pow (n := 6) (by omega) (by omega) | (simp [md_put, md_set, va_up]; omega) | (simp [md_put, md_set, va_up]; done)) (fun h7 => ?_) (fun h7 => ?_)
        · refine sg_aload_n (pc := 121) (v := .ref x) hC dX7_idle_121 rfl rfl ?_
          refine md_get (pc := 122) (i := 12) hC (by decide) tw_1198 dX7_idle_122 hI rfl ?_
          refine sg_iload_n (pc := 125) (x := nI src) hC dX7_idle_125 rfl ?_
          refine md_iald (pc := 126) (i := 12) (j := src) hC dX7_idle_126 hI rfl (by first | omega | exact Nat.lt_of_le_of_lt Nat.and_le_left (by omega) | exact Nat.or_lt_two_pow (n := 16) (by omega) (by omega) | (simp [md_set, va_up]; done) | (simp [md_set, va_up]; omega) | exact Nat.or_lt_two_pow (n := 6) (by omega) (by omega) | (simp [md_put, md_set, va_up]; omega) | (simp [md_put, md_set, va_up]; done)) (by decide) (fun hv8 => ?_)
          show sg_W X M 0 0 127 [some (.ref x), some (.int (nI src)), some (.int (nI n)), some (.int (nI (i + 1))), some (.int (md_b b)), some (.int (nI j))] [.int (nI (N 12 src))]
          have hW9 := hg src
          refine sg_ifN_ne (pc := 127) (a := N 12 src) 132 hC dX7_idle_127 (by decide) (by first | omega | exact Nat.lt_of_le_of_lt Nat.and_le_left (by omega) | exact Nat.or_lt_two_pow (n := 16) (by omega) (by omega) | (simp [md_set, va_up]; done) | (simp [md_set, va_up]; omega) | exact Nat.or_lt_two_pow (n := 6) (by omega) (by omega) | (simp [md_put, md_set, va_up]; omega) | (simp [md_put, md_set, va_up]; done)) (fun h10 => ?_) (fun h10 => ?_)
          · refine sg_iload_n (pc := 132) (x := nI n) hC dX7_idle_132 rfl ?_
            refine sg_i2f (pc := 133) (x := nI n) hC dX7_idle_133 ?_
            refine sg_fstore_n (pc := 134) (x := FP.i2f (nI n)) hC dX7_idle_134 (by decide) ?_
            show sg_W X M 0 0 135 [some (.ref x), some (.int (nI src)), some (.int (nI n)), some (.float (FP.i2f (nI n))), some (.int (md_b b)), some (.int (nI j))] []
            refine sg_aload_n (pc := 135) (v := .ref x) hC dX7_idle_135 rfl rfl ?_
            refine md_get (pc := 136) (i := 12) hC (by decide) tw_1198 dX7_idle_136 hI rfl ?_
            refine sg_iload_n (pc := 139) (x := nI src) hC dX7_idle_139 rfl ?_
            refine md_iald (pc := 140) (i := 12) (j := src) hC dX7_idle_140 hI rfl (by first | omega | exact Nat.lt_of_le_of_lt Nat.and_le_left (by omega) | exact Nat.or_lt_two_pow (n := 16) (by omega) (by omega) | (simp [md_set, va_up]; done) | (simp [md_set, va_up]; omega) | exact Nat.or_lt_two_pow (n := 6) (by omega) (by omega) | (simp [md_put, md_set, va_up]; omega) | (simp [md_put, md_set, va_up]; done)) (by decide) (fun hv11 => ?_)
            show sg_W X M 0 0 141 [some (.ref x), some (.int (nI src)), some (.int (nI n)), some (.float (FP.i2f (nI n))), some (.int (md_b b)), some (.int (nI j))] [.int (nI (N 12 src))]
            have hW12 := hg src
            refine sg_i2f (pc := 141) (x := nI (N 12 src)) hC dX7_idle_141 ?_
            refine sg_fstore (pc := 142) (x := FP.i2f (nI (N 12 src))) hC dX7_idle_142 (by decide) ?_
            show sg_W X M 0 0 144 [some (.ref x), some (.int (nI src)), some (.int (nI n)), some (.float (FP.i2f (nI n))), some (.float (FP.i2f (nI (N 12 src)))), some (.int (nI j))] []
            refine sg_fload_n (pc := 144) (x := FP.i2f (nI n)) hC dX7_idle_144 rfl ?_
            refine sg_fload (pc := 145) (x := FP.i2f (nI (N 12 src))) hC dX7_idle_145 rfl ?_
            refine sg_fdiv (pc := 147) (x := FP.i2f (nI n)) (y := FP.i2f (nI (N 12 src))) hC dX7_idle_147 (md_fdivok (by omega) (by omega) (by omega)) ?_
            have e9 : md_idle1 (f + 1) N src n i b j = (FP.fdiv (FP.i2f (nI n)) (FP.i2f (nI (N 12 src))), N) := by rw [md_idle1_s]; simp only [if_pos h3, if_neg (ts9 h4), if_pos h7, if_neg h10]
            rw [e9] at hk
            exact sg_freturn (st := []) (v := FP.fdiv (FP.i2f (nI n)) (FP.i2f (nI (N 12 src)))) (pc := 148) hC hR dX7_idle_148 (hk M hI)
          · refine sg_fconst0 (pc := 130) hC dX7_idle_130 ?_
            have e9 : md_idle1 (f + 1) N src n i b j = (0, N) := by rw [md_idle1_s]; simp only [if_pos h3, if_neg (ts9 h4), if_pos h7, if_pos h10]
            rw [e9] at hk
            exact sg_freturn (st := []) (v := 0) (pc := 131) hC hR dX7_idle_131 (hk M hI)
        · refine sg_iconst (pc := 35) (nI 0) hC dX7_idle_35 (by decide) ?_
          refine sg_istore (pc := 36) (x := nI 0) hC dX7_idle_36 (by decide) ?_
          show sg_W X M 0 0 38 [some (.ref x), some (.int (nI src)), some (.int (nI n)), some (.int (nI (i + 1))), some (.int (nI 0)), some (.int (nI j))] []
          refine sg_iconst (pc := 38) (nI 0) hC dX7_idle_38 (by decide) ?_
          refine sg_istore (pc := 39) (x := nI 0) hC dX7_idle_39 (by decide) ?_
          show sg_W X M 0 0 41 [some (.ref x), some (.int (nI src)), some (.int (nI n)), some (.int (nI (i + 1))), some (.int (nI 0)), some (.int (nI 0))] []
          have e9 : md_idle1 (f + 1) N src n i b j = md_idle1 f N src n (i + 1) false 0 := by rw [md_idle1_s]; simp only [if_pos h3, if_neg (ts9 h4), if_neg (Nat.not_le.mpr h7)]
          rw [e9] at hk
          refine sg_loc (L' := [some (.ref x), some (.int (nI src)), some (.int (nI n)), some (.int (nI ((i + 1)))), some (.int (md_b false)), some (.int (nI 0))]) ⟨rfl, ⟨rfl, ⟨rfl, ⟨rfl, ⟨rfl, ⟨rfl, trivial⟩⟩⟩⟩⟩⟩ ?_
          exact ih src n (i + 1) false 0 _ hI (by first | omega | exact Nat.lt_of_le_of_lt Nat.and_le_left (by omega) | exact Nat.or_lt_two_pow (n := 16) (by omega) (by omega) | (simp [md_set, va_up]; done) | (simp [md_set, va_up]; omega) | exact Nat.or_lt_two_pow (n := 6) (by omega) (by omega) | (simp [md_put, md_set, va_up]; omega) | (simp [md_put, md_set, va_up]; done)) (by first | omega | exact Nat.lt_of_le_of_lt Nat.and_le_left (by omega) | exact Nat.or_lt_two_pow (n := 16) (by omega) (by omega) | (simp [md_set, va_up]; done) | (simp [md_set, va_up]; omega) | exact Nat.or_lt_two_pow (n := 6) (by omega) (by omega) | (simp [md_put, md_set, va_up]; omega) | (simp [md_put, md_set, va_up]; done)) hw hg (by first | omega | exact Nat.lt_of_le_of_lt Nat.and_le_left (by omega) | exact Nat.or_lt_two_pow (n := 16) (by omega) (by omega) | (simp [md_set, va_up]; done) | (simp [md_set, va_up]; omega) | exact Nat.or_lt_two_pow (n := 6) (by omega) (by omega) | (simp [md_put, md_set, va_up]; omega) | (simp [md_put, md_set, va_up]; done)) (by first | omega | exact Nat.lt_of_le_of_lt Nat.and_le_left (by omega) | exact Nat.or_lt_two_pow (n := 16) (by omega) (by omega) | (simp [md_set, va_up]; done) | (simp [md_set, va_up]; omega) | exact Nat.or_lt_two_pow (n := 6) (by omega) (by omega) | (simp [md_put, md_set, va_up]; omega) | (simp [md_put, md_set, va_up]; done)) (by first | omega | exact Nat.lt_of_le_of_lt Nat.and_le_left (by omega) | exact Nat.or_lt_two_pow (n := 16) (by omega) (by omega) | (simp [md_set, va_up]; done) | (simp [md_set, va_up]; omega) | exact Nat.or_lt_two_pow (n := 6) (by omega) (by omega) | (simp [md_put, md_set, va_up]; omega) | (simp [md_put, md_set, va_up]; done)) hk
      · refine sg_iload_n (pc := 107) (x := nI n) hC dX7_idle_107 rfl ?_
        refine sg_iconst (pc := 108) (nI 1) hC dX7_idle_108 (by decide) ?_
        refine sg_iaddN (pc := 109) (a := n) (b := 1) hC dX7_idle_109 ?_
        refine sg_goto (pc := 110) 114 hC dX7_idle_110 (by decide) ?_
        refine sg_istore_n (pc := 114) (x := nI (n + 1)) hC dX7_idle_114 (by decide) ?_
        show sg_W X M 0 0 115 [some (.ref x), some (.int (nI src)), some (.int (nI (n + 1))), some (.int (nI i)), some (.int (md_b b)), some (.int (nI j))] []
        refine sg_iincN (pc := 115) (a := i) (b := i + 1) hC dX7_idle_115 rfl (nI_1 _) (by decide) ?_
        show sg_W X M 0 0 118 [some (.ref x), some (.int (nI src)), some (.int (nI (n + 1))), some (.int (nI (i + 1))), some (.int (md_b b)), some (.int (nI j))] []
        refine sg_goto (pc := 118) 25 hC dX7_idle_118 (by decide) ?_
        refine sg_iload_n (pc := 25) (x := nI (i + 1)) hC dX7_idle_25 rfl ?_
        refine sg_aload_n (pc := 26) (v := .ref x) hC dX7_idle_26 rfl rfl ?_
        refine md_get (pc := 27) (i := 12) hC (by decide) tw_1198 dX7_idle_27 hI rfl ?_
        refine sg_iload_n (pc := 30) (x := nI src) hC dX7_idle_30 rfl ?_
        refine md_iald (pc := 31) (i := 12) (j := src) hC dX7_idle_31 hI rfl (by first | omega | exact Nat.lt_of_le_of_lt Nat.and_le_left (by omega) | exact Nat.or_lt_two_pow (n := 16) (by omega) (by omega) | (simp [md_set, va_up]; done) | (simp [md_set, va_up]; omega) | exact Nat.or_lt_two_pow (n := 6) (by omega) (by omega) | (simp [md_put, md_set, va_up]; omega) | (simp [md_put, md_set, va_up]; done)) (by decide) (fun hv13 => ?_)
        show sg_W X M 0 0 32 [some (.ref x), some (.int (nI src)), some (.int (nI (n + 1))), some (.int (nI (i + 1))), some (.int (md_b b)), some (.int (nI j))] [.int (nI (N 12 src)), .int (nI (i + 1))]
        have hW14 := hg src
        refine sg_icmpN_ge (pc := 32) (a := i + 1) (b := N 12 src) 121 hC dX7_idle_32 (by decide) (by first | omega | exact Nat.lt_of_le_of_lt Nat.and_le_left (by omega) | exact Nat.or_lt_two_pow (n := 16) (by omega) (by omega) | (simp [md_set, va_up]; done) | (simp [md_set, va_up]; omega) | exact Nat.or_lt_two_pow (n := 6) (by omega) (by omega) | (simp [md_put, md_set, va_up]; omega) | (simp [md_put, md_set, va_up]; done)) (by first | omega | exact Nat.lt_of_le_of_lt Nat.and_le_left (by omega) | exact Nat.or_lt_two_pow (n := 16) (by omega) (by omega) | (simp [md_set, va_up]; done) | (simp [md_set, va_up]; omega) | exact Nat.or_lt_two_pow (n := 6) (by omega) (by omega) | (simp [md_put, md_set, va_up]; omega) | (simp [md_put, md_set, va_up]; done)) (fun h15 => ?_) (fun h15 => ?_)
        · refine sg_aload_n (pc := 121) (v := .ref x) hC dX7_idle_121 rfl rfl ?_
          refine md_get (pc := 122) (i := 12) hC (by decide) tw_1198 dX7_idle_122 hI rfl ?_
          refine sg_iload_n (pc := 125) (x := nI src) hC dX7_idle_125 rfl ?_
          refine md_iald (pc := 126) (i := 12) (j := src) hC dX7_idle_126 hI rfl (by first | omega | exact Nat.lt_of_le_of_lt Nat.and_le_left (by omega) | exact Nat.or_lt_two_pow (n := 16) (by omega) (by omega) | (simp [md_set, va_up]; done) | (simp [md_set, va_up]; omega) | exact Nat.or_lt_two_pow (n := 6) (by omega) (by omega) | (simp [md_put, md_set, va_up]; omega) | (simp [md_put, md_set, va_up]; done)) (by decide) (fun hv16 => ?_)
          show sg_W X M 0 0 127 [some (.ref x), some (.int (nI src)), some (.int (nI (n + 1))), some (.int (nI (i + 1))), some (.int (md_b b)), some (.int (nI j))] [.int (nI (N 12 src))]
          have hW17 := hg src
          refine sg_ifN_ne (pc := 127) (a := N 12 src) 132 hC dX7_idle_127 (by decide) (by first | omega | exact Nat.lt_of_le_of_lt Nat.and_le_left (by omega) | exact Nat.or_lt_two_pow (n := 16) (by omega) (by omega) | (simp [md_set, va_up]; done) | (simp [md_set, va_up]; omega) | exact Nat.or_lt_two_pow (n := 6) (by omega) (by omega) | (simp [md_put, md_set, va_up]; omega) | (simp [md_put, md_set, va_up]; done)) (fun h18 => ?_) (fun h18 => ?_)
          · refine sg_iload_n (pc := 132) (x := nI (n + 1)) hC dX7_idle_132 rfl ?_
            refine sg_i2f (pc := 133) (x := nI (n + 1)) hC dX7_idle_133 ?_
            refine sg_fstore_n (pc := 134) (x := FP.i2f (nI (n + 1))) hC dX7_idle_134 (by decide) ?_
            show sg_W X M 0 0 135 [some (.ref x), some (.int (nI src)), some (.int (nI (n + 1))), some (.float (FP.i2f (nI (n + 1)))), some (.int (md_b b)), some (.int (nI j))] []
            refine sg_aload_n (pc := 135) (v := .ref x) hC dX7_idle_135 rfl rfl ?_
            refine md_get (pc := 136) (i := 12) hC (by decide) tw_1198 dX7_idle_136 hI rfl ?_
            refine sg_iload_n (pc := 139) (x := nI src) hC dX7_idle_139 rfl ?_
            refine md_iald (pc := 140) (i := 12) (j := src) hC dX7_idle_140 hI rfl (by first | omega | exact Nat.lt_of_le_of_lt Nat.and_le_left (by omega) | exact Nat.or_lt_two_pow (n := 16) (by omega) (by omega) | (simp [md_set, va_up]; done) | (simp [md_set, va_up]; omega) | exact Nat.or_lt_two_pow (n := 6) (by omega) (by omega) | (simp [md_put, md_set, va_up]; omega) | (simp [md_put, md_set, va_up]; done)) (by decide) (fun hv19 => ?_)
            show sg_W X M 0 0 141 [some (.ref x), some (.int (nI src)), some (.int (nI (n + 1))), some (.float (FP.i2f (nI (n + 1)))), some (.int (md_b b)), some (.int (nI j))] [.int (nI (N 12 src))]
            have hW20 := hg src
            refine sg_i2f (pc := 141) (x := nI (N 12 src)) hC dX7_idle_141 ?_
            refine sg_fstore (pc := 142) (x := FP.i2f (nI (N 12 src))) hC dX7_idle_142 (by decide) ?_
            show sg_W X M 0 0 144 [some (.ref x), some (.int (nI src)), some (.int (nI (n + 1))), some (.float (FP.i2f (nI (n + 1)))), some (.float (FP.i2f (nI (N 12 src)))), some (.int (nI j))] []
            refine sg_fload_n (pc := 144) (x := FP.i2f (nI (n + 1))) hC dX7_idle_144 rfl ?_
            refine sg_fload (pc := 145) (x := FP.i2f (nI (N 12 src))) hC dX7_idle_145 rfl ?_
            refine sg_fdiv (pc := 147) (x := FP.i2f (nI (n + 1))) (y := FP.i2f (nI (N 12 src))) hC dX7_idle_147 (md_fdivok (by omega) (by omega) (by omega)) ?_
            have e9 : md_idle1 (f + 1) N src n i b j = (FP.fdiv (FP.i2f (nI (n + 1))) (FP.i2f (nI (N 12 src))), N) := by rw [md_idle1_s]; simp only [if_pos h3, if_pos h4, if_pos h15, if_neg h18]
            rw [e9] at hk
            exact sg_freturn (st := []) (v := FP.fdiv (FP.i2f (nI (n + 1))) (FP.i2f (nI (N 12 src)))) (pc := 148) hC hR dX7_idle_148 (hk M hI)
          · refine sg_fconst0 (pc := 130) hC dX7_idle_130 ?_
            have e9 : md_idle1 (f + 1) N src n i b j = (0, N) := by rw [md_idle1_s]; simp only [if_pos h3, if_pos h4, if_pos h15, if_pos h18]
            rw [e9] at hk
            exact sg_freturn (st := []) (v := 0) (pc := 131) hC hR dX7_idle_131 (hk M hI)
        · refine sg_iconst (pc := 35) (nI 0) hC dX7_idle_35 (by decide) ?_
          refine sg_istore (pc := 36) (x := nI 0) hC dX7_idle_36 (by decide) ?_
          show sg_W X M 0 0 38 [some (.ref x), some (.int (nI src)), some (.int (nI (n + 1))), some (.int (nI (i + 1))), some (.int (nI 0)), some (.int (nI j))] []
          refine sg_iconst (pc := 38) (nI 0) hC dX7_idle_38 (by decide) ?_
          refine sg_istore (pc := 39) (x := nI 0) hC dX7_idle_39 (by decide) ?_
          show sg_W X M 0 0 41 [some (.ref x), some (.int (nI src)), some (.int (nI (n + 1))), some (.int (nI (i + 1))), some (.int (nI 0)), some (.int (nI 0))] []
          have e9 : md_idle1 (f + 1) N src n i b j = md_idle1 f N src (n + 1) (i + 1) false 0 := by rw [md_idle1_s]; simp only [if_pos h3, if_pos h4, if_neg (Nat.not_le.mpr h15)]
          rw [e9] at hk
          refine sg_loc (L' := [some (.ref x), some (.int (nI src)), some (.int (nI ((n + 1)))), some (.int (nI ((i + 1)))), some (.int (md_b false)), some (.int (nI 0))]) ⟨rfl, ⟨rfl, ⟨rfl, ⟨rfl, ⟨rfl, ⟨rfl, trivial⟩⟩⟩⟩⟩⟩ ?_
          exact ih src (n + 1) (i + 1) false 0 _ hI (by first | omega | exact Nat.lt_of_le_of_lt Nat.and_le_left (by omega) | exact Nat.or_lt_two_pow (n := 16) (by omega) (by omega) | (simp [md_set, va_up]; done) | (simp [md_set, va_up]; omega) | exact Nat.or_lt_two_pow (n := 6) (by omega) (by omega) | (simp [md_put, md_set, va_up]; omega) | (simp [md_put, md_set, va_up]; done)) (by first | omega | exact Nat.lt_of_le_of_lt Nat.and_le_left (by omega) | exact Nat.or_lt_two_pow (n := 16) (by omega) (by omega) | (simp [md_set, va_up]; done) | (simp [md_set, va_up]; omega) | exact Nat.or_lt_two_pow (n := 6) (by omega) (by omega) | (simp [md_put, md_set, va_up]; omega) | (simp [md_put, md_set, va_up]; done)) hw hg (by first | omega | exact Nat.lt_of_le_of_lt Nat.and_le_left (by omega) | exact Nat.or_lt_two_pow (n := 16) (by omega) (by omega) | (simp [md_set, va_up]; done) | (simp [md_set, va_up]; omega) | exact Nat.or_lt_two_pow (n := 6) (by omega) (by omega) | (simp [md_put, md_set, va_up]; omega) | (simp [md_put, md_set, va_up]; done)) (by first | omega | exact Nat.lt_of_le_of_lt Nat.and_le_left (by omega) | exact Nat.or_lt_two_pow (n := 16) (by omega) (by omega) | (simp [md_set, va_up]; done) | (simp [md_set, va_up]; omega) | exact Nat.or_lt_two_pow (n := 6) (by omega) (by omega) | (simp [md_put, md_set, va_up]; omega) | (simp [md_put, md_set, va_up]; done)) (by first | omega | exact Nat.lt_of_le_of_lt Nat.and_le_left (by omega) | exact Nat.or_lt_two_pow (n := 16) (by omega) (by omega) | (simp [md_set, va_up]; done) | (simp [md_set, va_up]; omega) | exact Nat.or_lt_two_pow (n := 6) (by omega) (by omega) | (simp [md_put, md_set, va_up]; omega) | (simp [md_put, md_set, va_up]; done)) hk
    · refine sg_iload (pc := 52) (x := md_b b) hC dX7_idle_52 rfl ?_
      refine sg_ifB_ne (pc := 54) (b := b) 89 hC dX7_idle_54 (by decide) (fun h21 => ?_) (fun h21 => ?_)
      · refine sg_iconst (pc := 89) (nI 1) hC dX7_idle_89 (by decide) ?_
        refine sg_goto (pc := 90) 94 hC dX7_idle_90 (by decide) ?_
        refine sg_istore (pc := 94) (x := nI 1) hC dX7_idle_94 (by decide) ?_
        show sg_W X M 0 0 96 [some (.ref x), some (.int (nI src)), some (.int (nI n)), some (.int (nI i)), some (.int (nI 1)), some (.int (nI j))] []
        refine sg_iincN (pc := 96) (a := j) (b := j + 1) hC dX7_idle_96 rfl (nI_1 _) (by decide) ?_
        show sg_W X M 0 0 99 [some (.ref x), some (.int (nI src)), some (.int (nI n)), some (.int (nI i)), some (.int (nI 1)), some (.int (nI (j + 1)))] []
        refine sg_goto (pc := 99) 41 hC dX7_idle_99 (by decide) ?_
        have e9 : md_idle1 (f + 1) N src n i b j = md_idle1 f N src n i true (j + 1) := by rw [md_idle1_s]; simp only [if_neg (Nat.not_le.mpr h3), if_pos h21]
        rw [e9] at hk
        refine sg_loc (L' := [some (.ref x), some (.int (nI src)), some (.int (nI n)), some (.int (nI i)), some (.int (md_b true)), some (.int (nI ((j + 1))))]) ⟨rfl, ⟨rfl, ⟨rfl, ⟨rfl, ⟨rfl, ⟨rfl, trivial⟩⟩⟩⟩⟩⟩ ?_
        exact ih src n i true (j + 1) _ hI (by first | omega | exact Nat.lt_of_le_of_lt Nat.and_le_left (by omega) | exact Nat.or_lt_two_pow (n := 16) (by omega) (by omega) | (simp [md_set, va_up]; done) | (simp [md_set, va_up]; omega) | exact Nat.or_lt_two_pow (n := 6) (by omega) (by omega) | (simp [md_put, md_set, va_up]; omega) | (simp [md_put, md_set, va_up]; done)) (by first | omega | exact Nat.lt_of_le_of_lt Nat.and_le_left (by omega) | exact Nat.or_lt_two_pow (n := 16) (by omega) (by omega) | (simp [md_set, va_up]; done) | (simp [md_set, va_up]; omega) | exact Nat.or_lt_two_pow (n := 6) (by omega) (by omega) | (simp [md_put, md_set, va_up]; omega) | (simp [md_put, md_set, va_up]; done)) hw hg (by first | omega | exact Nat.lt_of_le_of_lt Nat.and_le_left (by omega) | exact Nat.or_lt_two_pow (n := 16) (by omega) (by omega) | (simp [md_set, va_up]; done) | (simp [md_set, va_up]; omega) | exact Nat.or_lt_two_pow (n := 6) (by omega) (by omega) | (simp [md_put, md_set, va_up]; omega) | (simp [md_put, md_set, va_up]; done)) (by first | omega | exact Nat.lt_of_le_of_lt Nat.and_le_left (by omega) | exact Nat.or_lt_two_pow (n := 16) (by omega) (by omega) | (simp [md_set, va_up]; done) | (simp [md_set, va_up]; omega) | exact Nat.or_lt_two_pow (n := 6) (by omega) (by omega) | (simp [md_put, md_set, va_up]; omega) | (simp [md_put, md_set, va_up]; done)) (by first | omega | exact Nat.lt_of_le_of_lt Nat.and_le_left (by omega) | exact Nat.or_lt_two_pow (n := 16) (by omega) (by omega) | (simp [md_set, va_up]; done) | (simp [md_set, va_up]; omega) | exact Nat.or_lt_two_pow (n := 6) (by omega) (by omega) | (simp [md_put, md_set, va_up]; omega) | (simp [md_put, md_set, va_up]; done)) hk
      · refine sg_iload (pc := 57) (x := nI j) hC dX7_idle_57 rfl ?_
        refine sg_iload_n (pc := 59) (x := nI i) hC dX7_idle_59 rfl ?_
        refine sg_icmpN_eq (pc := 60) (a := j) (b := i) 93 hC dX7_idle_60 (by decide) (by first | omega | exact Nat.lt_of_le_of_lt Nat.and_le_left (by omega) | exact Nat.or_lt_two_pow (n := 16) (by omega) (by omega) | (simp [md_set, va_up]; done) | (simp [md_set, va_up]; omega) | exact Nat.or_lt_two_pow (n := 6) (by omega) (by omega) | (simp [md_put, md_set, va_up]; omega) | (simp [md_put, md_set, va_up]; done)) (by first | omega | exact Nat.lt_of_le_of_lt Nat.and_le_left (by omega) | exact Nat.or_lt_two_pow (n := 16) (by omega) (by omega) | (simp [md_set, va_up]; done) | (simp [md_set, va_up]; omega) | exact Nat.or_lt_two_pow (n := 6) (by omega) (by omega) | (simp [md_put, md_set, va_up]; omega) | (simp [md_put, md_set, va_up]; done)) (fun h22 => ?_) (fun h22 => ?_)
        · refine sg_iconst (pc := 93) (nI 0) hC dX7_idle_93 (by decide) ?_
          refine sg_istore (pc := 94) (x := nI 0) hC dX7_idle_94 (by decide) ?_
          show sg_W X M 0 0 96 [some (.ref x), some (.int (nI src)), some (.int (nI n)), some (.int (nI i)), some (.int (nI 0)), some (.int (nI j))] []
          refine sg_iincN (pc := 96) (a := j) (b := j + 1) hC dX7_idle_96 rfl (nI_1 _) (by decide) ?_
          show sg_W X M 0 0 99 [some (.ref x), some (.int (nI src)), some (.int (nI n)), some (.int (nI i)), some (.int (nI 0)), some (.int (nI (j + 1)))] []
          refine sg_goto (pc := 99) 41 hC dX7_idle_99 (by decide) ?_
          have e9 : md_idle1 (f + 1) N src n i b j = md_idle1 f N src n i false (j + 1) := by rw [md_idle1_s]; simp only [if_neg (Nat.not_le.mpr h3), if_neg (ts9 h21), if_pos h22]
          rw [e9] at hk
          refine sg_loc (L' := [some (.ref x), some (.int (nI src)), some (.int (nI n)), some (.int (nI i)), some (.int (md_b false)), some (.int (nI ((j + 1))))]) ⟨rfl, ⟨rfl, ⟨rfl, ⟨rfl, ⟨rfl, ⟨rfl, trivial⟩⟩⟩⟩⟩⟩ ?_
          exact ih src n i false (j + 1) _ hI (by first | omega | exact Nat.lt_of_le_of_lt Nat.and_le_left (by omega) | exact Nat.or_lt_two_pow (n := 16) (by omega) (by omega) | (simp [md_set, va_up]; done) | (simp [md_set, va_up]; omega) | exact Nat.or_lt_two_pow (n := 6) (by omega) (by omega) | (simp [md_put, md_set, va_up]; omega) | (simp [md_put, md_set, va_up]; done)) (by first | omega | exact Nat.lt_of_le_of_lt Nat.and_le_left (by omega) | exact Nat.or_lt_two_pow (n := 16) (by omega) (by omega) | (simp [md_set, va_up]; done) | (simp [md_set, va_up]; omega) | exact Nat.or_lt_two_pow (n := 6) (by omega) (by omega) | (simp [md_put, md_set, va_up]; omega) | (simp [md_put, md_set, va_up]; done)) hw hg (by first | omega | exact Nat.lt_of_le_of_lt Nat.and_le_left (by omega) | exact Nat.or_lt_two_pow (n := 16) (by omega) (by omega) | (simp [md_set, va_up]; done) | (simp [md_set, va_up]; omega) | exact Nat.or_lt_two_pow (n := 6) (by omega) (by omega) | (simp [md_put, md_set, va_up]; omega) | (simp [md_put, md_set, va_up]; done)) (by first | omega | exact Nat.lt_of_le_of_lt Nat.and_le_left (by omega) | exact Nat.or_lt_two_pow (n := 16) (by omega) (by omega) | (simp [md_set, va_up]; done) | (simp [md_set, va_up]; omega) | exact Nat.or_lt_two_pow (n := 6) (by omega) (by omega) | (simp [md_put, md_set, va_up]; omega) | (simp [md_put, md_set, va_up]; done)) (by first | omega | exact Nat.lt_of_le_of_lt Nat.and_le_left (by omega) | exact Nat.or_lt_two_pow (n := 16) (by omega) (by omega) | (simp [md_set, va_up]; done) | (simp [md_set, va_up]; omega) | exact Nat.or_lt_two_pow (n := 6) (by omega) (by omega) | (simp [md_put, md_set, va_up]; omega) | (simp [md_put, md_set, va_up]; done)) hk
        · refine sg_aload_n (pc := 63) (v := .ref x) hC dX7_idle_63 rfl rfl ?_
          refine sg_bipush (pc := 64) (nI 8) hC dX7_idle_64 (by decide) ?_
          refine sg_bipush (pc := 66) (nI 6) hC dX7_idle_66 (by decide) ?_
          refine sg_iload_n (pc := 68) (x := nI src) hC dX7_idle_68 rfl ?_
          refine sg_imulN (pc := 69) (a := 6) (b := src) hC dX7_idle_69 ?_
          refine sg_iaddN (pc := 70) (a := 8) (b := 6 * src) hC dX7_idle_70 ?_
          refine sg_iload (pc := 71) (x := nI j) hC dX7_idle_71 rfl ?_
          refine sg_iaddN (pc := 73) (a := 8 + (6 * src)) (b := j) hC dX7_idle_73 ?_
          refine sg_bipush (pc := 74) (nI 8) hC dX7_idle_74 (by decide) ?_
          refine sg_bipush (pc := 76) (nI 6) hC dX7_idle_76 (by decide) ?_
          refine sg_iload_n (pc := 78) (x := nI src) hC dX7_idle_78 rfl ?_
          refine sg_imulN (pc := 79) (a := 6) (b := src) hC dX7_idle_79 ?_
          refine sg_iaddN (pc := 80) (a := 8) (b := 6 * src) hC dX7_idle_80 ?_
          refine sg_iload_n (pc := 81) (x := nI i) hC dX7_idle_81 rfl ?_
          refine sg_iaddN (pc := 82) (a := 8 + (6 * src)) (b := i) hC dX7_idle_82 ?_
          refine sg_callV (pc := 83) (As := [.int (nI ((8 + (6 * src)) + j)), .int (nI ((8 + (6 * src)) + i))]) (rest := []) (mc := 0) (ms := 0) hC tw_1357 tw_1359 tw_49 tw_72 tw_1360 yd_X7_takes (by decide) (ci := 10) rfl dX7_idle_83 hI.x rfl (Nat.le_of_ble_eq_true rfl) (Nat.zero_le _) (Nat.zero_le _) ?_
          refine mm_takes htr hI ((8 + (6 * src)) + j) ((8 + (6 * src)) + i) (by first | omega | exact Nat.lt_of_le_of_lt Nat.and_le_left (by omega) | exact Nat.or_lt_two_pow (n := 16) (by omega) (by omega) | (simp [md_set, va_up]; done) | (simp [md_set, va_up]; omega) | exact Nat.or_lt_two_pow (n := 6) (by omega) (by omega) | (simp [md_put, md_set, va_up]; omega) | (simp [md_put, md_set, va_up]; done)) (by first | omega | exact Nat.lt_of_le_of_lt Nat.and_le_left (by omega) | exact Nat.or_lt_two_pow (n := 16) (by omega) (by omega) | (simp [md_set, va_up]; done) | (simp [md_set, va_up]; omega) | exact Nat.or_lt_two_pow (n := 6) (by omega) (by omega) | (simp [md_put, md_set, va_up]; omega) | (simp [md_put, md_set, va_up]; done)) hw ?_
          show sg_W X M 0 0 86 [some (.ref x), some (.int (nI src)), some (.int (nI n)), some (.int (nI i)), some (.int (md_b b)), some (.int (nI j))] [.int (md_b ((md_takes N ((8 + (6 * src)) + j) ((8 + (6 * src)) + i))))]
          refine sg_ifB_eq (pc := 86) (b := (md_takes N ((8 + (6 * src)) + j) ((8 + (6 * src)) + i))) 93 hC dX7_idle_86 (by decide) (fun h23 => ?_) (fun h23 => ?_)
          · refine sg_iconst (pc := 93) (nI 0) hC dX7_idle_93 (by decide) ?_
            refine sg_istore (pc := 94) (x := nI 0) hC dX7_idle_94 (by decide) ?_
            show sg_W X M 0 0 96 [some (.ref x), some (.int (nI src)), some (.int (nI n)), some (.int (nI i)), some (.int (nI 0)), some (.int (nI j))] []
            refine sg_iincN (pc := 96) (a := j) (b := j + 1) hC dX7_idle_96 rfl (nI_1 _) (by decide) ?_
            show sg_W X M 0 0 99 [some (.ref x), some (.int (nI src)), some (.int (nI n)), some (.int (nI i)), some (.int (nI 0)), some (.int (nI (j + 1)))] []
            refine sg_goto (pc := 99) 41 hC dX7_idle_99 (by decide) ?_
            have e9 : md_idle1 (f + 1) N src n i b j = md_idle1 f N src n i false (j + 1) := by rw [md_idle1_s]; simp only [if_neg (Nat.not_le.mpr h3), if_neg (ts9 h21), if_neg h22, if_neg (ts9 h23)]
            rw [e9] at hk
            refine sg_loc (L' := [some (.ref x), some (.int (nI src)), some (.int (nI n)), some (.int (nI i)), some (.int (md_b false)), some (.int (nI ((j + 1))))]) ⟨rfl, ⟨rfl, ⟨rfl, ⟨rfl, ⟨rfl, ⟨rfl, trivial⟩⟩⟩⟩⟩⟩ ?_
            exact ih src n i false (j + 1) _ hI (by first | omega | exact Nat.lt_of_le_of_lt Nat.and_le_left (by omega) | exact Nat.or_lt_two_pow (n := 16) (by omega) (by omega) | (simp [md_set, va_up]; done) | (simp [md_set, va_up]; omega) | exact Nat.or_lt_two_pow (n := 6) (by omega) (by omega) | (simp [md_put, md_set, va_up]; omega) | (simp [md_put, md_set, va_up]; done)) (by first | omega | exact Nat.lt_of_le_of_lt Nat.and_le_left (by omega) | exact Nat.or_lt_two_pow (n := 16) (by omega) (by omega) | (simp [md_set, va_up]; done) | (simp [md_set, va_up]; omega) | exact Nat.or_lt_two_pow (n := 6) (by omega) (by omega) | (simp [md_put, md_set, va_up]; omega) | (simp [md_put, md_set, va_up]; done)) hw hg (by first | omega | exact Nat.lt_of_le_of_lt Nat.and_le_left (by omega) | exact Nat.or_lt_two_pow (n := 16) (by omega) (by omega) | (simp [md_set, va_up]; done) | (simp [md_set, va_up]; omega) | exact Nat.or_lt_two_pow (n := 6) (by omega) (by omega) | (simp [md_put, md_set, va_up]; omega) | (simp [md_put, md_set, va_up]; done)) (by first | omega | exact Nat.lt_of_le_of_lt Nat.and_le_left (by omega) | exact Nat.or_lt_two_pow (n := 16) (by omega) (by omega) | (simp [md_set, va_up]; done) | (simp [md_set, va_up]; omega) | exact Nat.or_lt_two_pow (n := 6) (by omega) (by omega) | (simp [md_put, md_set, va_up]; omega) | (simp [md_put, md_set, va_up]; done)) (by first | omega | exact Nat.lt_of_le_of_lt Nat.and_le_left (by omega) | exact Nat.or_lt_two_pow (n := 16) (by omega) (by omega) | (simp [md_set, va_up]; done) | (simp [md_set, va_up]; omega) | exact Nat.or_lt_two_pow (n := 6) (by omega) (by omega) | (simp [md_put, md_set, va_up]; omega) | (simp [md_put, md_set, va_up]; done)) hk
          · refine sg_iconst (pc := 89) (nI 1) hC dX7_idle_89 (by decide) ?_
            refine sg_goto (pc := 90) 94 hC dX7_idle_90 (by decide) ?_
            refine sg_istore (pc := 94) (x := nI 1) hC dX7_idle_94 (by decide) ?_
            show sg_W X M 0 0 96 [some (.ref x), some (.int (nI src)), some (.int (nI n)), some (.int (nI i)), some (.int (nI 1)), some (.int (nI j))] []
            refine sg_iincN (pc := 96) (a := j) (b := j + 1) hC dX7_idle_96 rfl (nI_1 _) (by decide) ?_
            show sg_W X M 0 0 99 [some (.ref x), some (.int (nI src)), some (.int (nI n)), some (.int (nI i)), some (.int (nI 1)), some (.int (nI (j + 1)))] []
            refine sg_goto (pc := 99) 41 hC dX7_idle_99 (by decide) ?_
            have e9 : md_idle1 (f + 1) N src n i b j = md_idle1 f N src n i true (j + 1) := by rw [md_idle1_s]; simp only [if_neg (Nat.not_le.mpr h3), if_neg (ts9 h21), if_neg h22, if_pos h23]
            rw [e9] at hk
            refine sg_loc (L' := [some (.ref x), some (.int (nI src)), some (.int (nI n)), some (.int (nI i)), some (.int (md_b true)), some (.int (nI ((j + 1))))]) ⟨rfl, ⟨rfl, ⟨rfl, ⟨rfl, ⟨rfl, ⟨rfl, trivial⟩⟩⟩⟩⟩⟩ ?_
            exact ih src n i true (j + 1) _ hI (by first | omega | exact Nat.lt_of_le_of_lt Nat.and_le_left (by omega) | exact Nat.or_lt_two_pow (n := 16) (by omega) (by omega) | (simp [md_set, va_up]; done) | (simp [md_set, va_up]; omega) | exact Nat.or_lt_two_pow (n := 6) (by omega) (by omega) | (simp [md_put, md_set, va_up]; omega) | (simp [md_put, md_set, va_up]; done)) (by first | omega | exact Nat.lt_of_le_of_lt Nat.and_le_left (by omega) | exact Nat.or_lt_two_pow (n := 16) (by omega) (by omega) | (simp [md_set, va_up]; done) | (simp [md_set, va_up]; omega) | exact Nat.or_lt_two_pow (n := 6) (by omega) (by omega) | (simp [md_put, md_set, va_up]; omega) | (simp [md_put, md_set, va_up]; done)) hw hg (by first | omega | exact Nat.lt_of_le_of_lt Nat.and_le_left (by omega) | exact Nat.or_lt_two_pow (n := 16) (by omega) (by omega) | (simp [md_set, va_up]; done) | (simp [md_set, va_up]; omega) | exact Nat.or_lt_two_pow (n := 6) (by omega) (by omega) | (simp [md_put, md_set, va_up]; omega) | (simp [md_put, md_set, va_up]; done)) (by first | omega | exact Nat.lt_of_le_of_lt Nat.and_le_left (by omega) | exact Nat.or_lt_two_pow (n := 16) (by omega) (by omega) | (simp [md_set, va_up]; done) | (simp [md_set, va_up]; omega) | exact Nat.or_lt_two_pow (n := 6) (by omega) (by omega) | (simp [md_put, md_set, va_up]; omega) | (simp [md_put, md_set, va_up]; done)) (by first | omega | exact Nat.lt_of_le_of_lt Nat.and_le_left (by omega) | exact Nat.or_lt_two_pow (n := 16) (by omega) (by omega) | (simp [md_set, va_up]; done) | (simp [md_set, va_up]; omega) | exact Nat.or_lt_two_pow (n := 6) (by omega) (by omega) | (simp [md_put, md_set, va_up]; omega) | (simp [md_put, md_set, va_up]; done)) hk

def md_idle (N : Nat → Nat → Nat) (src : Int32) : UInt32 × (Nat → Nat → Nat) := if (md_in src (nI 0) (nI 5)) = true then if N 12 src.toNatClampNeg ≤ 0 then if N 12 src.toNatClampNeg = 0 then (0, (md_set N 0 0 0)) else (FP.fdiv (FP.i2f (nI 0)) (FP.i2f (nI (N 12 src.toNatClampNeg))), (md_set N 0 0 0)) else md_idle1 (60) (md_set N 0 0 0) src.toNatClampNeg 0 0 false 0 else (FP.i2f (nI ((md_fail (md_set N 0 0 0) 1).1)), (md_fail (md_set N 0 0 0) 1).2)
set_option maxHeartbeats 4000000 in
set_option maxRecDepth 100000 in
theorem mm_idle {l : Launch} {G : sg_G} {d : Nat} {M0 M : sg_M} {x : Nat} {ad : Nat → Nat} {N : Nat → Nat → Nat} {kr : Option Value → sg_M → Prop} {kx : String → sg_M → Prop} (htr : l.stackTraces = false) (hI : md_I M0 M x ad N) (src : Int32) (hw : ∀ r, N 4 r ≤ 3) (hg : ∀ r, N 12 r ≤ 6) (hk : ∀ M', md_I M0 M' x ad (md_idle N src).2 → kr (some (.float (md_idle N src).1)) M') : sg_Met l G yX7_idle cX7_idle 6 (some .float) (d + 4) 0 0 [.ref x, .int src] M kr kx := by
  refine sg_enter [some (.ref x), some (.int src), none, none, none, none] (by decide) htr (Nat.le_of_ble_eq_true rfl) rfl ?_
  intro X hC hR
  have hC : sg_C X l G cX7_idle RX7 6 (d + 4) := hC
  refine sg_aload_n (pc := 0) (v := .ref x) hC dX7_idle_0 rfl rfl ?_
  refine sg_iconst (pc := 1) (nI 0) hC dX7_idle_1 (by decide) ?_
  refine md_put0 (pc := 2) (v := 0) hC tw_1186 dX7_idle_2 hI (by first | omega | exact Nat.lt_of_le_of_lt Nat.and_le_left (by omega) | exact Nat.or_lt_two_pow (n := 16) (by omega) (by omega) | (simp [md_set, va_up]; done) | (simp [md_set, va_up]; omega) | exact Nat.or_lt_two_pow (n := 6) (by omega) (by omega) | (simp [md_put, md_set, va_up]; omega) | (simp [md_put, md_set, va_up]; done)) (fun M hI => ?_)
  refine sg_iload_n (pc := 5) (x := src) hC dX7_idle_5 rfl ?_
  refine sg_iconst (pc := 6) (nI 0) hC dX7_idle_6 (by decide) ?_
  refine sg_iconst (pc := 7) (nI 5) hC dX7_idle_7 (by decide) ?_
  refine sg_callS (pc := 8) (As := [.int src, .int (nI 0), .int (nI 5)]) (rest := []) (mc := 0) (ms := 0) hC tw_1270 tw_1271 tw_72 tw_1272 yd_X7_in (by decide) dX7_idle_8 rfl (Nat.le_of_ble_eq_true rfl) (Nat.zero_le _) (Nat.zero_le _) ?_
  refine mm_in htr  src (nI 0) (nI 5)  ?_
  show sg_W X M 0 0 11 [some (.ref x), some (.int src), none, none, none, none] [.int (md_b ((md_in src (nI 0) (nI 5))))]
  refine sg_ifB_ne (pc := 11) (b := (md_in src (nI 0) (nI 5))) 21 hC dX7_idle_11 (by decide) (fun h1 => ?_) (fun h1 => ?_)
  · obtain ⟨hs2, hs3⟩ := md_in_nat h1 (by first | omega | exact Nat.lt_of_le_of_lt Nat.and_le_left (by omega) | exact Nat.or_lt_two_pow (n := 16) (by omega) (by omega) | (simp [md_set, va_up]; done) | (simp [md_set, va_up]; omega) | exact Nat.or_lt_two_pow (n := 6) (by omega) (by omega) | (simp [md_put, md_set, va_up]; omega) | (simp [md_put, md_set, va_up]; done))
    rw [hs2]
    show sg_W X M 0 0 21 [some (.ref x), some (.int (nI src.toNatClampNeg)), none, none, none, none] []
    refine sg_iconst (pc := 21) (nI 0) hC dX7_idle_21 (by decide) ?_
    refine sg_istore_n (pc := 22) (x := nI 0) hC dX7_idle_22 (by decide) ?_
    show sg_W X M 0 0 23 [some (.ref x), some (.int (nI src.toNatClampNeg)), some (.int (nI 0)), none, none, none] []
    refine sg_iconst (pc := 23) (nI 0) hC dX7_idle_23 (by decide) ?_
    refine sg_istore_n (pc := 24) (x := nI 0) hC dX7_idle_24 (by decide) ?_
    show sg_W X M 0 0 25 [some (.ref x), some (.int (nI src.toNatClampNeg)), some (.int (nI 0)), some (.int (nI 0)), none, none] []
    refine sg_iload_n (pc := 25) (x := nI 0) hC dX7_idle_25 rfl ?_
    refine sg_aload_n (pc := 26) (v := .ref x) hC dX7_idle_26 rfl rfl ?_
    refine md_get (pc := 27) (i := 12) hC (by decide) tw_1198 dX7_idle_27 hI rfl ?_
    refine sg_iload_n (pc := 30) (x := nI src.toNatClampNeg) hC dX7_idle_30 rfl ?_
    refine md_iald (pc := 31) (i := 12) (j := src.toNatClampNeg) hC dX7_idle_31 hI rfl (by first | omega | exact Nat.lt_of_le_of_lt Nat.and_le_left (by omega) | exact Nat.or_lt_two_pow (n := 16) (by omega) (by omega) | (simp [md_set, va_up]; done) | (simp [md_set, va_up]; omega) | exact Nat.or_lt_two_pow (n := 6) (by omega) (by omega) | (simp [md_put, md_set, va_up]; omega) | (simp [md_put, md_set, va_up]; done)) (by decide) (fun hv4 => ?_)
    have hv4 : N 12 src.toNatClampNeg < 65536 := hv4
    show sg_W X M 0 0 32 [some (.ref x), some (.int (nI src.toNatClampNeg)), some (.int (nI 0)), some (.int (nI 0)), none, none] [.int (nI (N 12 src.toNatClampNeg)), .int (nI 0)]
    have hW5 := hg src.toNatClampNeg
    refine sg_icmpN_ge (pc := 32) (a := 0) (b := N 12 src.toNatClampNeg) 121 hC dX7_idle_32 (by decide) (by first | omega | exact Nat.lt_of_le_of_lt Nat.and_le_left (by omega) | exact Nat.or_lt_two_pow (n := 16) (by omega) (by omega) | (simp [md_set, va_up]; done) | (simp [md_set, va_up]; omega) | exact Nat.or_lt_two_pow (n := 6) (by omega) (by omega) | (simp [md_put, md_set, va_up]; omega) | (simp [md_put, md_set, va_up]; done)) (by first | omega | exact Nat.lt_of_le_of_lt Nat.and_le_left (by omega) | exact Nat.or_lt_two_pow (n := 16) (by omega) (by omega) | (simp [md_set, va_up]; done) | (simp [md_set, va_up]; omega) | exact Nat.or_lt_two_pow (n := 6) (by omega) (by omega) | (simp [md_put, md_set, va_up]; omega) | (simp [md_put, md_set, va_up]; done)) (fun h6 => ?_) (fun h6 => ?_)
    · refine sg_aload_n (pc := 121) (v := .ref x) hC dX7_idle_121 rfl rfl ?_
      refine md_get (pc := 122) (i := 12) hC (by decide) tw_1198 dX7_idle_122 hI rfl ?_
      refine sg_iload_n (pc := 125) (x := nI src.toNatClampNeg) hC dX7_idle_125 rfl ?_
      refine md_iald (pc := 126) (i := 12) (j := src.toNatClampNeg) hC dX7_idle_126 hI rfl (by first | omega | exact Nat.lt_of_le_of_lt Nat.and_le_left (by omega) | exact Nat.or_lt_two_pow (n := 16) (by omega) (by omega) | (simp [md_set, va_up]; done) | (simp [md_set, va_up]; omega) | exact Nat.or_lt_two_pow (n := 6) (by omega) (by omega) | (simp [md_put, md_set, va_up]; omega) | (simp [md_put, md_set, va_up]; done)) (by decide) (fun hv7 => ?_)
      have hv7 : N 12 src.toNatClampNeg < 65536 := hv7
      show sg_W X M 0 0 127 [some (.ref x), some (.int (nI src.toNatClampNeg)), some (.int (nI 0)), some (.int (nI 0)), none, none] [.int (nI (N 12 src.toNatClampNeg))]
      have hW8 := hg src.toNatClampNeg
      refine sg_ifN_ne (pc := 127) (a := N 12 src.toNatClampNeg) 132 hC dX7_idle_127 (by decide) (by first | omega | exact Nat.lt_of_le_of_lt Nat.and_le_left (by omega) | exact Nat.or_lt_two_pow (n := 16) (by omega) (by omega) | (simp [md_set, va_up]; done) | (simp [md_set, va_up]; omega) | exact Nat.or_lt_two_pow (n := 6) (by omega) (by omega) | (simp [md_put, md_set, va_up]; omega) | (simp [md_put, md_set, va_up]; done)) (fun h9 => ?_) (fun h9 => ?_)
      · refine sg_iload_n (pc := 132) (x := nI 0) hC dX7_idle_132 rfl ?_
        refine sg_i2f (pc := 133) (x := nI 0) hC dX7_idle_133 ?_
        refine sg_fstore_n (pc := 134) (x := FP.i2f (nI 0)) hC dX7_idle_134 (by decide) ?_
        show sg_W X M 0 0 135 [some (.ref x), some (.int (nI src.toNatClampNeg)), some (.int (nI 0)), some (.float (FP.i2f (nI 0))), none, none] []
        refine sg_aload_n (pc := 135) (v := .ref x) hC dX7_idle_135 rfl rfl ?_
        refine md_get (pc := 136) (i := 12) hC (by decide) tw_1198 dX7_idle_136 hI rfl ?_
        refine sg_iload_n (pc := 139) (x := nI src.toNatClampNeg) hC dX7_idle_139 rfl ?_
        refine md_iald (pc := 140) (i := 12) (j := src.toNatClampNeg) hC dX7_idle_140 hI rfl (by first | omega | exact Nat.lt_of_le_of_lt Nat.and_le_left (by omega) | exact Nat.or_lt_two_pow (n := 16) (by omega) (by omega) | (simp [md_set, va_up]; done) | (simp [md_set, va_up]; omega) | exact Nat.or_lt_two_pow (n := 6) (by omega) (by omega) | (simp [md_put, md_set, va_up]; omega) | (simp [md_put, md_set, va_up]; done)) (by decide) (fun hv10 => ?_)
        have hv10 : N 12 src.toNatClampNeg < 65536 := hv10
        show sg_W X M 0 0 141 [some (.ref x), some (.int (nI src.toNatClampNeg)), some (.int (nI 0)), some (.float (FP.i2f (nI 0))), none, none] [.int (nI (N 12 src.toNatClampNeg))]
        have hW11 := hg src.toNatClampNeg
        refine sg_i2f (pc := 141) (x := nI (N 12 src.toNatClampNeg)) hC dX7_idle_141 ?_
        refine sg_fstore (pc := 142) (x := FP.i2f (nI (N 12 src.toNatClampNeg))) hC dX7_idle_142 (by decide) ?_
        show sg_W X M 0 0 144 [some (.ref x), some (.int (nI src.toNatClampNeg)), some (.int (nI 0)), some (.float (FP.i2f (nI 0))), some (.float (FP.i2f (nI (N 12 src.toNatClampNeg)))), none] []
        refine sg_fload_n (pc := 144) (x := FP.i2f (nI 0)) hC dX7_idle_144 rfl ?_
        refine sg_fload (pc := 145) (x := FP.i2f (nI (N 12 src.toNatClampNeg))) hC dX7_idle_145 rfl ?_
        refine sg_fdiv (pc := 147) (x := FP.i2f (nI 0)) (y := FP.i2f (nI (N 12 src.toNatClampNeg))) hC dX7_idle_147 (md_fdivok (by omega) (by omega) (by omega)) ?_
        have e9 : md_idle N src = (FP.fdiv (FP.i2f (nI 0)) (FP.i2f (nI (N 12 src.toNatClampNeg))), (md_set N 0 0 0)) := by rw [md_idle]; simp only [if_pos h1, if_pos h6, if_neg h9]
        rw [e9] at hk
        exact sg_freturn (st := []) (v := FP.fdiv (FP.i2f (nI 0)) (FP.i2f (nI (N 12 src.toNatClampNeg)))) (pc := 148) hC hR dX7_idle_148 (hk M hI)
      · refine sg_fconst0 (pc := 130) hC dX7_idle_130 ?_
        have e9 : md_idle N src = (0, (md_set N 0 0 0)) := by rw [md_idle]; simp only [if_pos h1, if_pos h6, if_pos h9]
        rw [e9] at hk
        exact sg_freturn (st := []) (v := 0) (pc := 131) hC hR dX7_idle_131 (hk M hI)
    · refine sg_iconst (pc := 35) (nI 0) hC dX7_idle_35 (by decide) ?_
      refine sg_istore (pc := 36) (x := nI 0) hC dX7_idle_36 (by decide) ?_
      show sg_W X M 0 0 38 [some (.ref x), some (.int (nI src.toNatClampNeg)), some (.int (nI 0)), some (.int (nI 0)), some (.int (nI 0)), none] []
      refine sg_iconst (pc := 38) (nI 0) hC dX7_idle_38 (by decide) ?_
      refine sg_istore (pc := 39) (x := nI 0) hC dX7_idle_39 (by decide) ?_
      show sg_W X M 0 0 41 [some (.ref x), some (.int (nI src.toNatClampNeg)), some (.int (nI 0)), some (.int (nI 0)), some (.int (nI 0)), some (.int (nI 0))] []
      have e9 : md_idle N src = md_idle1 (60) (md_set N 0 0 0) src.toNatClampNeg 0 0 false 0 := by rw [md_idle]; simp only [if_pos h1, if_neg (Nat.not_le.mpr h6)]
      rw [e9] at hk
      refine sg_loc (L' := [some (.ref x), some (.int (nI src.toNatClampNeg)), some (.int (nI 0)), some (.int (nI 0)), some (.int (md_b false)), some (.int (nI 0))]) ⟨rfl, ⟨rfl, ⟨rfl, ⟨rfl, ⟨rfl, ⟨rfl, trivial⟩⟩⟩⟩⟩⟩ ?_
      exact mm_idle1 htr hC hR (60) src.toNatClampNeg 0 0 false 0 _ hI (by first | omega | exact Nat.lt_of_le_of_lt Nat.and_le_left (by omega) | exact Nat.or_lt_two_pow (n := 16) (by omega) (by omega) | (simp [md_set, va_up]; done) | (simp [md_set, va_up]; omega) | exact Nat.or_lt_two_pow (n := 6) (by omega) (by omega) | (simp [md_put, md_set, va_up]; omega) | (simp [md_put, md_set, va_up]; done)) (by first | omega | exact Nat.lt_of_le_of_lt Nat.and_le_left (by omega) | exact Nat.or_lt_two_pow (n := 16) (by omega) (by omega) | (simp [md_set, va_up]; done) | (simp [md_set, va_up]; omega) | exact Nat.or_lt_two_pow (n := 6) (by omega) (by omega) | (simp [md_put, md_set, va_up]; omega) | (simp [md_put, md_set, va_up]; done)) (by intro r9; first | exact hw r9 | (show N 4 r9 ≤ 3; exact hw r9) | exact hw9 r9) (by intro r9; first | exact hg r9 | (show N 12 r9 ≤ 6; exact hg r9) | exact hg9 r9) (by first | omega | exact Nat.lt_of_le_of_lt Nat.and_le_left (by omega) | exact Nat.or_lt_two_pow (n := 16) (by omega) (by omega) | (simp [md_set, va_up]; done) | (simp [md_set, va_up]; omega) | exact Nat.or_lt_two_pow (n := 6) (by omega) (by omega) | (simp [md_put, md_set, va_up]; omega) | (simp [md_put, md_set, va_up]; done)) (by first | omega | exact Nat.lt_of_le_of_lt Nat.and_le_left (by omega) | exact Nat.or_lt_two_pow (n := 16) (by omega) (by omega) | (simp [md_set, va_up]; done) | (simp [md_set, va_up]; omega) | exact Nat.or_lt_two_pow (n := 6) (by omega) (by omega) | (simp [md_put, md_set, va_up]; omega) | (simp [md_put, md_set, va_up]; done)) (by first | omega | exact Nat.lt_of_le_of_lt Nat.and_le_left (by omega) | exact Nat.or_lt_two_pow (n := 16) (by omega) (by omega) | (simp [md_set, va_up]; done) | (simp [md_set, va_up]; omega) | exact Nat.or_lt_two_pow (n := 6) (by omega) (by omega) | (simp [md_put, md_set, va_up]; omega) | (simp [md_put, md_set, va_up]; done)) hk
  · refine sg_aload_n (pc := 14) (v := .ref x) hC dX7_idle_14 rfl rfl ?_
    refine sg_iconst (pc := 15) (nI 1) hC dX7_idle_15 (by decide) ?_
    refine sg_callV (pc := 16) (As := [.int (nI 1)]) (rest := []) (mc := 0) (ms := 0) hC tw_1273 tw_1275 tw_33 tw_72 tw_1276 yd_X7_fail (by decide) (ci := 10) rfl dX7_idle_16 hI.x rfl (Nat.le_of_ble_eq_true rfl) (Nat.zero_le _) (Nat.zero_le _) ?_
    refine mm_fail htr hI 1 (by first | omega | exact Nat.lt_of_le_of_lt Nat.and_le_left (by omega) | exact Nat.or_lt_two_pow (n := 16) (by omega) (by omega) | (simp [md_set, va_up]; done) | (simp [md_set, va_up]; omega) | exact Nat.or_lt_two_pow (n := 6) (by omega) (by omega) | (simp [md_put, md_set, va_up]; omega) | (simp [md_put, md_set, va_up]; done)) (fun M hI => ?_)
    show sg_W X M 0 0 19 [some (.ref x), some (.int src), none, none, none, none] [.int (nI ((md_fail (md_set N 0 0 0) 1).1))]
    refine sg_i2f (pc := 19) (x := nI ((md_fail (md_set N 0 0 0) 1).1)) hC dX7_idle_19 ?_
    have e9 : md_idle N src = (FP.i2f (nI ((md_fail (md_set N 0 0 0) 1).1)), (md_fail (md_set N 0 0 0) 1).2) := by rw [md_idle]; simp only [if_neg (ts9 h1)]
    rw [e9] at hk
    exact sg_freturn (st := []) (v := FP.i2f (nI ((md_fail (md_set N 0 0 0) 1).1))) (pc := 20) hC hR dX7_idle_20 (hk M hI)

def md_thrown (N : Nat → Nat → Nat)  : Nat := N 0 0
set_option maxHeartbeats 4000000 in
set_option maxRecDepth 100000 in
theorem mm_thrown {l : Launch} {G : sg_G} {d : Nat} {M0 M : sg_M} {x : Nat} {ad : Nat → Nat} {N : Nat → Nat → Nat} {kr : Option Value → sg_M → Prop} {kx : String → sg_M → Prop} (htr : l.stackTraces = false) (hI : md_I M0 M x ad N)   (hk : kr (some (.int (nI (md_thrown N)))) M) : sg_Met l G yX7_thrown cX7_thrown 1 (some .int) (d + 0) 0 0 [.ref x] M kr kx := by
  refine sg_enter [some (.ref x)] (by decide) htr (Nat.le_of_ble_eq_true rfl) rfl ?_
  intro X hC hR
  have hC : sg_C X l G cX7_thrown RX7 1 (d + 0) := hC
  refine sg_aload_n (pc := 0) (v := .ref x) hC dX7_thrown_0 rfl rfl ?_
  refine md_get (pc := 1) (i := 0) hC (by decide) tw_1186 dX7_thrown_1 hI rfl ?_
  have hb1 : N 0 0 < 65536 := hI.lt 0 0
  show sg_W X M 0 0 4 [some (.ref x)] [.int (nI (N 0 0))]
  have e9 : md_thrown N = N 0 0 := by rw [md_thrown]
  rw [e9] at hk
  exact sg_ireturn (st := []) (v := nI (N 0 0)) (pc := 4) hC hR dX7_thrown_4 hk
