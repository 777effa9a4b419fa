def md_go (N : Nat → Nat → Nat) (p : Nat) (q : Nat) (c : Nat) : Option Nat × (Nat → Nat → Nat) := if q = 0 then ((md_begin N p c).1, (md_begin N p c).2) else if q = 1 then (none, N) else if q = 2 then if c = 47 then (some 3, N) else (none, N) else if q = 3 then ((md_path N p c).1, (md_path N p c).2) else if q = 4 then if c = 47 then if 3 ≤ N 4 p then if c = 58 then (some 6, N) else (none, N) else (some 3, N) else if c = 58 then (some 6, N) else (none, N) else if q = 5 then if c = 58 then (some 6, N) else (none, N) else if q = 6 then ((md_letter N p c).1, (md_letter N p c).2) else if q = 7 then (none, N) else if q = 8 then (none, N) else if q = 9 then (none, N) else if q = 10 then ((md_host N p c).1, (md_host N p c).2) else if q = 11 then if c = 46 then (some 12, N) else if c = 58 then (some 14, N) else (none, N) else if q = 12 then ((md_labelled N p c 13).1, (md_labelled N p c 13).2) else if q = 13 then if c = 46 then if N 6 p = 1 then if 2 ≤ N 4 p then if c = 58 then (some 14, N) else (none, N) else (some 12, N) else if 3 ≤ N 4 p then if c = 58 then (some 14, N) else (none, N) else (some 12, N) else if c = 58 then (some 14, N) else (none, N) else if q = 14 then ((md_range N p 14 c).1, (md_range N p 14 c).2) else if q = 15 then ((md_range N p 15 c).1, (md_range N p 15 c).2) else if q = 16 then ((md_range N p 16 c).1, (md_range N p 16 c).2) else if q = 17 then (none, N) else if q = 18 then ((md_range N p 18 c).1, (md_range N p 18 c).2) else if q = 19 then (none, N) else if q = 20 then if c = 42 then (some ((md_starred N p 1 21).1), (md_starred N p 1 21).2) else ((md_labelled N p c 22).1, (md_labelled N p c 22).2) else if q = 21 then (none, N) else if q = 22 then if c = 46 then if 3 ≤ N 4 p then (none, N) else (some 23, N) else (none, N) else if c = 42 then (some ((md_starred N p 1 21).1), (md_starred N p 1 21).2) else ((md_labelled N p c 22).1, (md_labelled N p c 22).2)
set_option maxHeartbeats 4000000 in
set_option maxRecDepth 100000 in
theorem mm_go {l : Launch} {G : sg_G} {d : Nat} {M0 M : sg_M} {x : Nat} {ad : Nat → Nat} {N : Nat → Nat → Nat} {kr : Option Value → sg_M → Prop} {kx : String → sg_M → Prop} (htr : l.stackTraces = false) (hI : md_I M0 M x ad N) (p : Nat) (q : Nat) (c : Nat) (hp : p < 86) (hq : q < 24) (hc : c < 65536) (hl : N 4 p ≤ 3) (hn : q = 0 ∨ q = 2 ∨ q = 3 ∨ q = 10 ∨ q = 11 ∨ q = 12 ∨ q = 20 ∨ q = 23 → N 4 p < 3) (hk : ∀ M', md_I M0 M' x ad (md_go N p q c).2 → kr (some (.int (md_o (md_go N p q c).1))) M') : sg_Met l G yX7_go cX7_go 4 (some .int) (d + 3) 0 0 [.ref x, .int (nI p), .int (nI q), .int (nI c)] M kr kx := by
  refine sg_enter [some (.ref x), some (.int (nI p)), some (.int (nI q)), some (.int (nI c))] (by decide) htr (Nat.le_of_ble_eq_true rfl) rfl ?_
  intro X hC hR
  have hC : sg_C X l G cX7_go RX7 4 (d + 3) := hC
  refine sg_iload_n (pc := 0) (x := nI q) hC dX7_go_0 rfl ?_
  rcases (show q = 0 ∨ q = 1 ∨ q = 2 ∨ q = 3 ∨ q = 4 ∨ q = 5 ∨ q = 6 ∨ q = 7 ∨ q = 8 ∨ q = 9 ∨ q = 10 ∨ q = 11 ∨ q = 12 ∨ q = 13 ∨ q = 14 ∨ q = 15 ∨ q = 16 ∨ q = 17 ∨ q = 18 ∨ q = 19 ∨ q = 20 ∨ q = 21 ∨ q = 22 ∨ q = 23 by omega) with rfl | rfl | rfl | rfl | rfl | rfl | rfl | rfl | rfl | rfl | rfl | rfl | rfl | rfl | rfl | rfl | rfl | rfl | rfl | rfl | rfl | rfl | rfl | rfl
  · refine sg_tableIn (pc := 1) (x := nI 0) (off := 111) 112 hC dX7_go_1 (by decide) (by decide) (by decide) (by decide) ?_
    refine sg_aload_n (pc := 112) (v := .ref x) hC dX7_go_112 rfl rfl ?_
    refine sg_iload_n (pc := 113) (x := nI p) hC dX7_go_113 rfl ?_
    refine sg_iload_n (pc := 114) (x := nI c) hC dX7_go_114 rfl ?_
    refine sg_callV (pc := 115) (As := [.int (nI p), .int (nI c)]) (rest := []) (mc := 0) (ms := 0) hC tw_1285 tw_1287 tw_36 tw_72 tw_1288 yd_X7_begin (by decide) (ci := 10) rfl dX7_go_115 hI.x rfl (Nat.le_of_ble_eq_true rfl) (Nat.zero_le _) (Nat.zero_le _) ?_
    refine mm_begin htr hI p c (by first | omega | exact Nat.lt_of_le_of_lt Nat.and_le_left (by omega) | exact Nat.or_lt_two_pow (n := 16) (by omega) (by omega)) (by first | omega | exact Nat.lt_of_le_of_lt Nat.and_le_left (by omega) | exact Nat.or_lt_two_pow (n := 16) (by omega) (by omega)) (fun M hI => ?_)
    show sg_W X M 0 0 118 [some (.ref x), some (.int (nI p)), some (.int (nI 0)), some (.int (nI c))] [.int (md_o ((md_begin N p c).1))]
    have e9 : md_go N p 0 c = ((md_begin N p c).1, (md_begin N p c).2) := by rw [md_go, if_pos rfl]
    rw [e9] at hk
    exact sg_ireturn (st := []) (v := md_o ((md_begin N p c).1)) (pc := 118) hC hR dX7_go_118 (hk M hI)
  · refine sg_tableIn (pc := 1) (x := nI 1) (off := 361) 362 hC dX7_go_1 (by decide) (by decide) (by decide) (by decide) ?_
    refine sg_iconst (pc := 362) (((-1))) hC dX7_go_362 (by decide) ?_
    have e9 : md_go N p 1 c = (none, N) := by rw [md_go, if_neg (by decide), if_pos rfl]
    rw [e9] at hk
    exact sg_ireturn (st := []) (v := md_o none) (pc := 363) hC hR dX7_go_363 (hk M hI)
  · refine sg_tableIn (pc := 1) (x := nI 2) (off := 118) 119 hC dX7_go_1 (by decide) (by decide) (by decide) (by decide) ?_
    refine sg_iload_n (pc := 119) (x := nI c) hC dX7_go_119 rfl ?_
    refine sg_bipush (pc := 120) (nI 47) hC dX7_go_120 (by decide) ?_
    refine sg_icmpN_ne (pc := 122) (a := c) (b := 47) 129 hC dX7_go_122 (by decide) (by first | omega | exact Nat.lt_of_le_of_lt Nat.and_le_left (by omega) | exact Nat.or_lt_two_pow (n := 16) (by omega) (by omega)) (by first | omega | exact Nat.lt_of_le_of_lt Nat.and_le_left (by omega) | exact Nat.or_lt_two_pow (n := 16) (by omega) (by omega)) (fun h1 => ?_) (fun h1 => ?_)
    · refine sg_iconst (pc := 129) (((-1))) hC dX7_go_129 (by decide) ?_
      have e9 : md_go N p 2 c = (none, N) := by rw [md_go, if_neg (by decide), if_neg (by decide), if_pos rfl]; simp only [if_neg h1]
      rw [e9] at hk
      exact sg_ireturn (st := []) (v := md_o none) (pc := 130) hC hR dX7_go_130 (hk M hI)
    · refine sg_iconst (pc := 125) (nI 3) hC dX7_go_125 (by decide) ?_
      refine sg_goto (pc := 126) 130 hC dX7_go_126 (by decide) ?_
      have e9 : md_go N p 2 c = (some 3, N) := by rw [md_go, if_neg (by decide), if_neg (by decide), if_pos rfl]; simp only [if_pos h1]
      rw [e9] at hk
      exact sg_ireturn (st := []) (v := md_o (some 3)) (pc := 130) hC hR dX7_go_130 (hk M hI)
  · refine sg_tableIn (pc := 1) (x := nI 3) (off := 130) 131 hC dX7_go_1 (by decide) (by decide) (by decide) (by decide) ?_
    have hl3 := hn (by decide)
    refine sg_aload_n (pc := 131) (v := .ref x) hC dX7_go_131 rfl rfl ?_
    refine sg_iload_n (pc := 132) (x := nI p) hC dX7_go_132 rfl ?_
    refine sg_iload_n (pc := 133) (x := nI c) hC dX7_go_133 rfl ?_
    refine sg_callV (pc := 134) (As := [.int (nI p), .int (nI c)]) (rest := []) (mc := 0) (ms := 0) hC tw_1289 tw_1291 tw_37 tw_72 tw_1292 yd_X7_path (by decide) (ci := 10) rfl dX7_go_134 hI.x rfl (Nat.le_of_ble_eq_true rfl) (Nat.zero_le _) (Nat.zero_le _) ?_
    refine mm_path htr hI p c (by first | omega | exact Nat.lt_of_le_of_lt Nat.and_le_left (by omega) | exact Nat.or_lt_two_pow (n := 16) (by omega) (by omega)) (by first | omega | exact Nat.lt_of_le_of_lt Nat.and_le_left (by omega) | exact Nat.or_lt_two_pow (n := 16) (by omega) (by omega)) (by first | omega | exact Nat.lt_of_le_of_lt Nat.and_le_left (by omega) | exact Nat.or_lt_two_pow (n := 16) (by omega) (by omega)) (fun M hI => ?_)
    show sg_W X M 0 0 137 [some (.ref x), some (.int (nI p)), some (.int (nI 3)), some (.int (nI c))] [.int (md_o ((md_path N p c).1))]
    have e9 : md_go N p 3 c = ((md_path N p c).1, (md_path N p c).2) := by rw [md_go, if_neg (by decide), if_neg (by decide), if_neg (by decide), if_pos rfl]
    rw [e9] at hk
    exact sg_ireturn (st := []) (v := md_o ((md_path N p c).1)) (pc := 137) hC hR dX7_go_137 (hk M hI)
  · refine sg_tableIn (pc := 1) (x := nI 4) (off := 137) 138 hC dX7_go_1 (by decide) (by decide) (by decide) (by decide) ?_
    refine sg_iload_n (pc := 138) (x := nI c) hC dX7_go_138 rfl ?_
    refine sg_bipush (pc := 139) (nI 47) hC dX7_go_139 (by decide) ?_
    refine sg_icmpN_ne (pc := 141) (a := c) (b := 47) 158 hC dX7_go_141 (by decide) (by first | omega | exact Nat.lt_of_le_of_lt Nat.and_le_left (by omega) | exact Nat.or_lt_two_pow (n := 16) (by omega) (by omega)) (by first | omega | exact Nat.lt_of_le_of_lt Nat.and_le_left (by omega) | exact Nat.or_lt_two_pow (n := 16) (by omega) (by omega)) (fun h2 => ?_) (fun h2 => ?_)
    · refine sg_iload_n (pc := 158) (x := nI c) hC dX7_go_158 rfl ?_
      refine sg_bipush (pc := 159) (nI 58) hC dX7_go_159 (by decide) ?_
      refine sg_icmpN_ne (pc := 161) (a := c) (b := 58) 169 hC dX7_go_161 (by decide) (by first | omega | exact Nat.lt_of_le_of_lt Nat.and_le_left (by omega) | exact Nat.or_lt_two_pow (n := 16) (by omega) (by omega)) (by first | omega | exact Nat.lt_of_le_of_lt Nat.and_le_left (by omega) | exact Nat.or_lt_two_pow (n := 16) (by omega) (by omega)) (fun h3 => ?_) (fun h3 => ?_)
      · refine sg_iconst (pc := 169) (((-1))) hC dX7_go_169 (by decide) ?_
        have e9 : md_go N p 4 c = (none, N) := by rw [md_go, if_neg (by decide), if_neg (by decide), if_neg (by decide), if_neg (by decide), if_pos rfl]; simp only [if_neg h2, if_neg h3]
        rw [e9] at hk
        exact sg_ireturn (st := []) (v := md_o none) (pc := 170) hC hR dX7_go_170 (hk M hI)
      · refine sg_bipush (pc := 164) (nI 6) hC dX7_go_164 (by decide) ?_
        refine sg_goto (pc := 166) 170 hC dX7_go_166 (by decide) ?_
        have e9 : md_go N p 4 c = (some 6, N) := by rw [md_go, if_neg (by decide), if_neg (by decide), if_neg (by decide), if_neg (by decide), if_pos rfl]; simp only [if_neg h2, if_pos h3]
        rw [e9] at hk
        exact sg_ireturn (st := []) (v := md_o (some 6)) (pc := 170) hC hR dX7_go_170 (hk M hI)
    · refine sg_aload_n (pc := 144) (v := .ref x) hC dX7_go_144 rfl rfl ?_
      refine md_get (pc := 145) (i := 4) hC (by decide) tw_1190 dX7_go_145 hI rfl ?_
      refine sg_iload_n (pc := 148) (x := nI p) hC dX7_go_148 rfl ?_
      refine md_iald (pc := 149) (i := 4) (j := p) hC dX7_go_149 hI rfl (by first | omega | exact Nat.lt_of_le_of_lt Nat.and_le_left (by omega) | exact Nat.or_lt_two_pow (n := 16) (by omega) (by omega)) (by decide) (fun hv4 => ?_)
      show sg_W X M 0 0 150 [some (.ref x), some (.int (nI p)), some (.int (nI 4)), some (.int (nI c))] [.int (nI (N 4 p))]
      refine sg_iconst (pc := 150) (nI 3) hC dX7_go_150 (by decide) ?_
      refine sg_icmpN_ge (pc := 151) (a := N 4 p) (b := 3) 158 hC dX7_go_151 (by decide) (by first | omega | exact Nat.lt_of_le_of_lt Nat.and_le_left (by omega) | exact Nat.or_lt_two_pow (n := 16) (by omega) (by omega)) (by first | omega | exact Nat.lt_of_le_of_lt Nat.and_le_left (by omega) | exact Nat.or_lt_two_pow (n := 16) (by omega) (by omega)) (fun h5 => ?_) (fun h5 => ?_)
      · refine sg_iload_n (pc := 158) (x := nI c) hC dX7_go_158 rfl ?_
        refine sg_bipush (pc := 159) (nI 58) hC dX7_go_159 (by decide) ?_
        refine sg_icmpN_ne (pc := 161) (a := c) (b := 58) 169 hC dX7_go_161 (by decide) (by first | omega | exact Nat.lt_of_le_of_lt Nat.and_le_left (by omega) | exact Nat.or_lt_two_pow (n := 16) (by omega) (by omega)) (by first | omega | exact Nat.lt_of_le_of_lt Nat.and_le_left (by omega) | exact Nat.or_lt_two_pow (n := 16) (by omega) (by omega)) (fun h6 => ?_) (fun h6 => ?_)
        · refine sg_iconst (pc := 169) (((-1))) hC dX7_go_169 (by decide) ?_
          have e9 : md_go N p 4 c = (none, N) := by rw [md_go, if_neg (by decide), if_neg (by decide), if_neg (by decide), if_neg (by decide), if_pos rfl]; simp only [if_pos h2, if_pos h5, if_neg h6]
          rw [e9] at hk
          exact sg_ireturn (st := []) (v := md_o none) (pc := 170) hC hR dX7_go_170 (hk M hI)
        · refine sg_bipush (pc := 164) (nI 6) hC dX7_go_164 (by decide) ?_
          refine sg_goto (pc := 166) 170 hC dX7_go_166 (by decide) ?_
          have e9 : md_go N p 4 c = (some 6, N) := by rw [md_go, if_neg (by decide), if_neg (by decide), if_neg (by decide), if_neg (by decide), if_pos rfl]; simp only [if_pos h2, if_pos h5, if_pos h6]
          rw [e9] at hk
          exact sg_ireturn (st := []) (v := md_o (some 6)) (pc := 170) hC hR dX7_go_170 (hk M hI)
      · refine sg_iconst (pc := 154) (nI 3) hC dX7_go_154 (by decide) ?_
        refine sg_goto (pc := 155) 170 hC dX7_go_155 (by decide) ?_
        have e9 : md_go N p 4 c = (some 3, N) := by rw [md_go, if_neg (by decide), if_neg (by decide), if_neg (by decide), if_neg (by decide), if_pos rfl]; simp only [if_pos h2, if_neg (Nat.not_le.mpr h5)]
        rw [e9] at hk
        exact sg_ireturn (st := []) (v := md_o (some 3)) (pc := 170) hC hR dX7_go_170 (hk M hI)
  · refine sg_tableIn (pc := 1) (x := nI 5) (off := 170) 171 hC dX7_go_1 (by decide) (by decide) (by decide) (by decide) ?_
    refine sg_iload_n (pc := 171) (x := nI c) hC dX7_go_171 rfl ?_
    refine sg_bipush (pc := 172) (nI 58) hC dX7_go_172 (by decide) ?_
    refine sg_icmpN_ne (pc := 174) (a := c) (b := 58) 182 hC dX7_go_174 (by decide) (by first | omega | exact Nat.lt_of_le_of_lt Nat.and_le_left (by omega) | exact Nat.or_lt_two_pow (n := 16) (by omega) (by omega)) (by first | omega | exact Nat.lt_of_le_of_lt Nat.and_le_left (by omega) | exact Nat.or_lt_two_pow (n := 16) (by omega) (by omega)) (fun h7 => ?_) (fun h7 => ?_)
    · refine sg_iconst (pc := 182) (((-1))) hC dX7_go_182 (by decide) ?_
      have e9 : md_go N p 5 c = (none, N) := by rw [md_go, if_neg (by decide), if_neg (by decide), if_neg (by decide), if_neg (by decide), if_neg (by decide), if_pos rfl]; simp only [if_neg h7]
      rw [e9] at hk
      exact sg_ireturn (st := []) (v := md_o none) (pc := 183) hC hR dX7_go_183 (hk M hI)
    · refine sg_bipush (pc := 177) (nI 6) hC dX7_go_177 (by decide) ?_
      refine sg_goto (pc := 179) 183 hC dX7_go_179 (by decide) ?_
      have e9 : md_go N p 5 c = (some 6, N) := by rw [md_go, if_neg (by decide), if_neg (by decide), if_neg (by decide), if_neg (by decide), if_neg (by decide), if_pos rfl]; simp only [if_pos h7]
      rw [e9] at hk
      exact sg_ireturn (st := []) (v := md_o (some 6)) (pc := 183) hC hR dX7_go_183 (hk M hI)
  · refine sg_tableIn (pc := 1) (x := nI 6) (off := 183) 184 hC dX7_go_1 (by decide) (by decide) (by decide) (by decide) ?_
    refine sg_aload_n (pc := 184) (v := .ref x) hC dX7_go_184 rfl rfl ?_
    refine sg_iload_n (pc := 185) (x := nI p) hC dX7_go_185 rfl ?_
    refine sg_iload_n (pc := 186) (x := nI c) hC dX7_go_186 rfl ?_
    refine sg_callV (pc := 187) (As := [.int (nI p), .int (nI c)]) (rest := []) (mc := 0) (ms := 0) hC tw_1308 tw_1310 tw_41 tw_72 tw_1311 yd_X7_letter (by decide) (ci := 10) rfl dX7_go_187 hI.x rfl (Nat.le_of_ble_eq_true rfl) (Nat.zero_le _) (Nat.zero_le _) ?_
    refine mm_letter htr hI p c (by first | omega | exact Nat.lt_of_le_of_lt Nat.and_le_left (by omega) | exact Nat.or_lt_two_pow (n := 16) (by omega) (by omega)) (by first | omega | exact Nat.lt_of_le_of_lt Nat.and_le_left (by omega) | exact Nat.or_lt_two_pow (n := 16) (by omega) (by omega)) (fun M hI => ?_)
    show sg_W X M 0 0 190 [some (.ref x), some (.int (nI p)), some (.int (nI 6)), some (.int (nI c))] [.int (md_o ((md_letter N p c).1))]
    have e9 : md_go N p 6 c = ((md_letter N p c).1, (md_letter N p c).2) := by rw [md_go, if_neg (by decide), if_neg (by decide), if_neg (by decide), if_neg (by decide), if_neg (by decide), if_neg (by decide), if_pos rfl]
    rw [e9] at hk
    exact sg_ireturn (st := []) (v := md_o ((md_letter N p c).1)) (pc := 190) hC hR dX7_go_190 (hk M hI)
  · refine sg_tableIn (pc := 1) (x := nI 7) (off := 361) 362 hC dX7_go_1 (by decide) (by decide) (by decide) (by decide) ?_
    refine sg_iconst (pc := 362) (((-1))) hC dX7_go_362 (by decide) ?_
    have e9 : md_go N p 7 c = (none, N) := by rw [md_go, if_neg (by decide), if_neg (by decide), if_neg (by decide), if_neg (by decide), if_neg (by decide), if_neg (by decide), if_neg (by decide), if_pos rfl]
    rw [e9] at hk
    exact sg_ireturn (st := []) (v := md_o none) (pc := 363) hC hR dX7_go_363 (hk M hI)
  · refine sg_tableIn (pc := 1) (x := nI 8) (off := 361) 362 hC dX7_go_1 (by decide) (by decide) (by decide) (by decide) ?_
    refine sg_iconst (pc := 362) (((-1))) hC dX7_go_362 (by decide) ?_
    have e9 : md_go N p 8 c = (none, N) := by rw [md_go, if_neg (by decide), if_neg (by decide), if_neg (by decide), if_neg (by decide), if_neg (by decide), if_neg (by decide), if_neg (by decide), if_neg (by decide), if_pos rfl]
    rw [e9] at hk
    exact sg_ireturn (st := []) (v := md_o none) (pc := 363) hC hR dX7_go_363 (hk M hI)
  · refine sg_tableIn (pc := 1) (x := nI 9) (off := 361) 362 hC dX7_go_1 (by decide) (by decide) (by decide) (by decide) ?_
    refine sg_iconst (pc := 362) (((-1))) hC dX7_go_362 (by decide) ?_
    have e9 : md_go N p 9 c = (none, N) := by rw [md_go, if_neg (by decide), if_neg (by decide), if_neg (by decide), if_neg (by decide), if_neg (by decide), if_neg (by decide), if_neg (by decide), if_neg (by decide), if_neg (by decide), if_pos rfl]
    rw [e9] at hk
    exact sg_ireturn (st := []) (v := md_o none) (pc := 363) hC hR dX7_go_363 (hk M hI)
  · refine sg_tableIn (pc := 1) (x := nI 10) (off := 190) 191 hC dX7_go_1 (by decide) (by decide) (by decide) (by decide) ?_
    have hl3 := hn (by decide)
    refine sg_aload_n (pc := 191) (v := .ref x) hC dX7_go_191 rfl rfl ?_
    refine sg_iload_n (pc := 192) (x := nI p) hC dX7_go_192 rfl ?_
    refine sg_iload_n (pc := 193) (x := nI c) hC dX7_go_193 rfl ?_
    refine sg_callV (pc := 194) (As := [.int (nI p), .int (nI c)]) (rest := []) (mc := 0) (ms := 0) hC tw_1315 tw_1317 tw_42 tw_72 tw_1318 yd_X7_host (by decide) (ci := 10) rfl dX7_go_194 hI.x rfl (Nat.le_of_ble_eq_true rfl) (Nat.zero_le _) (Nat.zero_le _) ?_
    refine mm_host htr hI p c (by first | omega | exact Nat.lt_of_le_of_lt Nat.and_le_left (by omega) | exact Nat.or_lt_two_pow (n := 16) (by omega) (by omega)) (by first | omega | exact Nat.lt_of_le_of_lt Nat.and_le_left (by omega) | exact Nat.or_lt_two_pow (n := 16) (by omega) (by omega)) (by first | omega | exact Nat.lt_of_le_of_lt Nat.and_le_left (by omega) | exact Nat.or_lt_two_pow (n := 16) (by omega) (by omega)) (fun M hI => ?_)
    show sg_W X M 0 0 197 [some (.ref x), some (.int (nI p)), some (.int (nI 10)), some (.int (nI c))] [.int (md_o ((md_host N p c).1))]
    have e9 : md_go N p 10 c = ((md_host N p c).1, (md_host N p c).2) := by rw [md_go, if_neg (by decide), if_neg (by decide), if_neg (by decide), if_neg (by decide), if_neg (by decide), if_neg (by decide), if_neg (by decide), if_neg (by decide), if_neg (by decide), if_neg (by decide), if_pos rfl]
    rw [e9] at hk
    exact sg_ireturn (st := []) (v := md_o ((md_host N p c).1)) (pc := 197) hC hR dX7_go_197 (hk M hI)
  · refine sg_tableIn (pc := 1) (x := nI 11) (off := 197) 198 hC dX7_go_1 (by decide) (by decide) (by decide) (by decide) ?_
    refine sg_iload_n (pc := 198) (x := nI c) hC dX7_go_198 rfl ?_
    refine sg_bipush (pc := 199) (nI 46) hC dX7_go_199 (by decide) ?_
    refine sg_icmpN_ne (pc := 201) (a := c) (b := 46) 209 hC dX7_go_201 (by decide) (by first | omega | exact Nat.lt_of_le_of_lt Nat.and_le_left (by omega) | exact Nat.or_lt_two_pow (n := 16) (by omega) (by omega)) (by first | omega | exact Nat.lt_of_le_of_lt Nat.and_le_left (by omega) | exact Nat.or_lt_two_pow (n := 16) (by omega) (by omega)) (fun h8 => ?_) (fun h8 => ?_)
    · refine sg_iload_n (pc := 209) (x := nI c) hC dX7_go_209 rfl ?_
      refine sg_bipush (pc := 210) (nI 58) hC dX7_go_210 (by decide) ?_
      refine sg_icmpN_ne (pc := 212) (a := c) (b := 58) 220 hC dX7_go_212 (by decide) (by first | omega | exact Nat.lt_of_le_of_lt Nat.and_le_left (by omega) | exact Nat.or_lt_two_pow (n := 16) (by omega) (by omega)) (by first | omega | exact Nat.lt_of_le_of_lt Nat.and_le_left (by omega) | exact Nat.or_lt_two_pow (n := 16) (by omega) (by omega)) (fun h9 => ?_) (fun h9 => ?_)
      · refine sg_iconst (pc := 220) (((-1))) hC dX7_go_220 (by decide) ?_
        have e9 : md_go N p 11 c = (none, N) := by rw [md_go, if_neg (by decide), if_neg (by decide), if_neg (by decide), if_neg (by decide), if_neg (by decide), if_neg (by decide), if_neg (by decide), if_neg (by decide), if_neg (by decide), if_neg (by decide), if_neg (by decide), if_pos rfl]; simp only [if_neg h8, if_neg h9]
        rw [e9] at hk
        exact sg_ireturn (st := []) (v := md_o none) (pc := 221) hC hR dX7_go_221 (hk M hI)
      · refine sg_bipush (pc := 215) (nI 14) hC dX7_go_215 (by decide) ?_
        refine sg_goto (pc := 217) 221 hC dX7_go_217 (by decide) ?_
        have e9 : md_go N p 11 c = (some 14, N) := by rw [md_go, if_neg (by decide), if_neg (by decide), if_neg (by decide), if_neg (by decide), if_neg (by decide), if_neg (by decide), if_neg (by decide), if_neg (by decide), if_neg (by decide), if_neg (by decide), if_neg (by decide), if_pos rfl]; simp only [if_neg h8, if_pos h9]
        rw [e9] at hk
        exact sg_ireturn (st := []) (v := md_o (some 14)) (pc := 221) hC hR dX7_go_221 (hk M hI)
    · refine sg_bipush (pc := 204) (nI 12) hC dX7_go_204 (by decide) ?_
      refine sg_goto (pc := 206) 221 hC dX7_go_206 (by decide) ?_
      have e9 : md_go N p 11 c = (some 12, N) := by rw [md_go, if_neg (by decide), if_neg (by decide), if_neg (by decide), if_neg (by decide), if_neg (by decide), if_neg (by decide), if_neg (by decide), if_neg (by decide), if_neg (by decide), if_neg (by decide), if_neg (by decide), if_pos rfl]; simp only [if_pos h8]
      rw [e9] at hk
      exact sg_ireturn (st := []) (v := md_o (some 12)) (pc := 221) hC hR dX7_go_221 (hk M hI)
  · refine sg_tableIn (pc := 1) (x := nI 12) (off := 221) 222 hC dX7_go_1 (by decide) (by decide) (by decide) (by decide) ?_
    have hl3 := hn (by decide)
    refine sg_aload_n (pc := 222) (v := .ref x) hC dX7_go_222 rfl rfl ?_
    refine sg_iload_n (pc := 223) (x := nI p) hC dX7_go_223 rfl ?_
    refine sg_iload_n (pc := 224) (x := nI c) hC dX7_go_224 rfl ?_
    refine sg_bipush (pc := 225) (nI 13) hC dX7_go_225 (by decide) ?_
    refine sg_callV (pc := 227) (As := [.int (nI p), .int (nI c), .int (nI 13)]) (rest := []) (mc := 0) (ms := 0) hC tw_1297 tw_1299 tw_39 tw_72 tw_1300 yd_X7_labelled (by decide) (ci := 10) rfl dX7_go_227 hI.x rfl (Nat.le_of_ble_eq_true rfl) (Nat.zero_le _) (Nat.zero_le _) ?_
    refine mm_labelled htr hI p c 13 (by first | omega | exact Nat.lt_of_le_of_lt Nat.and_le_left (by omega) | exact Nat.or_lt_two_pow (n := 16) (by omega) (by omega)) (by first | omega | exact Nat.lt_of_le_of_lt Nat.and_le_left (by omega) | exact Nat.or_lt_two_pow (n := 16) (by omega) (by omega)) (by first | omega | exact Nat.lt_of_le_of_lt Nat.and_le_left (by omega) | exact Nat.or_lt_two_pow (n := 16) (by omega) (by omega)) (fun M hI => ?_)
    show sg_W X M 0 0 230 [some (.ref x), some (.int (nI p)), some (.int (nI 12)), some (.int (nI c))] [.int (md_o ((md_labelled N p c 13).1))]
    have e9 : md_go N p 12 c = ((md_labelled N p c 13).1, (md_labelled N p c 13).2) := by rw [md_go, if_neg (by decide), if_neg (by decide), if_neg (by decide), if_neg (by decide), if_neg (by decide), if_neg (by decide), if_neg (by decide), if_neg (by decide), if_neg (by decide), if_neg (by decide), if_neg (by decide), if_neg (by decide), if_pos rfl]
    rw [e9] at hk
    exact sg_ireturn (st := []) (v := md_o ((md_labelled N p c 13).1)) (pc := 230) hC hR dX7_go_230 (hk M hI)
  · refine sg_tableIn (pc := 1) (x := nI 13) (off := 230) 231 hC dX7_go_1 (by decide) (by decide) (by decide) (by decide) ?_
    refine sg_iload_n (pc := 231) (x := nI c) hC dX7_go_231 rfl ?_
    refine sg_bipush (pc := 232) (nI 46) hC dX7_go_232 (by decide) ?_
    refine sg_icmpN_ne (pc := 234) (a := c) (b := 46) 266 hC dX7_go_234 (by decide) (by first | omega | exact Nat.lt_of_le_of_lt Nat.and_le_left (by omega) | exact Nat.or_lt_two_pow (n := 16) (by omega) (by omega)) (by first | omega | exact Nat.lt_of_le_of_lt Nat.and_le_left (by omega) | exact Nat.or_lt_two_pow (n := 16) (by omega) (by omega)) (fun h10 => ?_) (fun h10 => ?_)
    · refine sg_iload_n (pc := 266) (x := nI c) hC dX7_go_266 rfl ?_
      refine sg_bipush (pc := 267) (nI 58) hC dX7_go_267 (by decide) ?_
      refine sg_icmpN_ne (pc := 269) (a := c) (b := 58) 277 hC dX7_go_269 (by decide) (by first | omega | exact Nat.lt_of_le_of_lt Nat.and_le_left (by omega) | exact Nat.or_lt_two_pow (n := 16) (by omega) (by omega)) (by first | omega | exact Nat.lt_of_le_of_lt Nat.and_le_left (by omega) | exact Nat.or_lt_two_pow (n := 16) (by omega) (by omega)) (fun h11 => ?_) (fun h11 => ?_)
      · refine sg_iconst (pc := 277) (((-1))) hC dX7_go_277 (by decide) ?_
        have e9 : md_go N p 13 c = (none, N) := by rw [md_go, if_neg (by decide), if_neg (by decide), if_neg (by decide), if_neg (by decide), if_neg (by decide), if_neg (by decide), if_neg (by decide), if_neg (by decide), if_neg (by decide), if_neg (by decide), if_neg (by decide), if_neg (by decide), if_neg (by decide), if_pos rfl]; simp only [if_neg h10, if_neg h11]
        rw [e9] at hk
        exact sg_ireturn (st := []) (v := md_o none) (pc := 278) hC hR dX7_go_278 (hk M hI)
      · refine sg_bipush (pc := 272) (nI 14) hC dX7_go_272 (by decide) ?_
        refine sg_goto (pc := 274) 278 hC dX7_go_274 (by decide) ?_
        have e9 : md_go N p 13 c = (some 14, N) := by rw [md_go, if_neg (by decide), if_neg (by decide), if_neg (by decide), if_neg (by decide), if_neg (by decide), if_neg (by decide), if_neg (by decide), if_neg (by decide), if_neg (by decide), if_neg (by decide), if_neg (by decide), if_neg (by decide), if_neg (by decide), if_pos rfl]; simp only [if_neg h10, if_pos h11]
        rw [e9] at hk
        exact sg_ireturn (st := []) (v := md_o (some 14)) (pc := 278) hC hR dX7_go_278 (hk M hI)
    · refine sg_aload_n (pc := 237) (v := .ref x) hC dX7_go_237 rfl rfl ?_
      refine md_get (pc := 238) (i := 4) hC (by decide) tw_1190 dX7_go_238 hI rfl ?_
      refine sg_iload_n (pc := 241) (x := nI p) hC dX7_go_241 rfl ?_
      refine md_iald (pc := 242) (i := 4) (j := p) hC dX7_go_242 hI rfl (by first | omega | exact Nat.lt_of_le_of_lt Nat.and_le_left (by omega) | exact Nat.or_lt_two_pow (n := 16) (by omega) (by omega)) (by decide) (fun hv12 => ?_)
      show sg_W X M 0 0 243 [some (.ref x), some (.int (nI p)), some (.int (nI 13)), some (.int (nI c))] [.int (nI (N 4 p))]
      refine sg_aload_n (pc := 243) (v := .ref x) hC dX7_go_243 rfl rfl ?_
      refine md_get (pc := 244) (i := 6) hC (by decide) tw_1192 dX7_go_244 hI rfl ?_
      refine sg_iload_n (pc := 247) (x := nI p) hC dX7_go_247 rfl ?_
      refine md_iald (pc := 248) (i := 6) (j := p) hC dX7_go_248 hI rfl (by first | omega | exact Nat.lt_of_le_of_lt Nat.and_le_left (by omega) | exact Nat.or_lt_two_pow (n := 16) (by omega) (by omega)) (by decide) (fun hv13 => ?_)
      show sg_W X M 0 0 249 [some (.ref x), some (.int (nI p)), some (.int (nI 13)), some (.int (nI c))] [.int (nI (N 6 p)), .int (nI (N 4 p))]
      refine sg_iconst (pc := 249) (nI 1) hC dX7_go_249 (by decide) ?_
      refine sg_icmpN_ne (pc := 250) (a := N 6 p) (b := 1) 257 hC dX7_go_250 (by decide) (by first | omega | exact Nat.lt_of_le_of_lt Nat.and_le_left (by omega) | exact Nat.or_lt_two_pow (n := 16) (by omega) (by omega)) (by first | omega | exact Nat.lt_of_le_of_lt Nat.and_le_left (by omega) | exact Nat.or_lt_two_pow (n := 16) (by omega) (by omega)) (fun h14 => ?_) (fun h14 => ?_)
      · refine sg_iconst (pc := 257) (nI 3) hC dX7_go_257 (by decide) ?_
        refine sg_icmpN_ge (pc := 258) (a := N 4 p) (b := 3) 266 hC dX7_go_258 (by decide) (by first | omega | exact Nat.lt_of_le_of_lt Nat.and_le_left (by omega) | exact Nat.or_lt_two_pow (n := 16) (by omega) (by omega)) (by first | omega | exact Nat.lt_of_le_of_lt Nat.and_le_left (by omega) | exact Nat.or_lt_two_pow (n := 16) (by omega) (by omega)) (fun h15 => ?_) (fun h15 => ?_)
        · refine sg_iload_n (pc := 266) (x := nI c) hC dX7_go_266 rfl ?_
          refine sg_bipush (pc := 267) (nI 58) hC dX7_go_267 (by decide) ?_
          refine sg_icmpN_ne (pc := 269) (a := c) (b := 58) 277 hC dX7_go_269 (by decide) (by first | omega | exact Nat.lt_of_le_of_lt Nat.and_le_left (by omega) | exact Nat.or_lt_two_pow (n := 16) (by omega) (by omega)) (by first | omega | exact Nat.lt_of_le_of_lt Nat.and_le_left (by omega) | exact Nat.or_lt_two_pow (n := 16) (by omega) (by omega)) (fun h16 => ?_) (fun h16 => ?_)
          · refine sg_iconst (pc := 277) (((-1))) hC dX7_go_277 (by decide) ?_
            have e9 : md_go N p 13 c = (none, N) := by rw [md_go, if_neg (by decide), if_neg (by decide), if_neg (by decide), if_neg (by decide), if_neg (by decide), if_neg (by decide), if_neg (by decide), if_neg (by decide), if_neg (by decide), if_neg (by decide), if_neg (by decide), if_neg (by decide), if_neg (by decide), if_pos rfl]; simp only [if_pos h10, if_neg h14, if_pos h15, if_neg h16]
            rw [e9] at hk
            exact sg_ireturn (st := []) (v := md_o none) (pc := 278) hC hR dX7_go_278 (hk M hI)
          · refine sg_bipush (pc := 272) (nI 14) hC dX7_go_272 (by decide) ?_
            refine sg_goto (pc := 274) 278 hC dX7_go_274 (by decide) ?_
            have e9 : md_go N p 13 c = (some 14, N) := by rw [md_go, if_neg (by decide), if_neg (by decide), if_neg (by decide), if_neg (by decide), if_neg (by decide), if_neg (by decide), if_neg (by decide), if_neg (by decide), if_neg (by decide), if_neg (by decide), if_neg (by decide), if_neg (by decide), if_neg (by decide), if_pos rfl]; simp only [if_pos h10, if_neg h14, if_pos h15, if_pos h16]
            rw [e9] at hk
            exact sg_ireturn (st := []) (v := md_o (some 14)) (pc := 278) hC hR dX7_go_278 (hk M hI)
        · refine sg_bipush (pc := 261) (nI 12) hC dX7_go_261 (by decide) ?_
          refine sg_goto (pc := 263) 278 hC dX7_go_263 (by decide) ?_
          have e9 : md_go N p 13 c = (some 12, N) := by rw [md_go, if_neg (by decide), if_neg (by decide), if_neg (by decide), if_neg (by decide), if_neg (by decide), if_neg (by decide), if_neg (by decide), if_neg (by decide), if_neg (by decide), if_neg (by decide), if_neg (by decide), if_neg (by decide), if_neg (by decide), if_pos rfl]; simp only [if_pos h10, if_neg h14, if_neg (Nat.not_le.mpr h15)]
          rw [e9] at hk
          exact sg_ireturn (st := []) (v := md_o (some 12)) (pc := 278) hC hR dX7_go_278 (hk M hI)
      · refine sg_iconst (pc := 253) (nI 2) hC dX7_go_253 (by decide) ?_
        refine sg_goto (pc := 254) 258 hC dX7_go_254 (by decide) ?_
        refine sg_icmpN_ge (pc := 258) (a := N 4 p) (b := 2) 266 hC dX7_go_258 (by decide) (by first | omega | exact Nat.lt_of_le_of_lt Nat.and_le_left (by omega) | exact Nat.or_lt_two_pow (n := 16) (by omega) (by omega)) (by first | omega | exact Nat.lt_of_le_of_lt Nat.and_le_left (by omega) | exact Nat.or_lt_two_pow (n := 16) (by omega) (by omega)) (fun h17 => ?_) (fun h17 => ?_)
        · refine sg_iload_n (pc := 266) (x := nI c) hC dX7_go_266 rfl ?_
          refine sg_bipush (pc := 267) (nI 58) hC dX7_go_267 (by decide) ?_
          refine sg_icmpN_ne (pc := 269) (a := c) (b := 58) 277 hC dX7_go_269 (by decide) (by first | omega | exact Nat.lt_of_le_of_lt Nat.and_le_left (by omega) | exact Nat.or_lt_two_pow (n := 16) (by omega) (by omega)) (by first | omega | exact Nat.lt_of_le_of_lt Nat.and_le_left (by omega) | exact Nat.or_lt_two_pow (n := 16) (by omega) (by omega)) (fun h18 => ?_) (fun h18 => ?_)
          · refine sg_iconst (pc := 277) (((-1))) hC dX7_go_277 (by decide) ?_
            have e9 : md_go N p 13 c = (none, N) := by rw [md_go, if_neg (by decide), if_neg (by decide), if_neg (by decide), if_neg (by decide), if_neg (by decide), if_neg (by decide), if_neg (by decide), if_neg (by decide), if_neg (by decide), if_neg (by decide), if_neg (by decide), if_neg (by decide), if_neg (by decide), if_pos rfl]; simp only [if_pos h10, if_pos h14, if_pos h17, if_neg h18]
            rw [e9] at hk
            exact sg_ireturn (st := []) (v := md_o none) (pc := 278) hC hR dX7_go_278 (hk M hI)
          · refine sg_bipush (pc := 272) (nI 14) hC dX7_go_272 (by decide) ?_
            refine sg_goto (pc := 274) 278 hC dX7_go_274 (by decide) ?_
            have e9 : md_go N p 13 c = (some 14, N) := by rw [md_go, if_neg (by decide), if_neg (by decide), if_neg (by decide), if_neg (by decide), if_neg (by decide), if_neg (by decide), if_neg (by decide), if_neg (by decide), if_neg (by decide), if_neg (by decide), if_neg (by decide), if_neg (by decide), if_neg (by decide), if_pos rfl]; simp only [if_pos h10, if_pos h14, if_pos h17, if_pos h18]
            rw [e9] at hk
            exact sg_ireturn (st := []) (v := md_o (some 14)) (pc := 278) hC hR dX7_go_278 (hk M hI)
        · refine sg_bipush (pc := 261) (nI 12) hC dX7_go_261 (by decide) ?_
          refine sg_goto (pc := 263) 278 hC dX7_go_263 (by decide) ?_
          have e9 : md_go N p 13 c = (some 12, N) := by rw [md_go, if_neg (by decide), if_neg (by decide), if_neg (by decide), if_neg (by decide), if_neg (by decide), if_neg (by decide), if_neg (by decide), if_neg (by decide), if_neg (by decide), if_neg (by decide), if_neg (by decide), if_neg (by decide), if_neg (by decide), if_pos rfl]; simp only [if_pos h10, if_pos h14, if_neg (Nat.not_le.mpr h17)]
          rw [e9] at hk
          exact sg_ireturn (st := []) (v := md_o (some 12)) (pc := 278) hC hR dX7_go_278 (hk M hI)
  · refine sg_tableIn (pc := 1) (x := nI 14) (off := 278) 279 hC dX7_go_1 (by decide) (by decide) (by decide) (by decide) ?_
    refine sg_aload_n (pc := 279) (v := .ref x) hC dX7_go_279 rfl rfl ?_
    refine sg_iload_n (pc := 280) (x := nI p) hC dX7_go_280 rfl ?_
    refine sg_iload_n (pc := 281) (x := nI 14) hC dX7_go_281 rfl ?_
    refine sg_iload_n (pc := 282) (x := nI c) hC dX7_go_282 rfl ?_
    refine sg_callV (pc := 283) (As := [.int (nI p), .int (nI 14), .int (nI c)]) (rest := []) (mc := 0) (ms := 0) hC tw_1319 tw_1321 tw_43 tw_72 tw_1322 yd_X7_range (by decide) (ci := 10) rfl dX7_go_283 hI.x rfl (Nat.le_of_ble_eq_true rfl) (Nat.zero_le _) (Nat.zero_le _) ?_
    refine mm_range htr hI p 14 c (by first | omega | exact Nat.lt_of_le_of_lt Nat.and_le_left (by omega) | exact Nat.or_lt_two_pow (n := 16) (by omega) (by omega)) (by first | omega | exact Nat.lt_of_le_of_lt Nat.and_le_left (by omega) | exact Nat.or_lt_two_pow (n := 16) (by omega) (by omega)) (by first | omega | exact Nat.lt_of_le_of_lt Nat.and_le_left (by omega) | exact Nat.or_lt_two_pow (n := 16) (by omega) (by omega)) (fun M hI => ?_)
    show sg_W X M 0 0 286 [some (.ref x), some (.int (nI p)), some (.int (nI 14)), some (.int (nI c))] [.int (md_o ((md_range N p 14 c).1))]
    have e9 : md_go N p 14 c = ((md_range N p 14 c).1, (md_range N p 14 c).2) := by rw [md_go, if_neg (by decide), if_neg (by decide), if_neg (by decide), if_neg (by decide), if_neg (by decide), if_neg (by decide), if_neg (by decide), if_neg (by decide), if_neg (by decide), if_neg (by decide), if_neg (by decide), if_neg (by decide), if_neg (by decide), if_neg (by decide), if_pos rfl]
    rw [e9] at hk
    exact sg_ireturn (st := []) (v := md_o ((md_range N p 14 c).1)) (pc := 286) hC hR dX7_go_286 (hk M hI)
  · refine sg_tableIn (pc := 1) (x := nI 15) (off := 278) 279 hC dX7_go_1 (by decide) (by decide) (by decide) (by decide) ?_
    refine sg_aload_n (pc := 279) (v := .ref x) hC dX7_go_279 rfl rfl ?_
    refine sg_iload_n (pc := 280) (x := nI p) hC dX7_go_280 rfl ?_
    refine sg_iload_n (pc := 281) (x := nI 15) hC dX7_go_281 rfl ?_
    refine sg_iload_n (pc := 282) (x := nI c) hC dX7_go_282 rfl ?_
    refine sg_callV (pc := 283) (As := [.int (nI p), .int (nI 15), .int (nI c)]) (rest := []) (mc := 0) (ms := 0) hC tw_1319 tw_1321 tw_43 tw_72 tw_1322 yd_X7_range (by decide) (ci := 10) rfl dX7_go_283 hI.x rfl (Nat.le_of_ble_eq_true rfl) (Nat.zero_le _) (Nat.zero_le _) ?_
    refine mm_range htr hI p 15 c (by first | omega | exact Nat.lt_of_le_of_lt Nat.and_le_left (by omega) | exact Nat.or_lt_two_pow (n := 16) (by omega) (by omega)) (by first | omega | exact Nat.lt_of_le_of_lt Nat.and_le_left (by omega) | exact Nat.or_lt_two_pow (n := 16) (by omega) (by omega)) (by first | omega | exact Nat.lt_of_le_of_lt Nat.and_le_left (by omega) | exact Nat.or_lt_two_pow (n := 16) (by omega) (by omega)) (fun M hI => ?_)
    show sg_W X M 0 0 286 [some (.ref x), some (.int (nI p)), some (.int (nI 15)), some (.int (nI c))] [.int (md_o ((md_range N p 15 c).1))]
    have e9 : md_go N p 15 c = ((md_range N p 15 c).1, (md_range N p 15 c).2) := by rw [md_go, if_neg (by decide), if_neg (by decide), if_neg (by decide), if_neg (by decide), if_neg (by decide), if_neg (by decide), if_neg (by decide), if_neg (by decide), if_neg (by decide), if_neg (by decide), if_neg (by decide), if_neg (by decide), if_neg (by decide), if_neg (by decide), if_neg (by decide), if_pos rfl]
    rw [e9] at hk
    exact sg_ireturn (st := []) (v := md_o ((md_range N p 15 c).1)) (pc := 286) hC hR dX7_go_286 (hk M hI)
  · refine sg_tableIn (pc := 1) (x := nI 16) (off := 278) 279 hC dX7_go_1 (by decide) (by decide) (by decide) (by decide) ?_
    refine sg_aload_n (pc := 279) (v := .ref x) hC dX7_go_279 rfl rfl ?_
    refine sg_iload_n (pc := 280) (x := nI p) hC dX7_go_280 rfl ?_
    refine sg_iload_n (pc := 281) (x := nI 16) hC dX7_go_281 rfl ?_
    refine sg_iload_n (pc := 282) (x := nI c) hC dX7_go_282 rfl ?_
    refine sg_callV (pc := 283) (As := [.int (nI p), .int (nI 16), .int (nI c)]) (rest := []) (mc := 0) (ms := 0) hC tw_1319 tw_1321 tw_43 tw_72 tw_1322 yd_X7_range (by decide) (ci := 10) rfl dX7_go_283 hI.x rfl (Nat.le_of_ble_eq_true rfl) (Nat.zero_le _) (Nat.zero_le _) ?_
    refine mm_range htr hI p 16 c (by first | omega | exact Nat.lt_of_le_of_lt Nat.and_le_left (by omega) | exact Nat.or_lt_two_pow (n := 16) (by omega) (by omega)) (by first | omega | exact Nat.lt_of_le_of_lt Nat.and_le_left (by omega) | exact Nat.or_lt_two_pow (n := 16) (by omega) (by omega)) (by first | omega | exact Nat.lt_of_le_of_lt Nat.and_le_left (by omega) | exact Nat.or_lt_two_pow (n := 16) (by omega) (by omega)) (fun M hI => ?_)
    show sg_W X M 0 0 286 [some (.ref x), some (.int (nI p)), some (.int (nI 16)), some (.int (nI c))] [.int (md_o ((md_range N p 16 c).1))]
    have e9 : md_go N p 16 c = ((md_range N p 16 c).1, (md_range N p 16 c).2) := by rw [md_go, if_neg (by decide), if_neg (by decide), if_neg (by decide), if_neg (by decide), if_neg (by decide), if_neg (by decide), if_neg (by decide), if_neg (by decide), if_neg (by decide), if_neg (by decide), if_neg (by decide), if_neg (by decide), if_neg (by decide), if_neg (by decide), if_neg (by decide), if_neg (by decide), if_pos rfl]
    rw [e9] at hk
    exact sg_ireturn (st := []) (v := md_o ((md_range N p 16 c).1)) (pc := 286) hC hR dX7_go_286 (hk M hI)
  · refine sg_tableIn (pc := 1) (x := nI 17) (off := 361) 362 hC dX7_go_1 (by decide) (by decide) (by decide) (by decide) ?_
    refine sg_iconst (pc := 362) (((-1))) hC dX7_go_362 (by decide) ?_
    have e9 : md_go N p 17 c = (none, N) := by rw [md_go, if_neg (by decide), if_neg (by decide), if_neg (by decide), if_neg (by decide), if_neg (by decide), if_neg (by decide), if_neg (by decide), if_neg (by decide), if_neg (by decide), if_neg (by decide), if_neg (by decide), if_neg (by decide), if_neg (by decide), if_neg (by decide), if_neg (by decide), if_neg (by decide), if_neg (by decide), if_pos rfl]
    rw [e9] at hk
    exact sg_ireturn (st := []) (v := md_o none) (pc := 363) hC hR dX7_go_363 (hk M hI)
  · refine sg_tableIn (pc := 1) (x := nI 18) (off := 278) 279 hC dX7_go_1 (by decide) (by decide) (by decide) (by decide) ?_
    refine sg_aload_n (pc := 279) (v := .ref x) hC dX7_go_279 rfl rfl ?_
    refine sg_iload_n (pc := 280) (x := nI p) hC dX7_go_280 rfl ?_
    refine sg_iload_n (pc := 281) (x := nI 18) hC dX7_go_281 rfl ?_
    refine sg_iload_n (pc := 282) (x := nI c) hC dX7_go_282 rfl ?_
    refine sg_callV (pc := 283) (As := [.int (nI p), .int (nI 18), .int (nI c)]) (rest := []) (mc := 0) (ms := 0) hC tw_1319 tw_1321 tw_43 tw_72 tw_1322 yd_X7_range (by decide) (ci := 10) rfl dX7_go_283 hI.x rfl (Nat.le_of_ble_eq_true rfl) (Nat.zero_le _) (Nat.zero_le _) ?_
    refine mm_range htr hI p 18 c (by first | omega | exact Nat.lt_of_le_of_lt Nat.and_le_left (by omega) | exact Nat.or_lt_two_pow (n := 16) (by omega) (by omega)) (by first | omega | exact Nat.lt_of_le_of_lt Nat.and_le_left (by omega) | exact Nat.or_lt_two_pow (n := 16) (by omega) (by omega)) (by first | omega | exact Nat.lt_of_le_of_lt Nat.and_le_left (by omega) | exact Nat.or_lt_two_pow (n := 16) (by omega) (by omega)) (fun M hI => ?_)
    show sg_W X M 0 0 286 [some (.ref x), some (.int (nI p)), some (.int (nI 18)), some (.int (nI c))] [.int (md_o ((md_range N p 18 c).1))]
    have e9 : md_go N p 18 c = ((md_range N p 18 c).1, (md_range N p 18 c).2) := by rw [md_go, if_neg (by decide), if_neg (by decide), if_neg (by decide), if_neg (by decide), if_neg (by decide), if_neg (by decide), if_neg (by decide), if_neg (by decide), if_neg (by decide), if_neg (by decide), if_neg (by decide), if_neg (by decide), if_neg (by decide), if_neg (by decide), if_neg (by decide), if_neg (by decide), if_neg (by decide), if_neg (by decide), if_pos rfl]
    rw [e9] at hk
    exact sg_ireturn (st := []) (v := md_o ((md_range N p 18 c).1)) (pc := 286) hC hR dX7_go_286 (hk M hI)
  · refine sg_tableIn (pc := 1) (x := nI 19) (off := 361) 362 hC dX7_go_1 (by decide) (by decide) (by decide) (by decide) ?_
    refine sg_iconst (pc := 362) (((-1))) hC dX7_go_362 (by decide) ?_
    have e9 : md_go N p 19 c = (none, N) := by rw [md_go, if_neg (by decide), if_neg (by decide), if_neg (by decide), if_neg (by decide), if_neg (by decide), if_neg (by decide), if_neg (by decide), if_neg (by decide), if_neg (by decide), if_neg (by decide), if_neg (by decide), if_neg (by decide), if_neg (by decide), if_neg (by decide), if_neg (by decide), if_neg (by decide), if_neg (by decide), if_neg (by decide), if_neg (by decide), if_pos rfl]
    rw [e9] at hk
    exact sg_ireturn (st := []) (v := md_o none) (pc := 363) hC hR dX7_go_363 (hk M hI)
  · refine sg_tableIn (pc := 1) (x := nI 20) (off := 286) 287 hC dX7_go_1 (by decide) (by decide) (by decide) (by decide) ?_
    have hl3 := hn (by decide)
    refine sg_iload_n (pc := 287) (x := nI c) hC dX7_go_287 rfl ?_
    refine sg_bipush (pc := 288) (nI 42) hC dX7_go_288 (by decide) ?_
    refine sg_icmpN_ne (pc := 290) (a := c) (b := 42) 304 hC dX7_go_290 (by decide) (by first | omega | exact Nat.lt_of_le_of_lt Nat.and_le_left (by omega) | exact Nat.or_lt_two_pow (n := 16) (by omega) (by omega)) (by first | omega | exact Nat.lt_of_le_of_lt Nat.and_le_left (by omega) | exact Nat.or_lt_two_pow (n := 16) (by omega) (by omega)) (fun h19 => ?_) (fun h19 => ?_)
    · refine sg_aload_n (pc := 304) (v := .ref x) hC dX7_go_304 rfl rfl ?_
      refine sg_iload_n (pc := 305) (x := nI p) hC dX7_go_305 rfl ?_
      refine sg_iload_n (pc := 306) (x := nI c) hC dX7_go_306 rfl ?_
      refine sg_bipush (pc := 307) (nI 22) hC dX7_go_307 (by decide) ?_
      refine sg_callV (pc := 309) (As := [.int (nI p), .int (nI c), .int (nI 22)]) (rest := []) (mc := 0) (ms := 0) hC tw_1297 tw_1299 tw_39 tw_72 tw_1300 yd_X7_labelled (by decide) (ci := 10) rfl dX7_go_309 hI.x rfl (Nat.le_of_ble_eq_true rfl) (Nat.zero_le _) (Nat.zero_le _) ?_
      refine mm_labelled htr hI p c 22 (by first | omega | exact Nat.lt_of_le_of_lt Nat.and_le_left (by omega) | exact Nat.or_lt_two_pow (n := 16) (by omega) (by omega)) (by first | omega | exact Nat.lt_of_le_of_lt Nat.and_le_left (by omega) | exact Nat.or_lt_two_pow (n := 16) (by omega) (by omega)) (by first | omega | exact Nat.lt_of_le_of_lt Nat.and_le_left (by omega) | exact Nat.or_lt_two_pow (n := 16) (by omega) (by omega)) (fun M hI => ?_)
      show sg_W X M 0 0 312 [some (.ref x), some (.int (nI p)), some (.int (nI 20)), some (.int (nI c))] [.int (md_o ((md_labelled N p c 22).1))]
      have e9 : md_go N p 20 c = ((md_labelled N p c 22).1, (md_labelled N p c 22).2) := by rw [md_go, if_neg (by decide), if_neg (by decide), if_neg (by decide), if_neg (by decide), if_neg (by decide), if_neg (by decide), if_neg (by decide), if_neg (by decide), if_neg (by decide), if_neg (by decide), if_neg (by decide), if_neg (by decide), if_neg (by decide), if_neg (by decide), if_neg (by decide), if_neg (by decide), if_neg (by decide), if_neg (by decide), if_neg (by decide), if_neg (by decide), if_pos rfl]; simp only [if_neg h19]
      rw [e9] at hk
      exact sg_ireturn (st := []) (v := md_o ((md_labelled N p c 22).1)) (pc := 312) hC hR dX7_go_312 (hk M hI)
    · refine sg_aload_n (pc := 293) (v := .ref x) hC dX7_go_293 rfl rfl ?_
      refine sg_iload_n (pc := 294) (x := nI p) hC dX7_go_294 rfl ?_
      refine sg_iconst (pc := 295) (nI 1) hC dX7_go_295 (by decide) ?_
      refine sg_bipush (pc := 296) (nI 21) hC dX7_go_296 (by decide) ?_
      refine sg_callV (pc := 298) (As := [.int (nI p), .int (nI 1), .int (nI 21)]) (rest := []) (mc := 0) (ms := 0) hC tw_1293 tw_1295 tw_38 tw_72 tw_1296 yd_X7_starred (by decide) (ci := 10) rfl dX7_go_298 hI.x rfl (Nat.le_of_ble_eq_true rfl) (Nat.zero_le _) (Nat.zero_le _) ?_
      refine mm_starred htr hI p 1 21 (by first | omega | exact Nat.lt_of_le_of_lt Nat.and_le_left (by omega) | exact Nat.or_lt_two_pow (n := 16) (by omega) (by omega)) (by first | omega | exact Nat.lt_of_le_of_lt Nat.and_le_left (by omega) | exact Nat.or_lt_two_pow (n := 16) (by omega) (by omega)) (fun M hI => ?_)
      show sg_W X M 0 0 301 [some (.ref x), some (.int (nI p)), some (.int (nI 20)), some (.int (nI c))] [.int (nI ((md_starred N p 1 21).1))]
      refine sg_goto (pc := 301) 312 hC dX7_go_301 (by decide) ?_
      have e9 : md_go N p 20 c = (some ((md_starred N p 1 21).1), (md_starred N p 1 21).2) := by rw [md_go, if_neg (by decide), if_neg (by decide), if_neg (by decide), if_neg (by decide), if_neg (by decide), if_neg (by decide), if_neg (by decide), if_neg (by decide), if_neg (by decide), if_neg (by decide), if_neg (by decide), if_neg (by decide), if_neg (by decide), if_neg (by decide), if_neg (by decide), if_neg (by decide), if_neg (by decide), if_neg (by decide), if_neg (by decide), if_neg (by decide), if_pos rfl]; simp only [if_pos h19]
      rw [e9] at hk
      exact sg_ireturn (st := []) (v := md_o (some ((md_starred N p 1 21).1))) (pc := 312) hC hR dX7_go_312 (hk M hI)
  · refine sg_tableIn (pc := 1) (x := nI 21) (off := 361) 362 hC dX7_go_1 (by decide) (by decide) (by decide) (by decide) ?_
    refine sg_iconst (pc := 362) (((-1))) hC dX7_go_362 (by decide) ?_
    have e9 : md_go N p 21 c = (none, N) := by rw [md_go, if_neg (by decide), if_neg (by decide), if_neg (by decide), if_neg (by decide), if_neg (by decide), if_neg (by decide), if_neg (by decide), if_neg (by decide), if_neg (by decide), if_neg (by decide), if_neg (by decide), if_neg (by decide), if_neg (by decide), if_neg (by decide), if_neg (by decide), if_neg (by decide), if_neg (by decide), if_neg (by decide), if_neg (by decide), if_neg (by decide), if_neg (by decide), if_pos rfl]
    rw [e9] at hk
    exact sg_ireturn (st := []) (v := md_o none) (pc := 363) hC hR dX7_go_363 (hk M hI)
  · refine sg_tableIn (pc := 1) (x := nI 22) (off := 312) 313 hC dX7_go_1 (by decide) (by decide) (by decide) (by decide) ?_
    refine sg_iload_n (pc := 313) (x := nI c) hC dX7_go_313 rfl ?_
    refine sg_bipush (pc := 314) (nI 46) hC dX7_go_314 (by decide) ?_
    refine sg_icmpN_ne (pc := 316) (a := c) (b := 46) 334 hC dX7_go_316 (by decide) (by first | omega | exact Nat.lt_of_le_of_lt Nat.and_le_left (by omega) | exact Nat.or_lt_two_pow (n := 16) (by omega) (by omega)) (by first | omega | exact Nat.lt_of_le_of_lt Nat.and_le_left (by omega) | exact Nat.or_lt_two_pow (n := 16) (by omega) (by omega)) (fun h20 => ?_) (fun h20 => ?_)
    · refine sg_iconst (pc := 334) (((-1))) hC dX7_go_334 (by decide) ?_
      have e9 : md_go N p 22 c = (none, N) := by rw [md_go, if_neg (by decide), if_neg (by decide), if_neg (by decide), if_neg (by decide), if_neg (by decide), if_neg (by decide), if_neg (by decide), if_neg (by decide), if_neg (by decide), if_neg (by decide), if_neg (by decide), if_neg (by decide), if_neg (by decide), if_neg (by decide), if_neg (by decide), if_neg (by decide), if_neg (by decide), if_neg (by decide), if_neg (by decide), if_neg (by decide), if_neg (by decide), if_neg (by decide), if_pos rfl]; simp only [if_neg h20]
      rw [e9] at hk
      exact sg_ireturn (st := []) (v := md_o none) (pc := 335) hC hR dX7_go_335 (hk M hI)
    · refine sg_aload_n (pc := 319) (v := .ref x) hC dX7_go_319 rfl rfl ?_
      refine md_get (pc := 320) (i := 4) hC (by decide) tw_1190 dX7_go_320 hI rfl ?_
      refine sg_iload_n (pc := 323) (x := nI p) hC dX7_go_323 rfl ?_
      refine md_iald (pc := 324) (i := 4) (j := p) hC dX7_go_324 hI rfl (by first | omega | exact Nat.lt_of_le_of_lt Nat.and_le_left (by omega) | exact Nat.or_lt_two_pow (n := 16) (by omega) (by omega)) (by decide) (fun hv21 => ?_)
      show sg_W X M 0 0 325 [some (.ref x), some (.int (nI p)), some (.int (nI 22)), some (.int (nI c))] [.int (nI (N 4 p))]
      refine sg_iconst (pc := 325) (nI 3) hC dX7_go_325 (by decide) ?_
      refine sg_icmpN_ge (pc := 326) (a := N 4 p) (b := 3) 334 hC dX7_go_326 (by decide) (by first | omega | exact Nat.lt_of_le_of_lt Nat.and_le_left (by omega) | exact Nat.or_lt_two_pow (n := 16) (by omega) (by omega)) (by first | omega | exact Nat.lt_of_le_of_lt Nat.and_le_left (by omega) | exact Nat.or_lt_two_pow (n := 16) (by omega) (by omega)) (fun h22 => ?_) (fun h22 => ?_)
      · refine sg_iconst (pc := 334) (((-1))) hC dX7_go_334 (by decide) ?_
        have e9 : md_go N p 22 c = (none, N) := by rw [md_go, if_neg (by decide), if_neg (by decide), if_neg (by decide), if_neg (by decide), if_neg (by decide), if_neg (by decide), if_neg (by decide), if_neg (by decide), if_neg (by decide), if_neg (by decide), if_neg (by decide), if_neg (by decide), if_neg (by decide), if_neg (by decide), if_neg (by decide), if_neg (by decide), if_neg (by decide), if_neg (by decide), if_neg (by decide), if_neg (by decide), if_neg (by decide), if_neg (by decide), if_pos rfl]; simp only [if_pos h20, if_pos h22]
        rw [e9] at hk
        exact sg_ireturn (st := []) (v := md_o none) (pc := 335) hC hR dX7_go_335 (hk M hI)
      · refine sg_bipush (pc := 329) (nI 23) hC dX7_go_329 (by decide) ?_
        refine sg_goto (pc := 331) 335 hC dX7_go_331 (by decide) ?_
        have e9 : md_go N p 22 c = (some 23, N) := by rw [md_go, if_neg (by decide), if_neg (by decide), if_neg (by decide), if_neg (by decide), if_neg (by decide), if_neg (by decide), if_neg (by decide), if_neg (by decide), if_neg (by decide), if_neg (by decide), if_neg (by decide), if_neg (by decide), if_neg (by decide), if_neg (by decide), if_neg (by decide), if_neg (by decide), if_neg (by decide), if_neg (by decide), if_neg (by decide), if_neg (by decide), if_neg (by decide), if_neg (by decide), if_pos rfl]; simp only [if_pos h20, if_neg (Nat.not_le.mpr h22)]
        rw [e9] at hk
        exact sg_ireturn (st := []) (v := md_o (some 23)) (pc := 335) hC hR dX7_go_335 (hk M hI)
  · refine sg_tableIn (pc := 1) (x := nI 23) (off := 335) 336 hC dX7_go_1 (by decide) (by decide) (by decide) (by decide) ?_
    have hl3 := hn (by decide)
    refine sg_iload_n (pc := 336) (x := nI c) hC dX7_go_336 rfl ?_
    refine sg_bipush (pc := 337) (nI 42) hC dX7_go_337 (by decide) ?_
    refine sg_icmpN_ne (pc := 339) (a := c) (b := 42) 353 hC dX7_go_339 (by decide) (by first | omega | exact Nat.lt_of_le_of_lt Nat.and_le_left (by omega) | exact Nat.or_lt_two_pow (n := 16) (by omega) (by omega)) (by first | omega | exact Nat.lt_of_le_of_lt Nat.and_le_left (by omega) | exact Nat.or_lt_two_pow (n := 16) (by omega) (by omega)) (fun h23 => ?_) (fun h23 => ?_)
    · refine sg_aload_n (pc := 353) (v := .ref x) hC dX7_go_353 rfl rfl ?_
      refine sg_iload_n (pc := 354) (x := nI p) hC dX7_go_354 rfl ?_
      refine sg_iload_n (pc := 355) (x := nI c) hC dX7_go_355 rfl ?_
      refine sg_bipush (pc := 356) (nI 22) hC dX7_go_356 (by decide) ?_
      refine sg_callV (pc := 358) (As := [.int (nI p), .int (nI c), .int (nI 22)]) (rest := []) (mc := 0) (ms := 0) hC tw_1297 tw_1299 tw_39 tw_72 tw_1300 yd_X7_labelled (by decide) (ci := 10) rfl dX7_go_358 hI.x rfl (Nat.le_of_ble_eq_true rfl) (Nat.zero_le _) (Nat.zero_le _) ?_
      refine mm_labelled htr hI p c 22 (by first | omega | exact Nat.lt_of_le_of_lt Nat.and_le_left (by omega) | exact Nat.or_lt_two_pow (n := 16) (by omega) (by omega)) (by first | omega | exact Nat.lt_of_le_of_lt Nat.and_le_left (by omega) | exact Nat.or_lt_two_pow (n := 16) (by omega) (by omega)) (by first | omega | exact Nat.lt_of_le_of_lt Nat.and_le_left (by omega) | exact Nat.or_lt_two_pow (n := 16) (by omega) (by omega)) (fun M hI => ?_)
      show sg_W X M 0 0 361 [some (.ref x), some (.int (nI p)), some (.int (nI 23)), some (.int (nI c))] [.int (md_o ((md_labelled N p c 22).1))]
      have e9 : md_go N p 23 c = ((md_labelled N p c 22).1, (md_labelled N p c 22).2) := by rw [md_go, if_neg (by decide), if_neg (by decide), if_neg (by decide), if_neg (by decide), if_neg (by decide), if_neg (by decide), if_neg (by decide), if_neg (by decide), if_neg (by decide), if_neg (by decide), if_neg (by decide), if_neg (by decide), if_neg (by decide), if_neg (by decide), if_neg (by decide), if_neg (by decide), if_neg (by decide), if_neg (by decide), if_neg (by decide), if_neg (by decide), if_neg (by decide), if_neg (by decide), if_neg (by decide)]; simp only [if_neg h23]
      rw [e9] at hk
      exact sg_ireturn (st := []) (v := md_o ((md_labelled N p c 22).1)) (pc := 361) hC hR dX7_go_361 (hk M hI)
    · refine sg_aload_n (pc := 342) (v := .ref x) hC dX7_go_342 rfl rfl ?_
      refine sg_iload_n (pc := 343) (x := nI p) hC dX7_go_343 rfl ?_
      refine sg_iconst (pc := 344) (nI 1) hC dX7_go_344 (by decide) ?_
      refine sg_bipush (pc := 345) (nI 21) hC dX7_go_345 (by decide) ?_
      refine sg_callV (pc := 347) (As := [.int (nI p), .int (nI 1), .int (nI 21)]) (rest := []) (mc := 0) (ms := 0) hC tw_1293 tw_1295 tw_38 tw_72 tw_1296 yd_X7_starred (by decide) (ci := 10) rfl dX7_go_347 hI.x rfl (Nat.le_of_ble_eq_true rfl) (Nat.zero_le _) (Nat.zero_le _) ?_
      refine mm_starred htr hI p 1 21 (by first | omega | exact Nat.lt_of_le_of_lt Nat.and_le_left (by omega) | exact Nat.or_lt_two_pow (n := 16) (by omega) (by omega)) (by first | omega | exact Nat.lt_of_le_of_lt Nat.and_le_left (by omega) | exact Nat.or_lt_two_pow (n := 16) (by omega) (by omega)) (fun M hI => ?_)
      show sg_W X M 0 0 350 [some (.ref x), some (.int (nI p)), some (.int (nI 23)), some (.int (nI c))] [.int (nI ((md_starred N p 1 21).1))]
      refine sg_goto (pc := 350) 361 hC dX7_go_350 (by decide) ?_
      have e9 : md_go N p 23 c = (some ((md_starred N p 1 21).1), (md_starred N p 1 21).2) := by rw [md_go, if_neg (by decide), if_neg (by decide), if_neg (by decide), if_neg (by decide), if_neg (by decide), if_neg (by decide), if_neg (by decide), if_neg (by decide), if_neg (by decide), if_neg (by decide), if_neg (by decide), if_neg (by decide), if_neg (by decide), if_neg (by decide), if_neg (by decide), if_neg (by decide), if_neg (by decide), if_neg (by decide), if_neg (by decide), if_neg (by decide), if_neg (by decide), if_neg (by decide), if_neg (by decide)]; simp only [if_pos h23]
      rw [e9] at hk
      exact sg_ireturn (st := []) (v := md_o (some ((md_starred N p 1 21).1))) (pc := 361) hC hR dX7_go_361 (hk M hI)

/-- what reading one letter keeps -/
def md_gok (N N' : Nat → Nat → Nat) (p : Nat) (r : Option Nat) : Prop := N' 1 0 = N 1 0 ∧ (∀ j, N' 2 j = N 2 j) ∧ ∀ k, r = some k → k < 24 ∧ N' 4 p ≤ 3 ∧ (k = 0 ∨ k = 2 ∨ k = 3 ∨ k = 10 ∨ k = 11 ∨ k = 12 ∨ k = 20 ∨ k = 23 → N' 4 p < 3)
theorem md_gok_labelled {N : Nat → Nat → Nat} {p c nx : Nat} (hl : N 4 p < 3) (hn : nx = 4 ∨ nx = 13 ∨ nx = 22) : md_gok N (md_labelled N p c nx).2 p (md_labelled N p c nx).1 := by
  unfold md_labelled
  split
  · refine ⟨by simp [md_addLabel, md_set, va_up], fun j => by simp [md_addLabel, md_set, va_up], fun k hk => ?_⟩
    cases hk
    have e : md_addLabel N p c 4 p = N 4 p + 1 := by simp [md_addLabel, md_set, va_up]
    dsimp only
    rw [e]
    omega
  · refine ⟨rfl, fun j => rfl, fun k hk => ?_⟩
    cases hk
theorem md_gok_starred {N : Nat → Nat → Nat} {p how nx : Nat} (hl : N 4 p ≤ 3) (hn : nx = 5 ∨ nx = 21 ∨ (nx = 11 ∧ N 4 p < 3)) : md_gok N (md_starred N p how nx).2 p (some (md_starred N p how nx).1) := by
  unfold md_starred
  refine ⟨by simp [md_set, va_up], fun j => by simp [md_set, va_up], fun k hk => ?_⟩
  cases hk
  have e : md_set N 6 p how 4 p = N 4 p := by simp [md_set, va_up]
  dsimp only
  rw [e]
  omega

theorem md_gok_range {N : Nat → Nat → Nat} {p q c : Nat} (hl : N 4 p ≤ 3) : md_gok N (md_range N p q c).2 p (md_range N p q c).1 := by
  have a1 : ∀ u v w z, md_gok N (md_set (md_set N 8 u v) 9 w z) p none := fun u v w z => ⟨by simp [md_set, va_up], fun j => by simp [md_set, va_up], fun k hk => by cases hk⟩
  have a0 : md_gok N N p none := ⟨rfl, fun j => rfl, fun k hk => by cases hk⟩
  have a2 : ∀ u v w z k, (k = 15 ∨ k = 16 ∨ k = 17 ∨ k = 18) → md_gok N (md_set (md_set N 8 u v) 9 w z) p (some k) := fun u v w z k hk9 => ⟨by simp [md_set, va_up], fun j => by simp [md_set, va_up], fun k' hk => by
    cases hk
    have e : md_set (md_set N 8 u v) 9 w z 4 p = N 4 p := by simp [md_set, va_up]
    rw [e]
    omega⟩
  unfold md_range
  repeat' split
  all_goals first | exact a0 | exact a2 _ _ _ _ _ (by decide)
theorem md_gok_letter {N : Nat → Nat → Nat} {p c : Nat} (hl : N 4 p ≤ 3) : md_gok N (md_letter N p c).2 p (md_letter N p c).1 := by
  have a0 : md_gok N N p none := ⟨rfl, fun j => rfl, fun k hk => by cases hk⟩
  unfold md_letter
  repeat' split
  · exact a0
  · refine ⟨by simp [md_set, va_up], fun j => by simp [md_set, va_up], fun k hk => ?_⟩
    cases hk
    dsimp only
    rw [md_set_ne (by decide)]
    omega
  · exact a0
theorem md_gok_begin {N : Nat → Nat → Nat} {p c : Nat} (hl : N 4 p < 3) : md_gok N (md_begin N p c).2 p (md_begin N p c).1 := by
  have a2 : ∀ u v r, (∀ k, r = some k → k < 24) → md_gok N (md_set N 3 u v) p r := fun u v r hr => ⟨by simp [md_set, va_up], fun j => by simp [md_set, va_up], fun k hk => by
    have := hr k hk
    rw [md_set_ne (by decide)]
    omega⟩
  unfold md_begin
  repeat' split
  all_goals exact a2 _ _ _ (fun k hk => by cases hk <;> decide)
theorem md_gok_path {N : Nat → Nat → Nat} {p c : Nat} (hl : N 4 p < 3) : md_gok N (md_path N p c).2 p (md_path N p c).1 := by
  unfold md_path
  repeat' split
  all_goals first | exact md_gok_starred (by omega) (Or.inl rfl) | exact md_gok_labelled hl (by decide)
theorem md_gok_host {N : Nat → Nat → Nat} {p c : Nat} (hl : N 4 p < 3) : md_gok N (md_host N p c).2 p (md_host N p c).1 := by
  unfold md_host
  repeat' split
  all_goals first | exact md_gok_starred (by omega) (Or.inr (Or.inr ⟨rfl, hl⟩)) | exact md_gok_labelled hl (by decide)
theorem md_gok_go {N : Nat → Nat → Nat} {p q c : Nat} (hq : q < 24) (hl : N 4 p ≤ 3) (hn : q = 0 ∨ q = 2 ∨ q = 3 ∨ q = 10 ∨ q = 11 ∨ q = 12 ∨ q = 20 ∨ q = 23 → N 4 p < 3) : md_gok N (md_go N p q c).2 p (md_go N p q c).1 := by
  have a0 : md_gok N N p none := ⟨rfl, fun j => rfl, fun k hk => by cases hk⟩
  have a1 : ∀ k, k < 24 → (k = 0 ∨ k = 2 ∨ k = 3 ∨ k = 10 ∨ k = 11 ∨ k = 12 ∨ k = 20 ∨ k = 23 → N 4 p < 3) → md_gok N N p (some k) := fun k h1 h2 => ⟨rfl, fun j => rfl, fun k' hk => by cases hk; exact ⟨h1, hl, h2⟩⟩
  rcases (show q = 0 ∨ q = 1 ∨ q = 2 ∨ q = 3 ∨ q = 4 ∨ q = 5 ∨ q = 6 ∨ q = 7 ∨ q = 8 ∨ q = 9 ∨ q = 10 ∨ q = 11 ∨ q = 12 ∨ q = 13 ∨ q = 14 ∨ q = 15 ∨ q = 16 ∨ q = 17 ∨ q = 18 ∨ q = 19 ∨ q = 20 ∨ q = 21 ∨ q = 22 ∨ q = 23 by omega) with rfl | rfl | rfl | rfl | rfl | rfl | rfl | rfl | rfl | rfl | rfl | rfl | rfl | rfl | rfl | rfl | rfl | rfl | rfl | rfl | rfl | rfl | rfl | rfl
  · rw [show md_go N p 0 c = ((md_begin N p c).1, (md_begin N p c).2) from by rw [md_go, if_pos rfl]]
    repeat' split
    all_goals first
      | exact a0
      | exact a1 _ (by decide) (fun h => absurd h (by decide))
      | exact a1 _ (by decide) (fun _ => by omega)
      | exact md_gok_range hl
      | exact md_gok_letter hl
      | exact a1 _ (by decide) (fun _ => hn (by decide))
      | exact md_gok_begin (hn (by decide))
      | exact md_gok_labelled (hn (by decide)) (by decide)
      | exact md_gok_starred hl (Or.inr (Or.inl rfl))
      | exact md_gok_path (hn (by decide))
      | exact md_gok_host (hn (by decide))
  · rw [show md_go N p 1 c = (none, N) from by rw [md_go, if_neg (by decide), if_pos rfl]]
    repeat' split
    all_goals first
      | exact a0
      | exact a1 _ (by decide) (fun h => absurd h (by decide))
      | exact a1 _ (by decide) (fun _ => by omega)
      | exact md_gok_range hl
      | exact md_gok_letter hl
  · rw [show md_go N p 2 c = if c = 47 then (some 3, N) else (none, N) from by rw [md_go, if_neg (by decide), if_neg (by decide), if_pos rfl]]
    repeat' split
    all_goals first
      | exact a0
      | exact a1 _ (by decide) (fun h => absurd h (by decide))
      | exact a1 _ (by decide) (fun _ => by omega)
      | exact md_gok_range hl
      | exact md_gok_letter hl
      | exact a1 _ (by decide) (fun _ => hn (by decide))
      | exact md_gok_begin (hn (by decide))
      | exact md_gok_labelled (hn (by decide)) (by decide)
      | exact md_gok_starred hl (Or.inr (Or.inl rfl))
      | exact md_gok_path (hn (by decide))
      | exact md_gok_host (hn (by decide))
  · rw [show md_go N p 3 c = ((md_path N p c).1, (md_path N p c).2) from by rw [md_go, if_neg (by decide), if_neg (by decide), if_neg (by decide), if_pos rfl]]
    repeat' split
    all_goals first
      | exact a0
      | exact a1 _ (by decide) (fun h => absurd h (by decide))
      | exact a1 _ (by decide) (fun _ => by omega)
      | exact md_gok_range hl
      | exact md_gok_letter hl
      | exact a1 _ (by decide) (fun _ => hn (by decide))
      | exact md_gok_begin (hn (by decide))
      | exact md_gok_labelled (hn (by decide)) (by decide)
      | exact md_gok_starred hl (Or.inr (Or.inl rfl))
      | exact md_gok_path (hn (by decide))
      | exact md_gok_host (hn (by decide))
  · rw [show md_go N p 4 c = if c = 47 then if 3 ≤ N 4 p then if c = 58 then (some 6, N) else (none, N) else (some 3, N) else if c = 58 then (some 6, N) else (none, N) from by rw [md_go, if_neg (by decide), if_neg (by decide), if_neg (by decide), if_neg (by decide), if_pos rfl]]
    repeat' split
    all_goals first
      | exact a0
      | exact a1 _ (by decide) (fun h => absurd h (by decide))
      | exact a1 _ (by decide) (fun _ => by omega)
      | exact md_gok_range hl
      | exact md_gok_letter hl
  · rw [show md_go N p 5 c = if c = 58 then (some 6, N) else (none, N) from by rw [md_go, if_neg (by decide), if_neg (by decide), if_neg (by decide), if_neg (by decide), if_neg (by decide), if_pos rfl]]
    repeat' split
    all_goals first
      | exact a0
      | exact a1 _ (by decide) (fun h => absurd h (by decide))
      | exact a1 _ (by decide) (fun _ => by omega)
      | exact md_gok_range hl
      | exact md_gok_letter hl
  · rw [show md_go N p 6 c = ((md_letter N p c).1, (md_letter N p c).2) from by rw [md_go, if_neg (by decide), if_neg (by decide), if_neg (by decide), if_neg (by decide), if_neg (by decide), if_neg (by decide), if_pos rfl]]
    repeat' split
    all_goals first
      | exact a0
      | exact a1 _ (by decide) (fun h => absurd h (by decide))
      | exact a1 _ (by decide) (fun _ => by omega)
      | exact md_gok_range hl
      | exact md_gok_letter hl
  · rw [show md_go N p 7 c = (none, N) from by rw [md_go, if_neg (by decide), if_neg (by decide), if_neg (by decide), if_neg (by decide), if_neg (by decide), if_neg (by decide), if_neg (by decide), if_pos rfl]]
    repeat' split
    all_goals first
      | exact a0
      | exact a1 _ (by decide) (fun h => absurd h (by decide))
      | exact a1 _ (by decide) (fun _ => by omega)
      | exact md_gok_range hl
      | exact md_gok_letter hl
  · rw [show md_go N p 8 c = (none, N) from by rw [md_go, if_neg (by decide), if_neg (by decide), if_neg (by decide), if_neg (by decide), if_neg (by decide), if_neg (by decide), if_neg (by decide), if_neg (by decide), if_pos rfl]]
    repeat' split
    all_goals first
      | exact a0
      | exact a1 _ (by decide) (fun h => absurd h (by decide))
      | exact a1 _ (by decide) (fun _ => by omega)
      | exact md_gok_range hl
      | exact md_gok_letter hl
  · rw [show md_go N p 9 c = (none, N) from by rw [md_go, if_neg (by decide), if_neg (by decide), if_neg (by decide), if_neg (by decide), if_neg (by decide), if_neg (by decide), if_neg (by decide), if_neg (by decide), if_neg (by decide), if_pos rfl]]
    repeat' split
    all_goals first
      | exact a0
      | exact a1 _ (by decide) (fun h => absurd h (by decide))
      | exact a1 _ (by decide) (fun _ => by omega)
      | exact md_gok_range hl
      | exact md_gok_letter hl
  · rw [show md_go N p 10 c = ((md_host N p c).1, (md_host N p c).2) from by rw [md_go, if_neg (by decide), if_neg (by decide), if_neg (by decide), if_neg (by decide), if_neg (by decide), if_neg (by decide), if_neg (by decide), if_neg (by decide), if_neg (by decide), if_neg (by decide), if_pos rfl]]
    repeat' split
    all_goals first
      | exact a0
      | exact a1 _ (by decide) (fun h => absurd h (by decide))
      | exact a1 _ (by decide) (fun _ => by omega)
      | exact md_gok_range hl
      | exact md_gok_letter hl
      | exact a1 _ (by decide) (fun _ => hn (by decide))
      | exact md_gok_begin (hn (by decide))
      | exact md_gok_labelled (hn (by decide)) (by decide)
      | exact md_gok_starred hl (Or.inr (Or.inl rfl))
      | exact md_gok_path (hn (by decide))
      | exact md_gok_host (hn (by decide))
  · rw [show md_go N p 11 c = if c = 46 then (some 12, N) else if c = 58 then (some 14, N) else (none, N) from by rw [md_go, if_neg (by decide), if_neg (by decide), if_neg (by decide), if_neg (by decide), if_neg (by decide), if_neg (by decide), if_neg (by decide), if_neg (by decide), if_neg (by decide), if_neg (by decide), if_neg (by decide), if_pos rfl]]
    repeat' split
    all_goals first
      | exact a0
      | exact a1 _ (by decide) (fun h => absurd h (by decide))
      | exact a1 _ (by decide) (fun _ => by omega)
      | exact md_gok_range hl
      | exact md_gok_letter hl
      | exact a1 _ (by decide) (fun _ => hn (by decide))
      | exact md_gok_begin (hn (by decide))
      | exact md_gok_labelled (hn (by decide)) (by decide)
      | exact md_gok_starred hl (Or.inr (Or.inl rfl))
      | exact md_gok_path (hn (by decide))
      | exact md_gok_host (hn (by decide))
  · rw [show md_go N p 12 c = ((md_labelled N p c 13).1, (md_labelled N p c 13).2) from by rw [md_go, if_neg (by decide), if_neg (by decide), if_neg (by decide), if_neg (by decide), if_neg (by decide), if_neg (by decide), if_neg (by decide), if_neg (by decide), if_neg (by decide), if_neg (by decide), if_neg (by decide), if_neg (by decide), if_pos rfl]]
    repeat' split
    all_goals first
      | exact a0
      | exact a1 _ (by decide) (fun h => absurd h (by decide))
      | exact a1 _ (by decide) (fun _ => by omega)
      | exact md_gok_range hl
      | exact md_gok_letter hl
      | exact a1 _ (by decide) (fun _ => hn (by decide))
      | exact md_gok_begin (hn (by decide))
      | exact md_gok_labelled (hn (by decide)) (by decide)
      | exact md_gok_starred hl (Or.inr (Or.inl rfl))
      | exact md_gok_path (hn (by decide))
      | exact md_gok_host (hn (by decide))
  · rw [show md_go N p 13 c = if c = 46 then if N 6 p = 1 then if 2 ≤ N 4 p then if c = 58 then (some 14, N) else (none, N) else (some 12, N) else if 3 ≤ N 4 p then if c = 58 then (some 14, N) else (none, N) else (some 12, N) else if c = 58 then (some 14, N) else (none, N) from by rw [md_go, if_neg (by decide), if_neg (by decide), if_neg (by decide), if_neg (by decide), if_neg (by decide), if_neg (by decide), if_neg (by decide), if_neg (by decide), if_neg (by decide), if_neg (by decide), if_neg (by decide), if_neg (by decide), if_neg (by decide), if_pos rfl]]
    repeat' split
    all_goals first
      | exact a0
      | exact a1 _ (by decide) (fun h => absurd h (by decide))
      | exact a1 _ (by decide) (fun _ => by omega)
      | exact md_gok_range hl
      | exact md_gok_letter hl
  · rw [show md_go N p 14 c = ((md_range N p 14 c).1, (md_range N p 14 c).2) from by rw [md_go, if_neg (by decide), if_neg (by decide), if_neg (by decide), if_neg (by decide), if_neg (by decide), if_neg (by decide), if_neg (by decide), if_neg (by decide), if_neg (by decide), if_neg (by decide), if_neg (by decide), if_neg (by decide), if_neg (by decide), if_neg (by decide), if_pos rfl]]
    repeat' split
    all_goals first
      | exact a0
      | exact a1 _ (by decide) (fun h => absurd h (by decide))
      | exact a1 _ (by decide) (fun _ => by omega)
      | exact md_gok_range hl
      | exact md_gok_letter hl
  · rw [show md_go N p 15 c = ((md_range N p 15 c).1, (md_range N p 15 c).2) from by rw [md_go, if_neg (by decide), if_neg (by decide), if_neg (by decide), if_neg (by decide), if_neg (by decide), if_neg (by decide), if_neg (by decide), if_neg (by decide), if_neg (by decide), if_neg (by decide), if_neg (by decide), if_neg (by decide), if_neg (by decide), if_neg (by decide), if_neg (by decide), if_pos rfl]]
    repeat' split
    all_goals first
      | exact a0
      | exact a1 _ (by decide) (fun h => absurd h (by decide))
      | exact a1 _ (by decide) (fun _ => by omega)
      | exact md_gok_range hl
      | exact md_gok_letter hl
  · rw [show md_go N p 16 c = ((md_range N p 16 c).1, (md_range N p 16 c).2) from by rw [md_go, if_neg (by decide), if_neg (by decide), if_neg (by decide), if_neg (by decide), if_neg (by decide), if_neg (by decide), if_neg (by decide), if_neg (by decide), if_neg (by decide), if_neg (by decide), if_neg (by decide), if_neg (by decide), if_neg (by decide), if_neg (by decide), if_neg (by decide), if_neg (by decide), if_pos rfl]]
    repeat' split
    all_goals first
      | exact a0
      | exact a1 _ (by decide) (fun h => absurd h (by decide))
      | exact a1 _ (by decide) (fun _ => by omega)
      | exact md_gok_range hl
      | exact md_gok_letter hl
  · rw [show md_go N p 17 c = (none, N) from by rw [md_go, if_neg (by decide), if_neg (by decide), if_neg (by decide), if_neg (by decide), if_neg (by decide), if_neg (by decide), if_neg (by decide), if_neg (by decide), if_neg (by decide), if_neg (by decide), if_neg (by decide), if_neg (by decide), if_neg (by decide), if_neg (by decide), if_neg (by decide), if_neg (by decide), if_neg (by decide), if_pos rfl]]
    repeat' split
    all_goals first
      | exact a0
      | exact a1 _ (by decide) (fun h => absurd h (by decide))
      | exact a1 _ (by decide) (fun _ => by omega)
      | exact md_gok_range hl
      | exact md_gok_letter hl
  · rw [show md_go N p 18 c = ((md_range N p 18 c).1, (md_range N p 18 c).2) from by rw [md_go, if_neg (by decide), if_neg (by decide), if_neg (by decide), if_neg (by decide), if_neg (by decide), if_neg (by decide), if_neg (by decide), if_neg (by decide), if_neg (by decide), if_neg (by decide), if_neg (by decide), if_neg (by decide), if_neg (by decide), if_neg (by decide), if_neg (by decide), if_neg (by decide), if_neg (by decide), if_neg (by decide), if_pos rfl]]
    repeat' split
    all_goals first
      | exact a0
      | exact a1 _ (by decide) (fun h => absurd h (by decide))
      | exact a1 _ (by decide) (fun _ => by omega)
      | exact md_gok_range hl
      | exact md_gok_letter hl
  · rw [show md_go N p 19 c = (none, N) from by rw [md_go, if_neg (by decide), if_neg (by decide), if_neg (by decide), if_neg (by decide), if_neg (by decide), if_neg (by decide), if_neg (by decide), if_neg (by decide), if_neg (by decide), if_neg (by decide), if_neg (by decide), if_neg (by decide), if_neg (by decide), if_neg (by decide), if_neg (by decide), if_neg (by decide), if_neg (by decide), if_neg (by decide), if_neg (by decide), if_pos rfl]]
    repeat' split
    all_goals first
      | exact a0
      | exact a1 _ (by decide) (fun h => absurd h (by decide))
      | exact a1 _ (by decide) (fun _ => by omega)
      | exact md_gok_range hl
      | exact md_gok_letter hl
  · rw [show md_go N p 20 c = if c = 42 then (some ((md_starred N p 1 21).1), (md_starred N p 1 21).2) else ((md_labelled N p c 22).1, (md_labelled N p c 22).2) from by rw [md_go, if_neg (by decide), if_neg (by decide), if_neg (by decide), if_neg (by decide), if_neg (by decide), if_neg (by decide), if_neg (by decide), if_neg (by decide), if_neg (by decide), if_neg (by decide), if_neg (by decide), if_neg (by decide), if_neg (by decide), if_neg (by decide), if_neg (by decide), if_neg (by decide), if_neg (by decide), if_neg (by decide), if_neg (by decide), if_neg (by decide), if_pos rfl]]
    repeat' split
    all_goals first
      | exact a0
      | exact a1 _ (by decide) (fun h => absurd h (by decide))
      | exact a1 _ (by decide) (fun _ => by omega)
      | exact md_gok_range hl
      | exact md_gok_letter hl
      | exact a1 _ (by decide) (fun _ => hn (by decide))
      | exact md_gok_begin (hn (by decide))
      | exact md_gok_labelled (hn (by decide)) (by decide)
      | exact md_gok_starred hl (Or.inr (Or.inl rfl))
      | exact md_gok_path (hn (by decide))
      | exact md_gok_host (hn (by decide))
  · rw [show md_go N p 21 c = (none, N) from by rw [md_go, if_neg (by decide), if_neg (by decide), if_neg (by decide), if_neg (by decide), if_neg (by decide), if_neg (by decide), if_neg (by decide), if_neg (by decide), if_neg (by decide), if_neg (by decide), if_neg (by decide), if_neg (by decide), if_neg (by decide), if_neg (by decide), if_neg (by decide), if_neg (by decide), if_neg (by decide), if_neg (by decide), if_neg (by decide), if_neg (by decide), if_neg (by decide), if_pos rfl]]
    repeat' split
    all_goals first
      | exact a0
      | exact a1 _ (by decide) (fun h => absurd h (by decide))
      | exact a1 _ (by decide) (fun _ => by omega)
      | exact md_gok_range hl
      | exact md_gok_letter hl
  · rw [show md_go N p 22 c = if c = 46 then if 3 ≤ N 4 p then (none, N) else (some 23, N) else (none, N) from by rw [md_go, if_neg (by decide), if_neg (by decide), if_neg (by decide), if_neg (by decide), if_neg (by decide), if_neg (by decide), if_neg (by decide), if_neg (by decide), if_neg (by decide), if_neg (by decide), if_neg (by decide), if_neg (by decide), if_neg (by decide), if_neg (by decide), if_neg (by decide), if_neg (by decide), if_neg (by decide), if_neg (by decide), if_neg (by decide), if_neg (by decide), if_neg (by decide), if_neg (by decide), if_pos rfl]]
    repeat' split
    all_goals first
      | exact a0
      | exact a1 _ (by decide) (fun h => absurd h (by decide))
      | exact a1 _ (by decide) (fun _ => by omega)
      | exact md_gok_range hl
      | exact md_gok_letter hl
  · rw [show md_go N p 23 c = if c = 42 then (some ((md_starred N p 1 21).1), (md_starred N p 1 21).2) else ((md_labelled N p c 22).1, (md_labelled N p c 22).2) from by rw [md_go, if_neg (by decide), if_neg (by decide), if_neg (by decide), if_neg (by decide), if_neg (by decide), if_neg (by decide), if_neg (by decide), if_neg (by decide), if_neg (by decide), if_neg (by decide), if_neg (by decide), if_neg (by decide), if_neg (by decide), if_neg (by decide), if_neg (by decide), if_neg (by decide), if_neg (by decide), if_neg (by decide), if_neg (by decide), if_neg (by decide), if_neg (by decide), if_neg (by decide), if_neg (by decide)]]
    repeat' split
    all_goals first
      | exact a0
      | exact a1 _ (by decide) (fun h => absurd h (by decide))
      | exact a1 _ (by decide) (fun _ => by omega)
      | exact md_gok_range hl
      | exact md_gok_letter hl
      | exact a1 _ (by decide) (fun _ => hn (by decide))
      | exact md_gok_begin (hn (by decide))
      | exact md_gok_labelled (hn (by decide)) (by decide)
      | exact md_gok_starred hl (Or.inr (Or.inl rfl))
      | exact md_gok_path (hn (by decide))
      | exact md_gok_host (hn (by decide))

def md_read1 : Nat → (Nat → Nat → Nat) → Nat → Nat → Nat → Option Nat × (Nat → Nat → Nat)
  | 0, N, _, _, _ => (none, N)
  | f + 1, N, p, q, k => if N 1 0 ≤ k then if (md_whole q (N 7 p)) = true then (none, N) else (some (N 1 0), N) else (match (md_go N p q (N 2 k)).1 with | none => (some k, (md_go N p q (N 2 k)).2) | some q8 => md_read1 f (md_go N p q (N 2 k)).2 p q8 (k + 1))
theorem md_read1_s (f : Nat) (N : Nat → Nat → Nat) (p : Nat) (q : Nat) (k : Nat) : md_read1 (f + 1) N p q k = if N 1 0 ≤ k then if (md_whole q (N 7 p)) = true then (none, N) else (some (N 1 0), N) else (match (md_go N p q (N 2 k)).1 with | none => (some k, (md_go N p q (N 2 k)).2) | some q8 => md_read1 f (md_go N p q (N 2 k)).2 p q8 (k + 1)) := rfl
set_option maxHeartbeats 4000000 in
set_option maxRecDepth 100000 in
theorem mm_read1 {X : sg_X} {l : Launch} {G : sg_G} {d : Nat} {M0 : sg_M} {x : Nat} {ad : Nat → Nat} {kr : Option Value → sg_M → Prop} {kx : String → sg_M → Prop} (htr : l.stackTraces = false) (hC : sg_C X l G cX7_read RX7 4 (d + 4)) (hR : sg_R X yX7_read kr kx (some .int)) : ∀ (f : Nat) (p : Nat) (q : Nat) (k : Nat) (N : Nat → Nat → Nat) {M : sg_M} (hI : md_I M0 M x ad N) (hf : N 1 0 - k < f) (hp : p < 86) (hq : q < 24) (hk0 : k ≤ N 1 0) (ht : N 1 0 ≤ 16) (hl : N 4 p ≤ 3) (hn : q = 0 ∨ q = 2 ∨ q = 3 ∨ q = 10 ∨ q = 11 ∨ q = 12 ∨ q = 20 ∨ q = 23 → N 4 p < 3) (hk : ∀ M', md_I M0 M' x ad (md_read1 f N p q k).2 → kr (some (.int (md_o (md_read1 f N p q k).1))) M'), sg_W X M 0 0 46 [some (.ref x), some (.int (nI p)), some (.int (nI q)), some (.int (nI k))] [] := by
  intro f
  induction f with
  | zero =>
    intro p q k N M hI hf
    exact absurd hf (Nat.not_lt_zero _)
  | succ f ih =>
    intro p q k N M hI hf hp hq hk0 ht hl hn hk
    have ht9 := ht
    refine sg_iload_n (pc := 46) (x := nI k) hC dX7_read_46 rfl ?_
    refine sg_aload_n (pc := 47) (v := .ref x) hC dX7_read_47 rfl rfl ?_
    refine md_get (pc := 48) (i := 1) hC (by decide) tw_1187 dX7_read_48 hI rfl ?_
    have hb1 : N 1 0 < 65536 := hI.lt 1 0
    show sg_W X M 0 0 51 [some (.ref x), some (.int (nI p)), some (.int (nI q)), some (.int (nI k))] [.int (nI (N 1 0)), .int (nI k)]
    refine sg_icmpN_ge (pc := 51) (a := k) (b := N 1 0) 79 hC dX7_read_51 (by decide) (by first | omega | exact Nat.lt_of_le_of_lt Nat.and_le_left (by omega) | exact Nat.or_lt_two_pow (n := 16) (by omega) (by omega)) (by first | omega | exact Nat.lt_of_le_of_lt Nat.and_le_left (by omega) | exact Nat.or_lt_two_pow (n := 16) (by omega) (by omega)) (fun h2 => ?_) (fun h2 => ?_)
    · refine sg_iload_n (pc := 79) (x := nI q) hC dX7_read_79 rfl ?_
      refine sg_aload_n (pc := 80) (v := .ref x) hC dX7_read_80 rfl rfl ?_
      refine md_get (pc := 81) (i := 7) hC (by decide) tw_1193 dX7_read_81 hI rfl ?_
      refine sg_iload_n (pc := 84) (x := nI p) hC dX7_read_84 rfl ?_
      refine md_iald (pc := 85) (i := 7) (j := p) hC dX7_read_85 hI rfl (by first | omega | exact Nat.lt_of_le_of_lt Nat.and_le_left (by omega) | exact Nat.or_lt_two_pow (n := 16) (by omega) (by omega)) (by decide) (fun hv3 => ?_)
      show sg_W X M 0 0 86 [some (.ref x), some (.int (nI p)), some (.int (nI q)), some (.int (nI k))] [.int (nI (N 7 p)), .int (nI q)]
      refine sg_callS (pc := 86) (As := [.int (nI q), .int (nI (N 7 p))]) (rest := []) (mc := 0) (ms := 0) hC tw_1326 tw_1327 tw_72 tw_1328 yd_X7_whole (by decide) dX7_read_86 rfl (Nat.le_of_ble_eq_true rfl) (Nat.zero_le _) (Nat.zero_le _) ?_
      refine mm_whole htr  q (N 7 p) (by first | omega | exact Nat.lt_of_le_of_lt Nat.and_le_left (by omega) | exact Nat.or_lt_two_pow (n := 16) (by omega) (by omega)) (by first | omega | exact Nat.lt_of_le_of_lt Nat.and_le_left (by omega) | exact Nat.or_lt_two_pow (n := 16) (by omega) (by omega)) ?_
      show sg_W X M 0 0 89 [some (.ref x), some (.int (nI p)), some (.int (nI q)), some (.int (nI k))] [.int (md_b ((md_whole q (N 7 p))))]
      refine sg_ifB_eq (pc := 89) (b := (md_whole q (N 7 p))) 96 hC dX7_read_89 (by decide) (fun h4 => ?_) (fun h4 => ?_)
      · refine sg_aload_n (pc := 96) (v := .ref x) hC dX7_read_96 rfl rfl ?_
        refine md_get (pc := 97) (i := 1) hC (by decide) tw_1187 dX7_read_97 hI rfl ?_
        have hb5 : N 1 0 < 65536 := hI.lt 1 0
        show sg_W X M 0 0 100 [some (.ref x), some (.int (nI p)), some (.int (nI q)), some (.int (nI k))] [.int (nI (N 1 0))]
        have e9 : md_read1 (f + 1) N p q k = (some (N 1 0), N) := by rw [md_read1_s]; simp only [if_pos h2, if_neg (ts9 h4)]
        rw [e9] at hk
        exact sg_ireturn (st := []) (v := md_o (some (N 1 0))) (pc := 100) hC hR dX7_read_100 (hk M hI)
      · refine sg_iconst (pc := 92) (((-1))) hC dX7_read_92 (by decide) ?_
        refine sg_goto (pc := 93) 100 hC dX7_read_93 (by decide) ?_
        have e9 : md_read1 (f + 1) N p q k = (none, N) := by rw [md_read1_s]; simp only [if_pos h2, if_pos h4]
        rw [e9] at hk
        exact sg_ireturn (st := []) (v := md_o none) (pc := 100) hC hR dX7_read_100 (hk M hI)
    · refine sg_aload_n (pc := 54) (v := .ref x) hC dX7_read_54 rfl rfl ?_
      refine sg_iload_n (pc := 55) (x := nI p) hC dX7_read_55 rfl ?_
      refine sg_iload_n (pc := 56) (x := nI q) hC dX7_read_56 rfl ?_
      refine sg_aload_n (pc := 57) (v := .ref x) hC dX7_read_57 rfl rfl ?_
      refine md_get (pc := 58) (i := 2) hC (by decide) tw_1188 dX7_read_58 hI rfl ?_
      refine sg_iload_n (pc := 61) (x := nI k) hC dX7_read_61 rfl ?_
      refine md_cald (pc := 62) (i := 2) (j := k) hC dX7_read_62 hI rfl (by first | omega | exact Nat.lt_of_le_of_lt Nat.and_le_left (by omega) | exact Nat.or_lt_two_pow (n := 16) (by omega) (by omega)) (by decide) (fun hv6 => ?_)
      show sg_W X M 0 0 63 [some (.ref x), some (.int (nI p)), some (.int (nI q)), some (.int (nI k))] [.int (nI (N 2 k)), .int (nI q), .int (nI p), .ref x]
      refine sg_callV (pc := 63) (As := [.int (nI p), .int (nI q), .int (nI (N 2 k))]) (rest := []) (mc := 0) (ms := 0) hC tw_1281 tw_1283 tw_35 tw_72 tw_1284 yd_X7_go (by decide) (ci := 10) rfl dX7_read_63 hI.x rfl (Nat.le_of_ble_eq_true rfl) (Nat.zero_le _) (Nat.zero_le _) ?_
      refine mm_go htr hI p q (N 2 k) (by first | omega | exact Nat.lt_of_le_of_lt Nat.and_le_left (by omega) | exact Nat.or_lt_two_pow (n := 16) (by omega) (by omega)) (by first | omega | exact Nat.lt_of_le_of_lt Nat.and_le_left (by omega) | exact Nat.or_lt_two_pow (n := 16) (by omega) (by omega)) (by first | omega | exact Nat.lt_of_le_of_lt Nat.and_le_left (by omega) | exact Nat.or_lt_two_pow (n := 16) (by omega) (by omega)) (by first | omega | exact Nat.lt_of_le_of_lt Nat.and_le_left (by omega) | exact Nat.or_lt_two_pow (n := 16) (by omega) (by omega)) (by first | omega | exact Nat.lt_of_le_of_lt Nat.and_le_left (by omega) | exact Nat.or_lt_two_pow (n := 16) (by omega) (by omega)) (fun M hI => ?_)
      show sg_W X M 0 0 66 [some (.ref x), some (.int (nI p)), some (.int (nI q)), some (.int (nI k))] [.int (md_o ((md_go N p q (N 2 k)).1))]
      have hgo := md_gok_go (p := p) (q := q) (c := N 2 k) hq hl hn
      refine sg_istore_n (pc := 66) (x := md_o ((md_go N p q (N 2 k)).1)) hC dX7_read_66 (by decide) ?_
      show sg_W X M 0 0 67 [some (.ref x), some (.int (nI p)), some (.int (md_o ((md_go N p q (N 2 k)).1))), some (.int (nI k))] []
      refine sg_iload_n (pc := 67) (x := md_o ((md_go N p q (N 2 k)).1)) hC dX7_read_67 rfl ?_
      refine sg_ifO_ge (pc := 68) (r := (md_go N p q (N 2 k)).1) 73 hC dX7_read_68 (by decide) (fun k9 hk9 => by have := (hgo.2.2 k9 hk9).1; omega) (fun h7 => ?_) (fun h7 => ?_)
      · obtain ⟨q8, hq9⟩ := md_os h7
        rw [hq9]
        show sg_W X M 0 0 73 [some (.ref x), some (.int (nI p)), some (.int (nI q8)), some (.int (nI k))] []
        obtain ⟨hg1, hg2, hg3⟩ := hgo.2.2 q8 hq9
        have hg4 := hgo.1
        refine sg_iincN (pc := 73) (a := k) (b := k + 1) hC dX7_read_73 rfl (nI_1 _) (by decide) ?_
        show sg_W X M 0 0 76 [some (.ref x), some (.int (nI p)), some (.int (nI q8)), some (.int (nI (k + 1)))] []
        refine sg_goto (pc := 76) 46 hC dX7_read_76 (by decide) ?_
        have e9 : md_read1 (f + 1) N p q k = md_read1 f (md_go N p q (N 2 k)).2 p q8 (k + 1) := by rw [md_read1_s]; simp only [if_neg (Nat.not_le.mpr h2), hq9]
        rw [e9] at hk
        refine sg_loc (L' := [some (.ref x), some (.int (nI p)), some (.int (nI q8)), some (.int (nI ((k + 1))))]) ⟨rfl, ⟨rfl, ⟨rfl, ⟨rfl, trivial⟩⟩⟩⟩ ?_
        exact ih p q8 (k + 1) _ hI (by first | omega | exact Nat.lt_of_le_of_lt Nat.and_le_left (by omega) | exact Nat.or_lt_two_pow (n := 16) (by omega) (by omega)) (by first | omega | exact Nat.lt_of_le_of_lt Nat.and_le_left (by omega) | exact Nat.or_lt_two_pow (n := 16) (by omega) (by omega)) (by first | omega | exact Nat.lt_of_le_of_lt Nat.and_le_left (by omega) | exact Nat.or_lt_two_pow (n := 16) (by omega) (by omega)) (by first | omega | exact Nat.lt_of_le_of_lt Nat.and_le_left (by omega) | exact Nat.or_lt_two_pow (n := 16) (by omega) (by omega)) (by first | omega | exact Nat.lt_of_le_of_lt Nat.and_le_left (by omega) | exact Nat.or_lt_two_pow (n := 16) (by omega) (by omega)) (by first | omega | exact Nat.lt_of_le_of_lt Nat.and_le_left (by omega) | exact Nat.or_lt_two_pow (n := 16) (by omega) (by omega)) (by first | omega | exact Nat.lt_of_le_of_lt Nat.and_le_left (by omega) | exact Nat.or_lt_two_pow (n := 16) (by omega) (by omega)) hk
      · refine sg_iload_n (pc := 71) (x := nI k) hC dX7_read_71 rfl ?_
        have e9 : md_read1 (f + 1) N p q k = (some k, (md_go N p q (N 2 k)).2) := by rw [md_read1_s]; simp only [if_neg (Nat.not_le.mpr h2), h7]
        rw [e9] at hk
        exact sg_ireturn (st := []) (v := md_o (some k)) (pc := 72) hC hR dX7_read_72 (hk M hI)

def md_read (N : Nat → Nat → Nat) (p : Nat) : Option Nat × (Nat → Nat → Nat) := md_read1 (17) (md_set (md_set (md_set (md_set (md_set (md_set N 4 p 0) 6 p 0) 7 p 0) 8 p 0) 9 p 0) 3 p 0) p 0 0
set_option maxHeartbeats 4000000 in
set_option maxRecDepth 100000 in
theorem mm_read {l : Launch} {G : sg_G} {d : Nat} {M0 M : sg_M} {x : Nat} {ad : Nat → Nat} {N : Nat → Nat → Nat} {kr : Option Value → sg_M → Prop} {kx : String → sg_M → Prop} (htr : l.stackTraces = false) (hI : md_I M0 M x ad N) (p : Nat) (hp : p < 86) (ht : N 1 0 ≤ 16) (hk : ∀ M', md_I M0 M' x ad (md_read N p).2 → kr (some (.int (md_o (md_read N p).1))) M') : sg_Met l G yX7_read cX7_read 4 (some .int) (d + 4) 0 0 [.ref x, .int (nI p)] M kr kx := by
  refine sg_enter [some (.ref x), some (.int (nI p)), none, none] (by decide) htr (Nat.le_of_ble_eq_true rfl) rfl ?_
  intro X hC hR
  have hC : sg_C X l G cX7_read RX7 4 (d + 4) := hC
  refine sg_aload_n (pc := 0) (v := .ref x) hC dX7_read_0 rfl rfl ?_
  refine md_get (pc := 1) (i := 4) hC (by decide) tw_1190 dX7_read_1 hI rfl ?_
  refine sg_iload_n (pc := 4) (x := nI p) hC dX7_read_4 rfl ?_
  refine sg_iconst (pc := 5) (nI 0) hC dX7_read_5 (by decide) ?_
  refine md_iast (pc := 6) (i := 4) (j := p) (v := 0) hC dX7_read_6 hI rfl (by first | omega | exact Nat.lt_of_le_of_lt Nat.and_le_left (by omega) | exact Nat.or_lt_two_pow (n := 16) (by omega) (by omega)) (by decide) (by first | omega | exact Nat.lt_of_le_of_lt Nat.and_le_left (by omega) | exact Nat.or_lt_two_pow (n := 16) (by omega) (by omega)) (fun M hI => ?_)
  refine sg_aload_n (pc := 7) (v := .ref x) hC dX7_read_7 rfl rfl ?_
  refine md_get (pc := 8) (i := 6) hC (by decide) tw_1192 dX7_read_8 hI rfl ?_
  refine sg_iload_n (pc := 11) (x := nI p) hC dX7_read_11 rfl ?_
  refine sg_iconst (pc := 12) (nI 0) hC dX7_read_12 (by decide) ?_
  refine md_iast (pc := 13) (i := 6) (j := p) (v := 0) hC dX7_read_13 hI rfl (by first | omega | exact Nat.lt_of_le_of_lt Nat.and_le_left (by omega) | exact Nat.or_lt_two_pow (n := 16) (by omega) (by omega)) (by decide) (by first | omega | exact Nat.lt_of_le_of_lt Nat.and_le_left (by omega) | exact Nat.or_lt_two_pow (n := 16) (by omega) (by omega)) (fun M hI => ?_)
  refine sg_aload_n (pc := 14) (v := .ref x) hC dX7_read_14 rfl rfl ?_
  refine md_get (pc := 15) (i := 7) hC (by decide) tw_1193 dX7_read_15 hI rfl ?_
  refine sg_iload_n (pc := 18) (x := nI p) hC dX7_read_18 rfl ?_
  refine sg_iconst (pc := 19) (nI 0) hC dX7_read_19 (by decide) ?_
  refine md_iast (pc := 20) (i := 7) (j := p) (v := 0) hC dX7_read_20 hI rfl (by first | omega | exact Nat.lt_of_le_of_lt Nat.and_le_left (by omega) | exact Nat.or_lt_two_pow (n := 16) (by omega) (by omega)) (by decide) (by first | omega | exact Nat.lt_of_le_of_lt Nat.and_le_left (by omega) | exact Nat.or_lt_two_pow (n := 16) (by omega) (by omega)) (fun M hI => ?_)
  refine sg_aload_n (pc := 21) (v := .ref x) hC dX7_read_21 rfl rfl ?_
  refine md_get (pc := 22) (i := 8) hC (by decide) tw_1194 dX7_read_22 hI rfl ?_
  refine sg_iload_n (pc := 25) (x := nI p) hC dX7_read_25 rfl ?_
  refine sg_iconst (pc := 26) (nI 0) hC dX7_read_26 (by decide) ?_
  refine md_iast (pc := 27) (i := 8) (j := p) (v := 0) hC dX7_read_27 hI rfl (by first | omega | exact Nat.lt_of_le_of_lt Nat.and_le_left (by omega) | exact Nat.or_lt_two_pow (n := 16) (by omega) (by omega)) (by decide) (by first | omega | exact Nat.lt_of_le_of_lt Nat.and_le_left (by omega) | exact Nat.or_lt_two_pow (n := 16) (by omega) (by omega)) (fun M hI => ?_)
  refine sg_aload_n (pc := 28) (v := .ref x) hC dX7_read_28 rfl rfl ?_
  refine md_get (pc := 29) (i := 9) hC (by decide) tw_1195 dX7_read_29 hI rfl ?_
  refine sg_iload_n (pc := 32) (x := nI p) hC dX7_read_32 rfl ?_
  refine sg_iconst (pc := 33) (nI 0) hC dX7_read_33 (by decide) ?_
  refine md_iast (pc := 34) (i := 9) (j := p) (v := 0) hC dX7_read_34 hI rfl (by first | omega | exact Nat.lt_of_le_of_lt Nat.and_le_left (by omega) | exact Nat.or_lt_two_pow (n := 16) (by omega) (by omega)) (by decide) (by first | omega | exact Nat.lt_of_le_of_lt Nat.and_le_left (by omega) | exact Nat.or_lt_two_pow (n := 16) (by omega) (by omega)) (fun M hI => ?_)
  refine sg_aload_n (pc := 35) (v := .ref x) hC dX7_read_35 rfl rfl ?_
  refine md_get (pc := 36) (i := 3) hC (by decide) tw_1189 dX7_read_36 hI rfl ?_
  refine sg_iload_n (pc := 39) (x := nI p) hC dX7_read_39 rfl ?_
  refine sg_iconst (pc := 40) (nI 0) hC dX7_read_40 (by decide) ?_
  refine md_iast (pc := 41) (i := 3) (j := p) (v := 0) hC dX7_read_41 hI rfl (by first | omega | exact Nat.lt_of_le_of_lt Nat.and_le_left (by omega) | exact Nat.or_lt_two_pow (n := 16) (by omega) (by omega)) (by decide) (by first | omega | exact Nat.lt_of_le_of_lt Nat.and_le_left (by omega) | exact Nat.or_lt_two_pow (n := 16) (by omega) (by omega)) (fun M hI => ?_)
  refine sg_iconst (pc := 42) (nI 0) hC dX7_read_42 (by decide) ?_
  refine sg_istore_n (pc := 43) (x := nI 0) hC dX7_read_43 (by decide) ?_
  show sg_W X M 0 0 44 [some (.ref x), some (.int (nI p)), some (.int (nI 0)), none] []
  refine sg_iconst (pc := 44) (nI 0) hC dX7_read_44 (by decide) ?_
  refine sg_istore_n (pc := 45) (x := nI 0) hC dX7_read_45 (by decide) ?_
  show sg_W X M 0 0 46 [some (.ref x), some (.int (nI p)), some (.int (nI 0)), some (.int (nI 0))] []
  have e9 : md_read N p = md_read1 (17) (md_set (md_set (md_set (md_set (md_set (md_set N 4 p 0) 6 p 0) 7 p 0) 8 p 0) 9 p 0) 3 p 0) p 0 0 := by rw [md_read]
  rw [e9] at hk
  refine sg_loc (L' := [some (.ref x), some (.int (nI p)), some (.int (nI 0)), some (.int (nI 0))]) ⟨rfl, ⟨rfl, ⟨rfl, ⟨rfl, trivial⟩⟩⟩⟩ ?_
  exact mm_read1 htr hC hR (17) p 0 0 _ hI (by first | omega | (simp [md_set, va_up]; omega) | (simp [md_set, va_up])) (by first | omega | (simp [md_set, va_up]; omega) | (simp [md_set, va_up])) (by first | omega | (simp [md_set, va_up]; omega) | (simp [md_set, va_up])) (by first | omega | (simp [md_set, va_up]; omega) | (simp [md_set, va_up])) (by first | omega | (simp [md_set, va_up]; omega) | (simp [md_set, va_up])) (by simp [md_set, va_up]) (fun _ => by simp [md_set, va_up]) hk
