theorem md_put_z (N : Nat → Nat → Nat) (c : Nat) : md_put N c 10 0 = N 10 0 + 1 := by simp [md_put, md_set, va_up]
theorem md_put_n (N : Nat → Nat → Nat) (c i : Nat) (h1 : i ≠ 10) (h2 : i ≠ 11) : md_put N c i = N i := by
  unfold md_put
  rw [md_set_ne h1, md_set_ne h2]
theorem md_write6_z {N : Nat → Nat → Nat} {p : Nat} (h1 : N 10 0 ≤ 20) (h2 : N 3 p ≠ 3 ∨ N 10 0 ≤ 17) : md_write6 N p 10 0 ≤ 20 := by
  unfold md_write6
  repeat' split
  all_goals first | omega | (simp only [md_put_z]; omega)
theorem md_write5_z : ∀ (f : Nat) (N : Nat → Nat → Nat) (p k : Nat), k ≤ 4 → N 10 0 ≤ 12 + k → (N 3 p ≠ 3 ∨ N 10 0 ≤ 10 + k) → md_write5 f N p k 10 0 ≤ 20 := by
  intro f
  induction f with
  | zero =>
    intro N p k hk h1 h2
    show N 10 0 ≤ 20
    omega
  | succ f ih =>
    intro N p k hk h1 h2
    rw [md_write5_s]
    repeat' split
    all_goals first
      | exact md_write6_z (by omega) (by omega)
      | exact ih _ _ _ (by omega) (by simp only [md_put_z]; omega) (by rw [md_put_n _ _ 3 (by decide) (by decide)]; simp only [md_put_z]; omega)
      | exact ih _ _ _ (by omega) (by omega) (by omega)
theorem md_write4_z {N : Nat → Nat → Nat} {p : Nat} (h1 : N 10 0 ≤ 11) (h2 : N 3 p ≠ 3 ∨ N 10 0 ≤ 9) : md_write4 N p 10 0 ≤ 20 := by
  unfold md_write4
  repeat' split
  all_goals first
    | exact md_write5_z _ _ _ _ (by omega) (by omega) (by omega)
    | exact md_write5_z _ _ _ _ (by omega) (by simp only [md_put_z]; omega) (by rw [md_put_n _ _ 3 (by decide) (by decide)]; simp only [md_put_z]; omega)
theorem md_write3_z {N : Nat → Nat → Nat} {p : Nat} (h1 : N 3 p ≠ 4 ∨ N 10 0 ≤ 9) (h3 : N 10 0 ≤ 11) (h2 : N 3 p ≠ 3 ∨ N 10 0 ≤ 9) : md_write3 N p 10 0 ≤ 20 := by
  unfold md_write3
  repeat' split
  all_goals first
    | exact md_write4_z (by omega) (by omega)
    | exact md_write4_z (by simp only [md_put_z]; omega) (by simp only [md_put_n _ _ 3 (by decide) (by decide), md_put_z]; omega)
theorem md_write2_z {N : Nat → Nat → Nat} {p : Nat} (h1 : N 10 0 ≤ 9) : md_write2 N p 10 0 ≤ 20 := by
  unfold md_write2
  repeat' split
  all_goals first
    | exact md_write3_z (by omega) (by omega) (by omega)
    | exact md_write3_z (by simp only [md_put_n _ _ 3 (by decide) (by decide), md_put_z]; omega) (by simp only [md_put_z]; omega) (by simp only [md_put_n _ _ 3 (by decide) (by decide), md_put_z]; omega)
theorem md_write1_z {N : Nat → Nat → Nat} {p : Nat} (h1 : N 10 0 ≤ 3) (hw : ∀ r, N 4 r ≤ 3) : md_write1 N p 10 0 ≤ 20 := by
  have h9 := hw p
  unfold md_write1
  repeat' split
  all_goals exact md_write2_z (Nat.le_trans md_putLabels_z (by omega))
theorem md_write0_z {N : Nat → Nat → Nat} {p : Nat} (h1 : N 10 0 ≤ 1) (hw : ∀ r, N 4 r ≤ 3) : md_write0 N p 10 0 ≤ 20 := by
  unfold md_write0
  repeat' split
  all_goals first
    | exact md_write1_z (by omega) hw
    | exact md_write1_z (by simp only [md_put_z]; omega) (fun r => by simp only [md_put_n _ _ 4 (by decide) (by decide)]; exact hw r)
theorem md_write_z {N : Nat → Nat → Nat} {p : Nat} (hw : ∀ r, N 4 r ≤ 3) : md_write N p 10 0 ≤ 20 := by
  unfold md_write
  repeat' split
  all_goals exact md_write0_z (by rw [md_put_z]; exact Nat.le_refl 1) (fun r => by rw [md_put_n _ _ 4 (by decide) (by decide)]; exact hw r)
theorem md_read1_le : ∀ (f : Nat) (N : Nat → Nat → Nat) (p q k : Nat), q < 24 → N 4 p ≤ 3 → (q = 0 ∨ q = 2 ∨ q = 3 ∨ q = 10 ∨ q = 11 ∨ q = 12 ∨ q = 20 ∨ q = 23 → N 4 p < 3) → k ≤ N 1 0 → N 1 0 ≤ 16 → ∀ j, (md_read1 f N p q k).1 = some j → j ≤ 16 := by
  intro f
  induction f with
  | zero =>
    intro N p q k _ _ _ _ _ j hj
    cases hj
  | succ f ih =>
    intro N p q k hq hl hn hk ht j hj
    rw [md_read1_s] at hj
    have hgo := md_gok_go (p := p) (q := q) (c := N 2 k) hq hl hn
    split at hj
    · split at hj
      · cases hj
      · cases hj
        exact ht
    · split at hj
      · cases hj
        omega
      · rename_i q1 hq1
        obtain ⟨g1, g2, g3⟩ := hgo.2.2 q1 hq1
        have g4 := hgo.1
        exact ih _ _ _ _ g1 g2 g3 (by omega) (by omega) j hj
theorem md_read_le {N : Nat → Nat → Nat} {p j : Nat} (ht : N 1 0 ≤ 16) (h : (md_read N p).1 = some j) : j ≤ 16 :=
  md_read1_le _ _ _ _ _ (by decide) (by simp [md_set, va_up]) (fun _ => by simp [md_set, va_up]) (Nat.zero_le _) (by simpa [md_set, va_up] using ht) j h

def md_keep (N : Nat → Nat → Nat) (slot : Int32) : Nat × (Nat → Nat → Nat) := if (md_in slot (nI 0) (nI 7)) = true then (match (md_read (md_set N 0 0 0) 84).1 with | none => (0, (md_copy (md_set (md_read (md_set N 0 0 0) 84).2 1 0 0) 84 slot.toNatClampNeg)) | some q5 => (1 + q5, (md_set (md_read (md_set N 0 0 0) 84).2 1 0 0))) else ((md_fail (md_set N 0 0 0) 1).1, (md_fail (md_set N 0 0 0) 1).2)
set_option maxHeartbeats 4000000 in
set_option maxRecDepth 100000 in
theorem mm_keep {l : Launch} {G : sg_G} {d : Nat} {M0 M : sg_M} {x : Nat} {ad : Nat → Nat} {N : Nat → Nat → Nat} {kr : Option Value → sg_M → Prop} {kx : String → sg_M → Prop} (htr : l.stackTraces = false) (hI : md_I M0 M x ad N) (slot : Int32) (ht : N 1 0 ≤ 16) (hk : ∀ M', md_I M0 M' x ad (md_keep N slot).2 → kr (some (.int (nI (md_keep N slot).1))) M') : sg_Met l G yX7_keep cX7_keep 3 (some .int) (d + 5) 0 0 [.ref x, .int slot] M kr kx := by
  refine sg_enter [some (.ref x), some (.int slot), none] (by decide) htr (Nat.le_of_ble_eq_true rfl) rfl ?_
  intro X hC hR
  have hC : sg_C X l G cX7_keep RX7 3 (d + 5) := hC
  refine sg_aload_n (pc := 0) (v := .ref x) hC dX7_keep_0 rfl rfl ?_
  refine sg_iconst (pc := 1) (nI 0) hC dX7_keep_1 (by decide) ?_
  refine md_put0 (pc := 2) (v := 0) hC tw_1186 dX7_keep_2 hI (by first | omega | exact Nat.lt_of_le_of_lt Nat.and_le_left (by omega) | exact Nat.or_lt_two_pow (n := 16) (by omega) (by omega) | (simp [md_set, va_up]; done) | (simp [md_set, va_up]; omega) | exact Nat.or_lt_two_pow (n := 6) (by omega) (by omega) | (simp [md_put, md_set, va_up]; omega) | (simp [md_put, md_set, va_up]; done)) (fun M hI => ?_)
  refine sg_iload_n (pc := 5) (x := slot) hC dX7_keep_5 rfl ?_
  refine sg_iconst (pc := 6) (nI 0) hC dX7_keep_6 (by decide) ?_
  refine sg_bipush (pc := 7) (nI 7) hC dX7_keep_7 (by decide) ?_
  refine sg_callS (pc := 9) (As := [.int slot, .int (nI 0), .int (nI 7)]) (rest := []) (mc := 0) (ms := 0) hC tw_1270 tw_1271 tw_72 tw_1272 yd_X7_in (by decide) dX7_keep_9 rfl (Nat.le_of_ble_eq_true rfl) (Nat.zero_le _) (Nat.zero_le _) ?_
  refine mm_in htr  slot (nI 0) (nI 7)  ?_
  show sg_W X M 0 0 12 [some (.ref x), some (.int slot), none] [.int (md_b ((md_in slot (nI 0) (nI 7))))]
  refine sg_ifB_ne (pc := 12) (b := (md_in slot (nI 0) (nI 7))) 21 hC dX7_keep_12 (by decide) (fun h1 => ?_) (fun h1 => ?_)
  · obtain ⟨hs2, hs3⟩ := md_in_nat h1 (by first | omega | exact Nat.lt_of_le_of_lt Nat.and_le_left (by omega) | exact Nat.or_lt_two_pow (n := 16) (by omega) (by omega) | (simp [md_set, va_up]; done) | (simp [md_set, va_up]; omega) | exact Nat.or_lt_two_pow (n := 6) (by omega) (by omega) | (simp [md_put, md_set, va_up]; omega) | (simp [md_put, md_set, va_up]; done))
    rw [hs2]
    show sg_W X M 0 0 21 [some (.ref x), some (.int (nI slot.toNatClampNeg)), none] []
    refine sg_aload_n (pc := 21) (v := .ref x) hC dX7_keep_21 rfl rfl ?_
    refine sg_bipush (pc := 22) (nI 84) hC dX7_keep_22 (by decide) ?_
    refine sg_callV (pc := 24) (As := [.int (nI 84)]) (rest := []) (mc := 0) (ms := 0) hC tw_1277 tw_1279 tw_34 tw_72 tw_1280 yd_X7_read (by decide) (ci := 10) rfl dX7_keep_24 hI.x rfl (Nat.le_of_ble_eq_true rfl) (Nat.zero_le _) (Nat.zero_le _) ?_
    refine mm_read htr hI 84 (by first | omega | exact Nat.lt_of_le_of_lt Nat.and_le_left (by omega) | exact Nat.or_lt_two_pow (n := 16) (by omega) (by omega) | (simp [md_set, va_up]; done) | (simp [md_set, va_up]; omega) | exact Nat.or_lt_two_pow (n := 6) (by omega) (by omega) | (simp [md_put, md_set, va_up]; omega) | (simp [md_put, md_set, va_up]; done)) (by first | omega | exact Nat.lt_of_le_of_lt Nat.and_le_left (by omega) | exact Nat.or_lt_two_pow (n := 16) (by omega) (by omega) | (simp [md_set, va_up]; done) | (simp [md_set, va_up]; omega) | exact Nat.or_lt_two_pow (n := 6) (by omega) (by omega) | (simp [md_put, md_set, va_up]; omega) | (simp [md_put, md_set, va_up]; done)) (fun M hI => ?_)
    show sg_W X M 0 0 27 [some (.ref x), some (.int (nI slot.toNatClampNeg)), none] [.int (md_o ((md_read (md_set N 0 0 0) 84).1))]
    refine sg_istore_n (pc := 27) (x := md_o ((md_read (md_set N 0 0 0) 84).1)) hC dX7_keep_27 (by decide) ?_
    show sg_W X M 0 0 28 [some (.ref x), some (.int (nI slot.toNatClampNeg)), some (.int (md_o ((md_read (md_set N 0 0 0) 84).1)))] []
    refine sg_aload_n (pc := 28) (v := .ref x) hC dX7_keep_28 rfl rfl ?_
    refine sg_iconst (pc := 29) (nI 0) hC dX7_keep_29 (by decide) ?_
    refine md_put1 (pc := 30) (v := 0) hC tw_1187 dX7_keep_30 hI (by first | omega | exact Nat.lt_of_le_of_lt Nat.and_le_left (by omega) | exact Nat.or_lt_two_pow (n := 16) (by omega) (by omega) | (simp [md_set, va_up]; done) | (simp [md_set, va_up]; omega) | exact Nat.or_lt_two_pow (n := 6) (by omega) (by omega) | (simp [md_put, md_set, va_up]; omega) | (simp [md_put, md_set, va_up]; done)) (fun M hI => ?_)
    refine sg_iload_n (pc := 33) (x := md_o ((md_read (md_set N 0 0 0) 84).1)) hC dX7_keep_33 rfl ?_
    refine sg_ifO_lt (pc := 34) (r := (md_read (md_set N 0 0 0) 84).1) 41 hC dX7_keep_34 (by decide) (fun k9 hk9 => by have := md_read_le (by first | omega | exact Nat.lt_of_le_of_lt Nat.and_le_left (by omega) | exact Nat.or_lt_two_pow (n := 16) (by omega) (by omega) | (simp [md_set, va_up]; done) | (simp [md_set, va_up]; omega) | exact Nat.or_lt_two_pow (n := 6) (by omega) (by omega) | (simp [md_put, md_set, va_up]; omega) | (simp [md_put, md_set, va_up]; done)) hk9; omega) (fun h4 => ?_) (fun h4 => ?_)
    · refine sg_aload_n (pc := 41) (v := .ref x) hC dX7_keep_41 rfl rfl ?_
      refine sg_bipush (pc := 42) (nI 84) hC dX7_keep_42 (by decide) ?_
      refine sg_iload_n (pc := 44) (x := nI slot.toNatClampNeg) hC dX7_keep_44 rfl ?_
      refine sg_callV (pc := 45) (As := [.int (nI 84), .int (nI slot.toNatClampNeg)]) (rest := []) (mc := 0) (ms := 0) hC tw_1329 tw_1331 tw_44 tw_72 tw_1332 yd_X7_copy (by decide) (ci := 10) rfl dX7_keep_45 hI.x rfl (Nat.le_of_ble_eq_true rfl) (Nat.zero_le _) (Nat.zero_le _) ?_
      refine mm_copy htr hI 84 slot.toNatClampNeg (by first | omega | exact Nat.lt_of_le_of_lt Nat.and_le_left (by omega) | exact Nat.or_lt_two_pow (n := 16) (by omega) (by omega) | (simp [md_set, va_up]; done) | (simp [md_set, va_up]; omega) | exact Nat.or_lt_two_pow (n := 6) (by omega) (by omega) | (simp [md_put, md_set, va_up]; omega) | (simp [md_put, md_set, va_up]; done)) (by first | omega | exact Nat.lt_of_le_of_lt Nat.and_le_left (by omega) | exact Nat.or_lt_two_pow (n := 16) (by omega) (by omega) | (simp [md_set, va_up]; done) | (simp [md_set, va_up]; omega) | exact Nat.or_lt_two_pow (n := 6) (by omega) (by omega) | (simp [md_put, md_set, va_up]; omega) | (simp [md_put, md_set, va_up]; done)) (fun M hI => ?_)
      show sg_W X M 0 0 48 [some (.ref x), some (.int (nI slot.toNatClampNeg)), some (.int (md_o ((md_read (md_set N 0 0 0) 84).1)))] []
      refine sg_iconst (pc := 48) (nI 0) hC dX7_keep_48 (by decide) ?_
      have e9 : md_keep N slot = (0, (md_copy (md_set (md_read (md_set N 0 0 0) 84).2 1 0 0) 84 slot.toNatClampNeg)) := by rw [md_keep]; simp only [if_pos h1, h4]
      rw [e9] at hk
      exact sg_ireturn (st := []) (v := nI 0) (pc := 49) hC hR dX7_keep_49 (hk M hI)
    · obtain ⟨q5, hq6⟩ := md_os h4
      rw [hq6]
      show sg_W X M 0 0 37 [some (.ref x), some (.int (nI slot.toNatClampNeg)), some (.int (nI q5))] []
      have hz7 := md_read_le (by first | omega | exact Nat.lt_of_le_of_lt Nat.and_le_left (by omega) | exact Nat.or_lt_two_pow (n := 16) (by omega) (by omega) | (simp [md_set, va_up]; done) | (simp [md_set, va_up]; omega) | exact Nat.or_lt_two_pow (n := 6) (by omega) (by omega) | (simp [md_put, md_set, va_up]; omega) | (simp [md_put, md_set, va_up]; done)) hq6
      refine sg_iconst (pc := 37) (nI 1) hC dX7_keep_37 (by decide) ?_
      refine sg_iload_n (pc := 38) (x := nI q5) hC dX7_keep_38 rfl ?_
      refine sg_iaddN (pc := 39) (a := 1) (b := q5) hC dX7_keep_39 ?_
      have e9 : md_keep N slot = (1 + q5, (md_set (md_read (md_set N 0 0 0) 84).2 1 0 0)) := by rw [md_keep]; simp only [if_pos h1, hq6]
      rw [e9] at hk
      exact sg_ireturn (st := []) (v := nI (1 + q5)) (pc := 40) hC hR dX7_keep_40 (hk M hI)
  · refine sg_aload_n (pc := 15) (v := .ref x) hC dX7_keep_15 rfl rfl ?_
    refine sg_iconst (pc := 16) (nI 1) hC dX7_keep_16 (by decide) ?_
    refine sg_callV (pc := 17) (As := [.int (nI 1)]) (rest := []) (mc := 0) (ms := 0) hC tw_1273 tw_1275 tw_33 tw_72 tw_1276 yd_X7_fail (by decide) (ci := 10) rfl dX7_keep_17 hI.x rfl (Nat.le_of_ble_eq_true rfl) (Nat.zero_le _) (Nat.zero_le _) ?_
    refine mm_fail htr hI 1 (by first | omega | exact Nat.lt_of_le_of_lt Nat.and_le_left (by omega) | exact Nat.or_lt_two_pow (n := 16) (by omega) (by omega) | (simp [md_set, va_up]; done) | (simp [md_set, va_up]; omega) | exact Nat.or_lt_two_pow (n := 6) (by omega) (by omega) | (simp [md_put, md_set, va_up]; omega) | (simp [md_put, md_set, va_up]; done)) (fun M hI => ?_)
    show sg_W X M 0 0 20 [some (.ref x), some (.int slot), none] [.int (nI ((md_fail (md_set N 0 0 0) 1).1))]
    have e9 : md_keep N slot = ((md_fail (md_set N 0 0 0) 1).1, (md_fail (md_set N 0 0 0) 1).2) := by rw [md_keep]; simp only [if_neg (ts9 h1)]
    rw [e9] at hk
    exact sg_ireturn (st := []) (v := nI ((md_fail (md_set N 0 0 0) 1).1)) (pc := 20) hC hR dX7_keep_20 (hk M hI)

def md_written (N : Nat → Nat → Nat) (slot : Int32) (k : Int32) : Option Nat × (Nat → Nat → Nat) := if (md_isSlot (md_set N 0 0 0) slot) = true then if (md_in k (nI 0) (md_p ((md_write (md_set N 0 0 0) slot.toNatClampNeg) 10 0))) = true then (some ((md_write (md_set N 0 0 0) slot.toNatClampNeg) 11 k.toNatClampNeg), (md_write (md_set N 0 0 0) slot.toNatClampNeg)) else (none, (md_write (md_set N 0 0 0) slot.toNatClampNeg)) else (some ((md_fail (md_set N 0 0 0) 1).1), (md_fail (md_set N 0 0 0) 1).2)
set_option maxHeartbeats 4000000 in
set_option maxRecDepth 100000 in
theorem mm_written {l : Launch} {G : sg_G} {d : Nat} {M0 M : sg_M} {x : Nat} {ad : Nat → Nat} {N : Nat → Nat → Nat} {kr : Option Value → sg_M → Prop} {kx : String → sg_M → Prop} (htr : l.stackTraces = false) (hI : md_I M0 M x ad N) (slot : Int32) (k : Int32) (hw : ∀ r, N 4 r ≤ 3) (hlo : ∀ r, N 8 r ≤ 9) (hhi : ∀ r, N 9 r ≤ 9) (hlb : ∀ r, N 5 r ≤ 8) (hk : ∀ M', md_I M0 M' x ad (md_written N slot k).2 → kr (some (.int (md_o (md_written N slot k).1))) M') : sg_Met l G yX7_written cX7_written 3 (some .int) (d + 3) 0 0 [.ref x, .int slot, .int k] M kr kx := by
  refine sg_enter [some (.ref x), some (.int slot), some (.int k)] (by decide) htr (Nat.le_of_ble_eq_true rfl) rfl ?_
  intro X hC hR
  have hC : sg_C X l G cX7_written RX7 3 (d + 3) := hC
  refine sg_aload_n (pc := 0) (v := .ref x) hC dX7_written_0 rfl rfl ?_
  refine sg_iconst (pc := 1) (nI 0) hC dX7_written_1 (by decide) ?_
  refine md_put0 (pc := 2) (v := 0) hC tw_1186 dX7_written_2 hI (by first | omega | exact Nat.lt_of_le_of_lt Nat.and_le_left (by omega) | exact Nat.or_lt_two_pow (n := 16) (by omega) (by omega) | (simp [md_set, va_up]; done) | (simp [md_set, va_up]; omega) | exact Nat.or_lt_two_pow (n := 6) (by omega) (by omega) | (simp [md_put, md_set, va_up]; omega) | (simp [md_put, md_set, va_up]; done)) (fun M hI => ?_)
  refine sg_aload_n (pc := 5) (v := .ref x) hC dX7_written_5 rfl rfl ?_
  refine sg_iload_n (pc := 6) (x := slot) hC dX7_written_6 rfl ?_
  refine sg_callV (pc := 7) (As := [.int slot]) (rest := []) (mc := 0) (ms := 0) hC tw_1337 tw_1339 tw_45 tw_72 tw_1340 yd_X7_isSlot (by decide) (ci := 10) rfl dX7_written_7 hI.x rfl (Nat.le_of_ble_eq_true rfl) (Nat.zero_le _) (Nat.zero_le _) ?_
  refine mm_isSlot htr hI slot  ?_
  show sg_W X M 0 0 10 [some (.ref x), some (.int slot), some (.int k)] [.int (md_b ((md_isSlot (md_set N 0 0 0) slot)))]
  refine sg_ifB_ne (pc := 10) (b := (md_isSlot (md_set N 0 0 0) slot)) 19 hC dX7_written_10 (by decide) (fun h1 => ?_) (fun h1 => ?_)
  · obtain ⟨hs2, hs3⟩ := md_isSlot_nat h1
    rw [hs2]
    show sg_W X M 0 0 19 [some (.ref x), some (.int (nI slot.toNatClampNeg)), some (.int k)] []
    obtain ⟨hs4, hs5⟩ := hs3
    refine sg_aload_n (pc := 19) (v := .ref x) hC dX7_written_19 rfl rfl ?_
    refine sg_iload_n (pc := 20) (x := nI slot.toNatClampNeg) hC dX7_written_20 rfl ?_
    refine sg_callV (pc := 21) (As := [.int (nI slot.toNatClampNeg)]) (rest := []) (mc := 0) (ms := 0) hC tw_1341 tw_1343 tw_46 tw_72 tw_1344 yd_X7_write (by decide) (ci := 10) rfl dX7_written_21 hI.x rfl (Nat.le_of_ble_eq_true rfl) (Nat.zero_le _) (Nat.zero_le _) ?_
    refine mm_write htr hI slot.toNatClampNeg (by first | omega | exact Nat.lt_of_le_of_lt Nat.and_le_left (by omega) | exact Nat.or_lt_two_pow (n := 16) (by omega) (by omega) | (simp [md_set, va_up]; done) | (simp [md_set, va_up]; omega) | exact Nat.or_lt_two_pow (n := 6) (by omega) (by omega) | (simp [md_put, md_set, va_up]; omega) | (simp [md_put, md_set, va_up]; done)) (by intro r9; first | exact hw r9 | (show N 4 r9 ≤ 3; exact hw r9) | exact hw9 r9) (by intro r9; first | exact hlo r9 | (show N 8 r9 ≤ 9; exact hlo r9) | exact hlo9 r9) (by intro r9; first | exact hhi r9 | (show N 9 r9 ≤ 9; exact hhi r9) | exact hhi9 r9) (by intro r9; first | exact hlb r9 | (show N 5 r9 ≤ 8; exact hlb r9) | exact hlb9 r9) (fun M hI => ?_)
    show sg_W X M 0 0 24 [some (.ref x), some (.int (nI slot.toNatClampNeg)), some (.int k)] []
    have hwz : (md_write (md_set N 0 0 0) slot.toNatClampNeg) 10 0 ≤ 20 := md_write_z (fun r9 => hw r9)
    refine sg_iload_n (pc := 24) (x := k) hC dX7_written_24 rfl ?_
    refine sg_iconst (pc := 25) (nI 0) hC dX7_written_25 (by decide) ?_
    refine sg_aload_n (pc := 26) (v := .ref x) hC dX7_written_26 rfl rfl ?_
    refine md_get (pc := 27) (i := 10) hC (by decide) tw_1196 dX7_written_27 hI rfl ?_
    have hb6 : (md_write (md_set N 0 0 0) slot.toNatClampNeg) 10 0 < 65536 := hI.lt 10 0
    show sg_W X M 0 0 30 [some (.ref x), some (.int (nI slot.toNatClampNeg)), some (.int k)] [.int (nI ((md_write (md_set N 0 0 0) slot.toNatClampNeg) 10 0)), .int (nI 0), .int k]
    refine sg_iconst (pc := 30) (nI 1) hC dX7_written_30 (by decide) ?_
    refine sg_isub (pc := 31) (x := nI ((md_write (md_set N 0 0 0) slot.toNatClampNeg) 10 0)) (y := nI 1) hC dX7_written_31 ?_
    show sg_W X M 0 0 32 [some (.ref x), some (.int (nI slot.toNatClampNeg)), some (.int k)] [.int (md_p ((md_write (md_set N 0 0 0) slot.toNatClampNeg) 10 0)), .int (nI 0), .int k]
    refine sg_callS (pc := 32) (As := [.int k, .int (nI 0), .int (md_p ((md_write (md_set N 0 0 0) slot.toNatClampNeg) 10 0))]) (rest := []) (mc := 0) (ms := 0) hC tw_1270 tw_1271 tw_72 tw_1272 yd_X7_in (by decide) dX7_written_32 rfl (Nat.le_of_ble_eq_true rfl) (Nat.zero_le _) (Nat.zero_le _) ?_
    refine mm_in htr  k (nI 0) (md_p ((md_write (md_set N 0 0 0) slot.toNatClampNeg) 10 0))  ?_
    show sg_W X M 0 0 35 [some (.ref x), some (.int (nI slot.toNatClampNeg)), some (.int k)] [.int (md_b ((md_in k (nI 0) (md_p ((md_write (md_set N 0 0 0) slot.toNatClampNeg) 10 0)))))]
    refine sg_ifB_eq (pc := 35) (b := (md_in k (nI 0) (md_p ((md_write (md_set N 0 0 0) slot.toNatClampNeg) 10 0)))) 47 hC dX7_written_35 (by decide) (fun h7 => ?_) (fun h7 => ?_)
    · refine sg_iconst (pc := 47) (((-1))) hC dX7_written_47 (by decide) ?_
      have e9 : md_written N slot k = (none, (md_write (md_set N 0 0 0) slot.toNatClampNeg)) := by rw [md_written]; simp only [if_pos h1, if_neg (ts9 h7)]
      rw [e9] at hk
      exact sg_ireturn (st := []) (v := md_o none) (pc := 48) hC hR dX7_written_48 (hk M hI)
    · obtain ⟨hs8, hs9⟩ := md_in_pred h7 (by first | omega | exact Nat.lt_of_le_of_lt Nat.and_le_left (by omega) | exact Nat.or_lt_two_pow (n := 16) (by omega) (by omega) | (simp [md_set, va_up]; done) | (simp [md_set, va_up]; omega) | exact Nat.or_lt_two_pow (n := 6) (by omega) (by omega) | (simp [md_put, md_set, va_up]; omega) | (simp [md_put, md_set, va_up]; done))
      rw [hs8]
      show sg_W X M 0 0 38 [some (.ref x), some (.int (nI slot.toNatClampNeg)), some (.int (nI k.toNatClampNeg))] []
      refine sg_aload_n (pc := 38) (v := .ref x) hC dX7_written_38 rfl rfl ?_
      refine md_get (pc := 39) (i := 11) hC (by decide) tw_1197 dX7_written_39 hI rfl ?_
      refine sg_iload_n (pc := 42) (x := nI k.toNatClampNeg) hC dX7_written_42 rfl ?_
      refine md_cald (pc := 43) (i := 11) (j := k.toNatClampNeg) hC dX7_written_43 hI rfl (by first | omega | exact Nat.lt_of_le_of_lt Nat.and_le_left (by omega) | exact Nat.or_lt_two_pow (n := 16) (by omega) (by omega) | (simp [md_set, va_up]; done) | (simp [md_set, va_up]; omega) | exact Nat.or_lt_two_pow (n := 6) (by omega) (by omega) | (simp [md_put, md_set, va_up]; omega) | (simp [md_put, md_set, va_up]; done)) (by decide) (fun hv10 => ?_)
      show sg_W X M 0 0 44 [some (.ref x), some (.int (nI slot.toNatClampNeg)), some (.int (nI k.toNatClampNeg))] [.int (nI ((md_write (md_set N 0 0 0) slot.toNatClampNeg) 11 k.toNatClampNeg))]
      refine sg_goto (pc := 44) 48 hC dX7_written_44 (by decide) ?_
      have e9 : md_written N slot k = (some ((md_write (md_set N 0 0 0) slot.toNatClampNeg) 11 k.toNatClampNeg), (md_write (md_set N 0 0 0) slot.toNatClampNeg)) := by rw [md_written]; simp only [if_pos h1, if_pos h7]
      rw [e9] at hk
      exact sg_ireturn (st := []) (v := md_o (some ((md_write (md_set N 0 0 0) slot.toNatClampNeg) 11 k.toNatClampNeg))) (pc := 48) hC hR dX7_written_48 (hk M hI)
  · refine sg_aload_n (pc := 13) (v := .ref x) hC dX7_written_13 rfl rfl ?_
    refine sg_iconst (pc := 14) (nI 1) hC dX7_written_14 (by decide) ?_
    refine sg_callV (pc := 15) (As := [.int (nI 1)]) (rest := []) (mc := 0) (ms := 0) hC tw_1273 tw_1275 tw_33 tw_72 tw_1276 yd_X7_fail (by decide) (ci := 10) rfl dX7_written_15 hI.x rfl (Nat.le_of_ble_eq_true rfl) (Nat.zero_le _) (Nat.zero_le _) ?_
    refine mm_fail htr hI 1 (by first | omega | exact Nat.lt_of_le_of_lt Nat.and_le_left (by omega) | exact Nat.or_lt_two_pow (n := 16) (by omega) (by omega) | (simp [md_set, va_up]; done) | (simp [md_set, va_up]; omega) | exact Nat.or_lt_two_pow (n := 6) (by omega) (by omega) | (simp [md_put, md_set, va_up]; omega) | (simp [md_put, md_set, va_up]; done)) (fun M hI => ?_)
    show sg_W X M 0 0 18 [some (.ref x), some (.int slot), some (.int k)] [.int (nI ((md_fail (md_set N 0 0 0) 1).1))]
    have e9 : md_written N slot k = (some ((md_fail (md_set N 0 0 0) 1).1), (md_fail (md_set N 0 0 0) 1).2) := by rw [md_written]; simp only [if_neg (ts9 h1)]
    rw [e9] at hk
    exact sg_ireturn (st := []) (v := md_o (some ((md_fail (md_set N 0 0 0) 1).1))) (pc := 18) hC hR dX7_written_18 (hk M hI)
