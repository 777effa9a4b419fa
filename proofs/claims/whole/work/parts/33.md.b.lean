theorem yd_X7_addLabel : yX7_addLabel.cls ≠ "java/lang/invoke/MethodHandle" ∧ yX7_addLabel.cls ≠ "java/lang/invoke/VarHandle" ∧ (parseMethodDescriptor yX7_addLabel.desc).map (fun d => d.parameters.length) = some 2 := by decide +kernel
theorem yd_X7_alike : yX7_alike.cls ≠ "java/lang/invoke/MethodHandle" ∧ yX7_alike.cls ≠ "java/lang/invoke/VarHandle" ∧ (parseMethodDescriptor yX7_alike.desc).map (fun d => d.parameters.length) = some 4 := by decide +kernel
theorem yd_X7_allowed : yX7_allowed.cls ≠ "java/lang/invoke/MethodHandle" ∧ yX7_allowed.cls ≠ "java/lang/invoke/VarHandle" ∧ (parseMethodDescriptor yX7_allowed.desc).map (fun d => d.parameters.length) = some 1 := by decide +kernel
theorem yd_X7_begin : yX7_begin.cls ≠ "java/lang/invoke/MethodHandle" ∧ yX7_begin.cls ≠ "java/lang/invoke/VarHandle" ∧ (parseMethodDescriptor yX7_begin.desc).map (fun d => d.parameters.length) = some 2 := by decide +kernel
theorem yd_X7_blame : yX7_blame.cls ≠ "java/lang/invoke/MethodHandle" ∧ yX7_blame.cls ≠ "java/lang/invoke/VarHandle" ∧ (parseMethodDescriptor yX7_blame.desc).map (fun d => d.parameters.length) = some 2 := by decide +kernel
theorem yd_X7_capture : yX7_capture.cls ≠ "java/lang/invoke/MethodHandle" ∧ yX7_capture.cls ≠ "java/lang/invoke/VarHandle" ∧ (parseMethodDescriptor yX7_capture.desc).map (fun d => d.parameters.length) = some 1 := by decide +kernel
theorem yd_X7_check : yX7_check.cls ≠ "java/lang/invoke/MethodHandle" ∧ yX7_check.cls ≠ "java/lang/invoke/VarHandle" ∧ (parseMethodDescriptor yX7_check.desc).map (fun d => d.parameters.length) = some 2 := by decide +kernel
theorem yd_X7_combine : yX7_combine.cls ≠ "java/lang/invoke/MethodHandle" ∧ yX7_combine.cls ≠ "java/lang/invoke/VarHandle" ∧ (parseMethodDescriptor yX7_combine.desc).map (fun d => d.parameters.length) = some 2 := by decide +kernel
theorem yd_X7_copy : yX7_copy.cls ≠ "java/lang/invoke/MethodHandle" ∧ yX7_copy.cls ≠ "java/lang/invoke/VarHandle" ∧ (parseMethodDescriptor yX7_copy.desc).map (fun d => d.parameters.length) = some 2 := by decide +kernel
theorem yd_X7_end : yX7_end.cls ≠ "java/lang/invoke/MethodHandle" ∧ yX7_end.cls ≠ "java/lang/invoke/VarHandle" ∧ (parseMethodDescriptor yX7_end.desc).map (fun d => d.parameters.length) = some 1 := by decide +kernel
theorem yd_X7_enter : yX7_enter.cls ≠ "java/lang/invoke/MethodHandle" ∧ yX7_enter.cls ≠ "java/lang/invoke/VarHandle" ∧ (parseMethodDescriptor yX7_enter.desc).map (fun d => d.parameters.length) = some 2 := by decide +kernel
theorem yd_X7_fail : yX7_fail.cls ≠ "java/lang/invoke/MethodHandle" ∧ yX7_fail.cls ≠ "java/lang/invoke/VarHandle" ∧ (parseMethodDescriptor yX7_fail.desc).map (fun d => d.parameters.length) = some 1 := by decide +kernel
theorem yd_X7_go : yX7_go.cls ≠ "java/lang/invoke/MethodHandle" ∧ yX7_go.cls ≠ "java/lang/invoke/VarHandle" ∧ (parseMethodDescriptor yX7_go.desc).map (fun d => d.parameters.length) = some 3 := by decide +kernel
theorem yd_X7_grant : yX7_grant.cls ≠ "java/lang/invoke/MethodHandle" ∧ yX7_grant.cls ≠ "java/lang/invoke/VarHandle" ∧ (parseMethodDescriptor yX7_grant.desc).map (fun d => d.parameters.length) = some 2 := by decide +kernel
theorem yd_X7_granted : yX7_granted.cls ≠ "java/lang/invoke/MethodHandle" ∧ yX7_granted.cls ≠ "java/lang/invoke/VarHandle" ∧ (parseMethodDescriptor yX7_granted.desc).map (fun d => d.parameters.length) = some 2 := by decide +kernel
theorem yd_X7_guard : yX7_guard.cls ≠ "java/lang/invoke/MethodHandle" ∧ yX7_guard.cls ≠ "java/lang/invoke/VarHandle" ∧ (parseMethodDescriptor yX7_guard.desc).map (fun d => d.parameters.length) = some 3 := by decide +kernel
theorem yd_X7_host : yX7_host.cls ≠ "java/lang/invoke/MethodHandle" ∧ yX7_host.cls ≠ "java/lang/invoke/VarHandle" ∧ (parseMethodDescriptor yX7_host.desc).map (fun d => d.parameters.length) = some 2 := by decide +kernel
theorem yd_X7_idle : yX7_idle.cls ≠ "java/lang/invoke/MethodHandle" ∧ yX7_idle.cls ≠ "java/lang/invoke/VarHandle" ∧ (parseMethodDescriptor yX7_idle.desc).map (fun d => d.parameters.length) = some 1 := by decide +kernel
theorem yd_X7_in : yX7_in.cls ≠ "java/lang/invoke/MethodHandle" ∧ yX7_in.cls ≠ "java/lang/invoke/VarHandle" ∧ (parseMethodDescriptor yX7_in.desc).map (fun d => d.parameters.length) = some 3 := by decide +kernel
theorem yd_X7_init : yX7_init.cls ≠ "java/lang/invoke/MethodHandle" ∧ yX7_init.cls ≠ "java/lang/invoke/VarHandle" ∧ (parseMethodDescriptor yX7_init.desc).map (fun d => d.parameters.length) = some 0 := by decide +kernel
theorem yd_X7_isContext : yX7_isContext.cls ≠ "java/lang/invoke/MethodHandle" ∧ yX7_isContext.cls ≠ "java/lang/invoke/VarHandle" ∧ (parseMethodDescriptor yX7_isContext.desc).map (fun d => d.parameters.length) = some 1 := by decide +kernel
theorem yd_X7_isDigit : yX7_isDigit.cls ≠ "java/lang/invoke/MethodHandle" ∧ yX7_isDigit.cls ≠ "java/lang/invoke/VarHandle" ∧ (parseMethodDescriptor yX7_isDigit.desc).map (fun d => d.parameters.length) = some 1 := by decide +kernel
theorem yd_X7_isLabel : yX7_isLabel.cls ≠ "java/lang/invoke/MethodHandle" ∧ yX7_isLabel.cls ≠ "java/lang/invoke/VarHandle" ∧ (parseMethodDescriptor yX7_isLabel.desc).map (fun d => d.parameters.length) = some 1 := by decide +kernel
theorem yd_X7_isSlot : yX7_isSlot.cls ≠ "java/lang/invoke/MethodHandle" ∧ yX7_isSlot.cls ≠ "java/lang/invoke/VarHandle" ∧ (parseMethodDescriptor yX7_isSlot.desc).map (fun d => d.parameters.length) = some 1 := by decide +kernel
theorem yd_X7_isThread : yX7_isThread.cls ≠ "java/lang/invoke/MethodHandle" ∧ yX7_isThread.cls ≠ "java/lang/invoke/VarHandle" ∧ (parseMethodDescriptor yX7_isThread.desc).map (fun d => d.parameters.length) = some 1 := by decide +kernel
theorem yd_X7_keep : yX7_keep.cls ≠ "java/lang/invoke/MethodHandle" ∧ yX7_keep.cls ≠ "java/lang/invoke/VarHandle" ∧ (parseMethodDescriptor yX7_keep.desc).map (fun d => d.parameters.length) = some 1 := by decide +kernel
theorem yd_X7_labelled : yX7_labelled.cls ≠ "java/lang/invoke/MethodHandle" ∧ yX7_labelled.cls ≠ "java/lang/invoke/VarHandle" ∧ (parseMethodDescriptor yX7_labelled.desc).map (fun d => d.parameters.length) = some 3 := by decide +kernel
theorem yd_X7_leave : yX7_leave.cls ≠ "java/lang/invoke/MethodHandle" ∧ yX7_leave.cls ≠ "java/lang/invoke/VarHandle" ∧ (parseMethodDescriptor yX7_leave.desc).map (fun d => d.parameters.length) = some 1 := by decide +kernel
theorem yd_X7_letter : yX7_letter.cls ≠ "java/lang/invoke/MethodHandle" ∧ yX7_letter.cls ≠ "java/lang/invoke/VarHandle" ∧ (parseMethodDescriptor yX7_letter.desc).map (fun d => d.parameters.length) = some 2 := by decide +kernel
theorem yd_X7_letterOf : yX7_letterOf.cls ≠ "java/lang/invoke/MethodHandle" ∧ yX7_letterOf.cls ≠ "java/lang/invoke/VarHandle" ∧ (parseMethodDescriptor yX7_letterOf.desc).map (fun d => d.parameters.length) = some 1 := by decide +kernel
theorem yd_X7_many : yX7_many.cls ≠ "java/lang/invoke/MethodHandle" ∧ yX7_many.cls ≠ "java/lang/invoke/VarHandle" ∧ (parseMethodDescriptor yX7_many.desc).map (fun d => d.parameters.length) = some 1 := by decide +kernel
theorem yd_X7_may : yX7_may.cls ≠ "java/lang/invoke/MethodHandle" ∧ yX7_may.cls ≠ "java/lang/invoke/VarHandle" ∧ (parseMethodDescriptor yX7_may.desc).map (fun d => d.parameters.length) = some 2 := by decide +kernel
theorem yd_X7_mayDo : yX7_mayDo.cls ≠ "java/lang/invoke/MethodHandle" ∧ yX7_mayDo.cls ≠ "java/lang/invoke/VarHandle" ∧ (parseMethodDescriptor yX7_mayDo.desc).map (fun d => d.parameters.length) = some 2 := by decide +kernel
theorem yd_X7_note : yX7_note.cls ≠ "java/lang/invoke/MethodHandle" ∧ yX7_note.cls ≠ "java/lang/invoke/VarHandle" ∧ (parseMethodDescriptor yX7_note.desc).map (fun d => d.parameters.length) = some 2 := by decide +kernel
theorem yd_X7_noteDown : yX7_noteDown.cls ≠ "java/lang/invoke/MethodHandle" ∧ yX7_noteDown.cls ≠ "java/lang/invoke/VarHandle" ∧ (parseMethodDescriptor yX7_noteDown.desc).map (fun d => d.parameters.length) = some 2 := by decide +kernel
theorem yd_X7_path : yX7_path.cls ≠ "java/lang/invoke/MethodHandle" ∧ yX7_path.cls ≠ "java/lang/invoke/VarHandle" ∧ (parseMethodDescriptor yX7_path.desc).map (fun d => d.parameters.length) = some 2 := by decide +kernel
theorem yd_X7_pathTakes : yX7_pathTakes.cls ≠ "java/lang/invoke/MethodHandle" ∧ yX7_pathTakes.cls ≠ "java/lang/invoke/VarHandle" ∧ (parseMethodDescriptor yX7_pathTakes.desc).map (fun d => d.parameters.length) = some 2 := by decide +kernel
theorem yd_X7_put : yX7_put.cls ≠ "java/lang/invoke/MethodHandle" ∧ yX7_put.cls ≠ "java/lang/invoke/VarHandle" ∧ (parseMethodDescriptor yX7_put.desc).map (fun d => d.parameters.length) = some 1 := by decide +kernel
theorem yd_X7_putLabels : yX7_putLabels.cls ≠ "java/lang/invoke/MethodHandle" ∧ yX7_putLabels.cls ≠ "java/lang/invoke/VarHandle" ∧ (parseMethodDescriptor yX7_putLabels.desc).map (fun d => d.parameters.length) = some 2 := by decide +kernel
theorem yd_X7_range : yX7_range.cls ≠ "java/lang/invoke/MethodHandle" ∧ yX7_range.cls ≠ "java/lang/invoke/VarHandle" ∧ (parseMethodDescriptor yX7_range.desc).map (fun d => d.parameters.length) = some 3 := by decide +kernel
theorem yd_X7_read : yX7_read.cls ≠ "java/lang/invoke/MethodHandle" ∧ yX7_read.cls ≠ "java/lang/invoke/VarHandle" ∧ (parseMethodDescriptor yX7_read.desc).map (fun d => d.parameters.length) = some 1 := by decide +kernel
theorem yd_X7_revoke : yX7_revoke.cls ≠ "java/lang/invoke/MethodHandle" ∧ yX7_revoke.cls ≠ "java/lang/invoke/VarHandle" ∧ (parseMethodDescriptor yX7_revoke.desc).map (fun d => d.parameters.length) = some 2 := by decide +kernel
theorem yd_X7_rowTakes : yX7_rowTakes.cls ≠ "java/lang/invoke/MethodHandle" ∧ yX7_rowTakes.cls ≠ "java/lang/invoke/VarHandle" ∧ (parseMethodDescriptor yX7_rowTakes.desc).map (fun d => d.parameters.length) = some 2 := by decide +kernel
theorem yd_X7_sameLabels : yX7_sameLabels.cls ≠ "java/lang/invoke/MethodHandle" ∧ yX7_sameLabels.cls ≠ "java/lang/invoke/VarHandle" ∧ (parseMethodDescriptor yX7_sameLabels.desc).map (fun d => d.parameters.length) = some 2 := by decide +kernel
theorem yd_X7_spawn : yX7_spawn.cls ≠ "java/lang/invoke/MethodHandle" ∧ yX7_spawn.cls ≠ "java/lang/invoke/VarHandle" ∧ (parseMethodDescriptor yX7_spawn.desc).map (fun d => d.parameters.length) = some 1 := by decide +kernel
theorem yd_X7_starred : yX7_starred.cls ≠ "java/lang/invoke/MethodHandle" ∧ yX7_starred.cls ≠ "java/lang/invoke/VarHandle" ∧ (parseMethodDescriptor yX7_starred.desc).map (fun d => d.parameters.length) = some 3 := by decide +kernel
theorem yd_X7_takes : yX7_takes.cls ≠ "java/lang/invoke/MethodHandle" ∧ yX7_takes.cls ≠ "java/lang/invoke/VarHandle" ∧ (parseMethodDescriptor yX7_takes.desc).map (fun d => d.parameters.length) = some 2 := by decide +kernel
theorem yd_X7_takesIn : yX7_takesIn.cls ≠ "java/lang/invoke/MethodHandle" ∧ yX7_takesIn.cls ≠ "java/lang/invoke/VarHandle" ∧ (parseMethodDescriptor yX7_takesIn.desc).map (fun d => d.parameters.length) = some 2 := by decide +kernel
theorem yd_X7_thrown : yX7_thrown.cls ≠ "java/lang/invoke/MethodHandle" ∧ yX7_thrown.cls ≠ "java/lang/invoke/VarHandle" ∧ (parseMethodDescriptor yX7_thrown.desc).map (fun d => d.parameters.length) = some 0 := by decide +kernel
theorem yd_X7_type : yX7_type.cls ≠ "java/lang/invoke/MethodHandle" ∧ yX7_type.cls ≠ "java/lang/invoke/VarHandle" ∧ (parseMethodDescriptor yX7_type.desc).map (fun d => d.parameters.length) = some 1 := by decide +kernel
theorem yd_X7_walk : yX7_walk.cls ≠ "java/lang/invoke/MethodHandle" ∧ yX7_walk.cls ≠ "java/lang/invoke/VarHandle" ∧ (parseMethodDescriptor yX7_walk.desc).map (fun d => d.parameters.length) = some 2 := by decide +kernel
theorem yd_X7_walked : yX7_walked.cls ≠ "java/lang/invoke/MethodHandle" ∧ yX7_walked.cls ≠ "java/lang/invoke/VarHandle" ∧ (parseMethodDescriptor yX7_walked.desc).map (fun d => d.parameters.length) = some 2 := by decide +kernel
theorem yd_X7_whole : yX7_whole.cls ≠ "java/lang/invoke/MethodHandle" ∧ yX7_whole.cls ≠ "java/lang/invoke/VarHandle" ∧ (parseMethodDescriptor yX7_whole.desc).map (fun d => d.parameters.length) = some 2 := by decide +kernel
theorem yd_X7_write : yX7_write.cls ≠ "java/lang/invoke/MethodHandle" ∧ yX7_write.cls ≠ "java/lang/invoke/VarHandle" ∧ (parseMethodDescriptor yX7_write.desc).map (fun d => d.parameters.length) = some 1 := by decide +kernel
theorem yd_X7_written : yX7_written.cls ≠ "java/lang/invoke/MethodHandle" ∧ yX7_written.cls ≠ "java/lang/invoke/VarHandle" ∧ (parseMethodDescriptor yX7_written.desc).map (fun d => d.parameters.length) = some 2 := by decide +kernel
theorem md_os {r : Option Nat} (h : ¬ r = none) : ∃ k, r = some k := by
  cases r with
  | none => exact absurd rfl h
  | some k => exact ⟨k, rfl⟩
theorem md_lab1 {c : Nat} (h : md_isLabel c = true) : 97 ≤ c := by
  unfold md_isLabel at h
  split at h
  · cases h
  · omega
theorem md_lab2 {c : Nat} (h : md_isLabel c = true) : c ≤ 105 := by
  unfold md_isLabel at h
  split at h
  · cases h
  · split at h
    · cases h
    · omega
theorem md_dig1 {c : Nat} (h : md_isDigit c = true) : 48 ≤ c := by
  unfold md_isDigit at h
  split at h
  · cases h
  · omega
theorem md_dig2 {c : Nat} (h : md_isDigit c = true) : c ≤ 57 := by
  unfold md_isDigit at h
  split at h
  · cases h
  · split at h
    · cases h
    · omega
theorem md_lof (c : Nat) : md_letterOf c ≤ 8 := by
  unfold md_letterOf
  repeat' split
  all_goals omega

def md_labelled (N : Nat → Nat → Nat) (p : Nat) (c : Nat) (nx : Nat) : Option Nat × (Nat → Nat → Nat) := if (md_isLabel c) = true then (some nx, (md_addLabel N p c)) else (none, N)
set_option maxHeartbeats 4000000 in
set_option maxRecDepth 100000 in
theorem mm_labelled {l : Launch} {G : sg_G} {d : Nat} {M0 M : sg_M} {x : Nat} {ad : Nat → Nat} {N : Nat → Nat → Nat} {kr : Option Value → sg_M → Prop} {kx : String → sg_M → Prop} (htr : l.stackTraces = false) (hI : md_I M0 M x ad N) (p : Nat) (c : Nat) (nx : Nat) (hp : p < 86) (hc : c < 65536) (hl : N 4 p < 3) (hk : ∀ M', md_I M0 M' x ad (md_labelled N p c nx).2 → kr (some (.int (md_o (md_labelled N p c nx).1))) M') : sg_Met l G yX7_labelled cX7_labelled 4 (some .int) (d + 1) 0 0 [.ref x, .int (nI p), .int (nI c), .int (nI nx)] M kr kx := by
  refine sg_enter [some (.ref x), some (.int (nI p)), some (.int (nI c)), some (.int (nI nx))] (by decide) htr (Nat.le_of_ble_eq_true rfl) rfl ?_
  intro X hC hR
  have hC : sg_C X l G cX7_labelled RX7 4 (d + 1) := hC
  refine sg_iload_n (pc := 0) (x := nI c) hC dX7_labelled_0 rfl ?_
  refine sg_callS (pc := 1) (As := [.int (nI c)]) (rest := []) (mc := 0) (ms := 0) hC tw_1301 tw_1302 tw_72 tw_1303 yd_X7_isLabel (by decide) dX7_labelled_1 rfl (Nat.le_of_ble_eq_true rfl) (Nat.zero_le _) (Nat.zero_le _) ?_
  refine mm_isLabel htr  c (by first | omega | exact Nat.lt_of_le_of_lt Nat.and_le_left (by omega) | exact Nat.or_lt_two_pow (n := 16) (by omega) (by omega)) ?_
  show sg_W X M 0 0 4 [some (.ref x), some (.int (nI p)), some (.int (nI c)), some (.int (nI nx))] [.int (md_b ((md_isLabel c)))]
  refine sg_ifB_ne (pc := 4) (b := (md_isLabel c)) 9 hC dX7_labelled_4 (by decide) (fun h1 => ?_) (fun h1 => ?_)
  · have hd2 := md_lab1 h1
    have hd3 := md_lab2 h1
    refine sg_aload_n (pc := 9) (v := .ref x) hC dX7_labelled_9 rfl rfl ?_
    refine sg_iload_n (pc := 10) (x := nI p) hC dX7_labelled_10 rfl ?_
    refine sg_iload_n (pc := 11) (x := nI c) hC dX7_labelled_11 rfl ?_
    refine sg_callV (pc := 12) (As := [.int (nI p), .int (nI c)]) (rest := []) (mc := 0) (ms := 0) hC tw_1304 tw_1306 tw_40 tw_72 tw_1307 yd_X7_addLabel (by decide) (ci := 10) rfl dX7_labelled_12 hI.x rfl (Nat.le_of_ble_eq_true rfl) (Nat.zero_le _) (Nat.zero_le _) ?_
    refine mm_addLabel htr hI p c (by first | omega | exact Nat.lt_of_le_of_lt Nat.and_le_left (by omega) | exact Nat.or_lt_two_pow (n := 16) (by omega) (by omega)) (md_lab1 h1) (md_lab2 h1) (by first | omega | exact Nat.lt_of_le_of_lt Nat.and_le_left (by omega) | exact Nat.or_lt_two_pow (n := 16) (by omega) (by omega)) (fun M hI => ?_)
    show sg_W X M 0 0 15 [some (.ref x), some (.int (nI p)), some (.int (nI c)), some (.int (nI nx))] []
    refine sg_iload_n (pc := 15) (x := nI nx) hC dX7_labelled_15 rfl ?_
    have e9 : md_labelled N p c nx = (some nx, (md_addLabel N p c)) := by rw [md_labelled]; simp only [if_pos h1]
    rw [e9] at hk
    exact sg_ireturn (st := []) (v := md_o (some nx)) (pc := 16) hC hR dX7_labelled_16 (hk M hI)
  · refine sg_iconst (pc := 7) (((-1))) hC dX7_labelled_7 (by decide) ?_
    have e9 : md_labelled N p c nx = (none, N) := by rw [md_labelled]; simp only [if_neg (ts9 h1)]
    rw [e9] at hk
    exact sg_ireturn (st := []) (v := md_o none) (pc := 8) hC hR dX7_labelled_8 (hk M hI)

def md_path (N : Nat → Nat → Nat) (p : Nat) (c : Nat) : Option Nat × (Nat → Nat → Nat) := if c = 42 then (some ((md_starred N p 1 5).1), (md_starred N p 1 5).2) else if c = 45 then (some ((md_starred N p 2 5).1), (md_starred N p 2 5).2) else ((md_labelled N p c 4).1, (md_labelled N p c 4).2)
set_option maxHeartbeats 4000000 in
set_option maxRecDepth 100000 in
theorem mm_path {l : Launch} {G : sg_G} {d : Nat} {M0 M : sg_M} {x : Nat} {ad : Nat → Nat} {N : Nat → Nat → Nat} {kr : Option Value → sg_M → Prop} {kx : String → sg_M → Prop} (htr : l.stackTraces = false) (hI : md_I M0 M x ad N) (p : Nat) (c : Nat) (hp : p < 86) (hc : c < 65536) (hl : N 4 p < 3) (hk : ∀ M', md_I M0 M' x ad (md_path N p c).2 → kr (some (.int (md_o (md_path N p c).1))) M') : sg_Met l G yX7_path cX7_path 3 (some .int) (d + 2) 0 0 [.ref x, .int (nI p), .int (nI c)] M kr kx := by
  refine sg_enter [some (.ref x), some (.int (nI p)), some (.int (nI c))] (by decide) htr (Nat.le_of_ble_eq_true rfl) rfl ?_
  intro X hC hR
  have hC : sg_C X l G cX7_path RX7 3 (d + 2) := hC
  refine sg_iload_n (pc := 0) (x := nI c) hC dX7_path_0 rfl ?_
  refine sg_bipush (pc := 1) (nI 42) hC dX7_path_1 (by decide) ?_
  refine sg_icmpN_ne (pc := 3) (a := c) (b := 42) 16 hC dX7_path_3 (by decide) (by first | omega | exact Nat.lt_of_le_of_lt Nat.and_le_left (by omega) | exact Nat.or_lt_two_pow (n := 16) (by omega) (by omega)) (by first | omega | exact Nat.lt_of_le_of_lt Nat.and_le_left (by omega) | exact Nat.or_lt_two_pow (n := 16) (by omega) (by omega)) (fun h1 => ?_) (fun h1 => ?_)
  · refine sg_iload_n (pc := 16) (x := nI c) hC dX7_path_16 rfl ?_
    refine sg_bipush (pc := 17) (nI 45) hC dX7_path_17 (by decide) ?_
    refine sg_icmpN_ne (pc := 19) (a := c) (b := 45) 32 hC dX7_path_19 (by decide) (by first | omega | exact Nat.lt_of_le_of_lt Nat.and_le_left (by omega) | exact Nat.or_lt_two_pow (n := 16) (by omega) (by omega)) (by first | omega | exact Nat.lt_of_le_of_lt Nat.and_le_left (by omega) | exact Nat.or_lt_two_pow (n := 16) (by omega) (by omega)) (fun h2 => ?_) (fun h2 => ?_)
    · refine sg_aload_n (pc := 32) (v := .ref x) hC dX7_path_32 rfl rfl ?_
      refine sg_iload_n (pc := 33) (x := nI p) hC dX7_path_33 rfl ?_
      refine sg_iload_n (pc := 34) (x := nI c) hC dX7_path_34 rfl ?_
      refine sg_iconst (pc := 35) (nI 4) hC dX7_path_35 (by decide) ?_
      refine sg_callV (pc := 36) (As := [.int (nI p), .int (nI c), .int (nI 4)]) (rest := []) (mc := 0) (ms := 0) hC tw_1297 tw_1299 tw_39 tw_72 tw_1300 yd_X7_labelled (by decide) (ci := 10) rfl dX7_path_36 hI.x rfl (Nat.le_of_ble_eq_true rfl) (Nat.zero_le _) (Nat.zero_le _) ?_
      refine mm_labelled htr hI p c 4 (by first | omega | exact Nat.lt_of_le_of_lt Nat.and_le_left (by omega) | exact Nat.or_lt_two_pow (n := 16) (by omega) (by omega)) (by first | omega | exact Nat.lt_of_le_of_lt Nat.and_le_left (by omega) | exact Nat.or_lt_two_pow (n := 16) (by omega) (by omega)) (by first | omega | exact Nat.lt_of_le_of_lt Nat.and_le_left (by omega) | exact Nat.or_lt_two_pow (n := 16) (by omega) (by omega)) (fun M hI => ?_)
      show sg_W X M 0 0 39 [some (.ref x), some (.int (nI p)), some (.int (nI c))] [.int (md_o ((md_labelled N p c 4).1))]
      have e9 : md_path N p c = ((md_labelled N p c 4).1, (md_labelled N p c 4).2) := by rw [md_path]; simp only [if_neg h1, if_neg h2]
      rw [e9] at hk
      exact sg_ireturn (st := []) (v := md_o ((md_labelled N p c 4).1)) (pc := 39) hC hR dX7_path_39 (hk M hI)
    · refine sg_aload_n (pc := 22) (v := .ref x) hC dX7_path_22 rfl rfl ?_
      refine sg_iload_n (pc := 23) (x := nI p) hC dX7_path_23 rfl ?_
      refine sg_iconst (pc := 24) (nI 2) hC dX7_path_24 (by decide) ?_
      refine sg_iconst (pc := 25) (nI 5) hC dX7_path_25 (by decide) ?_
      refine sg_callV (pc := 26) (As := [.int (nI p), .int (nI 2), .int (nI 5)]) (rest := []) (mc := 0) (ms := 0) hC tw_1293 tw_1295 tw_38 tw_72 tw_1296 yd_X7_starred (by decide) (ci := 10) rfl dX7_path_26 hI.x rfl (Nat.le_of_ble_eq_true rfl) (Nat.zero_le _) (Nat.zero_le _) ?_
      refine mm_starred htr hI p 2 5 (by first | omega | exact Nat.lt_of_le_of_lt Nat.and_le_left (by omega) | exact Nat.or_lt_two_pow (n := 16) (by omega) (by omega)) (by first | omega | exact Nat.lt_of_le_of_lt Nat.and_le_left (by omega) | exact Nat.or_lt_two_pow (n := 16) (by omega) (by omega)) (fun M hI => ?_)
      show sg_W X M 0 0 29 [some (.ref x), some (.int (nI p)), some (.int (nI c))] [.int (nI ((md_starred N p 2 5).1))]
      refine sg_goto (pc := 29) 39 hC dX7_path_29 (by decide) ?_
      have e9 : md_path N p c = (some ((md_starred N p 2 5).1), (md_starred N p 2 5).2) := by rw [md_path]; simp only [if_neg h1, if_pos h2]
      rw [e9] at hk
      exact sg_ireturn (st := []) (v := md_o (some ((md_starred N p 2 5).1))) (pc := 39) hC hR dX7_path_39 (hk M hI)
  · refine sg_aload_n (pc := 6) (v := .ref x) hC dX7_path_6 rfl rfl ?_
    refine sg_iload_n (pc := 7) (x := nI p) hC dX7_path_7 rfl ?_
    refine sg_iconst (pc := 8) (nI 1) hC dX7_path_8 (by decide) ?_
    refine sg_iconst (pc := 9) (nI 5) hC dX7_path_9 (by decide) ?_
    refine sg_callV (pc := 10) (As := [.int (nI p), .int (nI 1), .int (nI 5)]) (rest := []) (mc := 0) (ms := 0) hC tw_1293 tw_1295 tw_38 tw_72 tw_1296 yd_X7_starred (by decide) (ci := 10) rfl dX7_path_10 hI.x rfl (Nat.le_of_ble_eq_true rfl) (Nat.zero_le _) (Nat.zero_le _) ?_
    refine mm_starred htr hI p 1 5 (by first | omega | exact Nat.lt_of_le_of_lt Nat.and_le_left (by omega) | exact Nat.or_lt_two_pow (n := 16) (by omega) (by omega)) (by first | omega | exact Nat.lt_of_le_of_lt Nat.and_le_left (by omega) | exact Nat.or_lt_two_pow (n := 16) (by omega) (by omega)) (fun M hI => ?_)
    show sg_W X M 0 0 13 [some (.ref x), some (.int (nI p)), some (.int (nI c))] [.int (nI ((md_starred N p 1 5).1))]
    refine sg_goto (pc := 13) 39 hC dX7_path_13 (by decide) ?_
    have e9 : md_path N p c = (some ((md_starred N p 1 5).1), (md_starred N p 1 5).2) := by rw [md_path]; simp only [if_pos h1]
    rw [e9] at hk
    exact sg_ireturn (st := []) (v := md_o (some ((md_starred N p 1 5).1))) (pc := 39) hC hR dX7_path_39 (hk M hI)

def md_host (N : Nat → Nat → Nat) (p : Nat) (c : Nat) : Option Nat × (Nat → Nat → Nat) := if c = 42 then (some ((md_starred N p 1 11).1), (md_starred N p 1 11).2) else ((md_labelled N p c 13).1, (md_labelled N p c 13).2)
set_option maxHeartbeats 4000000 in
set_option maxRecDepth 100000 in
theorem mm_host {l : Launch} {G : sg_G} {d : Nat} {M0 M : sg_M} {x : Nat} {ad : Nat → Nat} {N : Nat → Nat → Nat} {kr : Option Value → sg_M → Prop} {kx : String → sg_M → Prop} (htr : l.stackTraces = false) (hI : md_I M0 M x ad N) (p : Nat) (c : Nat) (hp : p < 86) (hc : c < 65536) (hl : N 4 p < 3) (hk : ∀ M', md_I M0 M' x ad (md_host N p c).2 → kr (some (.int (md_o (md_host N p c).1))) M') : sg_Met l G yX7_host cX7_host 3 (some .int) (d + 2) 0 0 [.ref x, .int (nI p), .int (nI c)] M kr kx := by
  refine sg_enter [some (.ref x), some (.int (nI p)), some (.int (nI c))] (by decide) htr (Nat.le_of_ble_eq_true rfl) rfl ?_
  intro X hC hR
  have hC : sg_C X l G cX7_host RX7 3 (d + 2) := hC
  refine sg_iload_n (pc := 0) (x := nI c) hC dX7_host_0 rfl ?_
  refine sg_bipush (pc := 1) (nI 42) hC dX7_host_1 (by decide) ?_
  refine sg_icmpN_ne (pc := 3) (a := c) (b := 42) 17 hC dX7_host_3 (by decide) (by first | omega | exact Nat.lt_of_le_of_lt Nat.and_le_left (by omega) | exact Nat.or_lt_two_pow (n := 16) (by omega) (by omega)) (by first | omega | exact Nat.lt_of_le_of_lt Nat.and_le_left (by omega) | exact Nat.or_lt_two_pow (n := 16) (by omega) (by omega)) (fun h1 => ?_) (fun h1 => ?_)
  · refine sg_aload_n (pc := 17) (v := .ref x) hC dX7_host_17 rfl rfl ?_
    refine sg_iload_n (pc := 18) (x := nI p) hC dX7_host_18 rfl ?_
    refine sg_iload_n (pc := 19) (x := nI c) hC dX7_host_19 rfl ?_
    refine sg_bipush (pc := 20) (nI 13) hC dX7_host_20 (by decide) ?_
    refine sg_callV (pc := 22) (As := [.int (nI p), .int (nI c), .int (nI 13)]) (rest := []) (mc := 0) (ms := 0) hC tw_1297 tw_1299 tw_39 tw_72 tw_1300 yd_X7_labelled (by decide) (ci := 10) rfl dX7_host_22 hI.x rfl (Nat.le_of_ble_eq_true rfl) (Nat.zero_le _) (Nat.zero_le _) ?_
    refine mm_labelled htr hI p c 13 (by first | omega | exact Nat.lt_of_le_of_lt Nat.and_le_left (by omega) | exact Nat.or_lt_two_pow (n := 16) (by omega) (by omega)) (by first | omega | exact Nat.lt_of_le_of_lt Nat.and_le_left (by omega) | exact Nat.or_lt_two_pow (n := 16) (by omega) (by omega)) (by first | omega | exact Nat.lt_of_le_of_lt Nat.and_le_left (by omega) | exact Nat.or_lt_two_pow (n := 16) (by omega) (by omega)) (fun M hI => ?_)
    show sg_W X M 0 0 25 [some (.ref x), some (.int (nI p)), some (.int (nI c))] [.int (md_o ((md_labelled N p c 13).1))]
    have e9 : md_host N p c = ((md_labelled N p c 13).1, (md_labelled N p c 13).2) := by rw [md_host]; simp only [if_neg h1]
    rw [e9] at hk
    exact sg_ireturn (st := []) (v := md_o ((md_labelled N p c 13).1)) (pc := 25) hC hR dX7_host_25 (hk M hI)
  · refine sg_aload_n (pc := 6) (v := .ref x) hC dX7_host_6 rfl rfl ?_
    refine sg_iload_n (pc := 7) (x := nI p) hC dX7_host_7 rfl ?_
    refine sg_iconst (pc := 8) (nI 1) hC dX7_host_8 (by decide) ?_
    refine sg_bipush (pc := 9) (nI 11) hC dX7_host_9 (by decide) ?_
    refine sg_callV (pc := 11) (As := [.int (nI p), .int (nI 1), .int (nI 11)]) (rest := []) (mc := 0) (ms := 0) hC tw_1293 tw_1295 tw_38 tw_72 tw_1296 yd_X7_starred (by decide) (ci := 10) rfl dX7_host_11 hI.x rfl (Nat.le_of_ble_eq_true rfl) (Nat.zero_le _) (Nat.zero_le _) ?_
    refine mm_starred htr hI p 1 11 (by first | omega | exact Nat.lt_of_le_of_lt Nat.and_le_left (by omega) | exact Nat.or_lt_two_pow (n := 16) (by omega) (by omega)) (by first | omega | exact Nat.lt_of_le_of_lt Nat.and_le_left (by omega) | exact Nat.or_lt_two_pow (n := 16) (by omega) (by omega)) (fun M hI => ?_)
    show sg_W X M 0 0 14 [some (.ref x), some (.int (nI p)), some (.int (nI c))] [.int (nI ((md_starred N p 1 11).1))]
    refine sg_goto (pc := 14) 25 hC dX7_host_14 (by decide) ?_
    have e9 : md_host N p c = (some ((md_starred N p 1 11).1), (md_starred N p 1 11).2) := by rw [md_host]; simp only [if_pos h1]
    rw [e9] at hk
    exact sg_ireturn (st := []) (v := md_o (some ((md_starred N p 1 11).1))) (pc := 25) hC hR dX7_host_25 (hk M hI)

def md_begin (N : Nat → Nat → Nat) (p : Nat) (c : Nat) : Option Nat × (Nat → Nat → Nat) := if c = 42 then (some 1, (md_set N 3 p 1)) else if c = 102 then (some 2, (md_set N 3 p 2)) else if c = 104 then (some 10, (md_set N 3 p 3)) else if c = 110 then (some 20, (md_set N 3 p 4)) else (none, (md_set N 3 p 0))
set_option maxHeartbeats 4000000 in
set_option maxRecDepth 100000 in
theorem mm_begin {l : Launch} {G : sg_G} {d : Nat} {M0 M : sg_M} {x : Nat} {ad : Nat → Nat} {N : Nat → Nat → Nat} {kr : Option Value → sg_M → Prop} {kx : String → sg_M → Prop} (htr : l.stackTraces = false) (hI : md_I M0 M x ad N) (p : Nat) (c : Nat) (hp : p < 86) (hc : c < 65536) (hk : ∀ M', md_I M0 M' x ad (md_begin N p c).2 → kr (some (.int (md_o (md_begin N p c).1))) M') : sg_Met l G yX7_begin cX7_begin 3 (some .int) (d + 0) 0 0 [.ref x, .int (nI p), .int (nI c)] M kr kx := by
  refine sg_enter [some (.ref x), some (.int (nI p)), some (.int (nI c))] (by decide) htr (Nat.le_of_ble_eq_true rfl) rfl ?_
  intro X hC hR
  have hC : sg_C X l G cX7_begin RX7 3 (d + 0) := hC
  refine sg_aload_n (pc := 0) (v := .ref x) hC dX7_begin_0 rfl rfl ?_
  refine md_get (pc := 1) (i := 3) hC (by decide) tw_1189 dX7_begin_1 hI rfl ?_
  refine sg_iload_n (pc := 4) (x := nI p) hC dX7_begin_4 rfl ?_
  refine sg_iload_n (pc := 5) (x := nI c) hC dX7_begin_5 rfl ?_
  refine sg_bipush (pc := 6) (nI 42) hC dX7_begin_6 (by decide) ?_
  refine sg_icmpN_ne (pc := 8) (a := c) (b := 42) 15 hC dX7_begin_8 (by decide) (by first | omega | exact Nat.lt_of_le_of_lt Nat.and_le_left (by omega) | exact Nat.or_lt_two_pow (n := 16) (by omega) (by omega)) (by first | omega | exact Nat.lt_of_le_of_lt Nat.and_le_left (by omega) | exact Nat.or_lt_two_pow (n := 16) (by omega) (by omega)) (fun h1 => ?_) (fun h1 => ?_)
  · refine sg_iload_n (pc := 15) (x := nI c) hC dX7_begin_15 rfl ?_
    refine sg_bipush (pc := 16) (nI 102) hC dX7_begin_16 (by decide) ?_
    refine sg_icmpN_ne (pc := 18) (a := c) (b := 102) 25 hC dX7_begin_18 (by decide) (by first | omega | exact Nat.lt_of_le_of_lt Nat.and_le_left (by omega) | exact Nat.or_lt_two_pow (n := 16) (by omega) (by omega)) (by first | omega | exact Nat.lt_of_le_of_lt Nat.and_le_left (by omega) | exact Nat.or_lt_two_pow (n := 16) (by omega) (by omega)) (fun h2 => ?_) (fun h2 => ?_)
    · refine sg_iload_n (pc := 25) (x := nI c) hC dX7_begin_25 rfl ?_
      refine sg_bipush (pc := 26) (nI 104) hC dX7_begin_26 (by decide) ?_
      refine sg_icmpN_ne (pc := 28) (a := c) (b := 104) 35 hC dX7_begin_28 (by decide) (by first | omega | exact Nat.lt_of_le_of_lt Nat.and_le_left (by omega) | exact Nat.or_lt_two_pow (n := 16) (by omega) (by omega)) (by first | omega | exact Nat.lt_of_le_of_lt Nat.and_le_left (by omega) | exact Nat.or_lt_two_pow (n := 16) (by omega) (by omega)) (fun h3 => ?_) (fun h3 => ?_)
      · refine sg_iload_n (pc := 35) (x := nI c) hC dX7_begin_35 rfl ?_
        refine sg_bipush (pc := 36) (nI 110) hC dX7_begin_36 (by decide) ?_
        refine sg_icmpN_ne (pc := 38) (a := c) (b := 110) 45 hC dX7_begin_38 (by decide) (by first | omega | exact Nat.lt_of_le_of_lt Nat.and_le_left (by omega) | exact Nat.or_lt_two_pow (n := 16) (by omega) (by omega)) (by first | omega | exact Nat.lt_of_le_of_lt Nat.and_le_left (by omega) | exact Nat.or_lt_two_pow (n := 16) (by omega) (by omega)) (fun h4 => ?_) (fun h4 => ?_)
        · refine sg_iconst (pc := 45) (nI 0) hC dX7_begin_45 (by decide) ?_
          refine md_iast (pc := 46) (i := 3) (j := p) (v := 0) hC dX7_begin_46 hI rfl (by first | omega | exact Nat.lt_of_le_of_lt Nat.and_le_left (by omega) | exact Nat.or_lt_two_pow (n := 16) (by omega) (by omega)) (by decide) (by first | omega | exact Nat.lt_of_le_of_lt Nat.and_le_left (by omega) | exact Nat.or_lt_two_pow (n := 16) (by omega) (by omega)) (fun M hI => ?_)
          refine sg_iload_n (pc := 47) (x := nI c) hC dX7_begin_47 rfl ?_
          refine sg_bipush (pc := 48) (nI 42) hC dX7_begin_48 (by decide) ?_
          refine sg_icmpN_ne (pc := 50) (a := c) (b := 42) 57 hC dX7_begin_50 (by decide) (by first | omega | exact Nat.lt_of_le_of_lt Nat.and_le_left (by omega) | exact Nat.or_lt_two_pow (n := 16) (by omega) (by omega)) (by first | omega | exact Nat.lt_of_le_of_lt Nat.and_le_left (by omega) | exact Nat.or_lt_two_pow (n := 16) (by omega) (by omega)) (fun _ => ?_) (fun h5 => by exfalso; omega)
          refine sg_iload_n (pc := 57) (x := nI c) hC dX7_begin_57 rfl ?_
          refine sg_bipush (pc := 58) (nI 102) hC dX7_begin_58 (by decide) ?_
          refine sg_icmpN_ne (pc := 60) (a := c) (b := 102) 67 hC dX7_begin_60 (by decide) (by first | omega | exact Nat.lt_of_le_of_lt Nat.and_le_left (by omega) | exact Nat.or_lt_two_pow (n := 16) (by omega) (by omega)) (by first | omega | exact Nat.lt_of_le_of_lt Nat.and_le_left (by omega) | exact Nat.or_lt_two_pow (n := 16) (by omega) (by omega)) (fun _ => ?_) (fun h6 => by exfalso; omega)
          refine sg_iload_n (pc := 67) (x := nI c) hC dX7_begin_67 rfl ?_
          refine sg_bipush (pc := 68) (nI 104) hC dX7_begin_68 (by decide) ?_
          refine sg_icmpN_ne (pc := 70) (a := c) (b := 104) 78 hC dX7_begin_70 (by decide) (by first | omega | exact Nat.lt_of_le_of_lt Nat.and_le_left (by omega) | exact Nat.or_lt_two_pow (n := 16) (by omega) (by omega)) (by first | omega | exact Nat.lt_of_le_of_lt Nat.and_le_left (by omega) | exact Nat.or_lt_two_pow (n := 16) (by omega) (by omega)) (fun _ => ?_) (fun h7 => by exfalso; omega)
          refine sg_iload_n (pc := 78) (x := nI c) hC dX7_begin_78 rfl ?_
          refine sg_bipush (pc := 79) (nI 110) hC dX7_begin_79 (by decide) ?_
          refine sg_icmpN_ne (pc := 81) (a := c) (b := 110) 89 hC dX7_begin_81 (by decide) (by first | omega | exact Nat.lt_of_le_of_lt Nat.and_le_left (by omega) | exact Nat.or_lt_two_pow (n := 16) (by omega) (by omega)) (by first | omega | exact Nat.lt_of_le_of_lt Nat.and_le_left (by omega) | exact Nat.or_lt_two_pow (n := 16) (by omega) (by omega)) (fun _ => ?_) (fun h8 => by exfalso; omega)
          refine sg_iconst (pc := 89) (((-1))) hC dX7_begin_89 (by decide) ?_
          have e9 : md_begin N p c = (none, (md_set N 3 p 0)) := by rw [md_begin]; simp only [if_neg h1, if_neg h2, if_neg h3, if_neg h4]
          rw [e9] at hk
          exact sg_ireturn (st := []) (v := md_o none) (pc := 90) hC hR dX7_begin_90 (hk M hI)
        · refine sg_iconst (pc := 41) (nI 4) hC dX7_begin_41 (by decide) ?_
          refine sg_goto (pc := 42) 46 hC dX7_begin_42 (by decide) ?_
          refine md_iast (pc := 46) (i := 3) (j := p) (v := 4) hC dX7_begin_46 hI rfl (by first | omega | exact Nat.lt_of_le_of_lt Nat.and_le_left (by omega) | exact Nat.or_lt_two_pow (n := 16) (by omega) (by omega)) (by decide) (by first | omega | exact Nat.lt_of_le_of_lt Nat.and_le_left (by omega) | exact Nat.or_lt_two_pow (n := 16) (by omega) (by omega)) (fun M hI => ?_)
          refine sg_iload_n (pc := 47) (x := nI c) hC dX7_begin_47 rfl ?_
          refine sg_bipush (pc := 48) (nI 42) hC dX7_begin_48 (by decide) ?_
          refine sg_icmpN_ne (pc := 50) (a := c) (b := 42) 57 hC dX7_begin_50 (by decide) (by first | omega | exact Nat.lt_of_le_of_lt Nat.and_le_left (by omega) | exact Nat.or_lt_two_pow (n := 16) (by omega) (by omega)) (by first | omega | exact Nat.lt_of_le_of_lt Nat.and_le_left (by omega) | exact Nat.or_lt_two_pow (n := 16) (by omega) (by omega)) (fun _ => ?_) (fun h9 => by exfalso; omega)
          refine sg_iload_n (pc := 57) (x := nI c) hC dX7_begin_57 rfl ?_
          refine sg_bipush (pc := 58) (nI 102) hC dX7_begin_58 (by decide) ?_
          refine sg_icmpN_ne (pc := 60) (a := c) (b := 102) 67 hC dX7_begin_60 (by decide) (by first | omega | exact Nat.lt_of_le_of_lt Nat.and_le_left (by omega) | exact Nat.or_lt_two_pow (n := 16) (by omega) (by omega)) (by first | omega | exact Nat.lt_of_le_of_lt Nat.and_le_left (by omega) | exact Nat.or_lt_two_pow (n := 16) (by omega) (by omega)) (fun _ => ?_) (fun h10 => by exfalso; omega)
          refine sg_iload_n (pc := 67) (x := nI c) hC dX7_begin_67 rfl ?_
          refine sg_bipush (pc := 68) (nI 104) hC dX7_begin_68 (by decide) ?_
          refine sg_icmpN_ne (pc := 70) (a := c) (b := 104) 78 hC dX7_begin_70 (by decide) (by first | omega | exact Nat.lt_of_le_of_lt Nat.and_le_left (by omega) | exact Nat.or_lt_two_pow (n := 16) (by omega) (by omega)) (by first | omega | exact Nat.lt_of_le_of_lt Nat.and_le_left (by omega) | exact Nat.or_lt_two_pow (n := 16) (by omega) (by omega)) (fun _ => ?_) (fun h11 => by exfalso; omega)
          refine sg_iload_n (pc := 78) (x := nI c) hC dX7_begin_78 rfl ?_
          refine sg_bipush (pc := 79) (nI 110) hC dX7_begin_79 (by decide) ?_
          refine sg_icmpN_ne (pc := 81) (a := c) (b := 110) 89 hC dX7_begin_81 (by decide) (by first | omega | exact Nat.lt_of_le_of_lt Nat.and_le_left (by omega) | exact Nat.or_lt_two_pow (n := 16) (by omega) (by omega)) (by first | omega | exact Nat.lt_of_le_of_lt Nat.and_le_left (by omega) | exact Nat.or_lt_two_pow (n := 16) (by omega) (by omega)) (fun h12 => by exfalso; omega) (fun _ => ?_)
          refine sg_bipush (pc := 84) (nI 20) hC dX7_begin_84 (by decide) ?_
          refine sg_goto (pc := 86) 90 hC dX7_begin_86 (by decide) ?_
          have e9 : md_begin N p c = (some 20, (md_set N 3 p 4)) := by rw [md_begin]; simp only [if_neg h1, if_neg h2, if_neg h3, if_pos h4]
          rw [e9] at hk
          exact sg_ireturn (st := []) (v := md_o (some 20)) (pc := 90) hC hR dX7_begin_90 (hk M hI)
      · refine sg_iconst (pc := 31) (nI 3) hC dX7_begin_31 (by decide) ?_
        refine sg_goto (pc := 32) 46 hC dX7_begin_32 (by decide) ?_
        refine md_iast (pc := 46) (i := 3) (j := p) (v := 3) hC dX7_begin_46 hI rfl (by first | omega | exact Nat.lt_of_le_of_lt Nat.and_le_left (by omega) | exact Nat.or_lt_two_pow (n := 16) (by omega) (by omega)) (by decide) (by first | omega | exact Nat.lt_of_le_of_lt Nat.and_le_left (by omega) | exact Nat.or_lt_two_pow (n := 16) (by omega) (by omega)) (fun M hI => ?_)
        refine sg_iload_n (pc := 47) (x := nI c) hC dX7_begin_47 rfl ?_
        refine sg_bipush (pc := 48) (nI 42) hC dX7_begin_48 (by decide) ?_
        refine sg_icmpN_ne (pc := 50) (a := c) (b := 42) 57 hC dX7_begin_50 (by decide) (by first | omega | exact Nat.lt_of_le_of_lt Nat.and_le_left (by omega) | exact Nat.or_lt_two_pow (n := 16) (by omega) (by omega)) (by first | omega | exact Nat.lt_of_le_of_lt Nat.and_le_left (by omega) | exact Nat.or_lt_two_pow (n := 16) (by omega) (by omega)) (fun _ => ?_) (fun h13 => by exfalso; omega)
        refine sg_iload_n (pc := 57) (x := nI c) hC dX7_begin_57 rfl ?_
        refine sg_bipush (pc := 58) (nI 102) hC dX7_begin_58 (by decide) ?_
        refine sg_icmpN_ne (pc := 60) (a := c) (b := 102) 67 hC dX7_begin_60 (by decide) (by first | omega | exact Nat.lt_of_le_of_lt Nat.and_le_left (by omega) | exact Nat.or_lt_two_pow (n := 16) (by omega) (by omega)) (by first | omega | exact Nat.lt_of_le_of_lt Nat.and_le_left (by omega) | exact Nat.or_lt_two_pow (n := 16) (by omega) (by omega)) (fun _ => ?_) (fun h14 => by exfalso; omega)
        refine sg_iload_n (pc := 67) (x := nI c) hC dX7_begin_67 rfl ?_
        refine sg_bipush (pc := 68) (nI 104) hC dX7_begin_68 (by decide) ?_
        refine sg_icmpN_ne (pc := 70) (a := c) (b := 104) 78 hC dX7_begin_70 (by decide) (by first | omega | exact Nat.lt_of_le_of_lt Nat.and_le_left (by omega) | exact Nat.or_lt_two_pow (n := 16) (by omega) (by omega)) (by first | omega | exact Nat.lt_of_le_of_lt Nat.and_le_left (by omega) | exact Nat.or_lt_two_pow (n := 16) (by omega) (by omega)) (fun h15 => by exfalso; omega) (fun _ => ?_)
        refine sg_bipush (pc := 73) (nI 10) hC dX7_begin_73 (by decide) ?_
        refine sg_goto (pc := 75) 90 hC dX7_begin_75 (by decide) ?_
        have e9 : md_begin N p c = (some 10, (md_set N 3 p 3)) := by rw [md_begin]; simp only [if_neg h1, if_neg h2, if_pos h3]
        rw [e9] at hk
        exact sg_ireturn (st := []) (v := md_o (some 10)) (pc := 90) hC hR dX7_begin_90 (hk M hI)
    · refine sg_iconst (pc := 21) (nI 2) hC dX7_begin_21 (by decide) ?_
      refine sg_goto (pc := 22) 46 hC dX7_begin_22 (by decide) ?_
      refine md_iast (pc := 46) (i := 3) (j := p) (v := 2) hC dX7_begin_46 hI rfl (by first | omega | exact Nat.lt_of_le_of_lt Nat.and_le_left (by omega) | exact Nat.or_lt_two_pow (n := 16) (by omega) (by omega)) (by decide) (by first | omega | exact Nat.lt_of_le_of_lt Nat.and_le_left (by omega) | exact Nat.or_lt_two_pow (n := 16) (by omega) (by omega)) (fun M hI => ?_)
      refine sg_iload_n (pc := 47) (x := nI c) hC dX7_begin_47 rfl ?_
      refine sg_bipush (pc := 48) (nI 42) hC dX7_begin_48 (by decide) ?_
      refine sg_icmpN_ne (pc := 50) (a := c) (b := 42) 57 hC dX7_begin_50 (by decide) (by first | omega | exact Nat.lt_of_le_of_lt Nat.and_le_left (by omega) | exact Nat.or_lt_two_pow (n := 16) (by omega) (by omega)) (by first | omega | exact Nat.lt_of_le_of_lt Nat.and_le_left (by omega) | exact Nat.or_lt_two_pow (n := 16) (by omega) (by omega)) (fun _ => ?_) (fun h16 => by exfalso; omega)
      refine sg_iload_n (pc := 57) (x := nI c) hC dX7_begin_57 rfl ?_
      refine sg_bipush (pc := 58) (nI 102) hC dX7_begin_58 (by decide) ?_
      refine sg_icmpN_ne (pc := 60) (a := c) (b := 102) 67 hC dX7_begin_60 (by decide) (by first | omega | exact Nat.lt_of_le_of_lt Nat.and_le_left (by omega) | exact Nat.or_lt_two_pow (n := 16) (by omega) (by omega)) (by first | omega | exact Nat.lt_of_le_of_lt Nat.and_le_left (by omega) | exact Nat.or_lt_two_pow (n := 16) (by omega) (by omega)) (fun h17 => by exfalso; omega) (fun _ => ?_)
      refine sg_iconst (pc := 63) (nI 2) hC dX7_begin_63 (by decide) ?_
      refine sg_goto (pc := 64) 90 hC dX7_begin_64 (by decide) ?_
      have e9 : md_begin N p c = (some 2, (md_set N 3 p 2)) := by rw [md_begin]; simp only [if_neg h1, if_pos h2]
      rw [e9] at hk
      exact sg_ireturn (st := []) (v := md_o (some 2)) (pc := 90) hC hR dX7_begin_90 (hk M hI)
  · refine sg_iconst (pc := 11) (nI 1) hC dX7_begin_11 (by decide) ?_
    refine sg_goto (pc := 12) 46 hC dX7_begin_12 (by decide) ?_
    refine md_iast (pc := 46) (i := 3) (j := p) (v := 1) hC dX7_begin_46 hI rfl (by first | omega | exact Nat.lt_of_le_of_lt Nat.and_le_left (by omega) | exact Nat.or_lt_two_pow (n := 16) (by omega) (by omega)) (by decide) (by first | omega | exact Nat.lt_of_le_of_lt Nat.and_le_left (by omega) | exact Nat.or_lt_two_pow (n := 16) (by omega) (by omega)) (fun M hI => ?_)
    refine sg_iload_n (pc := 47) (x := nI c) hC dX7_begin_47 rfl ?_
    refine sg_bipush (pc := 48) (nI 42) hC dX7_begin_48 (by decide) ?_
    refine sg_icmpN_ne (pc := 50) (a := c) (b := 42) 57 hC dX7_begin_50 (by decide) (by first | omega | exact Nat.lt_of_le_of_lt Nat.and_le_left (by omega) | exact Nat.or_lt_two_pow (n := 16) (by omega) (by omega)) (by first | omega | exact Nat.lt_of_le_of_lt Nat.and_le_left (by omega) | exact Nat.or_lt_two_pow (n := 16) (by omega) (by omega)) (fun h18 => by exfalso; omega) (fun _ => ?_)
    refine sg_iconst (pc := 53) (nI 1) hC dX7_begin_53 (by decide) ?_
    refine sg_goto (pc := 54) 90 hC dX7_begin_54 (by decide) ?_
    have e9 : md_begin N p c = (some 1, (md_set N 3 p 1)) := by rw [md_begin]; simp only [if_pos h1]
    rw [e9] at hk
    exact sg_ireturn (st := []) (v := md_o (some 1)) (pc := 90) hC hR dX7_begin_90 (hk M hI)

def md_letter (N : Nat → Nat → Nat) (p : Nat) (c : Nat) : Option Nat × (Nat → Nat → Nat) := if (md_letterOf c) = 0 then (none, N) else if (N 7 p) &&& ((md_letterOf c)) = 0 then (some 6, (md_set N 7 p ((N 7 p) ||| ((md_letterOf c))))) else (none, N)
set_option maxHeartbeats 4000000 in
set_option maxRecDepth 100000 in
theorem mm_letter {l : Launch} {G : sg_G} {d : Nat} {M0 M : sg_M} {x : Nat} {ad : Nat → Nat} {N : Nat → Nat → Nat} {kr : Option Value → sg_M → Prop} {kx : String → sg_M → Prop} (htr : l.stackTraces = false) (hI : md_I M0 M x ad N) (p : Nat) (c : Nat) (hp : p < 86) (hc : c < 65536) (hk : ∀ M', md_I M0 M' x ad (md_letter N p c).2 → kr (some (.int (md_o (md_letter N p c).1))) M') : sg_Met l G yX7_letter cX7_letter 4 (some .int) (d + 1) 0 0 [.ref x, .int (nI p), .int (nI c)] M kr kx := by
  refine sg_enter [some (.ref x), some (.int (nI p)), some (.int (nI c)), none] (by decide) htr (Nat.le_of_ble_eq_true rfl) rfl ?_
  intro X hC hR
  have hC : sg_C X l G cX7_letter RX7 4 (d + 1) := hC
  have hbit := md_lof c
  refine sg_iload_n (pc := 0) (x := nI c) hC dX7_letter_0 rfl ?_
  refine sg_callS (pc := 1) (As := [.int (nI c)]) (rest := []) (mc := 0) (ms := 0) hC tw_1312 tw_1313 tw_72 tw_1314 yd_X7_letterOf (by decide) dX7_letter_1 rfl (Nat.le_of_ble_eq_true rfl) (Nat.zero_le _) (Nat.zero_le _) ?_
  refine mm_letterOf htr  c (by first | omega | exact Nat.lt_of_le_of_lt Nat.and_le_left (by omega) | exact Nat.or_lt_two_pow (n := 16) (by omega) (by omega)) ?_
  show sg_W X M 0 0 4 [some (.ref x), some (.int (nI p)), some (.int (nI c)), none] [.int (nI ((md_letterOf c)))]
  refine sg_istore_n (pc := 4) (x := nI ((md_letterOf c))) hC dX7_letter_4 (by decide) ?_
  show sg_W X M 0 0 5 [some (.ref x), some (.int (nI p)), some (.int (nI c)), some (.int (nI ((md_letterOf c))))] []
  refine sg_iload_n (pc := 5) (x := nI ((md_letterOf c))) hC dX7_letter_5 rfl ?_
  refine sg_ifN_eq (pc := 6) (a := (md_letterOf c)) 20 hC dX7_letter_6 (by decide) (by first | omega | exact Nat.lt_of_le_of_lt Nat.and_le_left (by omega) | exact Nat.or_lt_two_pow (n := 16) (by omega) (by omega)) (fun h1 => ?_) (fun h1 => ?_)
  · refine sg_iconst (pc := 20) (((-1))) hC dX7_letter_20 (by decide) ?_
    have e9 : md_letter N p c = (none, N) := by rw [md_letter]; simp only [if_pos h1]
    rw [e9] at hk
    exact sg_ireturn (st := []) (v := md_o none) (pc := 21) hC hR dX7_letter_21 (hk M hI)
  · refine sg_aload_n (pc := 9) (v := .ref x) hC dX7_letter_9 rfl rfl ?_
    refine md_get (pc := 10) (i := 7) hC (by decide) tw_1193 dX7_letter_10 hI rfl ?_
    refine sg_iload_n (pc := 13) (x := nI p) hC dX7_letter_13 rfl ?_
    refine md_iald (pc := 14) (i := 7) (j := p) hC dX7_letter_14 hI rfl (by first | omega | exact Nat.lt_of_le_of_lt Nat.and_le_left (by omega) | exact Nat.or_lt_two_pow (n := 16) (by omega) (by omega)) (by decide) (fun hv2 => ?_)
    show sg_W X M 0 0 15 [some (.ref x), some (.int (nI p)), some (.int (nI c)), some (.int (nI ((md_letterOf c))))] [.int (nI (N 7 p))]
    refine sg_iload_n (pc := 15) (x := nI ((md_letterOf c))) hC dX7_letter_15 rfl ?_
    refine sg_iandN (pc := 16) (a := N 7 p) (b := (md_letterOf c)) hC dX7_letter_16 ?_
    refine sg_ifN_eq (pc := 17) (a := (N 7 p) &&& ((md_letterOf c))) 22 hC dX7_letter_17 (by decide) (by first | omega | exact Nat.lt_of_le_of_lt Nat.and_le_left (by omega) | exact Nat.or_lt_two_pow (n := 16) (by omega) (by omega)) (fun h3 => ?_) (fun h3 => ?_)
    · refine sg_aload_n (pc := 22) (v := .ref x) hC dX7_letter_22 rfl rfl ?_
      refine md_get (pc := 23) (i := 7) hC (by decide) tw_1193 dX7_letter_23 hI rfl ?_
      refine sg_iload_n (pc := 26) (x := nI p) hC dX7_letter_26 rfl ?_
      refine sg_aload_n (pc := 27) (v := .ref x) hC dX7_letter_27 rfl rfl ?_
      refine md_get (pc := 28) (i := 7) hC (by decide) tw_1193 dX7_letter_28 hI rfl ?_
      refine sg_iload_n (pc := 31) (x := nI p) hC dX7_letter_31 rfl ?_
      refine md_iald (pc := 32) (i := 7) (j := p) hC dX7_letter_32 hI rfl (by first | omega | exact Nat.lt_of_le_of_lt Nat.and_le_left (by omega) | exact Nat.or_lt_two_pow (n := 16) (by omega) (by omega)) (by decide) (fun hv4 => ?_)
      show sg_W X M 0 0 33 [some (.ref x), some (.int (nI p)), some (.int (nI c)), some (.int (nI ((md_letterOf c))))] [.int (nI (N 7 p)), .int (nI p), .ref (ad 7)]
      refine sg_iload_n (pc := 33) (x := nI ((md_letterOf c))) hC dX7_letter_33 rfl ?_
      refine sg_iorN (pc := 34) (a := N 7 p) (b := (md_letterOf c)) hC dX7_letter_34 ?_
      refine md_iast (pc := 35) (i := 7) (j := p) (v := (N 7 p) ||| ((md_letterOf c))) hC dX7_letter_35 hI rfl (by first | omega | exact Nat.lt_of_le_of_lt Nat.and_le_left (by omega) | exact Nat.or_lt_two_pow (n := 16) (by omega) (by omega)) (by decide) (by first | omega | exact Nat.lt_of_le_of_lt Nat.and_le_left (by omega) | exact Nat.or_lt_two_pow (n := 16) (by omega) (by omega)) (fun M hI => ?_)
      refine sg_bipush (pc := 36) (nI 6) hC dX7_letter_36 (by decide) ?_
      have e9 : md_letter N p c = (some 6, (md_set N 7 p ((N 7 p) ||| ((md_letterOf c))))) := by rw [md_letter]; simp only [if_neg h1, if_pos h3]
      rw [e9] at hk
      exact sg_ireturn (st := []) (v := md_o (some 6)) (pc := 38) hC hR dX7_letter_38 (hk M hI)
    · refine sg_iconst (pc := 20) (((-1))) hC dX7_letter_20 (by decide) ?_
      have e9 : md_letter N p c = (none, N) := by rw [md_letter]; simp only [if_neg h1, if_neg h3]
      rw [e9] at hk
      exact sg_ireturn (st := []) (v := md_o none) (pc := 21) hC hR dX7_letter_21 (hk M hI)

def md_whole (q : Nat) (le : Nat) : Bool := if q = 1 then true else if q = 6 then if 0 < le then true else if q = 15 then true else if q = 16 then true else if q = 17 then true else if q = 21 then true else if q = 22 then true else false else if q = 15 then true else if q = 16 then true else if q = 17 then true else if q = 21 then true else if q = 22 then true else false
set_option maxHeartbeats 4000000 in
set_option maxRecDepth 100000 in
theorem mm_whole {l : Launch} {G : sg_G} {d : Nat} {M : sg_M} {kr : Option Value → sg_M → Prop} {kx : String → sg_M → Prop} (htr : l.stackTraces = false) (q : Nat) (le : Nat) (hq : q < 65536) (hle : le < 65536) (hk : kr (some (.int (md_b (md_whole q le)))) M) : sg_Met l G yX7_whole cX7_whole 2 (some .boolean) (d + 0) 0 0 [.int (nI q), .int (nI le)] M kr kx := by
  refine sg_enter [some (.int (nI q)), some (.int (nI le))] (by decide) htr (Nat.le_of_ble_eq_true rfl) rfl ?_
  intro X hC hR
  have hC : sg_C X l G cX7_whole RX7 2 (d + 0) := hC
  refine sg_iload_n (pc := 0) (x := nI q) hC dX7_whole_0 rfl ?_
  refine sg_iconst (pc := 1) (nI 1) hC dX7_whole_1 (by decide) ?_
  refine sg_icmpN_eq (pc := 2) (a := q) (b := 1) 45 hC dX7_whole_2 (by decide) (by first | omega | exact Nat.lt_of_le_of_lt Nat.and_le_left (by omega) | exact Nat.or_lt_two_pow (n := 16) (by omega) (by omega)) (by first | omega | exact Nat.lt_of_le_of_lt Nat.and_le_left (by omega) | exact Nat.or_lt_two_pow (n := 16) (by omega) (by omega)) (fun h1 => ?_) (fun h1 => ?_)
  · refine sg_iconst (pc := 45) (nI 1) hC dX7_whole_45 (by decide) ?_
    refine sg_goto (pc := 46) 50 hC dX7_whole_46 (by decide) ?_
    have e9 : md_whole q le = true := by rw [md_whole]; simp only [if_pos h1]
    rw [e9] at hk
    exact sg_zreturn (st := []) (v := md_b true) (pc := 50) (ty := .boolean) hC hR (md_narb _) dX7_whole_50 hk
  · refine sg_iload_n (pc := 5) (x := nI q) hC dX7_whole_5 rfl ?_
    refine sg_bipush (pc := 6) (nI 6) hC dX7_whole_6 (by decide) ?_
    refine sg_icmpN_ne (pc := 8) (a := q) (b := 6) 15 hC dX7_whole_8 (by decide) (by first | omega | exact Nat.lt_of_le_of_lt Nat.and_le_left (by omega) | exact Nat.or_lt_two_pow (n := 16) (by omega) (by omega)) (by first | omega | exact Nat.lt_of_le_of_lt Nat.and_le_left (by omega) | exact Nat.or_lt_two_pow (n := 16) (by omega) (by omega)) (fun h2 => ?_) (fun h2 => ?_)
    · refine sg_iload_n (pc := 15) (x := nI q) hC dX7_whole_15 rfl ?_
      refine sg_bipush (pc := 16) (nI 15) hC dX7_whole_16 (by decide) ?_
      refine sg_icmpN_eq (pc := 18) (a := q) (b := 15) 45 hC dX7_whole_18 (by decide) (by first | omega | exact Nat.lt_of_le_of_lt Nat.and_le_left (by omega) | exact Nat.or_lt_two_pow (n := 16) (by omega) (by omega)) (by first | omega | exact Nat.lt_of_le_of_lt Nat.and_le_left (by omega) | exact Nat.or_lt_two_pow (n := 16) (by omega) (by omega)) (fun h3 => ?_) (fun h3 => ?_)
      · refine sg_iconst (pc := 45) (nI 1) hC dX7_whole_45 (by decide) ?_
        refine sg_goto (pc := 46) 50 hC dX7_whole_46 (by decide) ?_
        have e9 : md_whole q le = true := by rw [md_whole]; simp only [if_neg h1, if_neg h2, if_pos h3]
        rw [e9] at hk
        exact sg_zreturn (st := []) (v := md_b true) (pc := 50) (ty := .boolean) hC hR (md_narb _) dX7_whole_50 hk
      · refine sg_iload_n (pc := 21) (x := nI q) hC dX7_whole_21 rfl ?_
        refine sg_bipush (pc := 22) (nI 16) hC dX7_whole_22 (by decide) ?_
        refine sg_icmpN_eq (pc := 24) (a := q) (b := 16) 45 hC dX7_whole_24 (by decide) (by first | omega | exact Nat.lt_of_le_of_lt Nat.and_le_left (by omega) | exact Nat.or_lt_two_pow (n := 16) (by omega) (by omega)) (by first | omega | exact Nat.lt_of_le_of_lt Nat.and_le_left (by omega) | exact Nat.or_lt_two_pow (n := 16) (by omega) (by omega)) (fun h4 => ?_) (fun h4 => ?_)
        · refine sg_iconst (pc := 45) (nI 1) hC dX7_whole_45 (by decide) ?_
          refine sg_goto (pc := 46) 50 hC dX7_whole_46 (by decide) ?_
          have e9 : md_whole q le = true := by rw [md_whole]; simp only [if_neg h1, if_neg h2, if_neg h3, if_pos h4]
          rw [e9] at hk
          exact sg_zreturn (st := []) (v := md_b true) (pc := 50) (ty := .boolean) hC hR (md_narb _) dX7_whole_50 hk
        · refine sg_iload_n (pc := 27) (x := nI q) hC dX7_whole_27 rfl ?_
          refine sg_bipush (pc := 28) (nI 17) hC dX7_whole_28 (by decide) ?_
          refine sg_icmpN_eq (pc := 30) (a := q) (b := 17) 45 hC dX7_whole_30 (by decide) (by first | omega | exact Nat.lt_of_le_of_lt Nat.and_le_left (by omega) | exact Nat.or_lt_two_pow (n := 16) (by omega) (by omega)) (by first | omega | exact Nat.lt_of_le_of_lt Nat.and_le_left (by omega) | exact Nat.or_lt_two_pow (n := 16) (by omega) (by omega)) (fun h5 => ?_) (fun h5 => ?_)
          · refine sg_iconst (pc := 45) (nI 1) hC dX7_whole_45 (by decide) ?_
            refine sg_goto (pc := 46) 50 hC dX7_whole_46 (by decide) ?_
            have e9 : md_whole q le = true := by rw [md_whole]; simp only [if_neg h1, if_neg h2, if_neg h3, if_neg h4, if_pos h5]
            rw [e9] at hk
            exact sg_zreturn (st := []) (v := md_b true) (pc := 50) (ty := .boolean) hC hR (md_narb _) dX7_whole_50 hk
          · refine sg_iload_n (pc := 33) (x := nI q) hC dX7_whole_33 rfl ?_
            refine sg_bipush (pc := 34) (nI 21) hC dX7_whole_34 (by decide) ?_
            refine sg_icmpN_eq (pc := 36) (a := q) (b := 21) 45 hC dX7_whole_36 (by decide) (by first | omega | exact Nat.lt_of_le_of_lt Nat.and_le_left (by omega) | exact Nat.or_lt_two_pow (n := 16) (by omega) (by omega)) (by first | omega | exact Nat.lt_of_le_of_lt Nat.and_le_left (by omega) | exact Nat.or_lt_two_pow (n := 16) (by omega) (by omega)) (fun h6 => ?_) (fun h6 => ?_)
            · refine sg_iconst (pc := 45) (nI 1) hC dX7_whole_45 (by decide) ?_
              refine sg_goto (pc := 46) 50 hC dX7_whole_46 (by decide) ?_
              have e9 : md_whole q le = true := by rw [md_whole]; simp only [if_neg h1, if_neg h2, if_neg h3, if_neg h4, if_neg h5, if_pos h6]
              rw [e9] at hk
              exact sg_zreturn (st := []) (v := md_b true) (pc := 50) (ty := .boolean) hC hR (md_narb _) dX7_whole_50 hk
            · refine sg_iload_n (pc := 39) (x := nI q) hC dX7_whole_39 rfl ?_
              refine sg_bipush (pc := 40) (nI 22) hC dX7_whole_40 (by decide) ?_
              refine sg_icmpN_ne (pc := 42) (a := q) (b := 22) 49 hC dX7_whole_42 (by decide) (by first | omega | exact Nat.lt_of_le_of_lt Nat.and_le_left (by omega) | exact Nat.or_lt_two_pow (n := 16) (by omega) (by omega)) (by first | omega | exact Nat.lt_of_le_of_lt Nat.and_le_left (by omega) | exact Nat.or_lt_two_pow (n := 16) (by omega) (by omega)) (fun h7 => ?_) (fun h7 => ?_)
              · refine sg_iconst (pc := 49) (nI 0) hC dX7_whole_49 (by decide) ?_
                have e9 : md_whole q le = false := by rw [md_whole]; simp only [if_neg h1, if_neg h2, if_neg h3, if_neg h4, if_neg h5, if_neg h6, if_neg h7]
                rw [e9] at hk
                exact sg_zreturn (st := []) (v := md_b false) (pc := 50) (ty := .boolean) hC hR (md_narb _) dX7_whole_50 hk
              · refine sg_iconst (pc := 45) (nI 1) hC dX7_whole_45 (by decide) ?_
                refine sg_goto (pc := 46) 50 hC dX7_whole_46 (by decide) ?_
                have e9 : md_whole q le = true := by rw [md_whole]; simp only [if_neg h1, if_neg h2, if_neg h3, if_neg h4, if_neg h5, if_neg h6, if_pos h7]
                rw [e9] at hk
                exact sg_zreturn (st := []) (v := md_b true) (pc := 50) (ty := .boolean) hC hR (md_narb _) dX7_whole_50 hk
    · refine sg_iload_n (pc := 11) (x := nI le) hC dX7_whole_11 rfl ?_
      refine sg_ifN_gt (pc := 12) (a := le) 45 hC dX7_whole_12 (by decide) (by first | omega | exact Nat.lt_of_le_of_lt Nat.and_le_left (by omega) | exact Nat.or_lt_two_pow (n := 16) (by omega) (by omega)) (fun h8 => ?_) (fun h8 => ?_)
      · refine sg_iconst (pc := 45) (nI 1) hC dX7_whole_45 (by decide) ?_
        refine sg_goto (pc := 46) 50 hC dX7_whole_46 (by decide) ?_
        have e9 : md_whole q le = true := by rw [md_whole]; simp only [if_neg h1, if_pos h2, if_pos h8]
        rw [e9] at hk
        exact sg_zreturn (st := []) (v := md_b true) (pc := 50) (ty := .boolean) hC hR (md_narb _) dX7_whole_50 hk
      · refine sg_iload_n (pc := 15) (x := nI q) hC dX7_whole_15 rfl ?_
        refine sg_bipush (pc := 16) (nI 15) hC dX7_whole_16 (by decide) ?_
        refine sg_icmpN_eq (pc := 18) (a := q) (b := 15) 45 hC dX7_whole_18 (by decide) (by first | omega | exact Nat.lt_of_le_of_lt Nat.and_le_left (by omega) | exact Nat.or_lt_two_pow (n := 16) (by omega) (by omega)) (by first | omega | exact Nat.lt_of_le_of_lt Nat.and_le_left (by omega) | exact Nat.or_lt_two_pow (n := 16) (by omega) (by omega)) (fun h9 => ?_) (fun h9 => ?_)
        · refine sg_iconst (pc := 45) (nI 1) hC dX7_whole_45 (by decide) ?_
          refine sg_goto (pc := 46) 50 hC dX7_whole_46 (by decide) ?_
          have e9 : md_whole q le = true := by rw [md_whole]; simp only [if_neg h1, if_pos h2, if_neg (Nat.not_lt.mpr h8), if_pos h9]
          rw [e9] at hk
          exact sg_zreturn (st := []) (v := md_b true) (pc := 50) (ty := .boolean) hC hR (md_narb _) dX7_whole_50 hk
        · refine sg_iload_n (pc := 21) (x := nI q) hC dX7_whole_21 rfl ?_
          refine sg_bipush (pc := 22) (nI 16) hC dX7_whole_22 (by decide) ?_
          refine sg_icmpN_eq (pc := 24) (a := q) (b := 16) 45 hC dX7_whole_24 (by decide) (by first | omega | exact Nat.lt_of_le_of_lt Nat.and_le_left (by omega) | exact Nat.or_lt_two_pow (n := 16) (by omega) (by omega)) (by first | omega | exact Nat.lt_of_le_of_lt Nat.and_le_left (by omega) | exact Nat.or_lt_two_pow (n := 16) (by omega) (by omega)) (fun h10 => ?_) (fun h10 => ?_)
          · refine sg_iconst (pc := 45) (nI 1) hC dX7_whole_45 (by decide) ?_
            refine sg_goto (pc := 46) 50 hC dX7_whole_46 (by decide) ?_
            have e9 : md_whole q le = true := by rw [md_whole]; simp only [if_neg h1, if_pos h2, if_neg (Nat.not_lt.mpr h8), if_neg h9, if_pos h10]
            rw [e9] at hk
            exact sg_zreturn (st := []) (v := md_b true) (pc := 50) (ty := .boolean) hC hR (md_narb _) dX7_whole_50 hk
          · refine sg_iload_n (pc := 27) (x := nI q) hC dX7_whole_27 rfl ?_
            refine sg_bipush (pc := 28) (nI 17) hC dX7_whole_28 (by decide) ?_
            refine sg_icmpN_eq (pc := 30) (a := q) (b := 17) 45 hC dX7_whole_30 (by decide) (by first | omega | exact Nat.lt_of_le_of_lt Nat.and_le_left (by omega) | exact Nat.or_lt_two_pow (n := 16) (by omega) (by omega)) (by first | omega | exact Nat.lt_of_le_of_lt Nat.and_le_left (by omega) | exact Nat.or_lt_two_pow (n := 16) (by omega) (by omega)) (fun h11 => ?_) (fun h11 => ?_)
            · refine sg_iconst (pc := 45) (nI 1) hC dX7_whole_45 (by decide) ?_
              refine sg_goto (pc := 46) 50 hC dX7_whole_46 (by decide) ?_
              have e9 : md_whole q le = true := by rw [md_whole]; simp only [if_neg h1, if_pos h2, if_neg (Nat.not_lt.mpr h8), if_neg h9, if_neg h10, if_pos h11]
              rw [e9] at hk
              exact sg_zreturn (st := []) (v := md_b true) (pc := 50) (ty := .boolean) hC hR (md_narb _) dX7_whole_50 hk
            · refine sg_iload_n (pc := 33) (x := nI q) hC dX7_whole_33 rfl ?_
              refine sg_bipush (pc := 34) (nI 21) hC dX7_whole_34 (by decide) ?_
              refine sg_icmpN_eq (pc := 36) (a := q) (b := 21) 45 hC dX7_whole_36 (by decide) (by first | omega | exact Nat.lt_of_le_of_lt Nat.and_le_left (by omega) | exact Nat.or_lt_two_pow (n := 16) (by omega) (by omega)) (by first | omega | exact Nat.lt_of_le_of_lt Nat.and_le_left (by omega) | exact Nat.or_lt_two_pow (n := 16) (by omega) (by omega)) (fun h12 => ?_) (fun h12 => ?_)
              · refine sg_iconst (pc := 45) (nI 1) hC dX7_whole_45 (by decide) ?_
                refine sg_goto (pc := 46) 50 hC dX7_whole_46 (by decide) ?_
                have e9 : md_whole q le = true := by rw [md_whole]; simp only [if_neg h1, if_pos h2, if_neg (Nat.not_lt.mpr h8), if_neg h9, if_neg h10, if_neg h11, if_pos h12]
                rw [e9] at hk
                exact sg_zreturn (st := []) (v := md_b true) (pc := 50) (ty := .boolean) hC hR (md_narb _) dX7_whole_50 hk
              · refine sg_iload_n (pc := 39) (x := nI q) hC dX7_whole_39 rfl ?_
                refine sg_bipush (pc := 40) (nI 22) hC dX7_whole_40 (by decide) ?_
                refine sg_icmpN_ne (pc := 42) (a := q) (b := 22) 49 hC dX7_whole_42 (by decide) (by first | omega | exact Nat.lt_of_le_of_lt Nat.and_le_left (by omega) | exact Nat.or_lt_two_pow (n := 16) (by omega) (by omega)) (by first | omega | exact Nat.lt_of_le_of_lt Nat.and_le_left (by omega) | exact Nat.or_lt_two_pow (n := 16) (by omega) (by omega)) (fun h13 => ?_) (fun h13 => ?_)
                · refine sg_iconst (pc := 49) (nI 0) hC dX7_whole_49 (by decide) ?_
                  have e9 : md_whole q le = false := by rw [md_whole]; simp only [if_neg h1, if_pos h2, if_neg (Nat.not_lt.mpr h8), if_neg h9, if_neg h10, if_neg h11, if_neg h12, if_neg h13]
                  rw [e9] at hk
                  exact sg_zreturn (st := []) (v := md_b false) (pc := 50) (ty := .boolean) hC hR (md_narb _) dX7_whole_50 hk
                · refine sg_iconst (pc := 45) (nI 1) hC dX7_whole_45 (by decide) ?_
                  refine sg_goto (pc := 46) 50 hC dX7_whole_46 (by decide) ?_
                  have e9 : md_whole q le = true := by rw [md_whole]; simp only [if_neg h1, if_pos h2, if_neg (Nat.not_lt.mpr h8), if_neg h9, if_neg h10, if_neg h11, if_neg h12, if_pos h13]
                  rw [e9] at hk
                  exact sg_zreturn (st := []) (v := md_b true) (pc := 50) (ty := .boolean) hC hR (md_narb _) dX7_whole_50 hk

def md_range (N : Nat → Nat → Nat) (p : Nat) (q : Nat) (c : Nat) : Option Nat × (Nat → Nat → Nat) := if c = 45 then if 16 ≤ q then if (md_isDigit c) = true then if q = 15 then (none, N) else if q = 16 then if N 8 p ≤ c - 48 then if q = 14 then (some 15, (md_set (md_set N 8 p (c - 48)) 9 p (c - 48))) else (some 17, (md_set (md_set N 8 p (N 8 p)) 9 p (c - 48))) else (none, N) else if q = 14 then (some 15, (md_set (md_set N 8 p (c - 48)) 9 p (c - 48))) else (some 17, (md_set (md_set N 8 p (N 8 p)) 9 p (c - 48))) else (none, N) else if q = 14 then (some 18, (md_set (md_set N 8 p 0) 9 p 9)) else (some 16, (md_set (md_set N 8 p (N 8 p)) 9 p 9)) else if (md_isDigit c) = true then if q = 15 then (none, N) else if q = 16 then if N 8 p ≤ c - 48 then if q = 14 then (some 15, (md_set (md_set N 8 p (c - 48)) 9 p (c - 48))) else (some 17, (md_set (md_set N 8 p (N 8 p)) 9 p (c - 48))) else (none, N) else if q = 14 then (some 15, (md_set (md_set N 8 p (c - 48)) 9 p (c - 48))) else (some 17, (md_set (md_set N 8 p (N 8 p)) 9 p (c - 48))) else (none, N)
set_option maxHeartbeats 4000000 in
set_option maxRecDepth 100000 in
theorem mm_range {l : Launch} {G : sg_G} {d : Nat} {M0 M : sg_M} {x : Nat} {ad : Nat → Nat} {N : Nat → Nat → Nat} {kr : Option Value → sg_M → Prop} {kx : String → sg_M → Prop} (htr : l.stackTraces = false) (hI : md_I M0 M x ad N) (p : Nat) (q : Nat) (c : Nat) (hp : p < 86) (hq : q < 24) (hc : c < 65536) (hk : ∀ M', md_I M0 M' x ad (md_range N p q c).2 → kr (some (.int (md_o (md_range N p q c).1))) M') : sg_Met l G yX7_range cX7_range 4 (some .int) (d + 1) 0 0 [.ref x, .int (nI p), .int (nI q), .int (nI c)] M kr kx := by
  refine sg_enter [some (.ref x), some (.int (nI p)), some (.int (nI q)), some (.int (nI c))] (by decide) htr (Nat.le_of_ble_eq_true rfl) rfl ?_
  intro X hC hR
  have hC : sg_C X l G cX7_range RX7 4 (d + 1) := hC
  refine sg_iload_n (pc := 0) (x := nI c) hC dX7_range_0 rfl ?_
  refine sg_bipush (pc := 1) (nI 45) hC dX7_range_1 (by decide) ?_
  refine sg_icmpN_ne (pc := 3) (a := c) (b := 45) 56 hC dX7_range_3 (by decide) (by first | omega | exact Nat.lt_of_le_of_lt Nat.and_le_left (by omega) | exact Nat.or_lt_two_pow (n := 16) (by omega) (by omega)) (by first | omega | exact Nat.lt_of_le_of_lt Nat.and_le_left (by omega) | exact Nat.or_lt_two_pow (n := 16) (by omega) (by omega)) (fun h1 => ?_) (fun h1 => ?_)
  · refine sg_iload_n (pc := 56) (x := nI c) hC dX7_range_56 rfl ?_
    refine sg_callS (pc := 57) (As := [.int (nI c)]) (rest := []) (mc := 0) (ms := 0) hC tw_1323 tw_1324 tw_72 tw_1325 yd_X7_isDigit (by decide) dX7_range_57 rfl (Nat.le_of_ble_eq_true rfl) (Nat.zero_le _) (Nat.zero_le _) ?_
    refine mm_isDigit htr  c (by first | omega | exact Nat.lt_of_le_of_lt Nat.and_le_left (by omega) | exact Nat.or_lt_two_pow (n := 16) (by omega) (by omega)) ?_
    show sg_W X M 0 0 60 [some (.ref x), some (.int (nI p)), some (.int (nI q)), some (.int (nI c))] [.int (md_b ((md_isDigit c)))]
    refine sg_ifB_eq (pc := 60) (b := (md_isDigit c)) 88 hC dX7_range_60 (by decide) (fun h2 => ?_) (fun h2 => ?_)
    · refine sg_iconst (pc := 88) (((-1))) hC dX7_range_88 (by decide) ?_
      have e9 : md_range N p q c = (none, N) := by rw [md_range]; simp only [if_neg h1, if_neg (ts9 h2)]
      rw [e9] at hk
      exact sg_ireturn (st := []) (v := md_o none) (pc := 89) hC hR dX7_range_89 (hk M hI)
    · have hd3 := md_dig1 h2
      have hd4 := md_dig2 h2
      refine sg_iload_n (pc := 63) (x := nI q) hC dX7_range_63 rfl ?_
      refine sg_bipush (pc := 64) (nI 15) hC dX7_range_64 (by decide) ?_
      refine sg_icmpN_eq (pc := 66) (a := q) (b := 15) 88 hC dX7_range_66 (by decide) (by first | omega | exact Nat.lt_of_le_of_lt Nat.and_le_left (by omega) | exact Nat.or_lt_two_pow (n := 16) (by omega) (by omega)) (by first | omega | exact Nat.lt_of_le_of_lt Nat.and_le_left (by omega) | exact Nat.or_lt_two_pow (n := 16) (by omega) (by omega)) (fun h5 => ?_) (fun h5 => ?_)
      · refine sg_iconst (pc := 88) (((-1))) hC dX7_range_88 (by decide) ?_
        have e9 : md_range N p q c = (none, N) := by rw [md_range]; simp only [if_neg h1, if_pos h2, if_pos h5]
        rw [e9] at hk
        exact sg_ireturn (st := []) (v := md_o none) (pc := 89) hC hR dX7_range_89 (hk M hI)
      · refine sg_iload_n (pc := 69) (x := nI q) hC dX7_range_69 rfl ?_
        refine sg_bipush (pc := 70) (nI 16) hC dX7_range_70 (by decide) ?_
        refine sg_icmpN_ne (pc := 72) (a := q) (b := 16) 90 hC dX7_range_72 (by decide) (by first | omega | exact Nat.lt_of_le_of_lt Nat.and_le_left (by omega) | exact Nat.or_lt_two_pow (n := 16) (by omega) (by omega)) (by first | omega | exact Nat.lt_of_le_of_lt Nat.and_le_left (by omega) | exact Nat.or_lt_two_pow (n := 16) (by omega) (by omega)) (fun h6 => ?_) (fun h6 => ?_)
        · refine sg_aload_n (pc := 90) (v := .ref x) hC dX7_range_90 rfl rfl ?_
          refine md_get (pc := 91) (i := 8) hC (by decide) tw_1194 dX7_range_91 hI rfl ?_
          refine sg_iload_n (pc := 94) (x := nI p) hC dX7_range_94 rfl ?_
          refine sg_iload_n (pc := 95) (x := nI q) hC dX7_range_95 rfl ?_
          refine sg_bipush (pc := 96) (nI 14) hC dX7_range_96 (by decide) ?_
          refine sg_icmpN_ne (pc := 98) (a := q) (b := 14) 108 hC dX7_range_98 (by decide) (by first | omega | exact Nat.lt_of_le_of_lt Nat.and_le_left (by omega) | exact Nat.or_lt_two_pow (n := 16) (by omega) (by omega)) (by first | omega | exact Nat.lt_of_le_of_lt Nat.and_le_left (by omega) | exact Nat.or_lt_two_pow (n := 16) (by omega) (by omega)) (fun h7 => ?_) (fun h7 => ?_)
          · refine sg_aload_n (pc := 108) (v := .ref x) hC dX7_range_108 rfl rfl ?_
            refine md_get (pc := 109) (i := 8) hC (by decide) tw_1194 dX7_range_109 hI rfl ?_
            refine sg_iload_n (pc := 112) (x := nI p) hC dX7_range_112 rfl ?_
            refine md_iald (pc := 113) (i := 8) (j := p) hC dX7_range_113 hI rfl (by first | omega | exact Nat.lt_of_le_of_lt Nat.and_le_left (by omega) | exact Nat.or_lt_two_pow (n := 16) (by omega) (by omega)) (by decide) (fun hv8 => ?_)
            show sg_W X M 0 0 114 [some (.ref x), some (.int (nI p)), some (.int (nI q)), some (.int (nI c))] [.int (nI (N 8 p)), .int (nI p), .ref (ad 8)]
            refine md_iast (pc := 114) (i := 8) (j := p) (v := N 8 p) hC dX7_range_114 hI rfl (by first | omega | exact Nat.lt_of_le_of_lt Nat.and_le_left (by omega) | exact Nat.or_lt_two_pow (n := 16) (by omega) (by omega)) (by decide) (by first | omega | exact Nat.lt_of_le_of_lt Nat.and_le_left (by omega) | exact Nat.or_lt_two_pow (n := 16) (by omega) (by omega)) (fun M hI => ?_)
            refine sg_aload_n (pc := 115) (v := .ref x) hC dX7_range_115 rfl rfl ?_
            refine md_get (pc := 116) (i := 9) hC (by decide) tw_1195 dX7_range_116 hI rfl ?_
            refine sg_iload_n (pc := 119) (x := nI p) hC dX7_range_119 rfl ?_
            refine sg_iload_n (pc := 120) (x := nI c) hC dX7_range_120 rfl ?_
            refine sg_bipush (pc := 121) (nI 48) hC dX7_range_121 (by decide) ?_
            refine sg_isubN (pc := 123) (a := c) (b := 48) hC dX7_range_123 (by first | omega | exact Nat.lt_of_le_of_lt Nat.and_le_left (by omega) | exact Nat.or_lt_two_pow (n := 16) (by omega) (by omega)) ?_
            refine md_iast (pc := 124) (i := 9) (j := p) (v := c - 48) hC dX7_range_124 hI rfl (by first | omega | exact Nat.lt_of_le_of_lt Nat.and_le_left (by omega) | exact Nat.or_lt_two_pow (n := 16) (by omega) (by omega)) (by decide) (by first | omega | exact Nat.lt_of_le_of_lt Nat.and_le_left (by omega) | exact Nat.or_lt_two_pow (n := 16) (by omega) (by omega)) (fun M hI => ?_)
            refine sg_iload_n (pc := 125) (x := nI q) hC dX7_range_125 rfl ?_
            refine sg_bipush (pc := 126) (nI 14) hC dX7_range_126 (by decide) ?_
            refine sg_icmpN_ne (pc := 128) (a := q) (b := 14) 136 hC dX7_range_128 (by decide) (by first | omega | exact Nat.lt_of_le_of_lt Nat.and_le_left (by omega) | exact Nat.or_lt_two_pow (n := 16) (by omega) (by omega)) (by first | omega | exact Nat.lt_of_le_of_lt Nat.and_le_left (by omega) | exact Nat.or_lt_two_pow (n := 16) (by omega) (by omega)) (fun _ => ?_) (fun h9 => by exfalso; omega)
            refine sg_bipush (pc := 136) (nI 17) hC dX7_range_136 (by decide) ?_
            have e9 : md_range N p q c = (some 17, (md_set (md_set N 8 p (N 8 p)) 9 p (c - 48))) := by rw [md_range]; simp only [if_neg h1, if_pos h2, if_neg h5, if_neg h6, if_neg h7]
            rw [e9] at hk
            exact sg_ireturn (st := []) (v := md_o (some 17)) (pc := 138) hC hR dX7_range_138 (hk M hI)
          · refine sg_iload_n (pc := 101) (x := nI c) hC dX7_range_101 rfl ?_
            refine sg_bipush (pc := 102) (nI 48) hC dX7_range_102 (by decide) ?_
            refine sg_isubN (pc := 104) (a := c) (b := 48) hC dX7_range_104 (by first | omega | exact Nat.lt_of_le_of_lt Nat.and_le_left (by omega) | exact Nat.or_lt_two_pow (n := 16) (by omega) (by omega)) ?_
            refine sg_goto (pc := 105) 114 hC dX7_range_105 (by decide) ?_
            refine md_iast (pc := 114) (i := 8) (j := p) (v := c - 48) hC dX7_range_114 hI rfl (by first | omega | exact Nat.lt_of_le_of_lt Nat.and_le_left (by omega) | exact Nat.or_lt_two_pow (n := 16) (by omega) (by omega)) (by decide) (by first | omega | exact Nat.lt_of_le_of_lt Nat.and_le_left (by omega) | exact Nat.or_lt_two_pow (n := 16) (by omega) (by omega)) (fun M hI => ?_)
            refine sg_aload_n (pc := 115) (v := .ref x) hC dX7_range_115 rfl rfl ?_
            refine md_get (pc := 116) (i := 9) hC (by decide) tw_1195 dX7_range_116 hI rfl ?_
            refine sg_iload_n (pc := 119) (x := nI p) hC dX7_range_119 rfl ?_
            refine sg_iload_n (pc := 120) (x := nI c) hC dX7_range_120 rfl ?_
            refine sg_bipush (pc := 121) (nI 48) hC dX7_range_121 (by decide) ?_
            refine sg_isubN (pc := 123) (a := c) (b := 48) hC dX7_range_123 (by first | omega | exact Nat.lt_of_le_of_lt Nat.and_le_left (by omega) | exact Nat.or_lt_two_pow (n := 16) (by omega) (by omega)) ?_
            refine md_iast (pc := 124) (i := 9) (j := p) (v := c - 48) hC dX7_range_124 hI rfl (by first | omega | exact Nat.lt_of_le_of_lt Nat.and_le_left (by omega) | exact Nat.or_lt_two_pow (n := 16) (by omega) (by omega)) (by decide) (by first | omega | exact Nat.lt_of_le_of_lt Nat.and_le_left (by omega) | exact Nat.or_lt_two_pow (n := 16) (by omega) (by omega)) (fun M hI => ?_)
            refine sg_iload_n (pc := 125) (x := nI q) hC dX7_range_125 rfl ?_
            refine sg_bipush (pc := 126) (nI 14) hC dX7_range_126 (by decide) ?_
            refine sg_icmpN_ne (pc := 128) (a := q) (b := 14) 136 hC dX7_range_128 (by decide) (by first | omega | exact Nat.lt_of_le_of_lt Nat.and_le_left (by omega) | exact Nat.or_lt_two_pow (n := 16) (by omega) (by omega)) (by first | omega | exact Nat.lt_of_le_of_lt Nat.and_le_left (by omega) | exact Nat.or_lt_two_pow (n := 16) (by omega) (by omega)) (fun h10 => by exfalso; omega) (fun _ => ?_)
            refine sg_bipush (pc := 131) (nI 15) hC dX7_range_131 (by decide) ?_
            refine sg_goto (pc := 133) 138 hC dX7_range_133 (by decide) ?_
            have e9 : md_range N p q c = (some 15, (md_set (md_set N 8 p (c - 48)) 9 p (c - 48))) := by rw [md_range]; simp only [if_neg h1, if_pos h2, if_neg h5, if_neg h6, if_pos h7]
            rw [e9] at hk
            exact sg_ireturn (st := []) (v := md_o (some 15)) (pc := 138) hC hR dX7_range_138 (hk M hI)
        · refine sg_iload_n (pc := 75) (x := nI c) hC dX7_range_75 rfl ?_
          refine sg_bipush (pc := 76) (nI 48) hC dX7_range_76 (by decide) ?_
          refine sg_isubN (pc := 78) (a := c) (b := 48) hC dX7_range_78 (by first | omega | exact Nat.lt_of_le_of_lt Nat.and_le_left (by omega) | exact Nat.or_lt_two_pow (n := 16) (by omega) (by omega)) ?_
          refine sg_aload_n (pc := 79) (v := .ref x) hC dX7_range_79 rfl rfl ?_
          refine md_get (pc := 80) (i := 8) hC (by decide) tw_1194 dX7_range_80 hI rfl ?_
          refine sg_iload_n (pc := 83) (x := nI p) hC dX7_range_83 rfl ?_
          refine md_iald (pc := 84) (i := 8) (j := p) hC dX7_range_84 hI rfl (by first | omega | exact Nat.lt_of_le_of_lt Nat.and_le_left (by omega) | exact Nat.or_lt_two_pow (n := 16) (by omega) (by omega)) (by decide) (fun hv11 => ?_)
          show sg_W X M 0 0 85 [some (.ref x), some (.int (nI p)), some (.int (nI q)), some (.int (nI c))] [.int (nI (N 8 p)), .int (nI (c - 48))]
          refine sg_icmpN_ge (pc := 85) (a := c - 48) (b := N 8 p) 90 hC dX7_range_85 (by decide) (by first | omega | exact Nat.lt_of_le_of_lt Nat.and_le_left (by omega) | exact Nat.or_lt_two_pow (n := 16) (by omega) (by omega)) (by first | omega | exact Nat.lt_of_le_of_lt Nat.and_le_left (by omega) | exact Nat.or_lt_two_pow (n := 16) (by omega) (by omega)) (fun h12 => ?_) (fun h12 => ?_)
          · refine sg_aload_n (pc := 90) (v := .ref x) hC dX7_range_90 rfl rfl ?_
            refine md_get (pc := 91) (i := 8) hC (by decide) tw_1194 dX7_range_91 hI rfl ?_
            refine sg_iload_n (pc := 94) (x := nI p) hC dX7_range_94 rfl ?_
            refine sg_iload_n (pc := 95) (x := nI q) hC dX7_range_95 rfl ?_
            refine sg_bipush (pc := 96) (nI 14) hC dX7_range_96 (by decide) ?_
            refine sg_icmpN_ne (pc := 98) (a := q) (b := 14) 108 hC dX7_range_98 (by decide) (by first | omega | exact Nat.lt_of_le_of_lt Nat.and_le_left (by omega) | exact Nat.or_lt_two_pow (n := 16) (by omega) (by omega)) (by first | omega | exact Nat.lt_of_le_of_lt Nat.and_le_left (by omega) | exact Nat.or_lt_two_pow (n := 16) (by omega) (by omega)) (fun h13 => ?_) (fun h13 => ?_)
            · refine sg_aload_n (pc := 108) (v := .ref x) hC dX7_range_108 rfl rfl ?_
              refine md_get (pc := 109) (i := 8) hC (by decide) tw_1194 dX7_range_109 hI rfl ?_
              refine sg_iload_n (pc := 112) (x := nI p) hC dX7_range_112 rfl ?_
              refine md_iald (pc := 113) (i := 8) (j := p) hC dX7_range_113 hI rfl (by first | omega | exact Nat.lt_of_le_of_lt Nat.and_le_left (by omega) | exact Nat.or_lt_two_pow (n := 16) (by omega) (by omega)) (by decide) (fun hv14 => ?_)
              show sg_W X M 0 0 114 [some (.ref x), some (.int (nI p)), some (.int (nI q)), some (.int (nI c))] [.int (nI (N 8 p)), .int (nI p), .ref (ad 8)]
              refine md_iast (pc := 114) (i := 8) (j := p) (v := N 8 p) hC dX7_range_114 hI rfl (by first | omega | exact Nat.lt_of_le_of_lt Nat.and_le_left (by omega) | exact Nat.or_lt_two_pow (n := 16) (by omega) (by omega)) (by decide) (by first | omega | exact Nat.lt_of_le_of_lt Nat.and_le_left (by omega) | exact Nat.or_lt_two_pow (n := 16) (by omega) (by omega)) (fun M hI => ?_)
              refine sg_aload_n (pc := 115) (v := .ref x) hC dX7_range_115 rfl rfl ?_
              refine md_get (pc := 116) (i := 9) hC (by decide) tw_1195 dX7_range_116 hI rfl ?_
              refine sg_iload_n (pc := 119) (x := nI p) hC dX7_range_119 rfl ?_
              refine sg_iload_n (pc := 120) (x := nI c) hC dX7_range_120 rfl ?_
              refine sg_bipush (pc := 121) (nI 48) hC dX7_range_121 (by decide) ?_
              refine sg_isubN (pc := 123) (a := c) (b := 48) hC dX7_range_123 (by first | omega | exact Nat.lt_of_le_of_lt Nat.and_le_left (by omega) | exact Nat.or_lt_two_pow (n := 16) (by omega) (by omega)) ?_
              refine md_iast (pc := 124) (i := 9) (j := p) (v := c - 48) hC dX7_range_124 hI rfl (by first | omega | exact Nat.lt_of_le_of_lt Nat.and_le_left (by omega) | exact Nat.or_lt_two_pow (n := 16) (by omega) (by omega)) (by decide) (by first | omega | exact Nat.lt_of_le_of_lt Nat.and_le_left (by omega) | exact Nat.or_lt_two_pow (n := 16) (by omega) (by omega)) (fun M hI => ?_)
              refine sg_iload_n (pc := 125) (x := nI q) hC dX7_range_125 rfl ?_
              refine sg_bipush (pc := 126) (nI 14) hC dX7_range_126 (by decide) ?_
              refine sg_icmpN_ne (pc := 128) (a := q) (b := 14) 136 hC dX7_range_128 (by decide) (by first | omega | exact Nat.lt_of_le_of_lt Nat.and_le_left (by omega) | exact Nat.or_lt_two_pow (n := 16) (by omega) (by omega)) (by first | omega | exact Nat.lt_of_le_of_lt Nat.and_le_left (by omega) | exact Nat.or_lt_two_pow (n := 16) (by omega) (by omega)) (fun _ => ?_) (fun h15 => by exfalso; omega)
              refine sg_bipush (pc := 136) (nI 17) hC dX7_range_136 (by decide) ?_
              have e9 : md_range N p q c = (some 17, (md_set (md_set N 8 p (N 8 p)) 9 p (c - 48))) := by rw [md_range]; simp only [if_neg h1, if_pos h2, if_neg h5, if_pos h6, if_pos h12, if_neg h13]
              rw [e9] at hk
              exact sg_ireturn (st := []) (v := md_o (some 17)) (pc := 138) hC hR dX7_range_138 (hk M hI)
            · refine sg_iload_n (pc := 101) (x := nI c) hC dX7_range_101 rfl ?_
              refine sg_bipush (pc := 102) (nI 48) hC dX7_range_102 (by decide) ?_
              refine sg_isubN (pc := 104) (a := c) (b := 48) hC dX7_range_104 (by first | omega | exact Nat.lt_of_le_of_lt Nat.and_le_left (by omega) | exact Nat.or_lt_two_pow (n := 16) (by omega) (by omega)) ?_
              refine sg_goto (pc := 105) 114 hC dX7_range_105 (by decide) ?_
              refine md_iast (pc := 114) (i := 8) (j := p) (v := c - 48) hC dX7_range_114 hI rfl (by first | omega | exact Nat.lt_of_le_of_lt Nat.and_le_left (by omega) | exact Nat.or_lt_two_pow (n := 16) (by omega) (by omega)) (by decide) (by first | omega | exact Nat.lt_of_le_of_lt Nat.and_le_left (by omega) | exact Nat.or_lt_two_pow (n := 16) (by omega) (by omega)) (fun M hI => ?_)
              refine sg_aload_n (pc := 115) (v := .ref x) hC dX7_range_115 rfl rfl ?_
              refine md_get (pc := 116) (i := 9) hC (by decide) tw_1195 dX7_range_116 hI rfl ?_
              refine sg_iload_n (pc := 119) (x := nI p) hC dX7_range_119 rfl ?_
              refine sg_iload_n (pc := 120) (x := nI c) hC dX7_range_120 rfl ?_
              refine sg_bipush (pc := 121) (nI 48) hC dX7_range_121 (by decide) ?_
              refine sg_isubN (pc := 123) (a := c) (b := 48) hC dX7_range_123 (by first | omega | exact Nat.lt_of_le_of_lt Nat.and_le_left (by omega) | exact Nat.or_lt_two_pow (n := 16) (by omega) (by omega)) ?_
              refine md_iast (pc := 124) (i := 9) (j := p) (v := c - 48) hC dX7_range_124 hI rfl (by first | omega | exact Nat.lt_of_le_of_lt Nat.and_le_left (by omega) | exact Nat.or_lt_two_pow (n := 16) (by omega) (by omega)) (by decide) (by first | omega | exact Nat.lt_of_le_of_lt Nat.and_le_left (by omega) | exact Nat.or_lt_two_pow (n := 16) (by omega) (by omega)) (fun M hI => ?_)
              refine sg_iload_n (pc := 125) (x := nI q) hC dX7_range_125 rfl ?_
              refine sg_bipush (pc := 126) (nI 14) hC dX7_range_126 (by decide) ?_
              refine sg_icmpN_ne (pc := 128) (a := q) (b := 14) 136 hC dX7_range_128 (by decide) (by first | omega | exact Nat.lt_of_le_of_lt Nat.and_le_left (by omega) | exact Nat.or_lt_two_pow (n := 16) (by omega) (by omega)) (by first | omega | exact Nat.lt_of_le_of_lt Nat.and_le_left (by omega) | exact Nat.or_lt_two_pow (n := 16) (by omega) (by omega)) (fun h16 => by exfalso; omega) (fun _ => ?_)
              refine sg_bipush (pc := 131) (nI 15) hC dX7_range_131 (by decide) ?_
              refine sg_goto (pc := 133) 138 hC dX7_range_133 (by decide) ?_
              have e9 : md_range N p q c = (some 15, (md_set (md_set N 8 p (c - 48)) 9 p (c - 48))) := by rw [md_range]; simp only [if_neg h1, if_pos h2, if_neg h5, if_pos h6, if_pos h12, if_pos h13]
              rw [e9] at hk
              exact sg_ireturn (st := []) (v := md_o (some 15)) (pc := 138) hC hR dX7_range_138 (hk M hI)
          · refine sg_iconst (pc := 88) (((-1))) hC dX7_range_88 (by decide) ?_
            have e9 : md_range N p q c = (none, N) := by rw [md_range]; simp only [if_neg h1, if_pos h2, if_neg h5, if_pos h6, if_neg (Nat.not_le.mpr h12)]
            rw [e9] at hk
            exact sg_ireturn (st := []) (v := md_o none) (pc := 89) hC hR dX7_range_89 (hk M hI)
  · refine sg_iload_n (pc := 6) (x := nI q) hC dX7_range_6 rfl ?_
    refine sg_bipush (pc := 7) (nI 16) hC dX7_range_7 (by decide) ?_
    refine sg_icmpN_ge (pc := 9) (a := q) (b := 16) 56 hC dX7_range_9 (by decide) (by first | omega | exact Nat.lt_of_le_of_lt Nat.and_le_left (by omega) | exact Nat.or_lt_two_pow (n := 16) (by omega) (by omega)) (by first | omega | exact Nat.lt_of_le_of_lt Nat.and_le_left (by omega) | exact Nat.or_lt_two_pow (n := 16) (by omega) (by omega)) (fun h17 => ?_) (fun h17 => ?_)
    · refine sg_iload_n (pc := 56) (x := nI c) hC dX7_range_56 rfl ?_
      refine sg_callS (pc := 57) (As := [.int (nI c)]) (rest := []) (mc := 0) (ms := 0) hC tw_1323 tw_1324 tw_72 tw_1325 yd_X7_isDigit (by decide) dX7_range_57 rfl (Nat.le_of_ble_eq_true rfl) (Nat.zero_le _) (Nat.zero_le _) ?_
      refine mm_isDigit htr  c (by first | omega | exact Nat.lt_of_le_of_lt Nat.and_le_left (by omega) | exact Nat.or_lt_two_pow (n := 16) (by omega) (by omega)) ?_
      show sg_W X M 0 0 60 [some (.ref x), some (.int (nI p)), some (.int (nI q)), some (.int (nI c))] [.int (md_b ((md_isDigit c)))]
      refine sg_ifB_eq (pc := 60) (b := (md_isDigit c)) 88 hC dX7_range_60 (by decide) (fun h18 => ?_) (fun h18 => ?_)
      · refine sg_iconst (pc := 88) (((-1))) hC dX7_range_88 (by decide) ?_
        have e9 : md_range N p q c = (none, N) := by rw [md_range]; simp only [if_pos h1, if_pos h17, if_neg (ts9 h18)]
        rw [e9] at hk
        exact sg_ireturn (st := []) (v := md_o none) (pc := 89) hC hR dX7_range_89 (hk M hI)
      · have hd19 := md_dig1 h18
        have hd20 := md_dig2 h18
        refine sg_iload_n (pc := 63) (x := nI q) hC dX7_range_63 rfl ?_
        refine sg_bipush (pc := 64) (nI 15) hC dX7_range_64 (by decide) ?_
        refine sg_icmpN_eq (pc := 66) (a := q) (b := 15) 88 hC dX7_range_66 (by decide) (by first | omega | exact Nat.lt_of_le_of_lt Nat.and_le_left (by omega) | exact Nat.or_lt_two_pow (n := 16) (by omega) (by omega)) (by first | omega | exact Nat.lt_of_le_of_lt Nat.and_le_left (by omega) | exact Nat.or_lt_two_pow (n := 16) (by omega) (by omega)) (fun h21 => ?_) (fun h21 => ?_)
        · refine sg_iconst (pc := 88) (((-1))) hC dX7_range_88 (by decide) ?_
          have e9 : md_range N p q c = (none, N) := by rw [md_range]; simp only [if_pos h1, if_pos h17, if_pos h18, if_pos h21]
          rw [e9] at hk
          exact sg_ireturn (st := []) (v := md_o none) (pc := 89) hC hR dX7_range_89 (hk M hI)
        · refine sg_iload_n (pc := 69) (x := nI q) hC dX7_range_69 rfl ?_
          refine sg_bipush (pc := 70) (nI 16) hC dX7_range_70 (by decide) ?_
          refine sg_icmpN_ne (pc := 72) (a := q) (b := 16) 90 hC dX7_range_72 (by decide) (by first | omega | exact Nat.lt_of_le_of_lt Nat.and_le_left (by omega) | exact Nat.or_lt_two_pow (n := 16) (by omega) (by omega)) (by first | omega | exact Nat.lt_of_le_of_lt Nat.and_le_left (by omega) | exact Nat.or_lt_two_pow (n := 16) (by omega) (by omega)) (fun h22 => ?_) (fun h22 => ?_)
          · refine sg_aload_n (pc := 90) (v := .ref x) hC dX7_range_90 rfl rfl ?_
            refine md_get (pc := 91) (i := 8) hC (by decide) tw_1194 dX7_range_91 hI rfl ?_
            refine sg_iload_n (pc := 94) (x := nI p) hC dX7_range_94 rfl ?_
            refine sg_iload_n (pc := 95) (x := nI q) hC dX7_range_95 rfl ?_
            refine sg_bipush (pc := 96) (nI 14) hC dX7_range_96 (by decide) ?_
            refine sg_icmpN_ne (pc := 98) (a := q) (b := 14) 108 hC dX7_range_98 (by decide) (by first | omega | exact Nat.lt_of_le_of_lt Nat.and_le_left (by omega) | exact Nat.or_lt_two_pow (n := 16) (by omega) (by omega)) (by first | omega | exact Nat.lt_of_le_of_lt Nat.and_le_left (by omega) | exact Nat.or_lt_two_pow (n := 16) (by omega) (by omega)) (fun h23 => ?_) (fun h23 => ?_)
            · refine sg_aload_n (pc := 108) (v := .ref x) hC dX7_range_108 rfl rfl ?_
              refine md_get (pc := 109) (i := 8) hC (by decide) tw_1194 dX7_range_109 hI rfl ?_
              refine sg_iload_n (pc := 112) (x := nI p) hC dX7_range_112 rfl ?_
              refine md_iald (pc := 113) (i := 8) (j := p) hC dX7_range_113 hI rfl (by first | omega | exact Nat.lt_of_le_of_lt Nat.and_le_left (by omega) | exact Nat.or_lt_two_pow (n := 16) (by omega) (by omega)) (by decide) (fun hv24 => ?_)
              show sg_W X M 0 0 114 [some (.ref x), some (.int (nI p)), some (.int (nI q)), some (.int (nI c))] [.int (nI (N 8 p)), .int (nI p), .ref (ad 8)]
              refine md_iast (pc := 114) (i := 8) (j := p) (v := N 8 p) hC dX7_range_114 hI rfl (by first | omega | exact Nat.lt_of_le_of_lt Nat.and_le_left (by omega) | exact Nat.or_lt_two_pow (n := 16) (by omega) (by omega)) (by decide) (by first | omega | exact Nat.lt_of_le_of_lt Nat.and_le_left (by omega) | exact Nat.or_lt_two_pow (n := 16) (by omega) (by omega)) (fun M hI => ?_)
              refine sg_aload_n (pc := 115) (v := .ref x) hC dX7_range_115 rfl rfl ?_
              refine md_get (pc := 116) (i := 9) hC (by decide) tw_1195 dX7_range_116 hI rfl ?_
              refine sg_iload_n (pc := 119) (x := nI p) hC dX7_range_119 rfl ?_
              refine sg_iload_n (pc := 120) (x := nI c) hC dX7_range_120 rfl ?_
              refine sg_bipush (pc := 121) (nI 48) hC dX7_range_121 (by decide) ?_
              refine sg_isubN (pc := 123) (a := c) (b := 48) hC dX7_range_123 (by first | omega | exact Nat.lt_of_le_of_lt Nat.and_le_left (by omega) | exact Nat.or_lt_two_pow (n := 16) (by omega) (by omega)) ?_
              refine md_iast (pc := 124) (i := 9) (j := p) (v := c - 48) hC dX7_range_124 hI rfl (by first | omega | exact Nat.lt_of_le_of_lt Nat.and_le_left (by omega) | exact Nat.or_lt_two_pow (n := 16) (by omega) (by omega)) (by decide) (by first | omega | exact Nat.lt_of_le_of_lt Nat.and_le_left (by omega) | exact Nat.or_lt_two_pow (n := 16) (by omega) (by omega)) (fun M hI => ?_)
              refine sg_iload_n (pc := 125) (x := nI q) hC dX7_range_125 rfl ?_
              refine sg_bipush (pc := 126) (nI 14) hC dX7_range_126 (by decide) ?_
              refine sg_icmpN_ne (pc := 128) (a := q) (b := 14) 136 hC dX7_range_128 (by decide) (by first | omega | exact Nat.lt_of_le_of_lt Nat.and_le_left (by omega) | exact Nat.or_lt_two_pow (n := 16) (by omega) (by omega)) (by first | omega | exact Nat.lt_of_le_of_lt Nat.and_le_left (by omega) | exact Nat.or_lt_two_pow (n := 16) (by omega) (by omega)) (fun _ => ?_) (fun h25 => by exfalso; omega)
              refine sg_bipush (pc := 136) (nI 17) hC dX7_range_136 (by decide) ?_
              have e9 : md_range N p q c = (some 17, (md_set (md_set N 8 p (N 8 p)) 9 p (c - 48))) := by rw [md_range]; simp only [if_pos h1, if_pos h17, if_pos h18, if_neg h21, if_neg h22, if_neg h23]
              rw [e9] at hk
              exact sg_ireturn (st := []) (v := md_o (some 17)) (pc := 138) hC hR dX7_range_138 (hk M hI)
            · refine sg_iload_n (pc := 101) (x := nI c) hC dX7_range_101 rfl ?_
              refine sg_bipush (pc := 102) (nI 48) hC dX7_range_102 (by decide) ?_
              refine sg_isubN (pc := 104) (a := c) (b := 48) hC dX7_range_104 (by first | omega | exact Nat.lt_of_le_of_lt Nat.and_le_left (by omega) | exact Nat.or_lt_two_pow (n := 16) (by omega) (by omega)) ?_
              refine sg_goto (pc := 105) 114 hC dX7_range_105 (by decide) ?_
              refine md_iast (pc := 114) (i := 8) (j := p) (v := c - 48) hC dX7_range_114 hI rfl (by first | omega | exact Nat.lt_of_le_of_lt Nat.and_le_left (by omega) | exact Nat.or_lt_two_pow (n := 16) (by omega) (by omega)) (by decide) (by first | omega | exact Nat.lt_of_le_of_lt Nat.and_le_left (by omega) | exact Nat.or_lt_two_pow (n := 16) (by omega) (by omega)) (fun M hI => ?_)
              refine sg_aload_n (pc := 115) (v := .ref x) hC dX7_range_115 rfl rfl ?_
              refine md_get (pc := 116) (i := 9) hC (by decide) tw_1195 dX7_range_116 hI rfl ?_
              refine sg_iload_n (pc := 119) (x := nI p) hC dX7_range_119 rfl ?_
              refine sg_iload_n (pc := 120) (x := nI c) hC dX7_range_120 rfl ?_
              refine sg_bipush (pc := 121) (nI 48) hC dX7_range_121 (by decide) ?_
              refine sg_isubN (pc := 123) (a := c) (b := 48) hC dX7_range_123 (by first | omega | exact Nat.lt_of_le_of_lt Nat.and_le_left (by omega) | exact Nat.or_lt_two_pow (n := 16) (by omega) (by omega)) ?_
              refine md_iast (pc := 124) (i := 9) (j := p) (v := c - 48) hC dX7_range_124 hI rfl (by first | omega | exact Nat.lt_of_le_of_lt Nat.and_le_left (by omega) | exact Nat.or_lt_two_pow (n := 16) (by omega) (by omega)) (by decide) (by first | omega | exact Nat.lt_of_le_of_lt Nat.and_le_left (by omega) | exact Nat.or_lt_two_pow (n := 16) (by omega) (by omega)) (fun M hI => ?_)
              refine sg_iload_n (pc := 125) (x := nI q) hC dX7_range_125 rfl ?_
              refine sg_bipush (pc := 126) (nI 14) hC dX7_range_126 (by decide) ?_
              refine sg_icmpN_ne (pc := 128) (a := q) (b := 14) 136 hC dX7_range_128 (by decide) (by first | omega | exact Nat.lt_of_le_of_lt Nat.and_le_left (by omega) | exact Nat.or_lt_two_pow (n := 16) (by omega) (by omega)) (by first | omega | exact Nat.lt_of_le_of_lt Nat.and_le_left (by omega) | exact Nat.or_lt_two_pow (n := 16) (by omega) (by omega)) (fun h26 => by exfalso; omega) (fun _ => ?_)
              refine sg_bipush (pc := 131) (nI 15) hC dX7_range_131 (by decide) ?_
              refine sg_goto (pc := 133) 138 hC dX7_range_133 (by decide) ?_
              have e9 : md_range N p q c = (some 15, (md_set (md_set N 8 p (c - 48)) 9 p (c - 48))) := by rw [md_range]; simp only [if_pos h1, if_pos h17, if_pos h18, if_neg h21, if_neg h22, if_pos h23]
              rw [e9] at hk
              exact sg_ireturn (st := []) (v := md_o (some 15)) (pc := 138) hC hR dX7_range_138 (hk M hI)
          · refine sg_iload_n (pc := 75) (x := nI c) hC dX7_range_75 rfl ?_
            refine sg_bipush (pc := 76) (nI 48) hC dX7_range_76 (by decide) ?_
            refine sg_isubN (pc := 78) (a := c) (b := 48) hC dX7_range_78 (by first | omega | exact Nat.lt_of_le_of_lt Nat.and_le_left (by omega) | exact Nat.or_lt_two_pow (n := 16) (by omega) (by omega)) ?_
            refine sg_aload_n (pc := 79) (v := .ref x) hC dX7_range_79 rfl rfl ?_
            refine md_get (pc := 80) (i := 8) hC (by decide) tw_1194 dX7_range_80 hI rfl ?_
            refine sg_iload_n (pc := 83) (x := nI p) hC dX7_range_83 rfl ?_
            refine md_iald (pc := 84) (i := 8) (j := p) hC dX7_range_84 hI rfl (by first | omega | exact Nat.lt_of_le_of_lt Nat.and_le_left (by omega) | exact Nat.or_lt_two_pow (n := 16) (by omega) (by omega)) (by decide) (fun hv27 => ?_)
            show sg_W X M 0 0 85 [some (.ref x), some (.int (nI p)), some (.int (nI q)), some (.int (nI c))] [.int (nI (N 8 p)), .int (nI (c - 48))]
            refine sg_icmpN_ge (pc := 85) (a := c - 48) (b := N 8 p) 90 hC dX7_range_85 (by decide) (by first | omega | exact Nat.lt_of_le_of_lt Nat.and_le_left (by omega) | exact Nat.or_lt_two_pow (n := 16) (by omega) (by omega)) (by first | omega | exact Nat.lt_of_le_of_lt Nat.and_le_left (by omega) | exact Nat.or_lt_two_pow (n := 16) (by omega) (by omega)) (fun h28 => ?_) (fun h28 => ?_)
            · refine sg_aload_n (pc := 90) (v := .ref x) hC dX7_range_90 rfl rfl ?_
              refine md_get (pc := 91) (i := 8) hC (by decide) tw_1194 dX7_range_91 hI rfl ?_
              refine sg_iload_n (pc := 94) (x := nI p) hC dX7_range_94 rfl ?_
              refine sg_iload_n (pc := 95) (x := nI q) hC dX7_range_95 rfl ?_
              refine sg_bipush (pc := 96) (nI 14) hC dX7_range_96 (by decide) ?_
              refine sg_icmpN_ne (pc := 98) (a := q) (b := 14) 108 hC dX7_range_98 (by decide) (by first | omega | exact Nat.lt_of_le_of_lt Nat.and_le_left (by omega) | exact Nat.or_lt_two_pow (n := 16) (by omega) (by omega)) (by first | omega | exact Nat.lt_of_le_of_lt Nat.and_le_left (by omega) | exact Nat.or_lt_two_pow (n := 16) (by omega) (by omega)) (fun h29 => ?_) (fun h29 => ?_)
              · refine sg_aload_n (pc := 108) (v := .ref x) hC dX7_range_108 rfl rfl ?_
                refine md_get (pc := 109) (i := 8) hC (by decide) tw_1194 dX7_range_109 hI rfl ?_
                refine sg_iload_n (pc := 112) (x := nI p) hC dX7_range_112 rfl ?_
                refine md_iald (pc := 113) (i := 8) (j := p) hC dX7_range_113 hI rfl (by first | omega | exact Nat.lt_of_le_of_lt Nat.and_le_left (by omega) | exact Nat.or_lt_two_pow (n := 16) (by omega) (by omega)) (by decide) (fun hv30 => ?_)
                show sg_W X M 0 0 114 [some (.ref x), some (.int (nI p)), some (.int (nI q)), some (.int (nI c))] [.int (nI (N 8 p)), .int (nI p), .ref (ad 8)]
                refine md_iast (pc := 114) (i := 8) (j := p) (v := N 8 p) hC dX7_range_114 hI rfl (by first | omega | exact Nat.lt_of_le_of_lt Nat.and_le_left (by omega) | exact Nat.or_lt_two_pow (n := 16) (by omega) (by omega)) (by decide) (by first | omega | exact Nat.lt_of_le_of_lt Nat.and_le_left (by omega) | exact Nat.or_lt_two_pow (n := 16) (by omega) (by omega)) (fun M hI => ?_)
                refine sg_aload_n (pc := 115) (v := .ref x) hC dX7_range_115 rfl rfl ?_
                refine md_get (pc := 116) (i := 9) hC (by decide) tw_1195 dX7_range_116 hI rfl ?_
                refine sg_iload_n (pc := 119) (x := nI p) hC dX7_range_119 rfl ?_
                refine sg_iload_n (pc := 120) (x := nI c) hC dX7_range_120 rfl ?_
                refine sg_bipush (pc := 121) (nI 48) hC dX7_range_121 (by decide) ?_
                refine sg_isubN (pc := 123) (a := c) (b := 48) hC dX7_range_123 (by first | omega | exact Nat.lt_of_le_of_lt Nat.and_le_left (by omega) | exact Nat.or_lt_two_pow (n := 16) (by omega) (by omega)) ?_
                refine md_iast (pc := 124) (i := 9) (j := p) (v := c - 48) hC dX7_range_124 hI rfl (by first | omega | exact Nat.lt_of_le_of_lt Nat.and_le_left (by omega) | exact Nat.or_lt_two_pow (n := 16) (by omega) (by omega)) (by decide) (by first | omega | exact Nat.lt_of_le_of_lt Nat.and_le_left (by omega) | exact Nat.or_lt_two_pow (n := 16) (by omega) (by omega)) (fun M hI => ?_)
                refine sg_iload_n (pc := 125) (x := nI q) hC dX7_range_125 rfl ?_
                refine sg_bipush (pc := 126) (nI 14) hC dX7_range_126 (by decide) ?_
                refine sg_icmpN_ne (pc := 128) (a := q) (b := 14) 136 hC dX7_range_128 (by decide) (by first | omega | exact Nat.lt_of_le_of_lt Nat.and_le_left (by omega) | exact Nat.or_lt_two_pow (n := 16) (by omega) (by omega)) (by first | omega | exact Nat.lt_of_le_of_lt Nat.and_le_left (by omega) | exact Nat.or_lt_two_pow (n := 16) (by omega) (by omega)) (fun _ => ?_) (fun h31 => by exfalso; omega)
                refine sg_bipush (pc := 136) (nI 17) hC dX7_range_136 (by decide) ?_
                have e9 : md_range N p q c = (some 17, (md_set (md_set N 8 p (N 8 p)) 9 p (c - 48))) := by rw [md_range]; simp only [if_pos h1, if_pos h17, if_pos h18, if_neg h21, if_pos h22, if_pos h28, if_neg h29]
                rw [e9] at hk
                exact sg_ireturn (st := []) (v := md_o (some 17)) (pc := 138) hC hR dX7_range_138 (hk M hI)
              · refine sg_iload_n (pc := 101) (x := nI c) hC dX7_range_101 rfl ?_
                refine sg_bipush (pc := 102) (nI 48) hC dX7_range_102 (by decide) ?_
                refine sg_isubN (pc := 104) (a := c) (b := 48) hC dX7_range_104 (by first | omega | exact Nat.lt_of_le_of_lt Nat.and_le_left (by omega) | exact Nat.or_lt_two_pow (n := 16) (by omega) (by omega)) ?_
                refine sg_goto (pc := 105) 114 hC dX7_range_105 (by decide) ?_
                refine md_iast (pc := 114) (i := 8) (j := p) (v := c - 48) hC dX7_range_114 hI rfl (by first | omega | exact Nat.lt_of_le_of_lt Nat.and_le_left (by omega) | exact Nat.or_lt_two_pow (n := 16) (by omega) (by omega)) (by decide) (by first | omega | exact Nat.lt_of_le_of_lt Nat.and_le_left (by omega) | exact Nat.or_lt_two_pow (n := 16) (by omega) (by omega)) (fun M hI => ?_)
                refine sg_aload_n (pc := 115) (v := .ref x) hC dX7_range_115 rfl rfl ?_
                refine md_get (pc := 116) (i := 9) hC (by decide) tw_1195 dX7_range_116 hI rfl ?_
                refine sg_iload_n (pc := 119) (x := nI p) hC dX7_range_119 rfl ?_
                refine sg_iload_n (pc := 120) (x := nI c) hC dX7_range_120 rfl ?_
                refine sg_bipush (pc := 121) (nI 48) hC dX7_range_121 (by decide) ?_
                refine sg_isubN (pc := 123) (a := c) (b := 48) hC dX7_range_123 (by first | omega | exact Nat.lt_of_le_of_lt Nat.and_le_left (by omega) | exact Nat.or_lt_two_pow (n := 16) (by omega) (by omega)) ?_
                refine md_iast (pc := 124) (i := 9) (j := p) (v := c - 48) hC dX7_range_124 hI rfl (by first | omega | exact Nat.lt_of_le_of_lt Nat.and_le_left (by omega) | exact Nat.or_lt_two_pow (n := 16) (by omega) (by omega)) (by decide) (by first | omega | exact Nat.lt_of_le_of_lt Nat.and_le_left (by omega) | exact Nat.or_lt_two_pow (n := 16) (by omega) (by omega)) (fun M hI => ?_)
                refine sg_iload_n (pc := 125) (x := nI q) hC dX7_range_125 rfl ?_
                refine sg_bipush (pc := 126) (nI 14) hC dX7_range_126 (by decide) ?_
                refine sg_icmpN_ne (pc := 128) (a := q) (b := 14) 136 hC dX7_range_128 (by decide) (by first | omega | exact Nat.lt_of_le_of_lt Nat.and_le_left (by omega) | exact Nat.or_lt_two_pow (n := 16) (by omega) (by omega)) (by first | omega | exact Nat.lt_of_le_of_lt Nat.and_le_left (by omega) | exact Nat.or_lt_two_pow (n := 16) (by omega) (by omega)) (fun h32 => by exfalso; omega) (fun _ => ?_)
                refine sg_bipush (pc := 131) (nI 15) hC dX7_range_131 (by decide) ?_
                refine sg_goto (pc := 133) 138 hC dX7_range_133 (by decide) ?_
                have e9 : md_range N p q c = (some 15, (md_set (md_set N 8 p (c - 48)) 9 p (c - 48))) := by rw [md_range]; simp only [if_pos h1, if_pos h17, if_pos h18, if_neg h21, if_pos h22, if_pos h28, if_pos h29]
                rw [e9] at hk
                exact sg_ireturn (st := []) (v := md_o (some 15)) (pc := 138) hC hR dX7_range_138 (hk M hI)
            · refine sg_iconst (pc := 88) (((-1))) hC dX7_range_88 (by decide) ?_
              have e9 : md_range N p q c = (none, N) := by rw [md_range]; simp only [if_pos h1, if_pos h17, if_pos h18, if_neg h21, if_pos h22, if_neg (Nat.not_le.mpr h28)]
              rw [e9] at hk
              exact sg_ireturn (st := []) (v := md_o none) (pc := 89) hC hR dX7_range_89 (hk M hI)
    · refine sg_aload_n (pc := 12) (v := .ref x) hC dX7_range_12 rfl rfl ?_
      refine md_get (pc := 13) (i := 8) hC (by decide) tw_1194 dX7_range_13 hI rfl ?_
      refine sg_iload_n (pc := 16) (x := nI p) hC dX7_range_16 rfl ?_
      refine sg_iload_n (pc := 17) (x := nI q) hC dX7_range_17 rfl ?_
      refine sg_bipush (pc := 18) (nI 14) hC dX7_range_18 (by decide) ?_
      refine sg_icmpN_ne (pc := 20) (a := q) (b := 14) 27 hC dX7_range_20 (by decide) (by first | omega | exact Nat.lt_of_le_of_lt Nat.and_le_left (by omega) | exact Nat.or_lt_two_pow (n := 16) (by omega) (by omega)) (by first | omega | exact Nat.lt_of_le_of_lt Nat.and_le_left (by omega) | exact Nat.or_lt_two_pow (n := 16) (by omega) (by omega)) (fun h33 => ?_) (fun h33 => ?_)
      · refine sg_aload_n (pc := 27) (v := .ref x) hC dX7_range_27 rfl rfl ?_
        refine md_get (pc := 28) (i := 8) hC (by decide) tw_1194 dX7_range_28 hI rfl ?_
        refine sg_iload_n (pc := 31) (x := nI p) hC dX7_range_31 rfl ?_
        refine md_iald (pc := 32) (i := 8) (j := p) hC dX7_range_32 hI rfl (by first | omega | exact Nat.lt_of_le_of_lt Nat.and_le_left (by omega) | exact Nat.or_lt_two_pow (n := 16) (by omega) (by omega)) (by decide) (fun hv34 => ?_)
        show sg_W X M 0 0 33 [some (.ref x), some (.int (nI p)), some (.int (nI q)), some (.int (nI c))] [.int (nI (N 8 p)), .int (nI p), .ref (ad 8)]
        refine md_iast (pc := 33) (i := 8) (j := p) (v := N 8 p) hC dX7_range_33 hI rfl (by first | omega | exact Nat.lt_of_le_of_lt Nat.and_le_left (by omega) | exact Nat.or_lt_two_pow (n := 16) (by omega) (by omega)) (by decide) (by first | omega | exact Nat.lt_of_le_of_lt Nat.and_le_left (by omega) | exact Nat.or_lt_two_pow (n := 16) (by omega) (by omega)) (fun M hI => ?_)
        refine sg_aload_n (pc := 34) (v := .ref x) hC dX7_range_34 rfl rfl ?_
        refine md_get (pc := 35) (i := 9) hC (by decide) tw_1195 dX7_range_35 hI rfl ?_
        refine sg_iload_n (pc := 38) (x := nI p) hC dX7_range_38 rfl ?_
        refine sg_bipush (pc := 39) (nI 9) hC dX7_range_39 (by decide) ?_
        refine md_iast (pc := 41) (i := 9) (j := p) (v := 9) hC dX7_range_41 hI rfl (by first | omega | exact Nat.lt_of_le_of_lt Nat.and_le_left (by omega) | exact Nat.or_lt_two_pow (n := 16) (by omega) (by omega)) (by decide) (by first | omega | exact Nat.lt_of_le_of_lt Nat.and_le_left (by omega) | exact Nat.or_lt_two_pow (n := 16) (by omega) (by omega)) (fun M hI => ?_)
        refine sg_iload_n (pc := 42) (x := nI q) hC dX7_range_42 rfl ?_
        refine sg_bipush (pc := 43) (nI 14) hC dX7_range_43 (by decide) ?_
        refine sg_icmpN_ne (pc := 45) (a := q) (b := 14) 53 hC dX7_range_45 (by decide) (by first | omega | exact Nat.lt_of_le_of_lt Nat.and_le_left (by omega) | exact Nat.or_lt_two_pow (n := 16) (by omega) (by omega)) (by first | omega | exact Nat.lt_of_le_of_lt Nat.and_le_left (by omega) | exact Nat.or_lt_two_pow (n := 16) (by omega) (by omega)) (fun _ => ?_) (fun h35 => by exfalso; omega)
        refine sg_bipush (pc := 53) (nI 16) hC dX7_range_53 (by decide) ?_
        have e9 : md_range N p q c = (some 16, (md_set (md_set N 8 p (N 8 p)) 9 p 9)) := by rw [md_range]; simp only [if_pos h1, if_neg (Nat.not_le.mpr h17), if_neg h33]
        rw [e9] at hk
        exact sg_ireturn (st := []) (v := md_o (some 16)) (pc := 55) hC hR dX7_range_55 (hk M hI)
      · refine sg_iconst (pc := 23) (nI 0) hC dX7_range_23 (by decide) ?_
        refine sg_goto (pc := 24) 33 hC dX7_range_24 (by decide) ?_
        refine md_iast (pc := 33) (i := 8) (j := p) (v := 0) hC dX7_range_33 hI rfl (by first | omega | exact Nat.lt_of_le_of_lt Nat.and_le_left (by omega) | exact Nat.or_lt_two_pow (n := 16) (by omega) (by omega)) (by decide) (by first | omega | exact Nat.lt_of_le_of_lt Nat.and_le_left (by omega) | exact Nat.or_lt_two_pow (n := 16) (by omega) (by omega)) (fun M hI => ?_)
        refine sg_aload_n (pc := 34) (v := .ref x) hC dX7_range_34 rfl rfl ?_
        refine md_get (pc := 35) (i := 9) hC (by decide) tw_1195 dX7_range_35 hI rfl ?_
        refine sg_iload_n (pc := 38) (x := nI p) hC dX7_range_38 rfl ?_
        refine sg_bipush (pc := 39) (nI 9) hC dX7_range_39 (by decide) ?_
        refine md_iast (pc := 41) (i := 9) (j := p) (v := 9) hC dX7_range_41 hI rfl (by first | omega | exact Nat.lt_of_le_of_lt Nat.and_le_left (by omega) | exact Nat.or_lt_two_pow (n := 16) (by omega) (by omega)) (by decide) (by first | omega | exact Nat.lt_of_le_of_lt Nat.and_le_left (by omega) | exact Nat.or_lt_two_pow (n := 16) (by omega) (by omega)) (fun M hI => ?_)
        refine sg_iload_n (pc := 42) (x := nI q) hC dX7_range_42 rfl ?_
        refine sg_bipush (pc := 43) (nI 14) hC dX7_range_43 (by decide) ?_
        refine sg_icmpN_ne (pc := 45) (a := q) (b := 14) 53 hC dX7_range_45 (by decide) (by first | omega | exact Nat.lt_of_le_of_lt Nat.and_le_left (by omega) | exact Nat.or_lt_two_pow (n := 16) (by omega) (by omega)) (by first | omega | exact Nat.lt_of_le_of_lt Nat.and_le_left (by omega) | exact Nat.or_lt_two_pow (n := 16) (by omega) (by omega)) (fun h36 => by exfalso; omega) (fun _ => ?_)
        refine sg_bipush (pc := 48) (nI 18) hC dX7_range_48 (by decide) ?_
        refine sg_goto (pc := 50) 55 hC dX7_range_50 (by decide) ?_
        have e9 : md_range N p q c = (some 18, (md_set (md_set N 8 p 0) 9 p 9)) := by rw [md_range]; simp only [if_pos h1, if_neg (Nat.not_le.mpr h17), if_pos h33]
        rw [e9] at hk
        exact sg_ireturn (st := []) (v := md_o (some 18)) (pc := 55) hC hR dX7_range_55 (hk M hI)
