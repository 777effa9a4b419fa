/-! ===== the bounds stay ===== -/
def WB (N : Nat → Nat → Nat) : Prop := ∀ i j, ¬ (i = 0 ∨ i = 10 ∨ i = 11) → N i j ≤ wb i
theorem WN.wb {N : Nat → Nat → Nat} (h : WN N) : WB N := fun i j _ => h i j
theorem WB.wn {N : Nat → Nat → Nat} (h : WB N) (hl : ∀ i j, N i j < 65536) : WN N := by
  intro i j
  by_cases e : i = 0 ∨ i = 10 ∨ i = 11
  · have := hl i j
    rcases e with rfl | rfl | rfl
    all_goals exact Nat.le_of_lt_succ this
  · exact h i j e
theorem WB.set {N : Nat → Nat → Nat} (h : WB N) {i j v : Nat} (hv : v ≤ wb i) : WB (md_set N i j v) := by
  intro a b hab
  by_cases e : a = i ∧ b = j
  · obtain ⟨rfl, rfl⟩ := e
    rw [mset_eq]
    exact hv
  · rw [mset_ne e]
    exact h a b hab
theorem WB.z {N : Nat → Nat → Nat} (h : WB N) {c : Nat} : WB (md_set N 0 0 c) := fun a b hab => by
  rw [mset_ne (by omega)]
  exact h a b hab
theorem WB.copy {N : Nat → Nat → Nat} (h : WB N) {u v : Nat} : WB (md_copy N u v) := by
  unfold md_copy
  have h1 : WB (md_set (md_set (md_set (md_set (md_set (md_set (md_set N 3 v (N 3 u)) 4 v (N 4 u)) 6 v (N 6 u)) 7 v (N 7 u)) 8 v (N 8 u)) 9 v (N 9 u)) 5 ((3 * v) + 0) (N 5 ((3 * u) + 0))) := ((((((h.set (h 3 u (by decide))).set (h 4 u (by decide))).set (h 6 u (by decide))).set (h 7 u (by decide))).set (h 8 u (by decide))).set (h 9 u (by decide))).set (h 5 _ (by decide))
  have h2 := h1.set (i := 5) (j := (3 * v) + 1) (h1 5 ((3 * u) + 1) (by decide))
  exact h2.set (h2 5 _ (by decide))
theorem WB.mayDo1 : ∀ (f : Nat) (N : Nat → Nat → Nat) (s q : Nat) (b : Bool) (k : Nat), WB N → WB (md_mayDo1 f N s q b k).2 := by
  intro f
  induction f with
  | zero => intro N s q b k h; exact h
  | succ f ih =>
    intro N s q b k h
    rw [md_mayDo1]
    have h0 : WB (md_set N 7 85 (N 7 q &&& 1 <<< k)) := h.set (Nat.le_trans Nat.and_le_left (h 7 q (by decide)))
    repeat' split
    all_goals first | exact h | exact ih _ _ _ _ _ h0
theorem WB.mayDo {N : Nat → Nat → Nat} (h : WB N) (s q : Nat) : WB (md_mayDo N s q).2 := by
  unfold md_mayDo
  repeat' split
  · exact h
  · exact WB.mayDo1 _ _ _ _ _ _ h.copy
  · exact WB.mayDo1 _ _ _ _ _ _ h.copy
theorem WB.blame {N : Nat → Nat → Nat} (h : WB N) (w q : Nat) : WB (md_blame N w q).2 := by
  have key : ∀ (f s : Nat) (N : Nat → Nat → Nat), WB N → WB (md_blame1 f N w q s).2 := by
    intro f
    induction f with
    | zero => intro s N h; exact h
    | succ f ih =>
      intro s N h
      rw [md_blame1]
      repeat' split
      all_goals first | exact h | exact ih _ _ h | exact ih _ _ (h.mayDo _ _) | exact h.mayDo _ _
  exact key 7 0 N h
theorem WB.go {N : Nat → Nat → Nat} {p q c : Nat} (h : WB N) (hn : q = 0 ∨ q = 2 ∨ q = 3 ∨ q = 10 ∨ q = 11 ∨ q = 12 ∨ q = 20 ∨ q = 23 → N 4 p < 3) (hq : q < 24) : WB (md_go N p q c).2 := by
  have hlab : ∀ n, N 4 p < 3 → WB (md_labelled N p c n).2 := by
    intro n h4
    unfold md_labelled
    rw [md_isLabel_e]
    cases hl : isl c with
    | false => exact h
    | true =>
      have hr := isl_r hl
      show WB (md_addLabel N p c)
      unfold md_addLabel
      exact (h.set (show c - 97 ≤ 8 by omega)).set (show N 4 p + 1 ≤ 3 by omega)
  have hb : WB (md_begin N p c).2 := by
    unfold md_begin
    repeat' split
    all_goals exact h.set (by decide)
  have hL : WB (md_letter N p c).2 := by
    unfold md_letter
    repeat' split
    · exact h
    · have h7 : N 7 p < 16 := Nat.lt_succ_of_le (h 7 p (by decide))
      have h8 : md_letterOf c < 16 := by
        unfold md_letterOf
        repeat' split
        all_goals decide
      exact h.set (Nat.le_of_lt_succ (Nat.or_lt_two_pow (n := 4) h7 h8))
    · exact h
  have hst : ∀ w n, w ≤ 2 → WB (md_starred N p w n).2 := fun w n hw => h.set (i := 6) hw
  have h8 := h 8 p (by decide)
  have hr : ∀ q, WB (md_range N p q c).2 := by
    intro q
    unfold md_range
    cases hd : md_isDigit c with
    | false =>
      repeat' split
      all_goals first | exact h | exact (h.set (by decide)).set (by decide) | exact (h.set h8).set (by decide) | exact absurd ‹false = true› (by decide)
    | true =>
      have hdr := dig_r hd
      have hdv : c - 48 ≤ 9 := by omega
      repeat' split
      all_goals first | exact h | exact (h.set (i := 8) hdv).set (i := 9) hdv | exact (h.set (i := 8) h8).set (i := 9) hdv | exact (h.set (i := 8) (by decide)).set (i := 9) (by decide) | exact (h.set (i := 8) h8).set (i := 9) (by decide)
  have h9 : q = 0 ∨ q = 1 ∨ q = 2 ∨ q = 3 ∨ q = 4 ∨ q = 5 ∨ q = 6 ∨ q = 7 ∨ q = 8 ∨ q = 9 ∨ q = 10 ∨ q = 11 ∨ q = 12 ∨ q = 13 ∨ q = 14 ∨ q = 15 ∨ q = 16 ∨ q = 18 ∨ q = 17 ∨ q = 19 ∨ q = 20 ∨ q = 21 ∨ q = 22 ∨ q = 23 := by omega
  rcases h9 with rfl | rfl | rfl | rfl | rfl | rfl | rfl | rfl | rfl | rfl | rfl | rfl | rfl | rfl | rfl | rfl | rfl | rfl | rfl | rfl | rfl | rfl | rfl | rfl
  all_goals
    simp only [md_go, md_path, md_host]
    simp
    first
      | exact hb
      | exact hL
      | exact h
      | exact hr _
      | exact hlab _ (hn (by omega))
      | (repeat' split
         all_goals first | exact h | exact hst 1 0 (by decide) | exact hst 2 0 (by decide) | exact hlab _ (hn (by omega)))
theorem WB.read1 {p : Nat} : ∀ (f : Nat) (N : Nat → Nat → Nat) (q k : Nat), WB N → (q = 0 ∨ q = 2 ∨ q = 3 ∨ q = 10 ∨ q = 11 ∨ q = 12 ∨ q = 20 ∨ q = 23 → N 4 p < 3) → q < 24 → WB (md_read1 f N p q k).2 := by
  intro f
  induction f with
  | zero => intro N q k h _ _; exact h
  | succ f ih =>
    intro N q k h hn hq
    rw [md_read1]
    by_cases hk : N 1 0 ≤ k
    · rw [if_pos hk]
      split <;> exact h
    · rw [if_neg hk]
      have ho := md_gok_go (N := N) (p := p) (q := q) (c := N 2 k) hq (h 4 p (by decide)) hn
      have hg := h.go (c := N 2 k) hn hq
      cases hr : (md_go N p q (N 2 k)).1 with
      | none => exact hg
      | some q' =>
        rw [hr] at ho
        obtain ⟨-, -, o3⟩ := ho
        obtain ⟨o4, -, o6⟩ := o3 q' rfl
        exact ih _ _ _ hg o6 o4
theorem WB.read {N : Nat → Nat → Nat} (h : WB N) (p : Nat) : WB (md_read N p).2 := by
  unfold md_read
  refine WB.read1 _ _ _ _ ((((((h.set (by decide)).set (by decide)).set (by decide)).set (by decide)).set (by decide)).set (by decide)) (fun _ => ?_) (by decide)
  rw [mset_ne (by omega), mset_ne (by omega), mset_ne (by omega), mset_ne (by omega), mset_ne (by omega), mset_eq]
  decide
theorem WB.revoke1 {s : Nat} : ∀ (f : Nat) (N : Nat → Nat → Nat) (k : Nat), WB N → WB (md_revoke1 f N s k).2 := by
  intro f
  induction f with
  | zero => intro N k h; exact h
  | succ f ih =>
    intro N k h
    rw [md_revoke1]
    split
    · exact h.set (Nat.le_trans (Nat.sub_le _ _) (h 12 s (by decide)))
    · exact ih _ _ h.copy
section WBO
variable {N : Nat → Nat → Nat}
theorem WB_type (h : WB N) (c : Nat) : WB (md_type N c).2 := by
  unfold md_type
  have h1 : N 1 0 ≤ 16 := h 1 0 (by decide)
  by_cases a1 : c < 32
  · rw [if_pos a1]; exact h.z
  by_cases a2 : 126 < c
  · rw [if_neg a1, if_pos a2]; exact h.z
  by_cases a3 : N 1 0 = 16
  · rw [if_neg a1, if_neg a2, if_pos a3]; exact h.z
  rw [if_neg a1, if_neg a2, if_neg a3]
  exact (h.z.set (i := 2) (show c ≤ 127 by omega)).set (i := 1) (show N 1 0 + 1 ≤ 16 by omega)
theorem WB_keep (h : WB N) (v : Int32) : WB (md_keep N v).2 := by
  unfold md_keep
  split
  · cases (md_read (md_set N 0 0 0) 84).1 with
    | none => exact (((h.z).read 84).set (i := 1) (by decide)).copy
    | some q => exact ((h.z).read 84).set (i := 1) (by decide)
  · exact h.z.z
theorem WB_written (h : WB N) (hw : WN N) (u v : Int32) (hs : md_isSlot N u = true → wq (rq N u.toNatClampNeg)) : WB (md_written N u v).2 := by
  unfold md_written
  cases hsl : md_isSlot (md_set N 0 0 0) u with
  | false => exact h.z.z
  | true =>
    have hwt := write_ok (N := md_set N 0 0 0) (p := u.toNatClampNeg) (hw 4 _) (hs hsl)
    have hb : WB (md_write (md_set N 0 0 0) u.toNatClampNeg) := fun i j hij => by
      rw [hwt.1 i (by omega) (by omega)]
      exact h.z i j hij
    rw [if_pos rfl]
    split <;> exact hb
theorem WB_takesIn (h : WB N) (u v : Int32) : WB (md_takesIn N u v).2 := by
  unfold md_takesIn
  repeat' split
  all_goals exact h.z
theorem WB_grant (h : WB N) (u v : Int32) : WB (md_grant N u v).2 := by
  unfold md_grant
  have h12 : N 12 u.toNatClampNeg ≤ 6 := h 12 _ (by decide)
  repeat' split
  · exact h.z.z
  · rename_i hne
    exact (h.z.copy).set (i := 12) (show _ ≤ 6 by omega)
  · exact h.z.z
  · exact h.z.z
theorem WB_revoke (h : WB N) (u v : Int32) : WB (md_revoke N u v).2 := by
  unfold md_revoke
  repeat' split
  · exact WB.revoke1 _ _ _ h.z
  · exact h.z.z
  · exact h.z.z
theorem WB_may (h : WB N) (u v : Int32) : WB (md_may N u v).2 := by
  unfold md_may
  repeat' split
  all_goals first | exact h.z.mayDo _ _ | exact h.z
theorem WB_enter (h : WB N) (u v : Int32) : WB (md_enter N u v).2 := by
  unfold md_enter
  have h15 : N 15 u.toNatClampNeg ≤ 10 := h 15 _ (by decide)
  cases ht : md_isThread (md_set N 0 0 0) u with
  | false => exact h.z.z
  | true =>
    cases hi : md_in v (nI 0) (nI 5) with
    | false => exact h.z.z
    | true =>
      simp only [if_true]
      by_cases e : N 15 u.toNatClampNeg = 10
      · rw [if_pos e]; exact h.z.z
      · rw [if_neg e]
        have hv := (md_in_nat hi (by decide)).2
        exact ((h.z.set (i := 16) (show v.toNatClampNeg ≤ 5 by omega)).set (i := 17) (by decide)).set (i := 15) (show N 15 u.toNatClampNeg + 1 ≤ 10 by omega)
theorem WB_leave (h : WB N) (u : Int32) : WB (md_leave N u).2 := by
  unfold md_leave
  have h15 : N 15 u.toNatClampNeg - 1 ≤ 10 := Nat.le_trans (Nat.sub_le _ _) (h 15 _ (by decide))
  repeat' split
  · exact h.z.z
  · exact h.z.set (i := 15) h15
  · exact (h.z.set (i := 15) h15).set (i := 17) (by decide)
  · exact h.z.z
theorem WB_walk (h : WB N) (u v : Int32) : WB (md_walk N u v).2 := by
  unfold md_walk
  repeat' split
  all_goals first | exact h.z | exact h.z.z
theorem WB_end (h : WB N) (u : Int32) : WB (md_end N u).2 := by
  unfold md_end
  repeat' split
  · exact h.z.z
  · exact h.z.set (i := 13) (by decide)
  · exact h.z.z
theorem WB_combine (h : WB N) (u v : Int32) : WB (md_combine N u v).2 := by
  unfold md_combine
  have h20 : ∀ a b, N 20 a ||| N 20 b ≤ 63 := fun a b => Nat.le_of_lt_succ (or64 (Nat.lt_succ_of_le (h 20 a (by decide))) (Nat.lt_succ_of_le (h 20 b (by decide))))
  repeat' split
  · exact h.z.z
  · exact (h.z.set (i := 20) (h20 _ _)).set (i := 19) (by decide)
  · exact (h.z.set (i := 20) (h20 _ _)).set (i := 19) (by decide)
  · exact h.z.z
  · exact h.z.z
theorem WB_note (h : WB N) (u v : Int32) : WB (md_note N u v).2 := by
  unfold md_note
  repeat' split
  all_goals first | exact h.z | exact h.z.z
theorem WB_idle (h : WB N) (u : Int32) : WB (md_idle N u).2 := by
  have key : ∀ (f : Nat) (N : Nat → Nat → Nat) (s n i : Nat) (b : Bool) (j : Nat), WB N → WB (md_idle1 f N s n i b j).2 := by
    intro f
    induction f with
    | zero => intro N s n i b j h; exact h
    | succ f ih =>
      intro N s n i b j h
      rw [md_idle1]
      repeat' split
      all_goals first | exact h | exact ih _ _ _ _ _ _ h
  unfold md_idle
  repeat' split
  all_goals first | exact h.z | exact h.z.z | exact key _ _ _ _ _ _ _ h.z
theorem WB_capture (h : WB N) (hw : WN N) (u : Int32) : WB (md_capture N u).2 := by
  unfold md_capture
  split
  · cases hl : k_lowCtx (md_set N 0 0 0) with
    | none => rw [(capture_eq (N := md_set N 0 0 0)).2 hl]; exact h.z.z
    | some c =>
      obtain ⟨-, -, e⟩ := (capture_eq (N := md_set N 0 0 0) (t := u.toNatClampNeg)).1 c hl
      rw [e]
      exact (h.z.set (i := 19) (by decide)).set (i := 20) (Nat.le_of_lt_succ (walked_lt ((hw.set (i := 0) (j := 0) (v := 0) (Nat.zero_le _)).set (i := 19) (j := c) (v := 1) (by decide))))
  · exact h.z.z
theorem WB_spawn (h : WB N) (hw : WN N) (u : Int32) : WB (md_spawn N u).2 := by
  unfold md_spawn
  split
  · cases hl : k_lowThr (md_set N 0 0 0) with
    | none => rw [(spawn_eq (N := md_set N 0 0 0)).2 hl]; exact h.z.z
    | some c =>
      obtain ⟨-, -, e⟩ := (spawn_eq (N := md_set N 0 0 0) (t := u.toNatClampNeg)).1 c hl
      rw [e]
      exact ((h.z.set (i := 13) (by decide)).set (i := 14) (Nat.le_of_lt_succ (walked_lt ((hw.set (i := 0) (j := 0) (v := 0) (Nat.zero_le _)).set (i := 13) (j := c) (v := 1) (by decide))))).set (i := 15) (by decide)
  · exact h.z.z
theorem WB.noteDown (h : WB N) {t s : Nat} (ht : t ≤ 3) (hs : s ≤ 5) : WB (md_noteDown N t s) := by
  have h22 : ∀ j, N 22 j ≤ 5 := fun j => h 22 j (by decide)
  have h21 : N 21 0 ≤ 7 := h 21 0 (by decide)
  unfold md_noteDown
  have ht2 : t ≤ 5 := by omega
  have hc : WB (md_set (md_set (md_set (md_set (md_set (md_set (md_set (md_set (md_set (md_set (md_set (md_set (md_set (md_set N 22 13 (N 22 11)) 22 12 (N 22 10)) 22 11 (N 22 9)) 22 10 (N 22 8)) 22 9 (N 22 7)) 22 8 (N 22 6)) 22 7 (N 22 5)) 22 6 (N 22 4)) 22 5 (N 22 3)) 22 4 (N 22 2)) 22 3 (N 22 1)) 22 2 (N 22 0)) 22 0 t) 22 1 s) :=
    (((((((((((((h.set (i := 22) (h22 _)).set (i := 22) (h22 _)).set (i := 22) (h22 _)).set (i := 22) (h22 _)).set (i := 22) (h22 _)).set (i := 22) (h22 _)).set (i := 22) (h22 _)).set (i := 22) (h22 _)).set (i := 22) (h22 _)).set (i := 22) (h22 _)).set (i := 22) (h22 _)).set (i := 22) (h22 _)).set (i := 22) ht2).set (i := 22) hs
  split
  · exact hc.set (i := 21) (by decide)
  · rename_i h7
    exact hc.set (i := 21) (show N 21 0 + 1 ≤ 7 by omega)
theorem WB_check (h : WB N) (u v : Int32) : WB (md_check N u v).2 := by
  unfold md_check
  cases ht : md_isThread (md_set N 0 0 0) u with
  | false => exact h.z.z
  | true =>
    cases hs : md_isSlot (md_set N 0 0 0) v with
    | false => exact h.z.z
    | true =>
      simp only [if_true]
      have hb := md_sim_blame1 7 (md_set N 0 0 0) (md_walked (md_set N 0 0 0) u.toNatClampNeg (some v.toNatClampNeg)) v.toNatClampNeg 0 (fun r => h 4 r (by decide))
      have hbb := (h.z (c := 0)).blame (md_walked (md_set N 0 0 0) u.toNatClampNeg (some v.toNatClampNeg)) v.toNatClampNeg
      have ht3 : u.toNatClampNeg ≤ 3 := (md_isThread_nat ht).2.1
      cases hr : (md_blame (md_set N 0 0 0) (md_walked (md_set N 0 0 0) u.toNatClampNeg (some v.toNatClampNeg)) v.toNatClampNeg).1 with
      | none => exact hbb
      | some k => exact (hbb.noteDown ht3 (Nat.le_of_lt_succ (hb.2 k hr))).z
theorem WB_allowed (h : WB N) (u : Int32) : WB (md_allowed N u).2 := by
  have key : ∀ (f : Nat) (N : Nat → Nat → Nat) (t n q : Nat), WB N → WB (md_allowed1 f N t n q).2 := by
    intro f
    induction f with
    | zero => intro N t n q h; exact h
    | succ f ih =>
      intro N t n q h
      rw [md_allowed1]
      by_cases h8 : 8 ≤ q
      · rw [if_pos h8]; exact h
      · rw [if_neg h8]
        by_cases h3 : N 3 q ≤ 0
        · rw [if_pos h3]; exact ih _ _ _ _ h
        · rw [if_neg h3]
          cases (md_blame N (md_walked N t (some q)) q).1 with
          | none => exact ih _ _ _ _ (h.blame _ _)
          | some k => exact ih _ _ _ _ (h.blame _ _)
  unfold md_allowed
  split
  · exact key _ _ _ _ _ h.z
  · exact h.z.z
theorem WB_guard (h : WB N) (u c v : Int32) : WB (md_guard N u c v) := by
  have h20 : ∀ j, N 20 j ≤ 63 := fun j => h 20 j (by decide)
  have hz : ∀ c, WB (md_set (md_set N 0 0 0) 0 0 c) := fun c => h.z.z
  have key : ∀ f R, R ≤ 63 → WB (md_set (md_set (md_set (md_set N 0 0 0) 17 f 1) 18 f R) 3 (44 + f) 0) := fun f R hR => ((h.z.set (i := 17) (by decide)).set (i := 18) hR).set (i := 3) (by decide)
  have key0 := fun f => key f 0 (by decide)
  have key1 := fun f j => key f (N 20 j) (h20 j)
  have keyc0 := fun f (s : Nat) => (key0 f).copy (u := s) (v := 44 + f)
  have keyc1 := fun f j (s : Nat) => (key1 f j).copy (u := s) (v := 44 + f)
  unfold md_guard
  cases md_isThread (md_set N 0 0 0) u with
  | false => exact h.z.z
  | true =>
    simp only [if_true]
    by_cases hc : c = -1
    · rw [if_pos hc]
      repeat' split
      all_goals first | with_reducible exact hz _ | with_reducible exact key0 _ | with_reducible exact keyc0 _ _
    · rw [if_neg hc]
      repeat' split
      all_goals first | with_reducible exact hz _ | with_reducible exact key0 _ | with_reducible exact key1 _ _ | with_reducible exact keyc1 _ _ _ | with_reducible exact keyc0 _ _
end WBO
