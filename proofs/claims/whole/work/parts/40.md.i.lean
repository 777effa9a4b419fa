theorem md_walked1_lt {N : Nat → Nat → Nat} (hsr : ∀ r, N 16 r < 6) (hbd : ∀ r, N 18 r < 64) (hmd : ∀ r, N 14 r < 64) : ∀ (f t : Nat) (q : Option Nat) (w k : Nat), w < 64 → md_walked1 f N t q w k < 64 := by
  intro f
  induction f with
  | zero =>
    intro t q w k hw
    exact Nat.zero_lt_succ _
  | succ f ih =>
    intro t q w k hw
    rw [md_walked1_s]
    repeat' split
    all_goals first
      | exact Nat.or_lt_two_pow (n := 6) hw (hmd _)
      | exact ih _ _ _ _ (md_or64 hw (hsr _))
      | exact Nat.or_lt_two_pow (n := 6) (md_or64 hw (hsr _)) (hbd _)
theorem md_walked_lt {N : Nat → Nat → Nat} (hsr : ∀ r, N 16 r < 6) (hbd : ∀ r, N 18 r < 64) (hmd : ∀ r, N 14 r < 64) {t : Nat} {q : Option Nat} : md_walked N t q < 64 := md_walked1_lt hsr hbd hmd _ _ _ _ _ (by decide)
/-- only the record 85 differs -/
def md_sim (N N' : Nat → Nat → Nat) : Prop := (∀ i j, ¬ (3 ≤ i ∧ i ≤ 9 ∧ (j = 85 ∨ (i = 5 ∧ 255 ≤ j ∧ j ≤ 257))) → N' i j = N i j) ∧ ((∀ r, N 4 r ≤ 3) → ∀ r, N' 4 r ≤ 3)
theorem md_sim.rf (N : Nat → Nat → Nat) : md_sim N N := ⟨fun _ _ _ => rfl, fun h => h⟩
theorem md_sim.tr {N N' N'' : Nat → Nat → Nat} (h : md_sim N N') (h' : md_sim N' N'') : md_sim N N'' := ⟨fun i j c => (h'.1 i j c).trans (h.1 i j c), fun a => h'.2 (h.2 a)⟩
theorem md_sim.set {N : Nat → Nat → Nat} (i j v : Nat) (h : 3 ≤ i ∧ i ≤ 9 ∧ (j = 85 ∨ (i = 5 ∧ 255 ≤ j ∧ j ≤ 257))) (h4 : i = 4 → v ≤ 3) : md_sim N (md_set N i j v) := by
  refine ⟨fun a b c => ?_, fun hw r => ?_⟩
  · by_cases ha : a = i
    · subst ha
      rw [md_set_eq]
      by_cases hb : b = j
      · subst hb
        exact absurd h c
      · exact va_up_ne _ _ hb
    · rw [md_set_ne ha]
  · by_cases ha : 4 = i
    · subst ha
      rw [md_set_eq]
      by_cases hb : r = j
      · subst hb
        rw [va_up_self]
        exact h4 rfl
      · rw [va_up_ne _ _ hb]
        exact hw r
    · rw [md_set_ne ha]
      exact hw r
theorem md_sim_copy {N : Nat → Nat → Nat} (u : Nat) (hw : ∀ r, N 4 r ≤ 3) : md_sim N (md_copy N u 85) := by
  unfold md_copy
  refine md_sim.tr ?_ (md_sim.set 5 _ _ (by omega) (by omega))
  refine md_sim.tr ?_ (md_sim.set 5 _ _ (by omega) (by omega))
  refine md_sim.tr ?_ (md_sim.set 5 _ _ (by omega) (by omega))
  refine md_sim.tr ?_ (md_sim.set 9 _ _ (by omega) (by omega))
  refine md_sim.tr ?_ (md_sim.set 8 _ _ (by omega) (by omega))
  refine md_sim.tr ?_ (md_sim.set 7 _ _ (by omega) (by omega))
  refine md_sim.tr ?_ (md_sim.set 6 _ _ (by omega) (by omega))
  refine md_sim.tr ?_ (md_sim.set 4 _ _ (by omega) (fun _ => hw u))
  exact md_sim.set 3 _ _ (by omega) (by omega)
theorem md_sim_mayDo1 : ∀ (f : Nat) (N : Nat → Nat → Nat) (s q : Nat) (b : Bool) (k : Nat), md_sim N (md_mayDo1 f N s q b k).2 := by
  intro f
  induction f with
  | zero =>
    intro N s q b k
    exact md_sim.rf N
  | succ f ih =>
    intro N s q b k
    rw [md_mayDo1_s]
    repeat' split
    all_goals first
      | exact md_sim.rf N
      | exact md_sim.tr (md_sim.set 7 _ _ (by omega) (by omega)) (ih _ _ _ _ _)
theorem md_sim_mayDo {N : Nat → Nat → Nat} {s q : Nat} (hw : ∀ r, N 4 r ≤ 3) : md_sim N (md_mayDo N s q).2 := by
  unfold md_mayDo
  repeat' split
  · exact md_sim.rf N
  · exact md_sim.tr (md_sim_copy q hw) (md_sim_mayDo1 _ _ _ _ _ _)
  · exact md_sim.tr (md_sim_copy q hw) (md_sim_mayDo1 _ _ _ _ _ _)

def md_blame1 : Nat → (Nat → Nat → Nat) → Nat → Nat → Nat → Option Nat × (Nat → Nat → Nat)
  | 0, N, _, _, _ => (none, N)
  | f + 1, N, w, q, s => if 6 ≤ s then (none, N) else if (w >>> s) &&& 1 = 0 then md_blame1 f N w q (s + 1) else if (md_mayDo N s q).1 = true then md_blame1 f (md_mayDo N s q).2 w q (s + 1) else (some s, (md_mayDo N s q).2)
theorem md_blame1_s (f : Nat) (N : Nat → Nat → Nat) (w : Nat) (q : Nat) (s : Nat) : md_blame1 (f + 1) N w q s = if 6 ≤ s then (none, N) else if (w >>> s) &&& 1 = 0 then md_blame1 f N w q (s + 1) else if (md_mayDo N s q).1 = true then md_blame1 f (md_mayDo N s q).2 w q (s + 1) else (some s, (md_mayDo N s q).2) := rfl
set_option maxHeartbeats 4000000 in
set_option maxRecDepth 100000 in
theorem mm_blame1 {X : sg_X} {l : Launch} {G : sg_G} {d : Nat} {M0 : sg_M} {x : Nat} {ad : Nat → Nat} {kr : Option Value → sg_M → Prop} {kx : String → sg_M → Prop} (htr : l.stackTraces = false) (hC : sg_C X l G cX7_blame RX7 4 (d + 6)) (hR : sg_R X yX7_blame kr kx (some .int)) : ∀ (f : Nat) (w : Nat) (q : Nat) (s : Nat) (N : Nat → Nat → Nat) {M : sg_M} (hI : md_I M0 M x ad N) (hf : 6 - s < f) (hw6 : w < 64) (hq : q < 85) (hs : s ≤ 6) (hw : ∀ r, N 4 r ≤ 3) (hg : ∀ r, N 12 r ≤ 6) (hk : ∀ M', md_I M0 M' x ad (md_blame1 f N w q s).2 → kr (some (.int (md_o (md_blame1 f N w q s).1))) M'), sg_W X M 0 0 2 [some (.ref x), some (.int (nI w)), some (.int (nI q)), some (.int (nI s))] [] := by
  intro f
  induction f with
  | zero =>
    intro w q s N M hI hf
    exact absurd hf (Nat.not_lt_zero _)
  | succ f ih =>
    intro w q s N M hI hf hw6 hq hs hw hg hk
    refine sg_iload_n (pc := 2) (x := nI s) hC dX7_blame_2 rfl ?_
    refine sg_bipush (pc := 3) (nI 6) hC dX7_blame_3 (by decide) ?_
    refine sg_icmpN_ge (pc := 5) (a := s) (b := 6) 31 hC dX7_blame_5 (by decide) (by first | omega | exact Nat.lt_of_le_of_lt Nat.and_le_left (by omega) | exact Nat.or_lt_two_pow (n := 16) (by omega) (by omega) | (simp [md_set, va_up]; done) | (simp [md_set, va_up]; omega) | exact Nat.or_lt_two_pow (n := 6) (by omega) (by omega)) (by first | omega | exact Nat.lt_of_le_of_lt Nat.and_le_left (by omega) | exact Nat.or_lt_two_pow (n := 16) (by omega) (by omega) | (simp [md_set, va_up]; done) | (simp [md_set, va_up]; omega) | exact Nat.or_lt_two_pow (n := 6) (by omega) (by omega)) (fun h1 => ?_) (fun h1 => ?_)
    · refine sg_iload_n (pc := 31) (x := nI s) hC dX7_blame_31 rfl ?_
      refine sg_bipush (pc := 32) (nI 6) hC dX7_blame_32 (by decide) ?_
      refine sg_icmpN_ge (pc := 34) (a := s) (b := 6) 41 hC dX7_blame_34 (by decide) (by first | omega | exact Nat.lt_of_le_of_lt Nat.and_le_left (by omega) | exact Nat.or_lt_two_pow (n := 16) (by omega) (by omega) | (simp [md_set, va_up]; done) | (simp [md_set, va_up]; omega) | exact Nat.or_lt_two_pow (n := 6) (by omega) (by omega)) (by first | omega | exact Nat.lt_of_le_of_lt Nat.and_le_left (by omega) | exact Nat.or_lt_two_pow (n := 16) (by omega) (by omega) | (simp [md_set, va_up]; done) | (simp [md_set, va_up]; omega) | exact Nat.or_lt_two_pow (n := 6) (by omega) (by omega)) (fun _ => ?_) (fun h2 => by exfalso; omega)
      refine sg_iconst (pc := 41) (((-1))) hC dX7_blame_41 (by decide) ?_
      have e9 : md_blame1 (f + 1) N w q s = (none, N) := by rw [md_blame1_s]; simp only [if_pos h1]
      rw [e9] at hk
      exact sg_ireturn (st := []) (v := md_o none) (pc := 42) hC hR dX7_blame_42 (hk M hI)
    · refine sg_iload_n (pc := 8) (x := nI w) hC dX7_blame_8 rfl ?_
      refine sg_iload_n (pc := 9) (x := nI s) hC dX7_blame_9 rfl ?_
      refine sg_ishrN (pc := 10) (a := w) (b := s) hC dX7_blame_10 (by first | omega | exact Nat.lt_of_le_of_lt Nat.and_le_left (by omega) | exact Nat.or_lt_two_pow (n := 16) (by omega) (by omega) | (simp [md_set, va_up]; done) | (simp [md_set, va_up]; omega) | exact Nat.or_lt_two_pow (n := 6) (by omega) (by omega)) (by omega) ?_
      refine sg_iconst (pc := 11) (nI 1) hC dX7_blame_11 (by decide) ?_
      refine sg_iandN (pc := 12) (a := w >>> s) (b := 1) hC dX7_blame_12 ?_
      refine sg_ifN_eq (pc := 13) (a := (w >>> s) &&& 1) 25 hC dX7_blame_13 (by decide) (by first | omega | exact Nat.lt_of_le_of_lt Nat.and_le_left (by omega) | exact Nat.or_lt_two_pow (n := 16) (by omega) (by omega) | (simp [md_set, va_up]; done) | (simp [md_set, va_up]; omega) | exact Nat.or_lt_two_pow (n := 6) (by omega) (by omega)) (fun h3 => ?_) (fun h3 => ?_)
      · refine sg_iincN (pc := 25) (a := s) (b := s + 1) hC dX7_blame_25 rfl (nI_1 _) (by decide) ?_
        show sg_W X M 0 0 28 [some (.ref x), some (.int (nI w)), some (.int (nI q)), some (.int (nI (s + 1)))] []
        refine sg_goto (pc := 28) 2 hC dX7_blame_28 (by decide) ?_
        have e9 : md_blame1 (f + 1) N w q s = md_blame1 f N w q (s + 1) := by rw [md_blame1_s]; simp only [if_neg (Nat.not_le.mpr h1), if_pos h3]
        rw [e9] at hk
        refine sg_loc (L' := [some (.ref x), some (.int (nI w)), some (.int (nI q)), some (.int (nI ((s + 1))))]) ⟨rfl, ⟨rfl, ⟨rfl, ⟨rfl, trivial⟩⟩⟩⟩ ?_
        exact ih w q (s + 1) _ hI (by first | omega | exact Nat.lt_of_le_of_lt Nat.and_le_left (by omega) | exact Nat.or_lt_two_pow (n := 16) (by omega) (by omega) | (simp [md_set, va_up]; done) | (simp [md_set, va_up]; omega) | exact Nat.or_lt_two_pow (n := 6) (by omega) (by omega)) (by first | omega | exact Nat.lt_of_le_of_lt Nat.and_le_left (by omega) | exact Nat.or_lt_two_pow (n := 16) (by omega) (by omega) | (simp [md_set, va_up]; done) | (simp [md_set, va_up]; omega) | exact Nat.or_lt_two_pow (n := 6) (by omega) (by omega)) (by first | omega | exact Nat.lt_of_le_of_lt Nat.and_le_left (by omega) | exact Nat.or_lt_two_pow (n := 16) (by omega) (by omega) | (simp [md_set, va_up]; done) | (simp [md_set, va_up]; omega) | exact Nat.or_lt_two_pow (n := 6) (by omega) (by omega)) (by first | omega | exact Nat.lt_of_le_of_lt Nat.and_le_left (by omega) | exact Nat.or_lt_two_pow (n := 16) (by omega) (by omega) | (simp [md_set, va_up]; done) | (simp [md_set, va_up]; omega) | exact Nat.or_lt_two_pow (n := 6) (by omega) (by omega)) hw hg hk
      · refine sg_aload_n (pc := 16) (v := .ref x) hC dX7_blame_16 rfl rfl ?_
        refine sg_iload_n (pc := 17) (x := nI s) hC dX7_blame_17 rfl ?_
        refine sg_iload_n (pc := 18) (x := nI q) hC dX7_blame_18 rfl ?_
        refine sg_callV (pc := 19) (As := [.int (nI s), .int (nI q)]) (rest := []) (mc := 0) (ms := 0) hC tw_1389 tw_1391 tw_54 tw_72 tw_1392 yd_X7_mayDo (by decide) (ci := 10) rfl dX7_blame_19 hI.x rfl (Nat.le_of_ble_eq_true rfl) (Nat.zero_le _) (Nat.zero_le _) ?_
        refine mm_mayDo htr hI s q (by first | omega | exact Nat.lt_of_le_of_lt Nat.and_le_left (by omega) | exact Nat.or_lt_two_pow (n := 16) (by omega) (by omega) | (simp [md_set, va_up]; done) | (simp [md_set, va_up]; omega) | exact Nat.or_lt_two_pow (n := 6) (by omega) (by omega)) (by first | omega | exact Nat.lt_of_le_of_lt Nat.and_le_left (by omega) | exact Nat.or_lt_two_pow (n := 16) (by omega) (by omega) | (simp [md_set, va_up]; done) | (simp [md_set, va_up]; omega) | exact Nat.or_lt_two_pow (n := 6) (by omega) (by omega)) hw hg (fun M hI => ?_)
        show sg_W X M 0 0 22 [some (.ref x), some (.int (nI w)), some (.int (nI q)), some (.int (nI s))] [.int (md_b ((md_mayDo N s q).1))]
        have hsim : md_sim N (md_mayDo N s q).2 := md_sim_mayDo hw
        have hw9 : ∀ r, (md_mayDo N s q).2 4 r ≤ 3 := hsim.2 hw
        have hg9 : ∀ r, (md_mayDo N s q).2 12 r ≤ 6 := fun r9 => by rw [hsim.1 12 r9 (by omega)]; exact hg r9
        refine sg_ifB_eq (pc := 22) (b := (md_mayDo N s q).1) 31 hC dX7_blame_22 (by decide) (fun h4 => ?_) (fun h4 => ?_)
        · refine sg_iload_n (pc := 31) (x := nI s) hC dX7_blame_31 rfl ?_
          refine sg_bipush (pc := 32) (nI 6) hC dX7_blame_32 (by decide) ?_
          refine sg_icmpN_ge (pc := 34) (a := s) (b := 6) 41 hC dX7_blame_34 (by decide) (by first | omega | exact Nat.lt_of_le_of_lt Nat.and_le_left (by omega) | exact Nat.or_lt_two_pow (n := 16) (by omega) (by omega) | (simp [md_set, va_up]; done) | (simp [md_set, va_up]; omega) | exact Nat.or_lt_two_pow (n := 6) (by omega) (by omega)) (by first | omega | exact Nat.lt_of_le_of_lt Nat.and_le_left (by omega) | exact Nat.or_lt_two_pow (n := 16) (by omega) (by omega) | (simp [md_set, va_up]; done) | (simp [md_set, va_up]; omega) | exact Nat.or_lt_two_pow (n := 6) (by omega) (by omega)) (fun h5 => by exfalso; omega) (fun _ => ?_)
          refine sg_iload_n (pc := 37) (x := nI s) hC dX7_blame_37 rfl ?_
          refine sg_goto (pc := 38) 42 hC dX7_blame_38 (by decide) ?_
          have e9 : md_blame1 (f + 1) N w q s = (some s, (md_mayDo N s q).2) := by rw [md_blame1_s]; simp only [if_neg (Nat.not_le.mpr h1), if_neg h3, if_neg (ts9 h4)]
          rw [e9] at hk
          exact sg_ireturn (st := []) (v := md_o (some s)) (pc := 42) hC hR dX7_blame_42 (hk M hI)
        · refine sg_iincN (pc := 25) (a := s) (b := s + 1) hC dX7_blame_25 rfl (nI_1 _) (by decide) ?_
          show sg_W X M 0 0 28 [some (.ref x), some (.int (nI w)), some (.int (nI q)), some (.int (nI (s + 1)))] []
          refine sg_goto (pc := 28) 2 hC dX7_blame_28 (by decide) ?_
          have e9 : md_blame1 (f + 1) N w q s = md_blame1 f (md_mayDo N s q).2 w q (s + 1) := by rw [md_blame1_s]; simp only [if_neg (Nat.not_le.mpr h1), if_neg h3, if_pos h4]
          rw [e9] at hk
          refine sg_loc (L' := [some (.ref x), some (.int (nI w)), some (.int (nI q)), some (.int (nI ((s + 1))))]) ⟨rfl, ⟨rfl, ⟨rfl, ⟨rfl, trivial⟩⟩⟩⟩ ?_
          exact ih w q (s + 1) _ hI (by first | omega | exact Nat.lt_of_le_of_lt Nat.and_le_left (by omega) | exact Nat.or_lt_two_pow (n := 16) (by omega) (by omega) | (simp [md_set, va_up]; done) | (simp [md_set, va_up]; omega) | exact Nat.or_lt_two_pow (n := 6) (by omega) (by omega)) (by first | omega | exact Nat.lt_of_le_of_lt Nat.and_le_left (by omega) | exact Nat.or_lt_two_pow (n := 16) (by omega) (by omega) | (simp [md_set, va_up]; done) | (simp [md_set, va_up]; omega) | exact Nat.or_lt_two_pow (n := 6) (by omega) (by omega)) (by first | omega | exact Nat.lt_of_le_of_lt Nat.and_le_left (by omega) | exact Nat.or_lt_two_pow (n := 16) (by omega) (by omega) | (simp [md_set, va_up]; done) | (simp [md_set, va_up]; omega) | exact Nat.or_lt_two_pow (n := 6) (by omega) (by omega)) (by first | omega | exact Nat.lt_of_le_of_lt Nat.and_le_left (by omega) | exact Nat.or_lt_two_pow (n := 16) (by omega) (by omega) | (simp [md_set, va_up]; done) | (simp [md_set, va_up]; omega) | exact Nat.or_lt_two_pow (n := 6) (by omega) (by omega)) (by intro r9; first | exact hw r9 | (show N 4 r9 ≤ 3; exact hw r9) | exact hw9 r9) (by intro r9; first | exact hg r9 | (show N 12 r9 ≤ 6; exact hg r9) | exact hg9 r9) hk

def md_blame (N : Nat → Nat → Nat) (w : Nat) (q : Nat) : Option Nat × (Nat → Nat → Nat) := md_blame1 (7) N w q 0
set_option maxHeartbeats 4000000 in
set_option maxRecDepth 100000 in
theorem mm_blame {l : Launch} {G : sg_G} {d : Nat} {M0 M : sg_M} {x : Nat} {ad : Nat → Nat} {N : Nat → Nat → Nat} {kr : Option Value → sg_M → Prop} {kx : String → sg_M → Prop} (htr : l.stackTraces = false) (hI : md_I M0 M x ad N) (w : Nat) (q : Nat) (hw6 : w < 64) (hq : q < 85) (hw : ∀ r, N 4 r ≤ 3) (hg : ∀ r, N 12 r ≤ 6) (hk : ∀ M', md_I M0 M' x ad (md_blame N w q).2 → kr (some (.int (md_o (md_blame N w q).1))) M') : sg_Met l G yX7_blame cX7_blame 4 (some .int) (d + 6) 0 0 [.ref x, .int (nI w), .int (nI q)] M kr kx := by
  refine sg_enter [some (.ref x), some (.int (nI w)), some (.int (nI q)), none] (by decide) htr (Nat.le_of_ble_eq_true rfl) rfl ?_
  intro X hC hR
  have hC : sg_C X l G cX7_blame RX7 4 (d + 6) := hC
  refine sg_iconst (pc := 0) (nI 0) hC dX7_blame_0 (by decide) ?_
  refine sg_istore_n (pc := 1) (x := nI 0) hC dX7_blame_1 (by decide) ?_
  show sg_W X M 0 0 2 [some (.ref x), some (.int (nI w)), some (.int (nI q)), some (.int (nI 0))] []
  have e9 : md_blame N w q = md_blame1 (7) N w q 0 := by rw [md_blame]
  rw [e9] at hk
  refine sg_loc (L' := [some (.ref x), some (.int (nI w)), some (.int (nI q)), some (.int (nI 0))]) ⟨rfl, ⟨rfl, ⟨rfl, ⟨rfl, trivial⟩⟩⟩⟩ ?_
  exact mm_blame1 htr hC hR (7) w q 0 _ hI (by first | omega | exact Nat.lt_of_le_of_lt Nat.and_le_left (by omega) | exact Nat.or_lt_two_pow (n := 16) (by omega) (by omega) | (simp [md_set, va_up]; done) | (simp [md_set, va_up]; omega) | exact Nat.or_lt_two_pow (n := 6) (by omega) (by omega)) (by first | omega | exact Nat.lt_of_le_of_lt Nat.and_le_left (by omega) | exact Nat.or_lt_two_pow (n := 16) (by omega) (by omega) | (simp [md_set, va_up]; done) | (simp [md_set, va_up]; omega) | exact Nat.or_lt_two_pow (n := 6) (by omega) (by omega)) (by first | omega | exact Nat.lt_of_le_of_lt Nat.and_le_left (by omega) | exact Nat.or_lt_two_pow (n := 16) (by omega) (by omega) | (simp [md_set, va_up]; done) | (simp [md_set, va_up]; omega) | exact Nat.or_lt_two_pow (n := 6) (by omega) (by omega)) (by first | omega | exact Nat.lt_of_le_of_lt Nat.and_le_left (by omega) | exact Nat.or_lt_two_pow (n := 16) (by omega) (by omega) | (simp [md_set, va_up]; done) | (simp [md_set, va_up]; omega) | exact Nat.or_lt_two_pow (n := 6) (by omega) (by omega)) hw hg hk

theorem md_sim_blame1 : ∀ (f : Nat) (N : Nat → Nat → Nat) (w q s : Nat), (∀ r, N 4 r ≤ 3) → md_sim N (md_blame1 f N w q s).2 ∧ ∀ k, (md_blame1 f N w q s).1 = some k → k < 6 := by
  intro f
  induction f with
  | zero =>
    intro N w q s hw
    exact ⟨md_sim.rf N, fun k hk => by cases hk⟩
  | succ f ih =>
    intro N w q s hw
    rw [md_blame1_s]
    repeat' split
    all_goals first
      | exact ⟨md_sim.rf N, fun k hk => by cases hk⟩
      | exact ⟨md_sim_mayDo hw, fun k hk => by cases hk; omega⟩
      | exact ih _ _ _ _ hw
      | exact ⟨md_sim.tr (md_sim_mayDo hw) (ih _ _ _ _ ((md_sim_mayDo hw).2 hw)).1, (ih _ _ _ _ ((md_sim_mayDo hw).2 hw)).2⟩
theorem md_sim_blame {N : Nat → Nat → Nat} {w q : Nat} (hw : ∀ r, N 4 r ≤ 3) : md_sim N (md_blame N w q).2 := (md_sim_blame1 _ N w q 0 hw).1
theorem md_blame_lt {N : Nat → Nat → Nat} {w q k : Nat} (hw : ∀ r, N 4 r ≤ 3) (h : (md_blame N w q).1 = some k) : k < 6 := (md_sim_blame1 _ N w q 0 hw).2 k h
