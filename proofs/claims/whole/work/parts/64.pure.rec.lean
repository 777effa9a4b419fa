/-! ===== records as values ===== -/
abbrev RQ : Type := Nat × List Nat × Nat × Nat × Nat × Nat
def rl (n a b c : Nat) : List Nat := if n = 0 then [] else if n = 1 then [a] else if n = 2 then [a, b] else [a, b, c]
def rq (N : Nat → Nat → Nat) (p : Nat) : RQ := (N 3 p, rl (N 4 p) (N 5 (3 * p)) (N 5 (3 * p + 1)) (N 5 (3 * p + 2)), N 6 p, N 7 p, N 8 p, N 9 p)
/-- what a record of a permission keeps -/
def wq (r : RQ) : Prop := 1 ≤ r.1 ∧ r.1 ≤ 4 ∧ r.2.1.length ≤ 3 ∧ (∀ x ∈ r.2.1, x ≤ 8) ∧ (r.1 = 1 → r.2.1 = [] ∧ r.2.2.1 = 0 ∧ r.2.2.2.1 = 0) ∧ (r.1 = 2 → r.2.2.1 ≤ 2 ∧ 0 < r.2.2.2.1 ∧ r.2.2.2.1 < 16) ∧ (r.1 = 3 → r.2.2.1 ≤ 1 ∧ (0 < r.2.1.length ∨ r.2.2.1 = 1) ∧ r.2.2.2.2.1 ≤ r.2.2.2.2.2 ∧ r.2.2.2.2.2 ≤ 9 ∧ r.2.2.2.1 = 0) ∧ (r.1 = 4 → r.2.2.1 ≤ 1 ∧ (0 < r.2.1.length ∨ r.2.2.1 = 1) ∧ r.2.2.2.1 = 0)
/-- the fields of the class's object -/
def dk (r : RQ) : Nat := if r.1 = 1 then 42 else if r.1 = 2 then 102 else if r.1 = 3 then 104 else 110
def dl (r : RQ) : List Nat := if r.1 = 3 then (r.2.1.map (97 + ·)).reverse else r.2.1.map (97 + ·)
def dw (r : RQ) : Nat := if r.1 = 2 then r.2.2.1 else if r.2.2.1 = 0 then 0 else 2
def dp (r : RQ) : Nat := if r.1 = 1 then 4294967295 else if r.1 = 2 then r.2.2.2.1 else if r.1 = 3 then (2 <<< r.2.2.2.2.2) - (1 <<< r.2.2.2.2.1) else 0
def wfit (w w' n n' : Nat) : Bool := if w = 2 then (decide (n < n') || decide (w' ≠ 0)) else if w = 1 then ((decide (n' = n) && decide (w' = w)) || (decide (n' = n + 1) && decide (w' = 0))) else (decide (n' = n) && decide (w' = w))
def reach (r t : RQ) : Bool := if r.1 = 1 then true else decide (r.1 = t.1) && (dl r).isPrefixOf (dl t) && wfit (dw r) (dw t) (dl r).length (dl t).length
def prt (r t : RQ) : Bool := if r.1 = 1 then true else if r.1 = 2 then decide (r.2.2.2.1 &&& t.2.2.2.1 = t.2.2.2.1) else if r.1 = 3 then decide (r.2.2.2.2.1 ≤ t.2.2.2.2.1) && decide (t.2.2.2.2.2 ≤ r.2.2.2.2.2) else true
def inc (r t : RQ) : Bool := reach r t && prt r t
theorem rl_len {n a b c : Nat} (h : n ≤ 3) : (rl n a b c).length = n := by
  have h9 : n = 0 ∨ n = 1 ∨ n = 2 ∨ n = 3 := by omega
  rcases h9 with rfl | rfl | rfl | rfl <;> rfl
theorem nI_sub_neg {a b : Nat} (h : a < b) (hb : b ≤ 3) : nI a - nI b < 0 := by
  have h2 : ∀ (x y : Fin 4), x.val < y.val → nI x.val - nI y.val < 0 := by decide
  exact h2 ⟨a, by omega⟩ ⟨b, by omega⟩ h
theorem nI_sub_nn {a b : Nat} (h : b ≤ a) (hb : a ≤ 3) : ¬ (nI a - nI b < 0) ∧ (nI a - nI b).toNatClampNeg = a - b := by
  have h2 : ∀ (x y : Fin 4), y.val ≤ x.val → ¬ (nI x.val - nI y.val < 0) ∧ (nI x.val - nI y.val).toNatClampNeg = x.val - y.val := by decide
  exact h2 ⟨a, by omega⟩ ⟨b, by omega⟩ h
theorem nI_c4 {a : Nat} (h : a ≤ 3) : (nI a).toNatClampNeg = a := by
  have h2 : ∀ (x : Fin 4), (nI x.val).toNatClampNeg = x.val := by decide
  exact h2 ⟨a, by omega⟩
theorem alike0 {N : Nat → Nat → Nat} {p q n : Nat} (hp : N 4 p = n) (hn : n ≤ 3) (hq : N 4 q ≤ 3) : md_alike N p q n (nI 0) = (rq N p).2.1.isPrefixOf (rq N q).2.1 := by
  show _ = (rl (N 4 p) _ _ _).isPrefixOf (rl (N 4 q) _ _ _)
  rw [hp]
  have h0 : ¬ (nI 0 < 0) := by decide
  have hz : (nI 0).toNatClampNeg = 0 := by decide
  generalize hm : N 4 q = m at hq
  have h9 : n = 0 ∨ n = 1 ∨ n = 2 ∨ n = 3 := by omega
  have h8 : m = 0 ∨ m = 1 ∨ m = 2 ∨ m = 3 := by omega
  rcases h9 with rfl | rfl | rfl | rfl <;> rcases h8 with rfl | rfl | rfl | rfl <;> simp [md_alike, md_alike1, hm, h0, hz, rl, List.isPrefixOf]
  all_goals grind
theorem alikeE {N : Nat → Nat → Nat} {p q n : Nat} (hp : N 4 p = n) (hn : n ≤ 3) (hq : N 4 q ≤ 3) : md_alike N p q n (nI (N 4 q) - nI n) = (rq N p).2.1.reverse.isPrefixOf (rq N q).2.1.reverse := by
  show _ = (rl (N 4 p) _ _ _).reverse.isPrefixOf (rl (N 4 q) _ _ _).reverse
  rw [hp]
  generalize hm : N 4 q = m at hq
  have h9 : n = 0 ∨ n = 1 ∨ n = 2 ∨ n = 3 := by omega
  have h8 : m = 0 ∨ m = 1 ∨ m = 2 ∨ m = 3 := by omega
  rcases h9 with rfl | rfl | rfl | rfl <;> rcases h8 with rfl | rfl | rfl | rfl
  all_goals first
    | (have h1 := nI_sub_neg (a := 0) (b := 1) (by omega) (by omega)
       have h2 := nI_sub_neg (a := 0) (b := 2) (by omega) (by omega)
       have h3 := nI_sub_neg (a := 0) (b := 3) (by omega) (by omega)
       have h4 := nI_sub_neg (a := 1) (b := 2) (by omega) (by omega)
       have h5 := nI_sub_neg (a := 1) (b := 3) (by omega) (by omega)
       have h6 := nI_sub_neg (a := 2) (b := 3) (by omega) (by omega)
       simp [md_alike, md_alike1, hm, h1, h2, h3, h4, h5, h6, rl, List.isPrefixOf]; done)
    | (have h1 := nI_sub_nn (a := 0) (b := 0) (by omega) (by omega)
       have h2 := nI_sub_nn (a := 1) (b := 0) (by omega) (by omega)
       have h3 := nI_sub_nn (a := 2) (b := 0) (by omega) (by omega)
       have h4 := nI_sub_nn (a := 3) (b := 0) (by omega) (by omega)
       have h5 := nI_sub_nn (a := 1) (b := 1) (by omega) (by omega)
       have h6 := nI_sub_nn (a := 2) (b := 1) (by omega) (by omega)
       have h7 := nI_sub_nn (a := 3) (b := 1) (by omega) (by omega)
       have h8 := nI_sub_nn (a := 2) (b := 2) (by omega) (by omega)
       have h9 := nI_sub_nn (a := 3) (b := 2) (by omega) (by omega)
       have h10 := nI_sub_nn (a := 3) (b := 3) (by omega) (by omega)
       have c0 := nI_c4 (a := 0) (by omega)
       have c1 := nI_c4 (a := 1) (by omega)
       have c2 := nI_c4 (a := 2) (by omega)
       have c3 := nI_c4 (a := 3) (by omega)
       simp [md_alike, md_alike1, hm, h1, h2, h3, h4, h5, h6, h7, h8, h9, h10, c0, c1, c2, c3, rl, List.isPrefixOf]
       first | done | grind)
theorem map97 {l m : List Nat} : (l.map (97 + ·)).isPrefixOf (m.map (97 + ·)) = l.isPrefixOf m := by
  induction l generalizing m with
  | nil => cases m <;> rfl
  | cons a l ih =>
    cases m with
    | nil => rfl
    | cons b m =>
      simp only [List.map_cons, List.isPrefixOf, ih]
      have : (97 + a == 97 + b) = (a == b) := by
        rw [Bool.eq_iff_iff]; simp
      rw [this]
theorem pre_full {l m : List Nat} (h : m.length = l.length) : l.isPrefixOf m = decide (l = m) := by
  induction l generalizing m with
  | nil => cases m with
    | nil => rfl
    | cons b m => cases h
  | cons a l ih =>
    cases m with
    | nil => cases h
    | cons b m =>
      simp only [List.isPrefixOf, ih (m := m) (by simpa using h)]
      rw [Bool.eq_iff_iff]; simp
theorem pre_len {l m : List Nat} (h : l.isPrefixOf m = true) : l.length ≤ m.length := by
  induction l generalizing m with
  | nil => simp
  | cons a l ih =>
    cases m with
    | nil => cases h
    | cons b m => simp [List.isPrefixOf] at h; simp; exact ih (by simp [h.2])
theorem dl_pre {r t : RQ} (h : r.1 = t.1) : (dl r).isPrefixOf (dl t) = if r.1 = 3 then r.2.1.reverse.isPrefixOf t.2.1.reverse else r.2.1.isPrefixOf t.2.1 := by
  unfold dl
  rw [← h]
  split
  · rw [← List.map_reverse, ← List.map_reverse, map97]
  · exact map97
theorem dl_len (r : RQ) : (dl r).length = r.2.1.length := by
  unfold dl
  split <;> simp
theorem md_takes_inc {N : Nat → Nat → Nat} {p q : Nat} (hw : ∀ r, N 4 r ≤ 3) (hp : wq (rq N p)) (hq : wq (rq N q)) : md_takes N p q = inc (rq N p) (rq N q) := by
  have lp : (rq N p).2.1.length = N 4 p := rl_len (hw p)
  have lq : (rq N q).2.1.length = N 4 q := rl_len (hw q)
  have a0 := alike0 (N := N) (p := p) (q := q) rfl (hw p) (hw q)
  have aE := alikeE (N := N) (p := p) (q := q) rfl (hw p) (hw q)
  obtain ⟨p1, p2, p3, p4, p5, p6, p7, p8⟩ := hp
  obtain ⟨q1, q2, q3, q4, q5, q6, q7, q8⟩ := hq
  have e3p : (rq N p).1 = N 3 p := rfl
  have e3q : (rq N q).1 = N 3 q := rfl
  have e6p : (rq N p).2.2.1 = N 6 p := rfl
  have e6q : (rq N q).2.2.1 = N 6 q := rfl
  have e7p : (rq N p).2.2.2.1 = N 7 p := rfl
  have e7q : (rq N q).2.2.2.1 = N 7 q := rfl
  have e8p : (rq N p).2.2.2.2.1 = N 8 p := rfl
  have e8q : (rq N q).2.2.2.2.1 = N 8 q := rfl
  have e9p : (rq N p).2.2.2.2.2 = N 9 p := rfl
  have e9q : (rq N q).2.2.2.2.2 = N 9 q := rfl
  unfold md_takes inc reach prt wfit
  by_cases h1 : N 3 p = 1
  · simp [h1, e3p]
  by_cases h2 : ¬ (N 3 p = N 3 q)
  · simp [h1, h2, e3p, e3q]
  have h2 : N 3 p = N 3 q := Decidable.not_not.mp h2
  rw [dl_pre (r := rq N p) (t := rq N q) (by rw [e3p, e3q, h2]), dl_len, dl_len, lp, lq]
  have hk : N 3 p = 2 ∨ N 3 p = 3 ∨ N 3 p = 4 := by omega
  rw [e3p, e3q, e7p, e7q, e8p, e8q, e9p, e9q, if_neg h1, if_neg h1, if_neg h1, if_pos h2]
  rcases hk with hk | hk | hk
  · have hkq : N 3 q = 2 := by omega
    unfold md_pathTakes md_sameLabels dw
    rw [e3p, e3q, e6p, e6q, a0]
    generalize hA : (rq N p).2.1.isPrefixOf (rq N q).2.1 = A
    have hAl : A = true → N 4 p ≤ N 4 q := fun h => by rw [← lp, ← lq]; exact pre_len (hA.trans h)
    simp only [hk, hkq, if_true]
    have := (p6 (by omega)).1
    have := (q6 (by omega)).1
    grind
  · have hkq : N 3 q = 3 := by omega
    unfold md_rowTakes md_sameLabels dw
    rw [e3p, e3q, e6p, e6q, a0, aE]
    generalize hA : (rq N p).2.1.isPrefixOf (rq N q).2.1 = A
    generalize hB : (rq N p).2.1.reverse.isPrefixOf (rq N q).2.1.reverse = B
    have hBl : B = true → N 4 p ≤ N 4 q := fun h => by
      have := pre_len (hB.trans h)
      simpa [lp, lq] using this
    have hAB : N 4 p = N 4 q → A = B := by
      intro h
      rw [← hA, ← hB, pre_full (by omega), pre_full (by simp; omega)]
      simp [List.reverse_inj]
    have hB0 : N 4 p = 0 → B = true := by
      intro h
      rw [← hB, List.length_eq_zero_iff.mp (lp.trans h)]
      rfl
    simp only [hk, hkq, if_true]
    have := (p7 (by omega)).1
    have := q7 (by omega)
    grind
  · have hkq : N 3 q = 4 := by omega
    unfold md_rowTakes md_sameLabels dw
    rw [e3p, e3q, e6p, e6q, a0, aE]
    generalize hA : (rq N p).2.1.isPrefixOf (rq N q).2.1 = A
    generalize hB : (rq N p).2.1.reverse.isPrefixOf (rq N q).2.1.reverse = B
    have hAl : A = true → N 4 p ≤ N 4 q := fun h => by rw [← lp, ← lq]; exact pre_len (hA.trans h)
    have hA0 : N 4 p = 0 → A = true := by
      intro h
      rw [← hA, List.length_eq_zero_iff.mp (lp.trans h)]
      rfl
    simp only [hk, hkq, if_true]
    have := (p8 (by omega)).1
    have := q8 (by omega)
    grind
/-! ===== what changes at the helper's record only ===== -/
def ms (N N' : Nat → Nat → Nat) : Prop := ∀ i j, ¬ ((3 ≤ i ∧ i ≤ 9 ∧ i ≠ 5 ∧ j = 85) ∨ (i = 5 ∧ 255 ≤ j)) → N' i j = N i j
theorem ms.rf {N : Nat → Nat → Nat} : ms N N := fun _ _ _ => rfl
theorem ms.tr {N N' N'' : Nat → Nat → Nat} (h : ms N N') (h' : ms N' N'') : ms N N'' := fun i j c => (h' i j c).trans (h i j c)
theorem ms.set {N : Nat → Nat → Nat} {i j v : Nat} (h : (3 ≤ i ∧ i ≤ 9 ∧ i ≠ 5 ∧ j = 85) ∨ (i = 5 ∧ 255 ≤ j)) : ms N (md_set N i j v) := by
  intro a b c
  unfold md_set
  by_cases ha : a = i
  · subst ha
    rw [va_up_self]
    by_cases hb : b = j
    · subst hb; exact absurd h c
    · rw [va_up_ne _ _ hb]
  · rw [va_up_ne _ _ ha]
theorem ms.copy {N : Nat → Nat → Nat} (u : Nat) : ms N (md_copy N u 85) := by
  unfold md_copy
  refine ms.tr (N' := _) ?_ (ms.set (by omega))
  refine ms.tr (N' := _) ?_ (ms.set (by omega))
  refine ms.tr (N' := _) ?_ (ms.set (by omega))
  refine ms.tr (N' := _) ?_ (ms.set (by omega))
  refine ms.tr (N' := _) ?_ (ms.set (by omega))
  refine ms.tr (N' := _) ?_ (ms.set (by omega))
  refine ms.tr (N' := _) ?_ (ms.set (by omega))
  refine ms.tr (N' := _) ?_ (ms.set (by omega))
  exact ms.set (by omega)
theorem ms.rqe {N N' : Nat → Nat → Nat} (h : ms N N') {p : Nat} (hp : p < 85) : rq N' p = rq N p := by
  unfold rq
  rw [h 3 p (by omega), h 4 p (by omega), h 5 (3 * p) (by omega), h 5 (3 * p + 1) (by omega), h 5 (3 * p + 2) (by omega), h 6 p (by omega), h 7 p (by omega), h 8 p (by omega), h 9 p (by omega)]
theorem rq_copy {N : Nat → Nat → Nat} {u v : Nat} : rq (md_copy N u v) v = rq N u := by
  by_cases h : u = v
  · subst h
    simp [rq, md_copy, md_set, va_up]
  · have h0 : ¬ (3 * u + 1 = 3 * v + 0) := by omega
    have h1 : ¬ (3 * u + 2 = 3 * v + 0) := by omega
    have h2 : ¬ (3 * u + 2 = 3 * v + 1) := by omega
    have h3 : ¬ (3 * u + 1 = 3 * v) := by omega
    have h4 : ¬ (3 * u + 2 = 3 * v) := by omega
    simp [rq, md_copy, md_set, va_up, h0, h1, h2, h3, h4]
theorem rq_copy_ne {N : Nat → Nat → Nat} {u v p : Nat} (h : p ≠ v) : rq (md_copy N u v) p = rq N p := by
  have h1 : ¬ (3 * p = 3 * v) := by omega
  have h2 : ¬ (3 * p = 3 * v + 1) := by omega
  have h3 : ¬ (3 * p = 3 * v + 2) := by omega
  have h4 : ¬ (3 * p + 1 = 3 * v) := by omega
  have h5 : ¬ (3 * p + 2 = 3 * v) := by omega
  have h6 : ¬ (3 * p + 2 = 3 * v + 1) := by omega
  have h7 : ¬ (3 * p + 1 = 3 * v + 2) := by omega
  simp [rq, md_copy, md_set, va_up, h, h1, h2, h3, h4, h5, h6, h7]
theorem rq_let {N : Nat → Nat → Nat} {p v : Nat} : rq (md_set N 7 p v) p = ((rq N p).1, (rq N p).2.1, (rq N p).2.2.1, v, (rq N p).2.2.2.2) := by
  simp [rq, md_set, va_up]
/-! ===== the grants ===== -/
def gl (N : Nat → Nat → Nat) (s : Nat) : List RQ := (List.range (N 12 s)).map (fun j => rq N (8 + 6 * s + j))
def gwf (N : Nat → Nat → Nat) : Prop := ∀ s j, s < 6 → j < N 12 s → wq (rq N (8 + 6 * s + j))
theorem gl_congr {N N' : Nat → Nat → Nat} {s : Nat} (h : N' 12 s = N 12 s) (h2 : ∀ j, j < N 12 s → rq N' (8 + 6 * s + j) = rq N (8 + 6 * s + j)) : gl N' s = gl N s := by
  unfold gl
  rw [h]
  apply List.map_congr_left
  intro j hj
  exact h2 j (List.mem_range.mp hj)
theorem ms.gle {N N' : Nat → Nat → Nat} (h : ms N N') {s : Nat} (hs : s < 6) (hg : N 12 s ≤ 6) : gl N' s = gl N s :=
  gl_congr (h 12 s (by omega)) (fun j hj => h.rqe (by omega))
theorem md_granted_inc {N : Nat → Nat → Nat} {s q : Nat} (hw : ∀ r, N 4 r ≤ 3) (hg : N 12 s ≤ 6) (hG : ∀ j, j < N 12 s → wq (rq N (8 + 6 * s + j))) (hq : wq (rq N q)) : md_granted N s q = (gl N s).any (fun g => inc g (rq N q)) := by
  have key : ∀ (f : Nat) (b : Bool) (i : Nat), N 12 s - i < f → i ≤ N 12 s → md_granted1 f N s q b i = (b || ((List.range' i (N 12 s - i)).map (fun j => rq N (8 + 6 * s + j))).any (fun g => inc g (rq N q))) := by
    intro f
    induction f with
    | zero => intro b i h; omega
    | succ f ih =>
      intro b i h1 h2
      rw [md_granted1]
      by_cases hi : N 12 s ≤ i
      · rw [if_pos hi, show N 12 s - i = 0 by omega]
        simp
      · rw [if_neg hi]
        obtain ⟨n, hn⟩ : ∃ n, N 12 s - i = n + 1 := ⟨N 12 s - i - 1, by omega⟩
        have hn2 : N 12 s - (i + 1) = n := by omega
        rw [hn, List.range'_succ, List.map_cons, List.any_cons]
        rw [ih true (i + 1) (by omega) (by omega), ih false (i + 1) (by omega) (by omega), hn2]
        rw [md_takes_inc hw (hG i (by omega)) hq]
        cases b <;> cases inc (rq N (8 + 6 * s + i)) (rq N q) <;> simp
  unfold md_granted gl
  rw [key 7 false 0 (by omega) (by omega), List.range_eq_range']
  simp
/-- with one of its letters only -/
def onel (r : RQ) (k : Nat) : RQ := (r.1, r.2.1, r.2.2.1, r.2.2.2.1 &&& (1 <<< k), r.2.2.2.2)
def isg (gs : List RQ) (r : RQ) : Bool := gs.any (fun g => inc g r) || (decide (r.1 = 2) && (List.range 4).all (fun k => decide (r.2.2.2.1 &&& (1 <<< k) = 0) || gs.any (fun g => inc g (onel r k))))
theorem onel_wq {r : RQ} {k : Nat} (h : wq r) (h2 : r.2.2.2.1 &&& (1 <<< k) ≠ 0) : wq (onel r k) := by
  obtain ⟨p1, p2, p3, p4, p5, p6, p7, p8⟩ := h
  have hz : ∀ m : Nat, m = 0 → m &&& (1 <<< k) = 0 := fun m h => by rw [h]; exact Nat.zero_and _
  exact ⟨p1, p2, p3, p4, fun e => ⟨(p5 e).1, (p5 e).2.1, hz _ (p5 e).2.2⟩, fun e => ⟨(p6 e).1, Nat.pos_of_ne_zero h2, Nat.lt_of_le_of_lt Nat.and_le_left (p6 e).2.2⟩, fun e => ⟨(p7 e).1, (p7 e).2.1, (p7 e).2.2.1, (p7 e).2.2.2.1, hz _ (p7 e).2.2.2.2⟩, fun e => ⟨(p8 e).1, (p8 e).2.1, hz _ (p8 e).2.2⟩⟩
theorem ms.mayDo1 : ∀ (f : Nat) (N : Nat → Nat → Nat) (s q : Nat) (b : Bool) (k : Nat), ms N (md_mayDo1 f N s q b k).2 := by
  intro f
  induction f with
  | zero => intro N s q b k; exact ms.rf
  | succ f ih =>
    intro N s q b k
    rw [md_mayDo1]
    have h0 : ms N (md_set N 7 85 (N 7 q &&& 1 <<< k)) := ms.set (by omega)
    repeat' split
    all_goals first | exact ms.rf | exact h0.tr (ih _ _ _ _ _)
theorem ms.mayDo (N : Nat → Nat → Nat) (s q : Nat) : ms N (md_mayDo N s q).2 := by
  unfold md_mayDo
  repeat' split
  · exact ms.rf
  · exact (ms.copy q).tr (ms.mayDo1 _ _ _ _ _ _)
  · exact (ms.copy q).tr (ms.mayDo1 _ _ _ _ _ _)
theorem set4 {N : Nat → Nat → Nat} {i j v r : Nat} (h : i ≠ 4) : md_set N i j v 4 r = N 4 r := by
  unfold md_set
  rw [va_up_ne _ _ (Ne.symm h)]
theorem copy4 {N : Nat → Nat → Nat} {u v : Nat} (hw : ∀ r, N 4 r ≤ 3) : ∀ r, md_copy N u v 4 r ≤ 3 := by
  intro r
  have : md_copy N u v 4 r = if r = v then N 4 u else N 4 r := by simp [md_copy, md_set, va_up]
  rw [this]
  split
  · exact hw _
  · exact hw _
theorem md_mayDo_isg {N : Nat → Nat → Nat} {s q : Nat} (hw : ∀ r, N 4 r ≤ 3) (hs : s < 6) (hg : N 12 s ≤ 6) (hG : ∀ j, j < N 12 s → wq (rq N (8 + 6 * s + j))) (hq8 : q < 85) (hq : wq (rq N q)) : (md_mayDo N s q).1 = isg (gl N s) (rq N q) := by
  unfold md_mayDo isg
  rw [md_granted_inc hw hg hG hq]
  generalize hA : (gl N s).any (fun g => inc g (rq N q)) = A
  have e3 : (rq N q).1 = N 3 q := rfl
  have e7 : (rq N q).2.2.2.1 = N 7 q := rfl
  rw [e3, e7]
  have key : ∀ (f k : Nat) (b : Bool) (N' : Nat → Nat → Nat), 4 - k < f → k ≤ 4 → ms N N' → (∀ r, N' 4 r ≤ 3) → (∃ v, rq N' 85 = ((rq N q).1, (rq N q).2.1, (rq N q).2.2.1, v, (rq N q).2.2.2.2)) → (md_mayDo1 f N' s q b k).1 = (b && (List.range' k (4 - k)).all (fun k => decide (N 7 q &&& (1 <<< k) = 0) || (gl N s).any (fun g => inc g (onel (rq N q) k)))) := by
    intro f
    induction f with
    | zero => intro k b N' h; omega
    | succ f ih =>
      intro k b N' h1 h2 hm hw' h85
      rw [md_mayDo1]
      by_cases hk : 4 ≤ k
      · rw [if_pos hk, show 4 - k = 0 by omega]; simp
      rw [if_neg hk]
      cases b with
      | false => simp
      | true =>
        rw [if_pos rfl]
        have e : N' 7 q = N 7 q := hm 7 q (by omega)
        rw [e]
        obtain ⟨n, hn⟩ : ∃ n, 4 - k = n + 1 := ⟨4 - k - 1, by omega⟩
        have hn2 : 4 - (k + 1) = n := by omega
        have hm2 : ms N (md_set N' 7 85 (N 7 q &&& 1 <<< k)) := hm.tr (ms.set (by omega))
        have hw2 : ∀ r, md_set N' 7 85 (N 7 q &&& 1 <<< k) 4 r ≤ 3 := fun r => by rw [set4 (by decide)]; exact hw' r
        have h852 : rq (md_set N' 7 85 (N 7 q &&& 1 <<< k)) 85 = onel (rq N q) k := by
          rw [rq_let]
          obtain ⟨v, hv⟩ := h85
          rw [hv]
          rfl
        have i1 := ih (k + 1) true _ (by omega) (by omega) hm2 hw2 ⟨_, h852⟩
        have i2 := ih (k + 1) false _ (by omega) (by omega) hm2 hw2 ⟨_, h852⟩
        rw [hn2] at i1 i2
        rw [hn, List.range'_succ, List.all_cons]
        by_cases hz : N 7 q &&& 1 <<< k = 0
        · rw [if_pos hz, i1]; simp [hz]
        · rw [if_neg hz]
          have hgr : md_granted (md_set N' 7 85 (N 7 q &&& 1 <<< k)) s 85 = (gl N s).any (fun g => inc g (onel (rq N q) k)) := by
            rw [md_granted_inc hw2 (by rw [hm2 12 s (by omega)]; exact hg) ?_ (by rw [h852]; exact onel_wq hq hz), hm2.gle hs hg, h852]
            intro j hj
            rw [hm2 12 s (by omega)] at hj
            rw [hm2.rqe (by omega)]
            exact hG j hj
          rw [hgr]
          cases (gl N s).any (fun g => inc g (onel (rq N q) k)) <;> simp [hz, i1, i2]
  have h85 : ∃ v, rq (md_copy N q 85) 85 = ((rq N q).1, (rq N q).2.1, (rq N q).2.2.1, v, (rq N q).2.2.2.2) := ⟨_, rq_copy⟩
  cases A with
  | true => simp
  | false =>
    rw [if_neg (by decide)]
    by_cases h3 : N 3 q = 2
    · rw [if_pos h3, key 5 0 true _ (by omega) (by omega) (ms.copy q) (copy4 hw) h85, List.range_eq_range']
      simp [h3]
    · rw [if_neg h3, key 5 0 false _ (by omega) (by omega) (ms.copy q) (copy4 hw) h85]
      simp [h3]
/-! ===== the class's loop over the grants ===== -/
def cg : List RQ → RQ → Nat → Bool
  | [], r, m => decide (r.1 = 2) && decide (m = 0)
  | g :: gs, r, m => if inc g r = true then true else cg gs r (if r.1 = 2 ∧ reach g r = true then m &&& (15 ^^^ g.2.2.2.1) else m)
theorem bit_a {m l k : Nat} (hm : m < 16) (hl : l < 16) (hk : k < 4) : (decide ((m &&& (15 ^^^ l)) &&& (1 <<< k) = 0)) = (decide (m &&& (1 <<< k) = 0) || decide (l &&& (1 <<< k) ≠ 0)) := by
  have h : ∀ (m l : Fin 16) (k : Fin 4), (decide ((m.val &&& (15 ^^^ l.val)) &&& (1 <<< k.val) = 0)) = (decide (m.val &&& (1 <<< k.val) = 0) || decide (l.val &&& (1 <<< k.val) ≠ 0)) := by decide +kernel
  exact h ⟨m, hm⟩ ⟨l, hl⟩ ⟨k, hk⟩
theorem bit_z {m : Nat} (hm : m < 16) : decide (m = 0) = (List.range 4).all (fun k => decide (m &&& (1 <<< k) = 0)) := by
  have h : ∀ (m : Fin 16), decide (m.val = 0) = (List.range 4).all (fun k => decide (m.val &&& (1 <<< k) = 0)) := by decide +kernel
  exact h ⟨m, hm⟩
theorem bit_l {m l : Nat} (hl : l < 16) : m &&& (15 ^^^ l) < 16 := by
  have h : ∀ (l : Fin 16), 15 ^^^ l.val < 16 := by decide
  exact Nat.lt_of_le_of_lt Nat.and_le_right (h ⟨l, hl⟩)
theorem bit_o {m l k : Nat} (hm : m < 16) (hl : l < 16) (hk : k < 4) (h0 : m &&& (1 <<< k) ≠ 0) : (decide (l &&& (m &&& (1 <<< k)) = m &&& (1 <<< k))) = decide (l &&& (1 <<< k) ≠ 0) := by
  have h : ∀ (m l : Fin 16) (k : Fin 4), m.val &&& (1 <<< k.val) ≠ 0 → (decide (l.val &&& (m.val &&& (1 <<< k.val)) = m.val &&& (1 <<< k.val))) = decide (l.val &&& (1 <<< k.val) ≠ 0) := by decide +kernel
  exact h ⟨m, hm⟩ ⟨l, hl⟩ ⟨k, hk⟩ h0
theorem reach_onel (g r : RQ) (k : Nat) : reach g (onel r k) = reach g r := rfl
theorem cg_eq {r : RQ} : ∀ (gs : List RQ) (m : Nat), (∀ g ∈ gs, wq g) → m < 16 → r.1 = 2 → cg gs r m = (gs.any (fun g => inc g r) || (List.range 4).all (fun k => decide (m &&& (1 <<< k) = 0) || gs.any (fun g => reach g r && decide (g.2.2.2.1 &&& (1 <<< k) ≠ 0)))) := by
  intro gs
  induction gs with
  | nil => intro m _ hm h2; rw [cg, bit_z hm]; simp [h2]
  | cons g gs ih =>
    intro m hg hm h2
    rw [cg]
    cases hi : inc g r with
    | true => simp [hi]
    | false =>
      rw [if_neg (by decide)]
      have hgw := hg g (by simp)
      by_cases hr : reach g r = true
      · have hg2 : g.1 = 2 := by
          unfold inc prt at hi
          unfold reach at hr hi
          by_cases h1 : g.1 = 1
          · simp [h1] at hi
          · simp [h1] at hr; omega
        have hl := (hgw.2.2.2.2.2.1 hg2).2.2
        rw [if_pos ⟨h2, hr⟩, ih _ (fun x hx => hg x (by simp [hx])) (bit_l hl) h2]
        simp only [List.any_cons, hi, hr, Bool.false_or, Bool.true_and]
        congr 1
        exact (by
          have : ∀ k ∈ List.range 4, (decide (m &&& (15 ^^^ g.2.2.2.1) &&& 1 <<< k = 0) || gs.any (fun g => reach g r && decide (g.2.2.2.1 &&& (1 <<< k) ≠ 0))) = (decide (m &&& 1 <<< k = 0) || (decide (g.2.2.2.1 &&& 1 <<< k ≠ 0) || gs.any (fun g => reach g r && decide (g.2.2.2.1 &&& (1 <<< k) ≠ 0)))) := by
            intro k hk
            rw [bit_a hm hl (List.mem_range.mp hk), Bool.or_assoc]
          rw [Bool.eq_iff_iff]
          simp only [List.all_eq_true]
          exact ⟨fun h k hk => (this k hk) ▸ h k hk, fun h k hk => (this k hk) ▸ h k hk⟩)
      · rw [if_neg (fun h => hr h.2), ih _ (fun x hx => hg x (by simp [hx])) hm h2]
        simp [hi, hr]
theorem cg_ne {r : RQ} : ∀ (gs : List RQ) (m : Nat), r.1 ≠ 2 → cg gs r m = gs.any (fun g => inc g r) := by
  intro gs
  induction gs with
  | nil => intro m h; simp [cg, h]
  | cons g gs ih =>
    intro m h
    rw [cg, ih _ h, List.any_cons]
    cases inc g r <;> simp
theorem cg_isg {gs : List RQ} {r : RQ} (hg : ∀ g ∈ gs, wq g) (hr : wq r) : cg gs r r.2.2.2.1 = isg gs r := by
  by_cases h2 : r.1 = 2
  · have hm := (hr.2.2.2.2.2.1 h2).2.2
    rw [cg_eq gs _ hg hm h2]
    unfold isg
    cases ha : gs.any (fun g => inc g r) with
    | true => simp
    | false =>
      simp only [h2, decide_true, Bool.true_and, Bool.false_or]
      have hall : ∀ g ∈ gs, inc g r = false := by
        intro g hgm
        have := List.any_eq_false.mp ha g hgm
        simpa using this
      have : ∀ k ∈ List.range 4, (decide (r.2.2.2.1 &&& 1 <<< k = 0) || gs.any (fun g => reach g r && decide (g.2.2.2.1 &&& (1 <<< k) ≠ 0))) = (decide (r.2.2.2.1 &&& 1 <<< k = 0) || gs.any (fun g => inc g (onel r k))) := by
        intro k hk
        by_cases h0 : r.2.2.2.1 &&& 1 <<< k = 0
        · simp [h0]
        · congr 1
          rw [Bool.eq_iff_iff]
          simp only [List.any_eq_true]
          have hx : ∀ g ∈ gs, (reach g r && decide (g.2.2.2.1 &&& (1 <<< k) ≠ 0)) = inc g (onel r k) := by
            intro g hgm
            unfold inc
            rw [reach_onel]
            cases hrr : reach g r with
            | false => simp
            | true =>
              have hg2 : g.1 = 2 := by
                have hi := hall g hgm
                unfold inc prt at hi
                unfold reach at hrr hi
                by_cases h1 : g.1 = 1
                · simp [h1] at hi
                · simp [h1] at hrr; omega
              have hl := ((hg g hgm).2.2.2.2.2.1 hg2).2.2
              unfold prt
              rw [if_neg (by omega), if_pos hg2]
              show _ = (true && decide (g.2.2.2.1 &&& (r.2.2.2.1 &&& (1 <<< k)) = r.2.2.2.1 &&& (1 <<< k)))
              rw [bit_o hm hl (List.mem_range.mp hk) h0]
          exact ⟨fun ⟨g, a, b⟩ => ⟨g, a, (hx g a) ▸ b⟩, fun ⟨g, a, b⟩ => ⟨g, a, (hx g a) ▸ b⟩⟩
      rw [Bool.eq_iff_iff]
      simp only [List.all_eq_true]
      exact ⟨fun h k hk => (this k hk) ▸ h k hk, fun h k hk => (this k hk) ▸ h k hk⟩
  · rw [cg_ne gs _ h2]
    simp [isg, h2]
theorem mayDo1_lab : ∀ (f : Nat) (N : Nat → Nat → Nat) (s q : Nat) (b : Bool) (k : Nat), (∀ r, N 4 r ≤ 3) → ∀ r, (md_mayDo1 f N s q b k).2 4 r ≤ 3 := by
  intro f
  induction f with
  | zero => intro N s q b k h; exact h
  | succ f ih =>
    intro N s q b k h
    rw [md_mayDo1]
    have h0 : ∀ r, md_set N 7 85 (N 7 q &&& 1 <<< k) 4 r ≤ 3 := fun r => by rw [set4 (by decide)]; exact h r
    repeat' split
    all_goals first | exact h | exact ih _ _ _ _ _ h0
theorem mayDo_lab {N : Nat → Nat → Nat} {s q : Nat} (h : ∀ r, N 4 r ≤ 3) : ∀ r, (md_mayDo N s q).2 4 r ≤ 3 := by
  unfold md_mayDo
  repeat' split
  · exact h
  · exact mayDo1_lab _ _ _ _ _ _ (copy4 h)
  · exact mayDo1_lab _ _ _ _ _ _ (copy4 h)
/-! ===== who is to blame ===== -/
def blm (gs : Nat → List RQ) (w : Nat) (r : RQ) : Nat → Nat → Option Nat
  | 0, _ => none
  | f + 1, s => if 6 ≤ s then none else if (w >>> s) &&& 1 = 0 then blm gs w r f (s + 1) else if isg (gs s) r = true then blm gs w r f (s + 1) else some s
theorem md_blame_eq {N : Nat → Nat → Nat} {w q : Nat} (hw : ∀ r, N 4 r ≤ 3) (hg : ∀ s, N 12 s ≤ 6) (hG : gwf N) (hq8 : q < 85) (hq : wq (rq N q)) : (md_blame N w q).1 = blm (gl N) w (rq N q) 7 0 ∧ ms N (md_blame N w q).2 := by
  have key : ∀ (f s : Nat) (N' : Nat → Nat → Nat), ms N N' → (∀ r, N' 4 r ≤ 3) → (md_blame1 f N' w q s).1 = blm (gl N) w (rq N q) f s ∧ ms N (md_blame1 f N' w q s).2 := by
    intro f
    induction f with
    | zero => intro s N' h _; exact ⟨rfl, h⟩
    | succ f ih =>
      intro s N' h hw'
      rw [md_blame1, blm]
      by_cases h6 : 6 ≤ s
      · rw [if_pos h6, if_pos h6]; exact ⟨rfl, h⟩
      rw [if_neg h6, if_neg h6]
      by_cases hb : (w >>> s) &&& 1 = 0
      · rw [if_pos hb, if_pos hb]; exact ih _ _ h hw'
      rw [if_neg hb, if_neg hb]
      have e : (md_mayDo N' s q).1 = isg (gl N s) (rq N q) := by
        rw [md_mayDo_isg hw' (by omega) (by rw [h 12 s (by omega)]; exact hg s) ?_ hq8 (by rw [h.rqe hq8]; exact hq), h.gle (by omega) (hg s), h.rqe hq8]
        intro j hj
        rw [h 12 s (by omega)] at hj
        have := hg s
        rw [h.rqe (by omega)]
        exact hG s j (by omega) hj
      have hm : ms N (md_mayDo N' s q).2 := h.tr (ms.mayDo _ _ _)
      rw [e]
      cases isg (gl N s) (rq N q) with
      | true =>
        rw [if_pos rfl, if_pos rfl]
        refine ih _ _ hm ?_
        exact (mayDo_lab hw')
      | false => exact ⟨rfl, hm⟩
  exact key 7 0 N ms.rf hw
/-! ===== the idle part ===== -/
def anP (g : Nat → RQ) (i j : Nat) : Bool := decide (j ≠ i) && inc (g j) (g i)
def an (g : Nat → RQ) (n i : Nat) : Bool := (List.range' 0 n).any (anP g i)
def ids (g : Nat → RQ) (n : Nat) : Nat := ((List.range' 0 n).filter (an g n)).length
theorem md_idle1_eq {N : Nat → Nat → Nat} {s n : Nat} (hn : N 12 s = n) (hn0 : 0 < n) (hn6 : n ≤ 6) (hw : ∀ r, N 4 r ≤ 3) (hG : ∀ j, j < n → wq (rq N (8 + 6 * s + j))) :
    ∀ (f c i : Nat) (b : Bool) (j : Nat), (6 - i) * 7 + (6 - j) < f → i < n → j ≤ n → md_idle1 f N s c i b j = (FP.fdiv (FP.i2f (nI (c + (b || (List.range' j (n - j)).any (anP (fun j => rq N (8 + 6 * s + j)) i)).toNat + ((List.range' (i + 1) (n - (i + 1))).filter (an (fun j => rq N (8 + 6 * s + j)) n)).length))) (FP.i2f (nI n)), N) := by
  intro f
  induction f with
  | zero => intro c i b j h; omega
  | succ f ih =>
    intro c i b j h hi hj
    rw [md_idle1]
    rw [hn]
    by_cases hjn : n ≤ j
    · rw [if_pos hjn, show n - j = 0 by omega]
      by_cases hin : n ≤ i + 1
      · rw [show n - (i + 1) = 0 by omega]
        cases b <;> simp [hin] <;> omega
      · obtain ⟨m, hm⟩ : ∃ m, n - (i + 1) = m + 1 := ⟨n - (i + 1) - 1, by omega⟩
        have hm2 : n - (i + 1 + 1) = m := by omega
        have hx : ∀ c', md_idle1 f N s c' (i + 1) false 0 = (FP.fdiv (FP.i2f (nI (c' + ((List.range' (i + 1) (n - (i + 1))).filter (an (fun j => rq N (8 + 6 * s + j)) n)).length))) (FP.i2f (nI n)), N) := by
          intro c'
          rw [ih c' (i + 1) false 0 (by omega) (by omega) (by omega), hm2, hm, List.range'_succ, List.filter_cons]
          show (FP.fdiv (FP.i2f (nI (c' + (false || an (fun j => rq N (8 + 6 * s + j)) n (i + 1)).toNat + _))) _, _) = _
          cases an (fun j => rq N (8 + 6 * s + j)) n (i + 1) with
          | true => simp; congr 3; omega
          | false => simp
        rw [hx, hx]
        cases b <;> simp [hin]
    · rw [if_neg hjn]
      obtain ⟨m, hm⟩ : ∃ m, n - j = m + 1 := ⟨n - j - 1, by omega⟩
      have hm2 : n - (j + 1) = m := by omega
      have ht : md_takes N (8 + 6 * s + j) (8 + 6 * s + i) = inc (rq N (8 + 6 * s + j)) (rq N (8 + 6 * s + i)) := md_takes_inc hw (hG j (by omega)) (hG i hi)
      rw [ht, ih c i true (j + 1) (by omega) hi (by omega), ih c i false (j + 1) (by omega) hi (by omega), hm, hm2, List.range'_succ, List.any_cons]
      cases b with
      | true => simp
      | false =>
        by_cases hji : j = i
        · subst hji
          simp [anP]
        · unfold anP
          cases inc (rq N (8 + 6 * s + j)) (rq N (8 + 6 * s + i)) <;> simp [hji]
theorem md_idle_eq {N : Nat → Nat → Nat} {s n : Nat} (hn : N 12 s = n) (hn0 : 0 < n) (hn6 : n ≤ 6) (hw : ∀ r, N 4 r ≤ 3) (hG : ∀ j, j < n → wq (rq N (8 + 6 * s + j))) : md_idle1 60 N s 0 0 false 0 = (FP.fdiv (FP.i2f (nI (ids (fun j => rq N (8 + 6 * s + j)) n))) (FP.i2f (nI n)), N) := by
  rw [md_idle1_eq hn hn0 hn6 hw hG 60 0 0 false 0 (by omega) hn0 (by omega)]
  unfold ids
  obtain ⟨m, rfl⟩ : ∃ m, n = m + 1 := ⟨n - 1, by omega⟩
  rw [List.range'_succ, List.filter_cons]
  show (FP.fdiv (FP.i2f (nI (0 + (false || an (fun j => rq N (8 + 6 * s + j)) (m + 1) 0).toNat + _))) _, _) = _
  cases an (fun j => rq N (8 + 6 * s + j)) (m + 1) 0 with
  | true => simp; congr 3; omega
  | false => simp
/-! ===== the reference's reading, over records ===== -/
def isl (c : Nat) : Bool := decide (97 ≤ c) && decide (c ≤ 105)
def addl (r : RQ) (c : Nat) : RQ := (r.1, r.2.1 ++ [c - 97], r.2.2)
def rrng (r : RQ) (lo hi : Nat) : RQ := (r.1, r.2.1, r.2.2.1, r.2.2.2.1, lo, hi)
def rstar (r : RQ) (w : Nat) : RQ := (r.1, r.2.1, w, r.2.2.2)
def rlet (r : RQ) (m : Nat) : RQ := (r.1, r.2.1, r.2.2.1, m, r.2.2.2.2)
def rgo (r : RQ) (q c : Nat) : Option Nat × RQ :=
  if q = 0 then (if c = 42 then (some 1, (1, r.2)) else if c = 102 then (some 2, (2, r.2)) else if c = 104 then (some 10, (3, r.2)) else if c = 110 then (some 20, (4, r.2)) else (none, (0, r.2)))
  else if q = 2 then (if c = 47 then (some 3, r) else (none, r))
  else if q = 3 then (if c = 42 then (some 5, rstar r 1) else if c = 45 then (some 5, rstar r 2) else if isl c = true then (some 4, addl r c) else (none, r))
  else if q = 4 then (if c = 47 ∧ r.2.1.length < 3 then (some 3, r) else if c = 58 then (some 6, r) else (none, r))
  else if q = 5 then (if c = 58 then (some 6, r) else (none, r))
  else if q = 6 then (if md_letterOf c = 0 then (none, r) else if r.2.2.2.1 &&& md_letterOf c = 0 then (some 6, rlet r (r.2.2.2.1 ||| md_letterOf c)) else (none, r))
  else if q = 10 then (if c = 42 then (some 11, rstar r 1) else if isl c = true then (some 13, addl r c) else (none, r))
  else if q = 11 then (if c = 46 then (some 12, r) else if c = 58 then (some 14, r) else (none, r))
  else if q = 12 then (if isl c = true then (some 13, addl r c) else (none, r))
  else if q = 13 then (if c = 46 ∧ r.2.1.length < (if r.2.2.1 = 1 then 2 else 3) then (some 12, r) else if c = 58 then (some 14, r) else (none, r))
  else if q = 14 then (if c = 45 then (some 18, rrng r 0 9) else if md_isDigit c = true then (some 15, rrng r (c - 48) (c - 48)) else (none, r))
  else if q = 15 then (if c = 45 then (some 16, rrng r r.2.2.2.2.1 9) else (none, r))
  else if q = 16 then (if md_isDigit c = true ∧ r.2.2.2.2.1 ≤ c - 48 then (some 17, rrng r r.2.2.2.2.1 (c - 48)) else (none, r))
  else if q = 18 then (if md_isDigit c = true then (some 17, rrng r r.2.2.2.2.1 (c - 48)) else (none, r))
  else if q = 20 ∨ q = 23 then (if c = 42 then (some 21, rstar r 1) else if isl c = true then (some 22, addl r c) else (none, r))
  else if q = 22 then (if c = 46 ∧ r.2.1.length < 3 then (some 23, r) else (none, r))
  else (none, r)
theorem rq_s3 {N : Nat → Nat → Nat} {p v : Nat} : rq (md_set N 3 p v) p = (v, (rq N p).2) := by simp [rq, md_set, va_up]
theorem rq_s6 {N : Nat → Nat → Nat} {p v : Nat} : rq (md_set N 6 p v) p = rstar (rq N p) v := by simp [rq, md_set, va_up, rstar]
theorem rq_s7 {N : Nat → Nat → Nat} {p v : Nat} : rq (md_set N 7 p v) p = rlet (rq N p) v := by simp [rq, md_set, va_up, rlet]
theorem rq_s89 {N : Nat → Nat → Nat} {p u v : Nat} : rq (md_set (md_set N 8 p u) 9 p v) p = rrng (rq N p) u v := by simp [rq, md_set, va_up, rrng]
theorem rq_add {N : Nat → Nat → Nat} {p c : Nat} (h : N 4 p < 3) : rq (md_addLabel N p c) p = addl (rq N p) c := by
  have h9 : N 4 p = 0 ∨ N 4 p = 1 ∨ N 4 p = 2 := by omega
  rcases h9 with h9 | h9 | h9 <;> simp [rq, md_addLabel, md_set, va_up, h9, rl, addl]
theorem md_isLabel_e (c : Nat) : md_isLabel c = isl c := by
  unfold md_isLabel isl
  by_cases h1 : c < 97
  · simp [h1] <;> omega
  · by_cases h2 : 105 < c
    · simp [h1, h2] <;> omega
    · simp [h1, h2] <;> omega
theorem lab_r {N : Nat → Nat → Nat} {p c nx : Nat} (h : N 4 p < 3) : (md_labelled N p c nx).1 = (if isl c = true then some nx else none) ∧ rq (md_labelled N p c nx).2 p = (if isl c = true then addl (rq N p) c else rq N p) := by
  unfold md_labelled
  rw [md_isLabel_e]
  cases isl c with
  | true => exact ⟨rfl, rq_add h⟩
  | false => exact ⟨rfl, rfl⟩
theorem rng_r {N : Nat → Nat → Nat} {p q c : Nat} (hq : q = 14 ∨ q = 15 ∨ q = 16 ∨ q = 18) : (md_range N p q c).1 = (rgo (rq N p) q c).1 ∧ rq (md_range N p q c).2 p = (rgo (rq N p) q c).2 := by
  have e8 : (rq N p).2.2.2.2.1 = N 8 p := rfl
  have hd : md_isDigit 45 = false := by decide
  unfold md_range
  by_cases hc : c = 45
  · subst hc
    rcases hq with rfl | rfl | rfl | rfl <;> simp [rgo, rq_s89, hd, e8]
  · cases hdd : md_isDigit c with
    | false => rcases hq with rfl | rfl | rfl | rfl <;> simp [rgo, hc, hdd]
    | true =>
      rcases hq with rfl | rfl | rfl | rfl
      · simp [rgo, hc, hdd, rq_s89]
      · simp [rgo, hc, hdd, rq_s89]
      · by_cases h8 : N 8 p ≤ c - 48 <;> simp [rgo, hc, hdd, rq_s89, e8, h8]
      · simp [rgo, hc, hdd, rq_s89, e8]
set_option maxHeartbeats 1000000 in
theorem md_go_r {N : Nat → Nat → Nat} {p q c : Nat} (hl : N 4 p ≤ 3) (hn : q = 0 ∨ q = 2 ∨ q = 3 ∨ q = 10 ∨ q = 11 ∨ q = 12 ∨ q = 20 ∨ q = 23 → N 4 p < 3) (hq : q < 24) : (md_go N p q c).1 = (rgo (rq N p) q c).1 ∧ rq (md_go N p q c).2 p = (rgo (rq N p) q c).2 := by
  have e4 : (rq N p).2.1.length = N 4 p := rl_len hl
  have e6 : (rq N p).2.2.1 = N 6 p := rfl
  have e7 : (rq N p).2.2.2.1 = N 7 p := rfl
  have h9 : q = 0 ∨ q = 1 ∨ q = 2 ∨ q = 3 ∨ q = 4 ∨ q = 5 ∨ q = 6 ∨ q = 7 ∨ q = 8 ∨ q = 9 ∨ q = 10 ∨ q = 11 ∨ q = 12 ∨ q = 13 ∨ (q = 14 ∨ q = 15 ∨ q = 16 ∨ q = 18) ∨ q = 17 ∨ q = 19 ∨ q = 20 ∨ q = 21 ∨ q = 22 ∨ q = 23 := by omega
  rcases h9 with rfl | rfl | rfl | rfl | rfl | rfl | rfl | rfl | rfl | rfl | rfl | rfl | rfl | rfl | h9 | rfl | rfl | rfl | rfl | rfl | rfl
  · simp only [md_go, md_begin, rgo, if_true]
    repeat' split
    all_goals exact ⟨rfl, rq_s3⟩
  · simp [md_go, rgo]
  · simp only [md_go, rgo]; simp; split <;> simp
  · have hL := lab_r (N := N) (p := p) (c := c) (nx := 4) (hn (by omega))
    simp only [md_go, md_path, rgo, md_starred]
    simp
    by_cases h1 : c = 42
    · simp [h1, rq_s6]
    · by_cases h2 : c = 45
      · simp [h2, rq_s6]
      · simp [h1, h2, hL]; cases isl c <;> simp
  · simp only [md_go, rgo]
    simp [e4]
    by_cases h1 : c = 47
    · subst h1
      by_cases h2 : N 4 p < 3
      · simp [h2, Nat.not_le.mpr h2]
      · simp [h2, Nat.not_lt.mp h2]
    · by_cases h2 : c = 58 <;> simp [h1, h2]
  · simp only [md_go, rgo]; simp; split <;> simp
  · simp only [md_go, md_letter, rgo, e7]
    simp
    by_cases h1 : md_letterOf c = 0
    · simp [h1]
    · by_cases h2 : N 7 p &&& md_letterOf c = 0
      · simp [h1, h2, rq_s7]
      · simp [h1, h2]
  · simp [md_go, rgo]
  · simp [md_go, rgo]
  · simp [md_go, rgo]
  · have hL := lab_r (N := N) (p := p) (c := c) (nx := 13) (hn (by omega))
    simp only [md_go, md_host, rgo, md_starred]
    simp
    by_cases h1 : c = 42
    · simp [h1, rq_s6]
    · simp [h1, hL]; cases isl c <;> simp
  · simp only [md_go, rgo]; simp
    by_cases h1 : c = 46
    · simp [h1]
    · by_cases h2 : c = 58 <;> simp [h1, h2]
  · have hL := lab_r (N := N) (p := p) (c := c) (nx := 13) (hn (by omega))
    simp only [md_go, rgo]
    simp [hL]; cases isl c <;> simp
  · simp only [md_go, rgo]
    simp [e4, e6]
    by_cases h1 : c = 46
    · subst h1
      by_cases h6 : N 6 p = 1
      · by_cases h2 : N 4 p < 2
        · simp [h6, h2, Nat.not_le.mpr h2]
        · simp [h6, h2, Nat.not_lt.mp h2]
      · by_cases h2 : N 4 p < 3
        · simp [h6, h2, Nat.not_le.mpr h2]
        · simp [h6, h2, Nat.not_lt.mp h2]
    · by_cases h2 : c = 58 <;> simp [h1, h2]
  · have hR := rng_r (N := N) (p := p) (c := c) h9
    rcases h9 with rfl | rfl | rfl | rfl
    all_goals
      rw [← hR.1, ← hR.2]
      simp [md_go]
  · simp [md_go, rgo]
  · simp [md_go, rgo]
  · have hL := lab_r (N := N) (p := p) (c := c) (nx := 22) (hn (by omega))
    simp only [md_go, rgo, md_starred]
    simp
    by_cases h1 : c = 42
    · simp [h1, rq_s6]
    · simp [h1, hL]; cases isl c <;> simp
  · simp [md_go, rgo]
  · simp only [md_go, rgo]
    simp [e4]
    by_cases h1 : c = 46
    · subst h1
      by_cases h2 : N 4 p < 3
      · simp [h2, Nat.not_le.mpr h2]
      · simp [h2, Nat.not_lt.mp h2]
    · simp [h1]
  · have hL := lab_r (N := N) (p := p) (c := c) (nx := 22) (hn (by omega))
    simp only [md_go, rgo, md_starred]
    simp
    by_cases h1 : c = 42
    · simp [h1, rq_s6]
    · simp [h1, hL]; cases isl c <;> simp
/-! what changes at one record only -/
def mc (p : Nat) (N N' : Nat → Nat → Nat) : Prop := ∀ i j, ¬ ((3 ≤ i ∧ i ≤ 9 ∧ i ≠ 5 ∧ j = p) ∨ (i = 5 ∧ 3 * p ≤ j ∧ j < 3 * p + 3)) → N' i j = N i j
theorem mc.rf {p : Nat} {N : Nat → Nat → Nat} : mc p N N := fun _ _ _ => rfl
theorem mc.tr {p : Nat} {N N' N'' : Nat → Nat → Nat} (h : mc p N N') (h' : mc p N' N'') : mc p N N'' := fun i j c => (h' i j c).trans (h i j c)
theorem mc.set {p : Nat} {N : Nat → Nat → Nat} {i j v : Nat} (h : (3 ≤ i ∧ i ≤ 9 ∧ i ≠ 5 ∧ j = p) ∨ (i = 5 ∧ 3 * p ≤ j ∧ j < 3 * p + 3)) : mc p N (md_set N i j v) := by
  intro a b c
  unfold md_set
  by_cases ha : a = i
  · subst ha
    rw [va_up_self]
    by_cases hb : b = j
    · subst hb; exact absurd h c
    · rw [va_up_ne _ _ hb]
  · rw [va_up_ne _ _ ha]
theorem mc.rqe {p : Nat} {N N' : Nat → Nat → Nat} (h : mc p N N') {u : Nat} (hu : u ≠ p) : rq N' u = rq N u := by
  unfold rq
  rw [h 3 u (by omega), h 4 u (by omega), h 5 (3 * u) (by omega), h 5 (3 * u + 1) (by omega), h 5 (3 * u + 2) (by omega), h 6 u (by omega), h 7 u (by omega), h 8 u (by omega), h 9 u (by omega)]
theorem mc.copy {N : Nat → Nat → Nat} (u p : Nat) : mc p N (md_copy N u p) := by
  unfold md_copy
  refine mc.tr (N' := _) ?_ (mc.set (by omega))
  refine mc.tr (N' := _) ?_ (mc.set (by omega))
  refine mc.tr (N' := _) ?_ (mc.set (by omega))
  refine mc.tr (N' := _) ?_ (mc.set (by omega))
  refine mc.tr (N' := _) ?_ (mc.set (by omega))
  refine mc.tr (N' := _) ?_ (mc.set (by omega))
  refine mc.tr (N' := _) ?_ (mc.set (by omega))
  refine mc.tr (N' := _) ?_ (mc.set (by omega))
  exact mc.set (by omega)
theorem mc.add {N : Nat → Nat → Nat} {p c : Nat} (h : N 4 p < 3) : mc p N (md_addLabel N p c) := by
  unfold md_addLabel
  exact mc.tr (mc.set (by omega)) (mc.set (by omega))
theorem mc.lab {N : Nat → Nat → Nat} {p c n : Nat} (h : N 4 p < 3) : mc p N (md_labelled N p c n).2 := by
  unfold md_labelled
  split
  · exact mc.add h
  · exact mc.rf
theorem mc.rng {N : Nat → Nat → Nat} {p q c : Nat} : mc p N (md_range N p q c).2 := by
  unfold md_range
  repeat' split
  all_goals first | exact mc.rf | exact mc.tr (mc.set (by omega)) (mc.set (by omega))
theorem mc.go {N : Nat → Nat → Nat} {p q c : Nat} (hn : q = 0 ∨ q = 2 ∨ q = 3 ∨ q = 10 ∨ q = 11 ∨ q = 12 ∨ q = 20 ∨ q = 23 → N 4 p < 3) (hq : q < 24) : mc p N (md_go N p q c).2 := by
  have hb : mc p N (md_begin N p c).2 := by
    unfold md_begin
    repeat' split
    all_goals exact mc.set (by omega)
  have hL : mc p N (md_letter N p c).2 := by
    unfold md_letter
    repeat' split
    all_goals first | exact mc.rf | exact mc.set (by omega)
  have h9 : q = 0 ∨ q = 1 ∨ q = 2 ∨ q = 3 ∨ q = 4 ∨ q = 5 ∨ q = 6 ∨ q = 7 ∨ q = 8 ∨ q = 9 ∨ q = 10 ∨ q = 11 ∨ q = 12 ∨ q = 13 ∨ q = 14 ∨ q = 15 ∨ q = 16 ∨ q = 18 ∨ q = 17 ∨ q = 19 ∨ q = 20 ∨ q = 21 ∨ q = 22 ∨ q = 23 := by omega
  rcases h9 with rfl | rfl | rfl | rfl | rfl | rfl | rfl | rfl | rfl | rfl | rfl | rfl | rfl | rfl | rfl | rfl | rfl | rfl | rfl | rfl | rfl | rfl | rfl | rfl
  all_goals
    simp only [md_go, md_path, md_host, md_starred]
    simp
    first
      | exact hb
      | exact hL
      | exact mc.rf
      | exact mc.rng
      | exact mc.lab (hn (by omega))
      | (repeat' split
         all_goals first | exact mc.rf | exact mc.set (by omega) | exact mc.lab (hn (by omega)))
def nx (tx : List Nat) (k : Nat) : Nat := if tx.length ≤ k then 0 else tx.getD k 0
def rrun (tx : List Nat) : Nat → RQ → Nat → Nat → Option Nat × RQ
  | 0, r, _, _ => (none, r)
  | f + 1, r, q, k => if tx.length ≤ k then (if md_whole q r.2.2.2.1 = true then (none, r) else (some tx.length, r)) else (match (rgo r q (tx.getD k 0)).1 with | none => (some k, (rgo r q (tx.getD k 0)).2) | some q' => rrun tx f (rgo r q (tx.getD k 0)).2 q' (k + 1))
theorem md_read1_r {tx : List Nat} {p : Nat} : ∀ (f : Nat) (N : Nat → Nat → Nat) (q k : Nat), N 1 0 = tx.length → (∀ j, j < tx.length → N 2 j = tx.getD j 0) → N 4 p ≤ 3 → (q = 0 ∨ q = 2 ∨ q = 3 ∨ q = 10 ∨ q = 11 ∨ q = 12 ∨ q = 20 ∨ q = 23 → N 4 p < 3) → q < 24 → (md_read1 f N p q k).1 = (rrun tx f (rq N p) q k).1 ∧ rq (md_read1 f N p q k).2 p = (rrun tx f (rq N p) q k).2 ∧ mc p N (md_read1 f N p q k).2 := by
  intro f
  induction f with
  | zero => intro N q k _ _ _ _ _; exact ⟨rfl, rfl, mc.rf⟩
  | succ f ih =>
    intro N q k h1 h2 hl hn hq
    rw [md_read1, rrun, h1]
    by_cases hk : tx.length ≤ k
    · rw [if_pos hk, if_pos hk]
      show _ ∧ _
      rw [show (rq N p).2.2.2.1 = N 7 p from rfl]
      split <;> exact ⟨rfl, rfl, mc.rf⟩
    rw [if_neg hk, if_neg hk, h2 k (by omega)]
    have hg := md_go_r (N := N) (p := p) (q := q) (c := tx.getD k 0) hl hn hq
    have ho := md_gok_go (N := N) (p := p) (q := q) (c := tx.getD k 0) hq hl hn
    have hm := mc.go (N := N) (p := p) (q := q) (c := tx.getD k 0) hn hq
    rw [← hg.1, ← hg.2]
    cases hr : (md_go N p q (tx.getD k 0)).1 with
    | none => exact ⟨rfl, rfl, hm⟩
    | some q' =>
      rw [hr] at ho
      obtain ⟨o1, o2, o3⟩ := ho
      obtain ⟨o4, o5, o6⟩ := o3 q' rfl
      obtain ⟨i1, i2, i3⟩ := ih (md_go N p q (tx.getD k 0)).2 q' (k + 1) (o1.trans h1) (fun j hj => (o2 j).trans (h2 j hj)) o5 o6 o4
      exact ⟨i1, i2, hm.tr i3⟩
def r0 : RQ := (0, [], 0, 0, 0, 0)
theorem md_read_r {tx : List Nat} {p : Nat} {N : Nat → Nat → Nat} (h1 : N 1 0 = tx.length) (h2 : ∀ j, j < tx.length → N 2 j = tx.getD j 0) : (md_read N p).1 = (rrun tx 17 r0 0 0).1 ∧ rq (md_read N p).2 p = (rrun tx 17 r0 0 0).2 ∧ mc p N (md_read N p).2 := by
  unfold md_read
  have hm : mc p N (md_set (md_set (md_set (md_set (md_set (md_set N 4 p 0) 6 p 0) 7 p 0) 8 p 0) 9 p 0) 3 p 0) :=
by
    refine mc.tr (N' := _) ?_ (mc.set (by omega))
    refine mc.tr (N' := _) ?_ (mc.set (by omega))
    refine mc.tr (N' := _) ?_ (mc.set (by omega))
    refine mc.tr (N' := _) ?_ (mc.set (by omega))
    refine mc.tr (N' := _) ?_ (mc.set (by omega))
    exact mc.set (by omega)
  have h4 : (md_set (md_set (md_set (md_set (md_set (md_set N 4 p 0) 6 p 0) 7 p 0) 8 p 0) 9 p 0) 3 p 0) 4 p = 0 := by simp [md_set, va_up]
  have hr : rq (md_set (md_set (md_set (md_set (md_set (md_set N 4 p 0) 6 p 0) 7 p 0) 8 p 0) 9 p 0) 3 p 0) p = r0 := by simp [rq, md_set, va_up, rl, r0]
  generalize (md_set (md_set (md_set (md_set (md_set (md_set N 4 p 0) 6 p 0) 7 p 0) 8 p 0) 9 p 0) 3 p 0) = N' at *
  obtain ⟨i1, i2, i3⟩ := md_read1_r (tx := tx) (p := p) 17 N' 0 0 ((hm 1 0 (by omega)).trans h1) (fun j hj => (hm 2 j (by omega)).trans (h2 j hj)) (by omega) (by omega) (by omega)
  rw [hr] at i1 i2
  exact ⟨i1, i2, hm.tr i3⟩
