/-! ===== the text that a record is written as ===== -/
def dots : List Nat → List Nat
  | [] => []
  | [a] => [97 + a]
  | a :: b :: l => (97 + a) :: 46 :: dots (b :: l)
def hd (r : RQ) : List Nat := dk r :: (if r.1 = 1 then [] else if r.1 = 2 then r.2.1.flatMap (fun x => [47, 97 + x]) ++ (if r.2.2.1 = 0 then [] else if r.2.2.1 = 1 then [47, 42] else [47, 45]) else if r.1 = 3 then (if r.2.2.1 = 1 then (if r.2.1 = [] then [42] else [42, 46]) else []) ++ dots r.2.1 else dots r.2.1 ++ (if r.2.2.1 = 1 then (if r.2.1 = [] then [42] else [46, 42]) else []))
theorem dots_app (l : List Nat) (x : Nat) : dots (l ++ [x]) = if l = [] then [97 + x] else dots l ++ [46, 97 + x] := by
  induction l with
  | nil => rfl
  | cons a l ih =>
    cases l with
    | nil => rfl
    | cons b l =>
      rw [if_neg (by simp)] at ih ⊢
      show (97 + a) :: 46 :: dots ((b :: l) ++ [x]) = (97 + a) :: 46 :: dots (b :: l) ++ [46, 97 + x]
      rw [ih]
      rfl
def fin (tx : List Nat) (r : RQ) (s : RS) : Prop := wq r ∧ s.2.1 = dl r ∧ s.2.2.1 = dw r ∧ s.2.2.2.1 = dp r ∧ (r.1 = 3 → s.2.2.2.2.1 = r.2.2.2.2.1 ∧ s.2.2.2.2.2 = r.2.2.2.2.2) ∧ (r.1 = 2 ∨ r.1 = 3 → tx.take (hd r).length = hd r ∧ nx tx (hd r).length = 58) ∧ (r.1 = 1 ∨ r.1 = 4 → tx = hd r)
def out (tx : List Nat) (x : Option Nat × RQ) (y : Bool × RS) : Prop := (y.1 = true ∧ y.2.1 = tx.length → x.1 = none ∧ fin tx x.2 y.2) ∧ (¬ (y.1 = true ∧ y.2.1 = tx.length) → x.1 = some y.2.1)
section OUT
variable {tx : List Nat} {f k q : Nat} {r : RQ} {s : RS}
theorem nx_lt (h : nx tx k ≠ 0) : k < tx.length := by
  unfold nx at h
  split at h
  · exact absurd rfl h
  · omega
theorem nx_get (h : k < tx.length) : nx tx k = tx.getD k 0 := by
  unfold nx
  rw [if_neg (by omega)]
theorem rrun_s {q' : Nat} (h0 : nx tx k ≠ 0) (h : (rgo r q (nx tx k)).1 = some q') : rrun tx (f + 1) r q k = rrun tx f (rgo r q (nx tx k)).2 q' (k + 1) := by
  have hk := nx_lt h0
  rw [nx_get hk] at h ⊢
  rw [rrun, if_neg (by omega), h]
theorem rrun_n (hk : k ≤ tx.length) (h : (rgo r q (nx tx k)).1 = none) : (rrun tx (f + 1) r q k).1 = if k = tx.length ∧ md_whole q r.2.2.2.1 = true then none else some k := by
  rw [rrun]
  by_cases h1 : tx.length ≤ k
  · rw [if_pos h1]
    have h2 : k = tx.length := by omega
    cases hw : md_whole q r.2.2.2.1 with
    | true => simp [h2]
    | false => simp [h2]
  · rw [nx_get (by omega)] at h
    rw [if_neg h1, h, if_neg (by omega)]
theorem out_fail (hk : k ≤ tx.length) (h : (rgo r q (nx tx k)).1 = none) (hw : md_whole q r.2.2.2.1 = false) (hs : s.1 = k) : out tx (rrun tx (f + 1) r q k) (false, s) := by
  refine ⟨fun h => (by cases h.1), fun _ => ?_⟩
  rw [rrun_n hk h, hw, if_neg (by simp), hs]
theorem out_whole (hk : k ≤ tx.length) (h : (rgo r q (nx tx k)).1 = none) (hw : md_whole q r.2.2.2.1 = true) (hs : s.1 = k) (hf : k = tx.length → fin tx r s) : out tx (rrun tx (f + 1) r q k) (true, s) := by
  refine ⟨fun h2 => ?_, fun h2 => ?_⟩
  · have e : k = tx.length := hs.symm.trans h2.2
    refine ⟨by rw [rrun_n hk h, if_pos ⟨e, hw⟩], ?_⟩
    rw [rrun, if_pos (by omega), if_pos hw]
    exact hf e
  · have e : ¬ k = tx.length := fun e => h2 ⟨rfl, hs.trans e⟩
    rw [rrun_n hk h, if_neg (fun z => e z.1), hs]
theorem take_s (h : nx tx k ≠ 0) : tx.take (k + 1) = tx.take k ++ [nx tx k] := by
  have hk := nx_lt h
  rw [nx_get hk, List.take_add_one]
  simp [hk]
end OUT
/-! ===== the class's steps ===== -/
section KST
variable {tx : List Nat} {k c w' : Nat} {R : List Nat × Nat × Nat × Nat × Nat} {lb : List Nat} {w : Nat} {Q : Nat × Nat × Nat}
theorem ka_y (h : nx tx k = c) : k_accept tx (k, R) c = (true, (k + 1, R)) := by
  unfold k_accept
  rw [if_pos (show k_next tx (k, R) = c from h)]
theorem ka_n (h : nx tx k ≠ c) : k_accept tx (k, R) c = (false, (k, R)) := by
  unfold k_accept
  rw [if_neg (show ¬ k_next tx (k, R) = c from h)]
theorem kw_y (h : nx tx k = c) : k_acceptW tx (k, lb, w, Q) c w' = (true, (k + 1, lb, w', Q)) := by
  unfold k_acceptW
  rw [ka_y h, if_pos rfl]
theorem kw_n (h : nx tx k ≠ c) : k_acceptW tx (k, lb, w, Q) c w' = (false, (k, lb, w, Q)) := by
  unfold k_acceptW
  rw [ka_n h, if_neg (by simp)]
theorem kl_y (h : isl (nx tx k) = true) : k_readLabel tx (k, lb, w, Q) = (true, (k + 1, lb ++ [nx tx k], w, Q)) := by
  unfold isl at h
  simp at h
  unfold k_readLabel
  rw [show k_next tx (k, lb, w, Q) = nx tx k from rfl, if_neg (by omega), if_pos h.2]
theorem kl_n (h : isl (nx tx k) = false) : k_readLabel tx (k, lb, w, Q) = (false, (k, lb, w, Q)) := by
  unfold isl at h
  simp at h
  unfold k_readLabel
  rw [show k_next tx (k, lb, w, Q) = nx tx k from rfl]
  by_cases h1 : nx tx k < 97
  · rw [if_pos h1]
  · rw [if_neg h1, if_neg (by have := h (by omega); omega)]
theorem isl_r {c : Nat} (h : isl c = true) : 97 ≤ c ∧ c ≤ 105 := by
  unfold isl at h
  simpa using h
end KST
/-! letters -/
theorem jl_let {c : Nat} : (jl c = none → md_letterOf c = 0) ∧ ∀ q, jl c = some q → md_letterOf c = 1 <<< q ∧ q < 4 ∧ c ≠ 0 := by
  rw [jl_eq]
  unfold md_letterOf
  by_cases h1 : c = 114
  · subst h1; simp
  by_cases h2 : c = 119
  · subst h2; simp
  by_cases h3 : c = 120
  · subst h3; simp
  by_cases h4 : c = 100
  · subst h4; simp
  simp [h1, h2, h3, h4, Ne.symm h1, Ne.symm h2, Ne.symm h3, Ne.symm h4]
def pop (m : Nat) : Nat := (m &&& 1) + ((m >>> 1) &&& 1) + ((m >>> 2) &&& 1) + ((m >>> 3) &&& 1)
theorem pop_4 {m : Nat} (h : m < 16) (h4 : pop m = 4) : m = 15 := by
  have : ∀ m : Fin 16, pop m.val = 4 → m.val = 15 := by decide
  exact this ⟨m, h⟩ h4
theorem bit_e {m q : Nat} (h : m < 16) (hq : q < 4) : ((m >>> q) &&& 1 = 1 ↔ ¬ m &&& (1 <<< q) = 0) ∧ (m ||| (1 <<< q) < 16) ∧ (m &&& (1 <<< q) = 0 → pop (m ||| (1 <<< q)) = pop m + 1) ∧ m ||| (1 <<< q) ≠ 0 := by
  have : ∀ (m : Fin 16) (q : Fin 4), ((m.val >>> q.val) &&& 1 = 1 ↔ ¬ m.val &&& (1 <<< q.val) = 0) ∧ (m.val ||| (1 <<< q.val) < 16) ∧ (m.val &&& (1 <<< q.val) = 0 → pop (m.val ||| (1 <<< q.val)) = pop m.val + 1) ∧ m.val ||| (1 <<< q.val) ≠ 0 := by decide +kernel
  exact this ⟨m, h⟩ ⟨q, hq⟩
def kls (tx : List Nat) : Nat → RS → Bool × RS
  | 0, s => if s.2.2.2.1 = 0 then (false, s) else (true, s)
  | n + 1, s => (match jl (k_next tx s) with | none => if s.2.2.2.1 = 0 then (false, s) else (true, s) | some q => if (s.2.2.2.1 >>> q) &&& 1 = 1 then (if s.2.2.2.1 = 0 then (false, s) else (true, s)) else kls tx n (s.1 + 1, s.2.1, s.2.2.1, s.2.2.2.1 ||| (1 <<< q), s.2.2.2.2.1, s.2.2.2.2.2))
theorem k_letters_e (tx : List Nat) (s : RS) : k_readLetters tx s = kls tx 4 s := rfl
def rok (tx : List Nat) (L : List Nat) (w : Nat) : Prop := L.length ≤ 3 ∧ (∀ x ∈ L, x ≤ 8) ∧ w ≤ 2 ∧ ∀ m x y, tx.take (hd (2, L, w, m, x, y)).length = hd (2, L, w, m, x, y) ∧ nx tx (hd (2, L, w, m, x, y)).length = 58
theorem letters_ok {tx L : List Nat} {w x y lo hi : Nat} (hb : rok tx L w) : ∀ (n f k m : Nat), k ≤ tx.length → tx.length - k < f → m < 16 → pop m + n = 4 → out tx (rrun tx f (2, L, w, m, x, y) 6 k) (kls tx n (k, L.map (97 + ·), w, m, lo, hi)) := by
  have hfin : ∀ k m, 0 < m → m < 16 → fin tx (2, L, w, m, x, y) (k, L.map (97 + ·), w, m, lo, hi) := by
    intro k m h0 h1
    obtain ⟨b1, b2, b3, b4⟩ := hb
    refine ⟨⟨by simp, by simp, b1, b2, fun h => absurd h (by simp), fun _ => ⟨b3, h0, h1⟩, fun h => absurd h (by simp), fun h => absurd h (by simp)⟩, ?_, ?_, ?_, fun h => absurd h (by simp), fun _ => b4 m x y, fun h => absurd h (by simp)⟩
    · simp [dl]
    · simp [dw]
    · simp [dp]
  have hstop : ∀ f k m, k ≤ tx.length → tx.length - k < f → m < 16 → (rgo (2, L, w, m, x, y) 6 (nx tx k)).1 = none → out tx (rrun tx f (2, L, w, m, x, y) 6 k) (if m = 0 then (false, (k, L.map (97 + ·), w, m, lo, hi)) else (true, (k, L.map (97 + ·), w, m, lo, hi))) := by
    intro f k m hk hf hm hn
    obtain ⟨f, rfl⟩ : ∃ g, f = g + 1 := ⟨f - 1, by omega⟩
    by_cases h0 : m = 0
    · rw [if_pos h0]
      refine out_fail hk hn ?_ rfl
      subst h0
      rfl
    · rw [if_neg h0]
      refine out_whole hk hn ?_ rfl (fun _ => hfin k m (by omega) hm)
      show md_whole 6 m = true
      simp [md_whole, Nat.pos_of_ne_zero h0]
  intro n
  induction n with
  | zero =>
    intro f k m hk hf hm hp
    have h15 := pop_4 hm (by omega)
    refine hstop f k m hk hf hm ?_
    subst h15
    have : ∀ c, (rgo (2, L, w, 15, x, y) 6 c).1 = none := by
      intro c
      simp only [rgo]
      simp
      by_cases h1 : md_letterOf c = 0
      · simp [h1]
      · have : 15 &&& md_letterOf c ≠ 0 := by
          unfold md_letterOf at h1 ⊢
          repeat' split at h1
          all_goals first | exact absurd rfl h1 | skip
          all_goals simp_all
        simp [h1, this]
    exact this _
  | succ n ih =>
    intro f k m hk hf hm hp
    have hj := jl_let (c := nx tx k)
    rw [kls]
    show out tx _ (match jl (nx tx k) with | none => if m = 0 then _ else _ | some q => if (m >>> q) &&& 1 = 1 then _ else _)
    cases h : jl (nx tx k) with
    | none => exact hstop f k m hk hf hm (by simp [rgo, hj.1 h])
    | some q =>
      obtain ⟨j1, j2, j3⟩ := hj.2 q h
      obtain ⟨e1, e2, e3, e4⟩ := bit_e hm j2
      by_cases hb1 : (m >>> q) &&& 1 = 1
      · have hz := e1.mp hb1
        simp only [hb1, if_true]
        exact hstop f k m hk hf hm (by simp [rgo, j1, hz])
      · have hz : m &&& 1 <<< q = 0 := Decidable.not_not.mp (fun z => hb1 (e1.mpr z))
        simp only [hb1, if_false]
        have hk2 := nx_lt j3
        obtain ⟨f, rfl⟩ : ∃ g, f = g + 1 := ⟨f - 1, by omega⟩
        have hp1 : (1 : Nat) <<< q ≠ 0 := by
          intro z
          rw [Nat.shiftLeft_eq] at z
          have := Nat.two_pow_pos q
          omega
        rw [rrun_s (q' := 6) j3 (by simp [rgo, j1, hz, hp1])]
        have e : (rgo (2, L, w, m, x, y) 6 (nx tx k)).2 = (2, L, w, m ||| 1 <<< q, x, y) := by simp [rgo, j1, hz, hp1, rlet]
        rw [e]
        exact ih f (k + 1) (m ||| 1 <<< q) (by omega) (by omega) e2 (by have := e3 hz; omega)
/-! paths -/
def kpl (tx : List Nat) (y : Bool × RS) : Bool × RS := if y.1 = true then (if (k_accept tx y.2 58).1 = true then (if (k_readLetters tx (k_accept tx y.2 58).2).1 = true then (true, (k_readLetters tx (k_accept tx y.2 58).2).2) else (false, (k_readLetters tx (k_accept tx y.2 58).2).2)) else (false, (k_accept tx y.2 58).2)) else (false, y.2)
theorem kpl_f (tx : List Nat) (s : RS) : kpl tx (false, s) = (false, s) := rfl
theorem kpl_y {tx : List Nat} {k : Nat} {R : List Nat × Nat × Nat × Nat × Nat} (h : nx tx k = 58) : kpl tx (true, (k, R)) = kls tx 4 (k + 1, R) := by
  unfold kpl
  rw [if_pos rfl, ka_y h, if_pos rfl, k_letters_e]
  cases hh : (kls tx 4 (k + 1, R)) with
  | mk b s => cases b <;> simp
theorem kpl_n {tx : List Nat} {k : Nat} {R : List Nat × Nat × Nat × Nat × Nat} (h : nx tx k ≠ 58) : kpl tx (true, (k, R)) = (false, (k, R)) := by
  unfold kpl
  rw [if_pos rfl, ka_n h, if_neg (by simp)]
theorem hd2 (L : List Nat) (w m x y : Nat) : hd (2, L, w, m, x, y) = 102 :: (L.flatMap (fun x => [47, 97 + x]) ++ (if w = 0 then [] else if w = 1 then [47, 42] else [47, 45])) := by
  simp [hd, dk]
/-- behind the path: a colon and letters -/
theorem path_end {tx L : List Nat} {w k f q : Nat} (hq : q = 4 ∨ q = 5) (hL : L.length ≤ 3) (hx : ∀ x ∈ L, x ≤ 8) (hw : w ≤ 2) (hk : k ≤ tx.length) (hf : tx.length - k < f) (ht : tx.take k = hd (2, L, w, 0, 0, 0)) (hk2 : k = (hd (2, L, w, 0, 0, 0)).length) (h47 : q = 4 → nx tx k = 47 → ¬ L.length < 3) : out tx (rrun tx f (2, L, w, 0, 0, 0) q k) (kpl tx (true, (k, L.map (97 + ·), w, 0, 0, 0))) := by
  obtain ⟨f, rfl⟩ : ∃ g, f = g + 1 := ⟨f - 1, by omega⟩
  by_cases hc : nx tx k = 58
  · rw [kpl_y hc]
    have hstep : rgo (2, L, w, 0, 0, 0) q (nx tx k) = (some 6, (2, L, w, 0, 0, 0)) := by
      rcases hq with rfl | rfl <;> simp [rgo, hc]
    rw [rrun_s (q' := 6) (by omega) (by rw [hstep]), hstep]
    have hk3 := nx_lt (tx := tx) (k := k) (by omega)
    refine letters_ok ⟨hL, hx, hw, fun m x y => ?_⟩ 4 f (k + 1) 0 (by omega) (by omega) (by decide) (by decide)
    rw [hd2] at ht hk2 ⊢
    rw [← hk2]
    exact ⟨ht, hc⟩
  · rw [kpl_n hc]
    refine out_fail hk ?_ ?_ rfl
    · rcases hq with rfl | rfl
      · by_cases h4 : nx tx k = 47
        · have := h47 rfl h4
          simp [rgo, h4, this]
        · simp [rgo, h4, hc]
      · simp [rgo, hc]
    · rcases hq with rfl | rfl <;> rfl
theorem path_ok {tx : List Nat} : ∀ (n f k : Nat) (L : List Nat), n ≤ 3 → L.length = 3 - n → (∀ x ∈ L, x ≤ 8) → k ≤ tx.length → tx.length - k < f → tx.take k = hd (2, L, 0, 0, 0, 0) → k = (hd (2, L, 0, 0, 0, 0)).length → out tx (rrun tx f (2, L, 0, 0, 0, 0) (if n = 3 then 2 else 4) k) (kpl tx (kp tx n (k, L.map (97 + ·), 0, 0, 0, 0))) := by
  intro n
  induction n with
  | zero =>
    intro f k L _ hl hx hk hf ht hk2
    exact path_end (Or.inl rfl) (by omega) hx (by decide) hk hf ht hk2 (fun _ _ => by omega)
  | succ n ih =>
    intro f k L hn hl hx hk hf ht hk2
    rw [kp]
    by_cases h47 : nx tx k = 47
    · rw [ka_y h47, if_pos rfl]
      have hk3 := nx_lt (tx := tx) (k := k) (by omega)
      obtain ⟨f, rfl⟩ : ∃ g, f = g + 1 := ⟨f - 1, by omega⟩
      have hstep : rgo (2, L, 0, 0, 0, 0) (if n + 1 = 3 then 2 else 4) (nx tx k) = (some 3, (2, L, 0, 0, 0, 0)) := by
        by_cases h3 : n + 1 = 3
        · simp [h3, rgo, h47]
        · have : L.length < 3 := by omega
          simp [h3, rgo, h47, this]
      rw [rrun_s (q' := 3) (by omega) (by rw [hstep]), hstep]
      have ht1 : tx.take (k + 1) = hd (2, L, 0, 0, 0, 0) ++ [47] := by rw [take_s (by omega), ht, h47]
      by_cases h42 : nx tx (k + 1) = 42
      · rw [kw_y h42, if_pos rfl]
        have hk4 := nx_lt (tx := tx) (k := k + 1) (by omega)
        obtain ⟨f, rfl⟩ : ∃ g, f = g + 1 := ⟨f - 1, by omega⟩
        have hs2 : rgo (2, L, 0, 0, 0, 0) 3 (nx tx (k + 1)) = (some 5, (2, L, 1, 0, 0, 0)) := by simp [rgo, h42, rstar]
        rw [rrun_s (q' := 5) (by omega) (by rw [hs2]), hs2]
        refine path_end (Or.inr rfl) (by omega) hx (by decide) (by omega) (by omega) ?_ ?_ (fun h => absurd h (by decide))
        · rw [take_s (by omega), ht1, h42]; simp [hd2]
        · rw [hd2] at hk2 ⊢; simp at hk2 ⊢; omega
      rw [kw_n h42, if_neg (by simp)]
      by_cases h45 : nx tx (k + 1) = 45
      · rw [kw_y h45, if_pos rfl]
        have hk4 := nx_lt (tx := tx) (k := k + 1) (by omega)
        obtain ⟨f, rfl⟩ : ∃ g, f = g + 1 := ⟨f - 1, by omega⟩
        have hs2 : rgo (2, L, 0, 0, 0, 0) 3 (nx tx (k + 1)) = (some 5, (2, L, 2, 0, 0, 0)) := by simp [rgo, h45, rstar]
        rw [rrun_s (q' := 5) (by omega) (by rw [hs2]), hs2]
        refine path_end (Or.inr rfl) (by omega) hx (by decide) (by omega) (by omega) ?_ ?_ (fun h => absurd h (by decide))
        · rw [take_s (by omega), ht1, h45]; simp [hd2]
        · rw [hd2] at hk2 ⊢; simp at hk2 ⊢; omega
      rw [kw_n h45, if_neg (by simp)]
      cases hlb : isl (nx tx (k + 1)) with
      | false =>
        rw [kl_n hlb, if_neg (by simp), kpl_f]
        obtain ⟨f, rfl⟩ : ∃ g, f = g + 1 := ⟨f - 1, by omega⟩
        exact out_fail (by omega) (by simp [rgo, h42, h45, hlb]) rfl rfl
      | true =>
        have hr := isl_r hlb
        rw [kl_y hlb, if_pos rfl]
        have hk4 := nx_lt (tx := tx) (k := k + 1) (by omega)
        obtain ⟨f, rfl⟩ : ∃ g, f = g + 1 := ⟨f - 1, by omega⟩
        have hs2 : rgo (2, L, 0, 0, 0, 0) 3 (nx tx (k + 1)) = (some 4, (2, L ++ [nx tx (k + 1) - 97], 0, 0, 0, 0)) := by simp [rgo, h42, h45, hlb, addl]
        rw [rrun_s (q' := 4) (by omega) (by rw [hs2]), hs2]
        have e97 : 97 + (nx tx (k + 1) - 97) = nx tx (k + 1) := by omega
        have := ih f (k + 1 + 1) (L ++ [nx tx (k + 1) - 97]) (by omega) (by simp; omega) (by simp; intro x hx2; rcases hx2 with hx2 | hx2; exact hx x hx2; omega) (by omega) (by omega) (by rw [take_s (by omega), ht1]; simp [hd2, e97]) (by rw [hd2] at hk2 ⊢; simp at hk2 ⊢; omega)
        rw [if_neg (by omega)] at this
        have em : (L ++ [nx tx (k + 1) - 97]).map (97 + ·) = L.map (97 + ·) ++ [nx tx (k + 1)] := by simp [e97]
        rw [em] at this
        exact this
    · rw [ka_n h47]
      show out tx _ (kpl tx (decide (n < 2), (k, L.map (97 + ·), 0, 0, 0, 0)))
      by_cases h3 : n + 1 = 3
      · have : decide (n < 2) = false := by simp; omega
        rw [this, kpl_f, if_pos h3]
        obtain ⟨f, rfl⟩ : ∃ g, f = g + 1 := ⟨f - 1, by omega⟩
        exact out_fail hk (by simp [rgo, h47]) rfl rfl
      · have : decide (n < 2) = true := by simp; omega
        rw [this, if_neg h3]
        exact path_end (Or.inl rfl) (by omega) hx (by decide) hk hf ht hk2 (fun _ h => absurd h h47)
/-! ranges -/
section RNG
variable {tx : List Nat} {k m : Nat} {R : List Nat × Nat × Nat × Nat × Nat}
theorem kd_y (h : md_isDigit (nx tx k) = true) (hm : m ≤ nx tx k - 48) : k_readDigit tx (k, R) m = (some (nx tx k - 48), (k + 1, R)) := by
  have hd : 48 ≤ nx tx k ∧ nx tx k ≤ 57 := by
    unfold md_isDigit at h
    repeat' split at h
    all_goals first | exact absurd h (by decide) | omega
  unfold k_readDigit
  rw [show k_next tx (k, R) = nx tx k from rfl, if_pos hd.1, if_neg (by omega), if_pos (by omega)]
theorem kd_n (h : ¬ (md_isDigit (nx tx k) = true ∧ m ≤ nx tx k - 48)) : k_readDigit tx (k, R) m = (none, (k, R)) := by
  unfold k_readDigit
  rw [show k_next tx (k, R) = nx tx k from rfl]
  by_cases h1 : 48 ≤ nx tx k
  · rw [if_pos h1]
    by_cases h2 : nx tx k - 48 < m
    · rw [if_pos h2]
    · rw [if_neg h2]
      by_cases h3 : nx tx k - 48 ≤ 9
      · exfalso
        apply h
        refine ⟨?_, by omega⟩
        unfold md_isDigit
        rw [if_neg (by omega), if_neg (by omega)]
      · rw [if_neg h3]
  · rw [if_neg h1]
theorem dig_r {c : Nat} (h : md_isDigit c = true) : 48 ≤ c ∧ c ≤ 57 := by
  unfold md_isDigit at h
  repeat' split at h
  all_goals first | exact absurd h (by decide) | omega
end RNG
theorem sh1 (d : Nat) : 1 <<< 0 = 1 := rfl
theorem range_ok {tx L : List Nat} {w : Nat} {f k : Nat} (hL : L.length ≤ 3) (hx : ∀ x ∈ L, x ≤ 8) (hw : w ≤ 1) (h0 : 0 < L.length ∨ w = 1) (hk : k ≤ tx.length) (hf : tx.length - k < f) (ht : ∀ x y, tx.take (hd (3, L, w, 0, x, y)).length = hd (3, L, w, 0, x, y) ∧ nx tx (hd (3, L, w, 0, x, y)).length = 58) : out tx (rrun tx f (3, L, w, 0, 0, 0) 14 k) (k_readRange tx (k, (L.map (97 + ·)).reverse, (if w = 0 then 0 else 2), 0, 0, 0)) := by
  have hfin : ∀ k lo hi, lo ≤ hi → hi ≤ 9 → fin tx (3, L, w, 0, lo, hi) (k, (L.map (97 + ·)).reverse, (if w = 0 then 0 else 2), (2 <<< hi) - (1 <<< lo), lo, hi) := by
    intro k lo hi h1 h2
    refine ⟨⟨by simp, by simp, hL, hx, fun h => absurd h (by simp), fun h => absurd h (by simp), fun _ => ⟨hw, h0, h1, h2, rfl⟩, fun h => absurd h (by simp)⟩, ?_, ?_, ?_, fun _ => ⟨rfl, rfl⟩, fun _ => ht lo hi, fun h => absurd h (by simp)⟩
    · simp [dl]
    · simp [dw]
    · simp [dp]
  obtain ⟨f, rfl⟩ : ∃ g, f = g + 1 := ⟨f - 1, by omega⟩
  unfold k_readRange
  cases hd1 : md_isDigit (nx tx k) with
  | true =>
    have hr := dig_r hd1
    have hk2 := nx_lt (tx := tx) (k := k) (by omega)
    rw [kd_y hd1 (Nat.zero_le _)]
    have hs : rgo (3, L, w, 0, 0, 0) 14 (nx tx k) = (some 15, (3, L, w, 0, nx tx k - 48, nx tx k - 48)) := by
      have : nx tx k ≠ 45 := by omega
      simp [rgo, this, hd1, rrng]
    rw [rrun_s (q' := 15) (by omega) (by rw [hs]), hs]
    obtain ⟨f, rfl⟩ : ∃ g, f = g + 1 := ⟨f - 1, by omega⟩
    by_cases h45 : nx tx (k + 1) = 45
    · rw [ka_y h45]
      have hk3 := nx_lt (tx := tx) (k := k + 1) (by omega)
      have hs2 : rgo (3, L, w, 0, nx tx k - 48, nx tx k - 48) 15 (nx tx (k + 1)) = (some 16, (3, L, w, 0, nx tx k - 48, 9)) := by simp [rgo, h45, rrng]
      rw [rrun_s (q' := 16) (by omega) (by rw [hs2]), hs2]
      obtain ⟨f, rfl⟩ : ∃ g, f = g + 1 := ⟨f - 1, by omega⟩
      simp only [if_true, Option.getD_some]
      by_cases hd2 : md_isDigit (nx tx (k + 1 + 1)) = true ∧ nx tx k - 48 ≤ nx tx (k + 1 + 1) - 48
      · have hr2 := dig_r hd2.1
        have hk4 := nx_lt (tx := tx) (k := k + 1 + 1) (by omega)
        rw [kd_y hd2.1 hd2.2]
        have hs3 : rgo (3, L, w, 0, nx tx k - 48, 9) 16 (nx tx (k + 1 + 1)) = (some 17, (3, L, w, 0, nx tx k - 48, nx tx (k + 1 + 1) - 48)) := by simp [rgo, hd2.1, hd2.2, rrng]
        rw [rrun_s (q' := 17) (by omega) (by rw [hs3]), hs3]
        obtain ⟨f, rfl⟩ : ∃ g, f = g + 1 := ⟨f - 1, by omega⟩
        exact out_whole (by omega) (by simp [rgo]) rfl rfl (fun _ => hfin _ _ _ (by omega) (by omega))
      · rw [kd_n hd2]
        exact out_whole (by omega) (by simp only [rgo]; simp; rw [if_neg (fun h => hd2 ⟨h.1, by omega⟩)]) rfl rfl (fun _ => hfin _ _ 9 (by omega) (by omega))
    · rw [ka_n h45]
      simp only [Bool.false_eq_true, if_false]
      exact out_whole (by omega) (by simp [rgo, h45]) rfl rfl (fun _ => hfin _ _ _ (by omega) (by omega))
  | false =>
    rw [kd_n (by rw [hd1]; simp)]
    by_cases h45 : nx tx k = 45
    · rw [ka_y h45]
      have hk2 := nx_lt (tx := tx) (k := k) (by omega)
      have hs : rgo (3, L, w, 0, 0, 0) 14 (nx tx k) = (some 18, (3, L, w, 0, 0, 9)) := by simp [rgo, h45, rrng]
      rw [rrun_s (q' := 18) (by omega) (by rw [hs]), hs]
      obtain ⟨f, rfl⟩ : ∃ g, f = g + 1 := ⟨f - 1, by omega⟩
      simp only [if_true, Option.getD_none]
      cases hd2 : md_isDigit (nx tx (k + 1)) with
      | true =>
        have hr2 := dig_r hd2
        have hk4 := nx_lt (tx := tx) (k := k + 1) (by omega)
        rw [kd_y hd2 (Nat.zero_le _)]
        have hs3 : rgo (3, L, w, 0, 0, 9) 18 (nx tx (k + 1)) = (some 17, (3, L, w, 0, 0, nx tx (k + 1) - 48)) := by simp [rgo, hd2, rrng]
        rw [rrun_s (q' := 17) (by omega) (by rw [hs3]), hs3]
        obtain ⟨f, rfl⟩ : ∃ g, f = g + 1 := ⟨f - 1, by omega⟩
        exact out_whole (by omega) (by simp [rgo]) rfl rfl (fun _ => hfin _ 0 _ (by omega) (by omega))
      | false =>
        rw [kd_n (by rw [hd2]; simp)]
        exact out_fail (by omega) (by simp [rgo, hd2]) rfl rfl
    · rw [ka_n h45]
      simp only [Bool.false_eq_true, if_false]
      exact out_fail hk (by simp [rgo, h45, hd1]) rfl rfl
/-! hosts -/
def khl (tx : List Nat) : Nat → RS → Bool × RS
  | 0, s => (true, (s.1, s.2.1.reverse, s.2.2.1, s.2.2.2.1, s.2.2.2.2.1, s.2.2.2.2.2))
  | n + 1, s => if (k_accept tx s 46).1 = true then (if (k_readLabel tx (k_accept tx s 46).2).1 = true then khl tx n (k_readLabel tx (k_accept tx s 46).2).2 else (false, (k_readLabel tx (k_accept tx s 46).2).2)) else (true, ((k_accept tx s 46).2.1, (k_accept tx s 46).2.2.1.reverse, (k_accept tx s 46).2.2.2.1, (k_accept tx s 46).2.2.2.2.1, (k_accept tx s 46).2.2.2.2.2.1, (k_accept tx s 46).2.2.2.2.2.2))
theorem k_rhl2_e (tx : List Nat) (s : RS) : k_rhl2 tx s = if (k_readLabel tx s).1 = true then khl tx 1 (k_readLabel tx s).2 else (false, (k_readLabel tx s).2) := rfl
theorem k_rhl3_e (tx : List Nat) (s : RS) : k_rhl3 tx s = if (k_readLabel tx s).1 = true then khl tx 2 (k_readLabel tx s).2 else (false, (k_readLabel tx s).2) := rfl
def khr (tx : List Nat) (y : Bool × RS) : Bool × RS := if y.1 = true then (if (k_accept tx y.2 58).1 = true then (if (k_readRange tx (k_accept tx y.2 58).2).1 = true then (true, (k_readRange tx (k_accept tx y.2 58).2).2) else (false, (k_readRange tx (k_accept tx y.2 58).2).2)) else (false, (k_accept tx y.2 58).2)) else (false, y.2)
theorem khr_f (tx : List Nat) (s : RS) : khr tx (false, s) = (false, s) := rfl
theorem khr_y {tx : List Nat} {k : Nat} {R : List Nat × Nat × Nat × Nat × Nat} (h : nx tx k = 58) : khr tx (true, (k, R)) = k_readRange tx (k + 1, R) := by
  unfold khr
  rw [if_pos rfl, ka_y h, if_pos rfl]
  cases hh : (k_readRange tx (k + 1, R)) with
  | mk b s => cases b <;> simp
theorem khr_n {tx : List Nat} {k : Nat} {R : List Nat × Nat × Nat × Nat × Nat} (h : nx tx k ≠ 58) : khr tx (true, (k, R)) = (false, (k, R)) := by
  unfold khr
  rw [if_pos rfl, ka_n h, if_neg (by simp)]
theorem hd3 (L : List Nat) (w m x y : Nat) : hd (3, L, w, m, x, y) = 104 :: ((if w = 1 then (if L = [] then [42] else [42, 46]) else []) ++ dots L) := by
  simp [hd, dk]
theorem host_end {tx L : List Nat} {w k f q : Nat} (hq : q = 11 ∨ q = 13) (h11 : q = 11 → nx tx k ≠ 46) (h13 : q = 13 → nx tx k = 46 → ¬ L.length < (if w = 1 then 2 else 3)) (hL : L.length ≤ 3) (hx : ∀ x ∈ L, x ≤ 8) (hw : w ≤ 1) (h0 : 0 < L.length ∨ w = 1) (hk : k ≤ tx.length) (hf : tx.length - k < f) (ht : tx.take k = hd (3, L, w, 0, 0, 0)) (hk2 : k = (hd (3, L, w, 0, 0, 0)).length) : out tx (rrun tx f (3, L, w, 0, 0, 0) q k) (khr tx (true, (k, (L.map (97 + ·)).reverse, (if w = 0 then 0 else 2), 0, 0, 0))) := by
  obtain ⟨f, rfl⟩ : ∃ g, f = g + 1 := ⟨f - 1, by omega⟩
  by_cases hc : nx tx k = 58
  · rw [khr_y hc]
    have hstep : rgo (3, L, w, 0, 0, 0) q (nx tx k) = (some 14, (3, L, w, 0, 0, 0)) := by
      rcases hq with rfl | rfl <;> simp [rgo, hc]
    rw [rrun_s (q' := 14) (by omega) (by rw [hstep]), hstep]
    have hk3 := nx_lt (tx := tx) (k := k) (by omega)
    refine range_ok hL hx hw h0 (by omega) (by omega) (fun x y => ?_)
    rw [hd3] at ht hk2 ⊢
    rw [← hk2]
    exact ⟨ht, hc⟩
  · rw [khr_n hc]
    refine out_fail hk ?_ ?_ rfl
    · rcases hq with rfl | rfl
      · have := h11 rfl
        simp [rgo, this, hc]
      · by_cases h4 : nx tx k = 46
        · have := h13 rfl h4
          simp only [rgo]
          simp [h4]
          rw [if_neg this]
        · simp [rgo, h4, hc]
    · rcases hq with rfl | rfl <;> rfl
theorem host_ok {tx : List Nat} {w : Nat} (hw : w ≤ 1) : ∀ (n f k : Nat) (L : List Nat), 0 < L.length → L.length + n = (if w = 1 then 2 else 3) → (∀ x ∈ L, x ≤ 8) → k ≤ tx.length → tx.length - k < f → tx.take k = hd (3, L, w, 0, 0, 0) → k = (hd (3, L, w, 0, 0, 0)).length → out tx (rrun tx f (3, L, w, 0, 0, 0) 13 k) (khr tx (khl tx n (k, L.map (97 + ·), (if w = 0 then 0 else 2), 0, 0, 0))) := by
  have hb : (if w = 1 then 2 else 3) ≤ 3 := by split <;> omega
  intro n
  induction n with
  | zero =>
    intro f k L h0 hl hx hk hf ht hk2
    exact host_end (Or.inr rfl) (fun h => absurd h (by decide)) (fun _ _ => by omega) (by omega) hx hw (Or.inl h0) hk hf ht hk2
  | succ n ih =>
    intro f k L h0 hl hx hk hf ht hk2
    rw [khl]
    by_cases h46 : nx tx k = 46
    · rw [ka_y h46, if_pos rfl]
      have hk3 := nx_lt (tx := tx) (k := k) (by omega)
      obtain ⟨f, rfl⟩ : ∃ g, f = g + 1 := ⟨f - 1, by omega⟩
      have hlt : L.length < (if w = 1 then 2 else 3) := by omega
      have hstep : rgo (3, L, w, 0, 0, 0) 13 (nx tx k) = (some 12, (3, L, w, 0, 0, 0)) := by
        simp only [rgo]
        simp [h46]
        exact hlt
      rw [rrun_s (q' := 12) (by omega) (by rw [hstep]), hstep]
      have ht1 : tx.take (k + 1) = hd (3, L, w, 0, 0, 0) ++ [46] := by rw [take_s (by omega), ht, h46]
      cases hlb : isl (nx tx (k + 1)) with
      | false =>
        rw [kl_n hlb, if_neg (by simp), khr_f]
        obtain ⟨f, rfl⟩ : ∃ g, f = g + 1 := ⟨f - 1, by omega⟩
        exact out_fail (by omega) (by simp [rgo, hlb]) rfl rfl
      | true =>
        have hr := isl_r hlb
        rw [kl_y hlb, if_pos rfl]
        have hk4 := nx_lt (tx := tx) (k := k + 1) (by omega)
        obtain ⟨f, rfl⟩ : ∃ g, f = g + 1 := ⟨f - 1, by omega⟩
        have hs2 : rgo (3, L, w, 0, 0, 0) 12 (nx tx (k + 1)) = (some 13, (3, L ++ [nx tx (k + 1) - 97], w, 0, 0, 0)) := by simp [rgo, hlb, addl]
        rw [rrun_s (q' := 13) (by omega) (by rw [hs2]), hs2]
        have e97 : 97 + (nx tx (k + 1) - 97) = nx tx (k + 1) := by omega
        have hne : L ≠ [] := by intro h; rw [h] at h0; simp at h0
        have hh : hd (3, L ++ [nx tx (k + 1) - 97], w, 0, 0, 0) = hd (3, L, w, 0, 0, 0) ++ [46, nx tx (k + 1)] := by
          rw [hd3, hd3, dots_app, if_neg hne, e97]
          simp [hne]
        have := ih f (k + 1 + 1) (L ++ [nx tx (k + 1) - 97]) (by simp) (by simp; omega) (by simp; intro x hx2; rcases hx2 with hx2 | hx2; exact hx x hx2; omega) (by omega) (by omega) (by rw [take_s (by omega), ht1, hh]; simp) (by rw [hh]; simp; omega)
        have em : (L ++ [nx tx (k + 1) - 97]).map (97 + ·) = L.map (97 + ·) ++ [nx tx (k + 1)] := by simp [e97]
        rw [em] at this
        exact this
    · rw [ka_n h46]
      exact host_end (Or.inr rfl) (fun h => absurd h (by decide)) (fun _ h => absurd h h46) (by omega) hx hw (Or.inl h0) hk hf ht hk2
theorem hosts_ok {tx : List Nat} {f : Nat} (hf : tx.length - 1 < f) (ht : tx.take 1 = [104]) (hk : 1 ≤ tx.length) : out tx (rrun tx f (3, [], 0, 0, 0, 0) 10 1) (khr tx (k_readHost tx (1, [], 0, 0, 0, 0))) := by
  obtain ⟨f, rfl⟩ : ∃ g, f = g + 1 := ⟨f - 1, by omega⟩
  unfold k_readHost
  by_cases h42 : nx tx 1 = 42
  · rw [kw_y h42, if_pos rfl]
    have hk3 := nx_lt (tx := tx) (k := 1) (by omega)
    have hs : rgo (3, [], 0, 0, 0, 0) 10 (nx tx 1) = (some 11, (3, [], 1, 0, 0, 0)) := by simp [rgo, h42, rstar]
    rw [rrun_s (q' := 11) (by omega) (by rw [hs]), hs]
    have ht1 : tx.take (1 + 1) = [104, 42] := by rw [take_s (by omega), ht, h42]; rfl
    by_cases h46 : nx tx (1 + 1) = 46
    · rw [ka_y h46, if_pos rfl, k_rhl2_e]
      have hk4 := nx_lt (tx := tx) (k := 1 + 1) (by omega)
      obtain ⟨f, rfl⟩ : ∃ g, f = g + 1 := ⟨f - 1, by omega⟩
      have hs2 : rgo (3, [], 1, 0, 0, 0) 11 (nx tx (1 + 1)) = (some 12, (3, [], 1, 0, 0, 0)) := by simp [rgo, h46]
      rw [rrun_s (q' := 12) (by omega) (by rw [hs2]), hs2]
      have ht2 : tx.take (1 + 1 + 1) = [104, 42, 46] := by rw [take_s (by omega), ht1, h46]; rfl
      cases hlb : isl (nx tx (1 + 1 + 1)) with
      | false =>
        rw [kl_n hlb]
        obtain ⟨f, rfl⟩ : ∃ g, f = g + 1 := ⟨f - 1, by omega⟩
        exact out_fail (by omega) (by simp [rgo, hlb]) rfl rfl
      | true =>
        have hr := isl_r hlb
        rw [kl_y hlb]
        have hk5 := nx_lt (tx := tx) (k := 1 + 1 + 1) (by omega)
        obtain ⟨f, rfl⟩ : ∃ g, f = g + 1 := ⟨f - 1, by omega⟩
        have hs3 : rgo (3, [], 1, 0, 0, 0) 12 (nx tx (1 + 1 + 1)) = (some 13, (3, [nx tx (1 + 1 + 1) - 97], 1, 0, 0, 0)) := by simp [rgo, hlb, addl]
        rw [rrun_s (q' := 13) (by omega) (by rw [hs3]), hs3]
        have e97 : 97 + (nx tx (1 + 1 + 1) - 97) = nx tx (1 + 1 + 1) := by omega
        have h0z : nx tx (1 + 1 + 1) ≠ 0 := by omega
        have := host_ok (tx := tx) (w := 1) (by decide) 1 f (1 + 1 + 1 + 1) [nx tx (1 + 1 + 1) - 97] (by simp) (by simp) (fun x hx2 => by rw [List.mem_singleton] at hx2; omega) (by omega) (by omega) (by rw [take_s (tx := tx) (k := 1 + 1 + 1) h0z, ht2, hd3]; simp only [dots, e97]; rfl) (by rw [hd3]; simp [dots])
        have e2 : ([nx tx (1 + 1 + 1) - 97] : List Nat).map (97 + ·) = [] ++ [nx tx (1 + 1 + 1)] := by simp [e97]
        rw [e2] at this
        rw [if_pos rfl]
        cases hh : khl tx 1 (1 + 1 + 1 + 1, [] ++ [nx tx (1 + 1 + 1)], 2, 0, 0, 0) with
        | mk b s =>
          rw [show (if (1 : Nat) = 0 then 0 else 2) = 2 from rfl, hh] at this
          cases b <;> exact this
    · rw [ka_n h46]
      exact host_end (Or.inl rfl) (fun _ => h46) (fun h => absurd h (by decide)) (by simp) (by simp) (by decide) (Or.inr rfl) (by omega) (by omega) (by rw [ht1, hd3]; rfl) (by rw [hd3]; rfl)
  · rw [kw_n h42]
    show out tx _ (khr tx ((k_rhl3 tx (1, [], 0, 0, 0, 0)).1, (k_rhl3 tx (1, [], 0, 0, 0, 0)).2))
    rw [k_rhl3_e]
    cases hlb : isl (nx tx 1) with
    | false =>
      rw [kl_n hlb]
      exact out_fail hk (by simp [rgo, h42, hlb]) rfl rfl
    | true =>
      have hr := isl_r hlb
      rw [kl_y hlb, if_pos rfl]
      have hk5 := nx_lt (tx := tx) (k := 1) (by omega)
      have hs3 : rgo (3, [], 0, 0, 0, 0) 10 (nx tx 1) = (some 13, (3, [nx tx 1 - 97], 0, 0, 0, 0)) := by simp [rgo, h42, hlb, addl]
      rw [rrun_s (q' := 13) (by omega) (by rw [hs3]), hs3]
      have e97 : 97 + (nx tx 1 - 97) = nx tx 1 := by omega
      have := host_ok (tx := tx) (w := 0) (by decide) 2 f (1 + 1) [nx tx 1 - 97] (by simp) (by simp) (fun x hx2 => by rw [List.mem_singleton] at hx2; omega) (by omega) (by omega) (by rw [take_s (by omega), ht, hd3]; simp [dots, e97]) (by rw [hd3]; simp [dots])
      have e2 : ([nx tx 1 - 97] : List Nat).map (97 + ·) = [] ++ [nx tx 1] := by simp [e97]
      rw [e2] at this
      exact this
/-! names -/
def kn (tx : List Nat) : Nat → RS → Bool × RS
  | 0, s => (true, s)
  | n + 1, s => if (k_accept tx s 46).1 = true then (if (k_acceptW tx (k_accept tx s 46).2 42 2).1 = true then (true, (k_acceptW tx (k_accept tx s 46).2 42 2).2) else if (k_readLabel tx (k_acceptW tx (k_accept tx s 46).2 42 2).2).1 = true then kn tx n (k_readLabel tx (k_acceptW tx (k_accept tx s 46).2 42 2).2).2 else (false, (k_readLabel tx (k_acceptW tx (k_accept tx s 46).2 42 2).2).2)) else (true, (k_accept tx s 46).2)
theorem k_name_e (tx : List Nat) (s : RS) : k_readName tx s = if (k_acceptW tx s 42 2).1 = true then (true, (k_acceptW tx s 42 2).2) else if (k_readLabel tx (k_acceptW tx s 42 2).2).1 = true then kn tx 2 (k_readLabel tx (k_acceptW tx s 42 2).2).2 else (false, (k_readLabel tx (k_acceptW tx s 42 2).2).2) := rfl
theorem hd4 (L : List Nat) (w m x y : Nat) : hd (4, L, w, m, x, y) = 110 :: (dots L ++ (if w = 1 then (if L = [] then [42] else [46, 42]) else [])) := by
  simp [hd, dk]
theorem name_fin {tx L : List Nat} {w : Nat} {k : Nat} (hL : L.length ≤ 3) (hx : ∀ x ∈ L, x ≤ 8) (hw : w ≤ 1) (h0 : 0 < L.length ∨ w = 1) (ht : tx.take k = hd (4, L, w, 0, 0, 0)) (hk : k = tx.length) : fin tx (4, L, w, 0, 0, 0) (k, L.map (97 + ·), (if w = 0 then 0 else 2), 0, 0, 0) := by
  refine ⟨⟨by simp, by simp, hL, hx, fun h => absurd h (by simp), fun h => absurd h (by simp), fun h => absurd h (by simp), fun _ => ⟨hw, h0, rfl⟩⟩, ?_, ?_, ?_, fun h => absurd h (by simp), fun h => absurd h (by simp), fun _ => ?_⟩
  · simp [dl]
  · simp [dw]
  · simp [dp]
  · rw [← ht, hk, List.take_length]
theorem name_ok {tx : List Nat} : ∀ (n f k : Nat) (L : List Nat), 0 < L.length → L.length + n = 3 → (∀ x ∈ L, x ≤ 8) → k ≤ tx.length → tx.length - k < f → tx.take k = hd (4, L, 0, 0, 0, 0) → out tx (rrun tx f (4, L, 0, 0, 0, 0) 22 k) (kn tx n (k, L.map (97 + ·), 0, 0, 0, 0)) := by
  intro n
  induction n with
  | zero =>
    intro f k L h0 hl hx hk hf ht
    obtain ⟨f, rfl⟩ : ∃ g, f = g + 1 := ⟨f - 1, by omega⟩
    have : ¬ L.length < 3 := by omega
    exact out_whole hk (by simp [rgo, this]) rfl rfl (fun e => name_fin (w := 0) (by omega) hx (by decide) (Or.inl h0) ht e)
  | succ n ih =>
    intro f k L h0 hl hx hk hf ht
    rw [kn]
    obtain ⟨f, rfl⟩ : ∃ g, f = g + 1 := ⟨f - 1, by omega⟩
    by_cases h46 : nx tx k = 46
    · rw [ka_y h46, if_pos rfl]
      have hk3 := nx_lt (tx := tx) (k := k) (by omega)
      have hlt : L.length < 3 := by omega
      have hne : L ≠ [] := by intro h; rw [h] at h0; simp at h0
      have hstep : rgo (4, L, 0, 0, 0, 0) 22 (nx tx k) = (some 23, (4, L, 0, 0, 0, 0)) := by simp [rgo, h46, hlt]
      rw [rrun_s (q' := 23) (by omega) (by rw [hstep]), hstep]
      have ht1 : tx.take (k + 1) = hd (4, L, 0, 0, 0, 0) ++ [46] := by rw [take_s (by omega), ht, h46]
      obtain ⟨f, rfl⟩ : ∃ g, f = g + 1 := ⟨f - 1, by omega⟩
      by_cases h42 : nx tx (k + 1) = 42
      · rw [kw_y h42, if_pos rfl]
        have hk4 := nx_lt (tx := tx) (k := k + 1) (by omega)
        have hs2 : rgo (4, L, 0, 0, 0, 0) 23 (nx tx (k + 1)) = (some 21, (4, L, 1, 0, 0, 0)) := by simp [rgo, h42, rstar]
        rw [rrun_s (q' := 21) (by omega) (by rw [hs2]), hs2]
        obtain ⟨f, rfl⟩ : ∃ g, f = g + 1 := ⟨f - 1, by omega⟩
        exact out_whole (by omega) (by simp [rgo]) rfl rfl (fun e => name_fin (w := 1) (by omega) hx (by decide) (Or.inl h0) (by rw [take_s (by omega), ht1, h42]; simp [hd4, hne]) e)
      rw [kw_n h42, if_neg (by simp)]
      cases hlb : isl (nx tx (k + 1)) with
      | false =>
        rw [kl_n hlb, if_neg (by simp)]
        exact out_fail (by omega) (by simp [rgo, h42, hlb]) rfl rfl
      | true =>
        have hr := isl_r hlb
        rw [kl_y hlb, if_pos rfl]
        have hk4 := nx_lt (tx := tx) (k := k + 1) (by omega)
        have hs2 : rgo (4, L, 0, 0, 0, 0) 23 (nx tx (k + 1)) = (some 22, (4, L ++ [nx tx (k + 1) - 97], 0, 0, 0, 0)) := by simp [rgo, h42, hlb, addl]
        rw [rrun_s (q' := 22) (by omega) (by rw [hs2]), hs2]
        have e97 : 97 + (nx tx (k + 1) - 97) = nx tx (k + 1) := by omega
        have hh : hd (4, L ++ [nx tx (k + 1) - 97], 0, 0, 0, 0) = hd (4, L, 0, 0, 0, 0) ++ [46, nx tx (k + 1)] := by
          rw [hd4, hd4, dots_app, if_neg hne, e97]
          simp
        have := ih f (k + 1 + 1) (L ++ [nx tx (k + 1) - 97]) (by simp) (by simp; omega) (by simp; intro x hx2; rcases hx2 with hx2 | hx2; exact hx x hx2; omega) (by omega) (by omega) (by rw [take_s (by omega), ht1, hh]; simp)
        have em : (L ++ [nx tx (k + 1) - 97]).map (97 + ·) = L.map (97 + ·) ++ [nx tx (k + 1)] := by simp [e97]
        rw [em] at this
        exact this
    · rw [ka_n h46]
      exact out_whole hk (by simp [rgo, h46]) rfl rfl (fun e => name_fin (w := 0) (by omega) hx (by decide) (Or.inl h0) ht e)
theorem names_ok {tx : List Nat} {f : Nat} (hf : tx.length - 1 < f) (ht : tx.take 1 = [110]) (hk : 1 ≤ tx.length) : out tx (rrun tx f (4, [], 0, 0, 0, 0) 20 1) (k_readName tx (1, [], 0, 0, 0, 0)) := by
  obtain ⟨f, rfl⟩ : ∃ g, f = g + 1 := ⟨f - 1, by omega⟩
  rw [k_name_e]
  by_cases h42 : nx tx 1 = 42
  · rw [kw_y h42, if_pos rfl]
    have hk3 := nx_lt (tx := tx) (k := 1) (by omega)
    have hs : rgo (4, [], 0, 0, 0, 0) 20 (nx tx 1) = (some 21, (4, [], 1, 0, 0, 0)) := by simp [rgo, h42, rstar]
    rw [rrun_s (q' := 21) (by omega) (by rw [hs]), hs]
    obtain ⟨f, rfl⟩ : ∃ g, f = g + 1 := ⟨f - 1, by omega⟩
    exact out_whole (by omega) (by simp [rgo]) rfl rfl (fun e => name_fin (L := []) (w := 1) (by simp) (by simp) (by decide) (Or.inr rfl) (by rw [take_s (by omega), ht, h42]; simp [hd4, dots]) e)
  · rw [kw_n h42, if_neg (by simp)]
    cases hlb : isl (nx tx 1) with
    | false =>
      rw [kl_n hlb, if_neg (by simp)]
      exact out_fail hk (by simp [rgo, h42, hlb]) rfl rfl
    | true =>
      have hr := isl_r hlb
      rw [kl_y hlb, if_pos rfl]
      have hk5 := nx_lt (tx := tx) (k := 1) (by omega)
      have hs3 : rgo (4, [], 0, 0, 0, 0) 20 (nx tx 1) = (some 22, (4, [nx tx 1 - 97], 0, 0, 0, 0)) := by simp [rgo, h42, hlb, addl]
      rw [rrun_s (q' := 22) (by omega) (by rw [hs3]), hs3]
      have e97 : 97 + (nx tx 1 - 97) = nx tx 1 := by omega
      have := name_ok (tx := tx) 2 f (1 + 1) [nx tx 1 - 97] (by simp) (by simp) (fun x hx2 => by rw [List.mem_singleton] at hx2; omega) (by omega) (by omega) (by rw [take_s (by omega), ht, hd4]; simp [dots, e97])
      have e2 : ([nx tx 1 - 97] : List Nat).map (97 + ·) = [] ++ [nx tx 1] := by simp [e97]
      rw [e2] at this
      exact this
/-! the whole reading -/
def rs0 : RS := (0, [], 0, 0, 0, 0)
theorem k_perm_e (tx : List Nat) (s : RS) : k_readPerm tx s = if (k_accept tx s 42).1 = true then (true, ((k_accept tx s 42).2.1, (k_accept tx s 42).2.2.1, (k_accept tx s 42).2.2.2.1, 4294967295, (k_accept tx s 42).2.2.2.2.2.1, (k_accept tx s 42).2.2.2.2.2.2)) else if (k_accept tx (k_accept tx s 42).2 102).1 = true then kpl tx (k_readPath tx (k_accept tx (k_accept tx s 42).2 102).2) else if (k_accept tx (k_accept tx (k_accept tx s 42).2 102).2 104).1 = true then khr tx (k_readHost tx (k_accept tx (k_accept tx (k_accept tx s 42).2 102).2 104).2) else if (k_accept tx (k_accept tx (k_accept tx (k_accept tx s 42).2 102).2 104).2 110).1 = true then (if (k_readName tx (k_accept tx (k_accept tx (k_accept tx (k_accept tx s 42).2 102).2 104).2 110).2).1 = true then (true, (k_readName tx (k_accept tx (k_accept tx (k_accept tx (k_accept tx s 42).2 102).2 104).2 110).2).2) else (false, (k_readName tx (k_accept tx (k_accept tx (k_accept tx (k_accept tx s 42).2 102).2 104).2 110).2).2)) else (false, (k_accept tx (k_accept tx (k_accept tx (k_accept tx s 42).2 102).2 104).2 110).2) := rfl
theorem perm_ok {tx : List Nat} (h16 : tx.length ≤ 16) : out tx (rrun tx 17 r0 0 0) (k_readPerm tx rs0) := by
  rw [k_perm_e]
  unfold rs0
  have t0 : tx.take 0 = [] := rfl
  by_cases h42 : nx tx 0 = 42
  · rw [ka_y h42, if_pos rfl]
    have hk := nx_lt (tx := tx) (k := 0) (by omega)
    have hs : rgo r0 0 (nx tx 0) = (some 1, (1, [], 0, 0, 0, 0)) := by simp [rgo, h42, r0]
    rw [rrun_s (q' := 1) (by omega) (by rw [hs]), hs]
    refine out_whole (by omega) (by simp [rgo]) rfl rfl (fun e => ?_)
    refine ⟨⟨by simp, by simp, by simp, by simp, fun _ => ⟨rfl, rfl, rfl⟩, fun h => absurd h (by simp), fun h => absurd h (by simp), fun h => absurd h (by simp)⟩, rfl, rfl, rfl, fun h => absurd h (by simp), fun h => absurd h (by simp), fun _ => ?_⟩
    rw [← List.take_length (l := tx), ← e, take_s (by omega), t0, h42]
    rfl
  rw [ka_n h42, if_neg (by simp)]
  by_cases h102 : nx tx 0 = 102
  · rw [ka_y h102, if_pos rfl, k_path_e]
    have hk := nx_lt (tx := tx) (k := 0) (by omega)
    have hs : rgo r0 0 (nx tx 0) = (some 2, (2, [], 0, 0, 0, 0)) := by simp [rgo, h102, r0]
    rw [rrun_s (q' := 2) (by omega) (by rw [hs]), hs]
    exact path_ok 3 16 1 [] (by decide) rfl (by simp) (by omega) (by omega) (by rw [take_s (by omega), t0, h102]; rfl) rfl
  rw [ka_n h102, if_neg (by simp)]
  by_cases h104 : nx tx 0 = 104
  · rw [ka_y h104, if_pos rfl]
    have hk := nx_lt (tx := tx) (k := 0) (by omega)
    have hs : rgo r0 0 (nx tx 0) = (some 10, (3, [], 0, 0, 0, 0)) := by simp [rgo, h104, r0]
    rw [rrun_s (q' := 10) (by omega) (by rw [hs]), hs]
    exact hosts_ok (by omega) (by rw [take_s (by omega), t0, h104]; rfl) (by omega)
  rw [ka_n h104, if_neg (by simp)]
  by_cases h110 : nx tx 0 = 110
  · rw [ka_y h110, if_pos rfl]
    have hk := nx_lt (tx := tx) (k := 0) (by omega)
    have hs : rgo r0 0 (nx tx 0) = (some 20, (4, [], 0, 0, 0, 0)) := by simp [rgo, h110, r0]
    rw [rrun_s (q' := 20) (by omega) (by rw [hs]), hs]
    have := names_ok (tx := tx) (f := 16) (by omega) (by rw [take_s (by omega), t0, h110]; rfl) (by omega)
    cases hh : k_readName tx (1, [], 0, 0, 0, 0) with
    | mk b s =>
      rw [hh] at this
      cases b <;> exact this
  · rw [ka_n h110, if_neg (by simp)]
    exact out_fail (by omega) (by simp [rgo, h42, h102, h104, h110]) rfl rfl
theorem succ_ok {tx : List Nat} (h16 : tx.length ≤ 16) : ((k_succ tx rs0).1 = true → (rrun tx 17 r0 0 0).1 = none ∧ fin tx (rrun tx 17 r0 0 0).2 (k_succ tx rs0).2) ∧ ((k_succ tx rs0).1 = false → (rrun tx 17 r0 0 0).1 = some (k_succ tx rs0).2.1) := by
  have h := perm_ok h16
  unfold k_succ
  cases hh : k_readPerm tx rs0 with
  | mk b s =>
    rw [hh] at h
    obtain ⟨h1, h2⟩ := h
    cases b with
    | false => exact ⟨fun e => absurd e (by simp), fun _ => h2 (by simp)⟩
    | true =>
      by_cases e : s.1 = tx.length
      · simp only [e, if_true]
        exact ⟨fun _ => h1 ⟨rfl, e⟩, fun h => absurd h (by simp)⟩
      · simp only [e, if_true, if_false]
        exact ⟨fun h => absurd h (by simp), fun _ => h2 (fun z => e z.2)⟩
/-! ===== what is written ===== -/
def lets (m : Nat) : List Nat := (if m &&& 1 = 1 then [114] else []) ++ (if (m >>> 1) &&& 1 = 1 then [119] else []) ++ (if (m >>> 2) &&& 1 = 1 then [120] else []) ++ (if (m >>> 3) &&& 1 = 1 then [100] else [])
def rngt (lo hi : Nat) : List Nat := if hi ≤ lo then [48 + lo] else [48 + lo, 45, 48 + hi]
def dt (r : RQ) : List Nat := hd r ++ (if r.1 = 2 then 58 :: lets r.2.2.2.1 else if r.1 = 3 then 58 :: rngt r.2.2.2.2.1 r.2.2.2.2.2 else [])
/-- the output so far -/
def wt (N0 N : Nat → Nat → Nat) (l : List Nat) : Prop := (∀ i, i ≠ 10 → i ≠ 11 → N i = N0 i) ∧ N 10 0 = l.length ∧ ∀ j, j < l.length → N 11 j = l.getD j 0
theorem wt.put {N0 N : Nat → Nat → Nat} {l : List Nat} (h : wt N0 N l) (c : Nat) : wt N0 (md_put N c) (l ++ [c]) := by
  obtain ⟨h1, h2, h3⟩ := h
  refine ⟨fun i a b => ?_, ?_, fun j hj => ?_⟩
  · rw [← h1 i a b]
    simp [md_put, md_set, va_up, a, b]
  · simp [md_put, md_set, va_up, h2]
  · simp at hj
    by_cases e : j = l.length
    · subst e
      simp [md_put, md_set, va_up, h2, List.getD_eq_getElem?_getD]
    · have hj2 : j < l.length := by omega
      have := h3 j hj2
      simp [md_put, md_set, va_up, h2, e, this, List.getD_eq_getElem?_getD, List.getElem?_append_left hj2]
theorem wt.put2 {N0 N : Nat → Nat → Nat} {l : List Nat} (h : wt N0 N l) (c d : Nat) : wt N0 (md_put (md_put N c) d) (l ++ [c, d]) := by
  have := (h.put c).put d
  simpa using this
section WR
variable {N0 N : Nat → Nat → Nat} {l : List Nat} {p : Nat}
theorem wt.e (h : wt N0 N l) (i j : Nat) (a : i ≠ 10) (b : i ≠ 11) : N i j = N0 i j := by rw [h.1 i a b]
theorem write6_ok (h : wt N0 N l) : wt N0 (md_write6 N p) (l ++ (if N0 3 p = 3 then rngt (N0 8 p) (N0 9 p) else [])) := by
  unfold md_write6 rngt
  rw [h.e 3 p (by decide) (by decide), h.e 8 p (by decide) (by decide), h.e 9 p (by decide) (by decide)]
  by_cases h3 : N0 3 p = 3
  · simp only [h3, if_true]
    by_cases h9 : N0 9 p ≤ N0 8 p
    · simp only [h9, if_true]
      exact h.put _
    · simp only [h9, if_false]
      have := (h.put2 (48 + N0 8 p) 45).put (48 + N0 9 p)
      simpa using this
  · simp only [h3, if_false, List.append_nil]
    exact h
theorem write5_s (f k c : Nat) (hk : k < 4) (hc : c = if k = 0 then 114 else if k = 1 then 119 else if k = 2 then 120 else 100) : md_write5 (f + 1) N p k = md_write5 f (if ((N 7 p) >>> k) &&& 1 = 1 then md_put N c else N) p (k + 1) := by
  rw [md_write5, if_neg (by omega)]
  have h9 : k = 0 ∨ k = 1 ∨ k = 2 ∨ k = 3 := by omega
  rcases h9 with rfl | rfl | rfl | rfl <;> simp at hc <;> subst hc <;> simp <;> split <;> rfl
theorem write5_ok (h : wt N0 N l) : wt N0 (md_write5 5 N p 0) (l ++ lets (N0 7 p) ++ (if N0 3 p = 3 then rngt (N0 8 p) (N0 9 p) else [])) := by
  have step : ∀ (N : Nat → Nat → Nat) (l : List Nat) (k c : Nat), wt N0 N l → wt N0 (if ((N 7 p) >>> k) &&& 1 = 1 then md_put N c else N) (l ++ (if ((N0 7 p) >>> k) &&& 1 = 1 then [c] else [])) := by
    intro N l k c h
    rw [h.e 7 p (by decide) (by decide)]
    split
    · exact h.put c
    · simpa using h
  rw [write5_s 4 0 114 (by decide) rfl]
  have h1 := step N l 0 114 h
  revert h1
  generalize (if ((N 7 p) >>> 0) &&& 1 = 1 then md_put N 114 else N) = N1
  intro h1
  rw [write5_s 3 1 119 (by decide) rfl]
  have h2 := step N1 _ 1 119 h1
  revert h2
  generalize (if ((N1 7 p) >>> 1) &&& 1 = 1 then md_put N1 119 else N1) = N2
  intro h2
  rw [write5_s 2 2 120 (by decide) rfl]
  have h3 := step N2 _ 2 120 h2
  revert h3
  generalize (if ((N2 7 p) >>> 2) &&& 1 = 1 then md_put N2 120 else N2) = N3
  intro h3
  rw [write5_s 1 3 100 (by decide) rfl]
  have h4 := step N3 _ 3 100 h3
  revert h4
  generalize (if ((N3 7 p) >>> 3) &&& 1 = 1 then md_put N3 100 else N3) = N4
  intro h4
  rw [md_write5, if_pos (by decide)]
  have := write6_ok (p := p) h4
  simpa [lets, List.append_assoc] using this
theorem putLabels_ok (h : wt N0 N l) (hw : N0 4 p ≤ 3) (b : Nat) (hb : b = 47 ∨ b = 46) : wt N0 (md_putLabels N p b) (l ++ (if b = 47 then (rq N0 p).2.1.flatMap (fun x => [47, 97 + x]) else dots (rq N0 p).2.1)) := by
  have e4 := fun (N : Nat → Nat → Nat) (l : List Nat) (h : wt N0 N l) => h.e 4 p (by decide) (by decide)
  have e5 := fun (N : Nat → Nat → Nat) (l : List Nat) (h : wt N0 N l) (j : Nat) => h.e 5 j (by decide) (by decide)
  have h9 : N0 4 p = 0 ∨ N0 4 p = 1 ∨ N0 4 p = 2 ∨ N0 4 p = 3 := by omega
  show wt N0 (md_putLabels N p b) (l ++ (if b = 47 then (rl (N0 4 p) _ _ _).flatMap (fun x => [47, 97 + x]) else dots (rl (N0 4 p) _ _ _)))
  have p0 := h
  unfold md_putLabels
  rcases hb with rfl | rfl
  · have q1 := h.put2 47 (97 + N0 5 (3 * p + 0))
    have q2 := q1.put2 47 (97 + N0 5 (3 * p + 1))
    have q3 := q2.put2 47 (97 + N0 5 (3 * p + 2))
    rcases h9 with h9 | h9 | h9 | h9
    · simp only [md_putLabels1, e4 _ _ h, h9]; simpa [rl] using h
    · simp only [md_putLabels1, e4 _ _ h, e5 _ _ h, h9, e4 _ _ q1]; simpa [rl] using q1
    · simp only [md_putLabels1, e4 _ _ h, e5 _ _ h, h9, e4 _ _ q1, e5 _ _ q1, e4 _ _ q2]; simpa [rl] using q2
    · simp only [md_putLabels1, e4 _ _ h, e5 _ _ h, h9, e4 _ _ q1, e5 _ _ q1, e4 _ _ q2, e5 _ _ q2, e4 _ _ q3]; simpa [rl] using q3
  · have q1 := h.put (97 + N0 5 (3 * p + 0))
    have q2 := q1.put2 46 (97 + N0 5 (3 * p + 1))
    have q3 := q2.put2 46 (97 + N0 5 (3 * p + 2))
    rcases h9 with h9 | h9 | h9 | h9
    · simp only [md_putLabels1, e4 _ _ h, h9]; simpa [rl, dots] using h
    · simp only [md_putLabels1, e4 _ _ h, e5 _ _ h, h9, e4 _ _ q1]; simpa [rl, dots] using q1
    · simp only [md_putLabels1, e4 _ _ h, e5 _ _ h, h9, e4 _ _ q1, e5 _ _ q1, e4 _ _ q2]; simpa [rl, dots] using q2
    · simp only [md_putLabels1, e4 _ _ h, e5 _ _ h, h9, e4 _ _ q1, e5 _ _ q1, e4 _ _ q2, e5 _ _ q2, e4 _ _ q3]; simpa [rl, dots] using q3
end WR
section WR2
variable {N0 N : Nat → Nat → Nat} {l : List Nat} {p : Nat}
def w4 (N0 : Nat → Nat → Nat) (p : Nat) : List Nat := (if N0 3 p = 2 ∨ N0 3 p = 3 then [58] else []) ++ lets (N0 7 p) ++ (if N0 3 p = 3 then rngt (N0 8 p) (N0 9 p) else [])
def w3 (N0 : Nat → Nat → Nat) (p : Nat) : List Nat := (if N0 3 p = 4 then (if N0 6 p = 1 then (if N0 4 p ≤ 0 then [42] else [46, 42]) else []) else []) ++ w4 N0 p
def w2 (N0 : Nat → Nat → Nat) (p : Nat) : List Nat := (if N0 3 p = 2 then (if N0 6 p ≤ 0 then [] else if N0 6 p = 1 then [47, 42] else [47, 45]) else []) ++ w3 N0 p
def w1 (N0 : Nat → Nat → Nat) (p : Nat) : List Nat := (if N0 3 p = 2 then (rq N0 p).2.1.flatMap (fun x => [47, 97 + x]) else dots (rq N0 p).2.1) ++ w2 N0 p
def w0 (N0 : Nat → Nat → Nat) (p : Nat) : List Nat := (if N0 3 p = 3 then (if N0 6 p = 1 then (if N0 4 p ≤ 0 then [42] else [42, 46]) else []) else []) ++ w1 N0 p
theorem write4_ok (h : wt N0 N l) : wt N0 (md_write4 N p) (l ++ w4 N0 p) := by
  unfold md_write4 w4
  rw [h.e 3 p (by decide) (by decide)]
  by_cases h2 : N0 3 p = 2
  · simpa [h2] using write5_ok (p := p) (h.put 58)
  · by_cases h3 : N0 3 p = 3
    · simpa [h3] using write5_ok (p := p) (h.put 58)
    · simpa [h2, h3] using write5_ok (p := p) h
theorem write3_ok (h : wt N0 N l) : wt N0 (md_write3 N p) (l ++ w3 N0 p) := by
  unfold md_write3 w3
  rw [h.e 3 p (by decide) (by decide), h.e 6 p (by decide) (by decide), h.e 4 p (by decide) (by decide)]
  by_cases h4 : N0 3 p = 4
  · by_cases h6 : N0 6 p = 1
    · by_cases hz : N0 4 p ≤ 0
      · simpa [h4, h6, hz] using write4_ok (p := p) (h.put 42)
      · simp only [h4, h6, hz, if_true, if_false]
        simpa using write4_ok (p := p) (h.put2 46 42)
    · simpa [h4, h6] using write4_ok (p := p) h
  · simpa [h4] using write4_ok (p := p) h
theorem write2_ok (h : wt N0 N l) : wt N0 (md_write2 N p) (l ++ w2 N0 p) := by
  unfold md_write2 w2
  rw [h.e 3 p (by decide) (by decide), h.e 6 p (by decide) (by decide)]
  by_cases h2 : N0 3 p = 2
  · by_cases hz : N0 6 p ≤ 0
    · simp only [h2, hz, if_true]
      simpa using write3_ok (p := p) h
    · by_cases h6 : N0 6 p = 1
      · simp only [h2, hz, h6, if_true, if_false]
        simpa using write3_ok (p := p) (h.put2 47 42)
      · simp only [h2, hz, h6, if_true, if_false]
        simpa using write3_ok (p := p) (h.put2 47 45)
  · simpa [h2] using write3_ok (p := p) h
theorem write1_ok (h : wt N0 N l) (hw : N0 4 p ≤ 3) : wt N0 (md_write1 N p) (l ++ w1 N0 p) := by
  unfold md_write1 w1
  rw [h.e 3 p (by decide) (by decide)]
  by_cases h2 : N0 3 p = 2
  · have := write2_ok (p := p) (putLabels_ok (p := p) h hw 47 (Or.inl rfl))
    simp only [h2, if_true]
    simpa using this
  · have := write2_ok (p := p) (putLabels_ok (p := p) h hw 46 (Or.inr rfl))
    simp only [h2, if_false]
    simpa using this
theorem write0_ok (h : wt N0 N l) (hw : N0 4 p ≤ 3) : wt N0 (md_write0 N p) (l ++ w0 N0 p) := by
  unfold md_write0 w0
  rw [h.e 3 p (by decide) (by decide), h.e 6 p (by decide) (by decide), h.e 4 p (by decide) (by decide)]
  by_cases h3 : N0 3 p = 3
  · by_cases h6 : N0 6 p = 1
    · by_cases hz : N0 4 p ≤ 0
      · simp only [h3, h6, hz, if_true]
        simpa using write1_ok (p := p) (h.put 42) hw
      · simp only [h3, h6, hz, if_true, if_false]
        simpa using write1_ok (p := p) (h.put2 42 46) hw
    · simp only [h3, h6, if_true, if_false]
      simpa using write1_ok (p := p) h hw
  · simp only [h3, if_false]
    simpa using write1_ok (p := p) h hw
theorem lets0 : lets 0 = [] := by decide
theorem w0_dt (hw : N0 4 p ≤ 3) (hq : wq (rq N0 p)) : dk (rq N0 p) :: w0 N0 p = dt (rq N0 p) := by
  obtain ⟨p1, p2, p3, p4, p5, p6, p7, p8⟩ := hq
  have e3 : (rq N0 p).1 = N0 3 p := rfl
  have e6 : (rq N0 p).2.2.1 = N0 6 p := rfl
  have e7 : (rq N0 p).2.2.2.1 = N0 7 p := rfl
  have e8 : (rq N0 p).2.2.2.2.1 = N0 8 p := rfl
  have e9 : (rq N0 p).2.2.2.2.2 = N0 9 p := rfl
  have el : (rq N0 p).2.1.length = N0 4 p := rl_len hw
  have e0 : (N0 4 p ≤ 0) = ((rq N0 p).2.1 = []) := by
    rw [← el, Nat.le_zero_eq, List.length_eq_zero_iff]
  unfold w0 w1 w2 w3 w4 dt hd dk
  rw [e3] at p1 p2 p5 p6 p7 p8
  rw [e3, e6, e7, e8, e9]
  rw [e6] at p5 p6 p7 p8
  rw [e7] at p5 p6 p7 p8
  have hk : N0 3 p = 1 ∨ N0 3 p = 2 ∨ N0 3 p = 3 ∨ N0 3 p = 4 := by omega
  rcases hk with hk | hk | hk | hk
  · have := p5 hk
    simp [hk, this, lets0, dots]
  · have := p6 hk
    by_cases h0 : N0 6 p = 0
    · simp [hk, h0]
    · by_cases h1 : N0 6 p = 1
      · simp [hk, h1]
      · simp [hk, h0, h1]
  · have := p7 hk
    by_cases hz : N0 4 p ≤ 0
    · have hz2 : (rq N0 p).2.1 = [] := e0 ▸ hz
      simp only [hz, if_true]
      simp [hk, this, lets0, hz2]
    · have hz2 : ¬ (rq N0 p).2.1 = [] := e0 ▸ hz
      simp only [hz, if_false]
      simp [hk, this, lets0, hz2]
  · have := p8 hk
    by_cases hz : N0 4 p ≤ 0
    · have hz2 : (rq N0 p).2.1 = [] := e0 ▸ hz
      simp only [hz, if_true]
      simp [hk, this, lets0, hz2]
    · have hz2 : ¬ (rq N0 p).2.1 = [] := e0 ▸ hz
      simp only [hz, if_false]
      simp [hk, this, lets0, hz2]
theorem write_ok (hw : N 4 p ≤ 3) (hq : wq (rq N p)) : wt N (md_write N p) (dt (rq N p)) := by
  have h0 : wt N (md_set N 10 0 0) [] := ⟨fun i a b => by simp [md_set, va_up, a], by simp [md_set, va_up], fun j hj => absurd hj (by simp)⟩
  have key : ∀ c, c = dk (rq N p) → wt N (md_write0 (md_put (md_set N 10 0 0) c) p) (dt (rq N p)) := by
    intro c hc
    rw [← w0_dt hw hq, hc]
    exact write0_ok (h0.put _) hw
  unfold md_write
  have hk : N 3 p = 1 ∨ N 3 p = 2 ∨ N 3 p = 3 ∨ N 3 p = 4 := by
    have := hq.1
    have := hq.2.1
    have e3 : (rq N p).1 = N 3 p := rfl
    omega
  have e3 : (rq N p).1 = N 3 p := rfl
  rcases hk with hk | hk | hk | hk
  · simp only [hk, if_true]; exact key 42 (by simp [dk, e3, hk])
  · simp [hk]; exact key 102 (by simp [dk, e3, hk])
  · simp [hk]; exact key 104 (by simp [dk, e3, hk])
  · simp [hk]; exact key 110 (by simp [dk, e3, hk])
end WR2
/-! how long it can be -/
theorem lets_len (m : Nat) : (lets m).length ≤ 4 := by
  unfold lets
  repeat' split
  all_goals simp
theorem dots_len (l : List Nat) : (dots l).length ≤ 2 * l.length := by
  induction l with
  | nil => simp [dots]
  | cons a l ih =>
    cases l with
    | nil => simp [dots]
    | cons b l =>
      show (((97 + a) :: 46 :: dots (b :: l)).length) ≤ _
      simp at ih ⊢
      omega
theorem flat_len (l : List Nat) : (l.flatMap (fun x => [47, 97 + x])).length = 2 * l.length := by
  induction l with
  | nil => rfl
  | cons a l ih =>
    rw [List.flatMap_cons, List.length_append, ih]
    simp only [List.length_cons, List.length_nil]
    omega
theorem hd_len {r : RQ} (h : r.2.1.length ≤ 3) : (hd r).length ≤ 9 := by
  unfold hd
  have h1 := dots_len r.2.1
  have h2 := flat_len r.2.1
  repeat' split
  all_goals simp at h2 ⊢
  all_goals omega
theorem rngt_len (a b : Nat) : (rngt a b).length ≤ 3 := by
  unfold rngt
  split <;> simp
theorem dt_len {r : RQ} (h : r.2.1.length ≤ 3) : (dt r).length ≤ 16 := by
  have h1 := hd_len h
  have h2 := lets_len r.2.2.2.1
  have h3 := rngt_len r.2.2.2.2.1 r.2.2.2.2.2
  unfold dt
  repeat' split
  all_goals simp
  all_goals omega
theorem dots_m {l : List Nat} (h : ∀ x ∈ l, x ≤ 8) : ∀ c ∈ dots l, c ≠ 58 ∧ c < 128 := by
  induction l with
  | nil => simp [dots]
  | cons a l ih =>
    have ha := h a (by simp)
    cases l with
    | nil => simp [dots]; omega
    | cons b l =>
      intro c hc
      have := ih (fun x hx => h x (by simp [hx]))
      have hc2 : c = 97 + a ∨ c = 46 ∨ c ∈ dots (b :: l) := by
        have : c ∈ (97 + a) :: 46 :: dots (b :: l) := hc
        simpa using this
      rcases hc2 with rfl | rfl | hc2
      · omega
      · omega
      · exact this c hc2
theorem hd_m {r : RQ} (h : ∀ x ∈ r.2.1, x ≤ 8) : ∀ c ∈ hd r, c ≠ 58 ∧ c < 128 := by
  have hd1 := dots_m h
  have hf : ∀ c ∈ r.2.1.flatMap (fun x => [47, 97 + x]), c ≠ 58 ∧ c < 128 := by
    intro c hc
    rw [List.mem_flatMap] at hc
    obtain ⟨x, hx, hc⟩ := hc
    have := h x hx
    simp at hc
    omega
  intro c hc
  unfold hd at hc
  rw [List.mem_cons] at hc
  rcases hc with rfl | hc
  · unfold dk
    repeat' split
    all_goals decide
  · by_cases h1 : r.1 = 1
    · simp [h1] at hc
    · by_cases h2 : r.1 = 2
      · rw [if_neg h1, if_pos h2, List.mem_append] at hc
        rcases hc with hc | hc
        · exact hf c hc
        · repeat' split at hc
          all_goals simp at hc
          all_goals omega
      · by_cases h3 : r.1 = 3
        · rw [if_neg h1, if_neg h2, if_pos h3, List.mem_append] at hc
          rcases hc with hc | hc
          · repeat' split at hc
            all_goals simp at hc
            all_goals omega
          · exact hd1 c hc
        · rw [if_neg h1, if_neg h2, if_neg h3, List.mem_append] at hc
          rcases hc with hc | hc
          · exact hd1 c hc
          · repeat' split at hc
            all_goals simp at hc
            all_goals omega
theorem jx_s {tx : List Nat} {c n : Nat} : ∀ (f i : Nat), i ≤ n → n - i < f → n < tx.length → (∀ j, i ≤ j → j < n → tx.getD j 0 ≠ c) → tx.getD n 0 = c → jx tx c f i = some n := by
  intro f
  induction f with
  | zero => intro i _ h; omega
  | succ f ih =>
    intro i h1 h2 h3 h4 h5
    rw [jx, if_neg (by omega)]
    by_cases e : i = n
    · subst e; rw [if_pos h5]
    · rw [if_neg (h4 i (by omega) (by omega))]
      exact ih (i + 1) (by omega) (by omega) h3 (fun j a b => h4 j (by omega) b) h5
theorem jx_n {tx : List Nat} {c : Nat} : ∀ (f i : Nat), (∀ j, i ≤ j → j < tx.length → tx.getD j 0 ≠ c) → jx tx c f i = none := by
  intro f
  induction f with
  | zero => intro i _; rfl
  | succ f ih =>
    intro i h
    rw [jx]
    by_cases e : tx.length ≤ i
    · rw [if_pos e]
    · rw [if_neg e, if_neg (h i (by omega) (by omega))]
      exact ih (i + 1) (fun j a b => h j (by omega) b)
/-- the class's text -/
def wtext (tx : List Nat) (s : RS) : List Nat := match jx tx 58 (tx.length + 1) 0 with
  | none => tx
  | some c => tx.take (c + 1) ++ (if tx.getD 0 0 = 102 then lets s.2.2.2.1 else rngt s.2.2.2.2.1 s.2.2.2.2.2)
theorem wtext_dt {tx : List Nat} {r : RQ} {s : RS} (h : fin tx r s) : wtext tx s = dt r := by
  obtain ⟨hw, -, -, h4, h5, h6, h7⟩ := h
  have hm := hd_m hw.2.2.2.1
  have hk : r.1 = 1 ∨ r.1 = 4 ∨ r.1 = 2 ∨ r.1 = 3 := by
    have := hw.1
    have := hw.2.1
    omega
  have getm : ∀ (l : List Nat) (j : Nat), j < l.length → l.getD j 0 ∈ l := by
    intro l j hj
    rw [List.getD_eq_getElem?_getD, List.getElem?_eq_getElem hj]
    exact List.getElem_mem hj
  have no : r.1 = 1 ∨ r.1 = 4 → wtext tx s = dt r := by
    intro hk
    have e := h7 hk
    unfold wtext
    rw [jx_n (c := 58) _ 0 (fun j _ hj => by rw [e] at hj ⊢; exact (hm _ (getm _ _ hj)).1)]
    show tx = dt r
    unfold dt
    rw [if_neg (show ¬ r.1 = 2 by omega), if_neg (show ¬ r.1 = 3 by omega), List.append_nil]
    exact e
  have yes : r.1 = 2 ∨ r.1 = 3 → wtext tx s = dt r := by
    intro hk
    obtain ⟨e1, e2⟩ := h6 hk
    have hn := nx_lt (tx := tx) (k := (hd r).length) (by omega)
    have e3 : tx.getD (hd r).length 0 = 58 := by rw [← nx_get hn]; exact e2
    have el : ∀ j, j < (hd r).length → tx.getD j 0 = (hd r).getD j 0 := by
      intro j hj
      rw [← e1]
      simp [List.getD_eq_getElem?_getD, List.getElem?_take, hj]
    unfold wtext
    rw [jx_s (c := 58) _ 0 (Nat.zero_le _) (by omega) hn (fun j _ hj => by rw [el j hj]; exact (hm _ (getm _ _ hj)).1) e3]
    show tx.take ((hd r).length + 1) ++ _ = _
    rw [take_s (by omega), e1, e2, el 0 (by unfold hd; simp)]
    show hd r ++ [58] ++ (if dk r = 102 then _ else _) = _
    unfold dt dk
    rcases hk with hk | hk
    · have : dp r = r.2.2.2.1 := by simp [dp, hk]
      simp [hk, h4, this]
    · have := h5 hk
      simp [hk, this]
  rcases hk with hk | hk | hk
  · exact no (Or.inl hk)
  · exact no (Or.inr hk)
  · exact yes hk
