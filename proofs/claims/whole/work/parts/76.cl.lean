/-! ===== the class's objects, against the reference's numbers ===== -/
def so_r (G : sg_G) (M : sg_M) (s a : Nat) (N : Nat → Nat → Nat) : Prop := ∃ (la : Nat) (f : Nat → Option Nat), M a = some (10 + s, .inr (8, [.ref la])) ∧ al_r G (20 + s) (30 + s) M la (N 12 s) f ∧ ∀ j, j < N 12 s → ∃ p, f j = some p ∧ pm_r M p (rq N (8 + 6 * s + j))
def fr_r (M : sg_M) (t k p : Nat) (N : Nat → Nat → Nat) : Prop := ∃ (re : Int32) (li : Option Nat), M p = some (200 + 10 * t + k, .inr (4, [.int (nI (N 16 (10 * t + k))), .int re, .int (nI (N 17 (10 * t + k))), va_rf li])) ∧ (N 17 (10 * t + k) ≠ 0 → re = nI (N 18 (10 * t + k)) ∧ (N 3 (44 + (10 * t + k)) = 0 → li = none) ∧ (N 3 (44 + (10 * t + k)) ≠ 0 → ∃ q, li = some q ∧ pm_r M q (rq N (44 + (10 * t + k)))))
def cs_r (G : sg_G) (M : sg_M) (t a : Nat) (N : Nat → Nat → Nat) : Prop := ∃ (la : Nat) (f : Nat → Option Nat), M a = some (40 + t, .inr (3, [.ref la, .int (nI (N 14 t))])) ∧ al_r G (50 + t) (60 + t) M la (N 15 t) f ∧ ∀ k, k < N 15 t → ∃ p, f k = some p ∧ fr_r M t k p N
def padl (N : Nat → Nat → Nat) : List Nat := (List.range' 0 (N 1 0)).map (N 2)
def cl_slot (M : sg_M) (sl : Nat) (N : Nat → Nat → Nat) : Prop := ∃ g : Nat → Option Nat, M sl = some (4, .inl (.object RX3, 8, .inr (.inr (.inr (.inr g))))) ∧ ∀ i, i < 8 → (N 3 i = 0 → g i = none) ∧ (N 3 i ≠ 0 → ∃ a, g i = some a ∧ pm_r M a (rq N i))
def cl_src (G : sg_G) (M : sg_M) (so : Nat) (N : Nat → Nat → Nat) : Prop := ∃ g : Nat → Option Nat, M so = some (5, .inl (.object RX5, 6, .inr (.inr (.inr (.inr g))))) ∧ ∀ s, s < 6 → ∃ a, g s = some a ∧ so_r G M s a N
def cl_thr (G : sg_G) (M : sg_M) (th : Nat) (N : Nat → Nat → Nat) : Prop := ∃ g : Nat → Option Nat, M th = some (6, .inl (.object RX0, 4, .inr (.inr (.inr (.inr g))))) ∧ ∀ t, t < 4 → (N 13 t = 0 → g t = none) ∧ (N 13 t ≠ 0 → ∃ a, g t = some a ∧ cs_r G M t a N)
def cl_ctx (M : sg_M) (cx : Nat) (N : Nat → Nat → Nat) : Prop := ∃ g : Nat → Int32, M cx = some (7, .inl (.int, 8, .inl g)) ∧ ∀ j, j < 8 → g j = md_o (if N 19 j = 0 then none else some (N 20 j))
def cl_note (G : sg_G) (M : sg_M) (nt : Nat) (N : Nat → Nat → Nat) : Prop := ∃ f : Nat → Option Nat, al_r G 8 9 M nt (N 21 0) f ∧ ∀ j, j < N 21 0 → ∃ a, f j = some a ∧ M a = some (73, .inr (5, [.int (nI (N 22 (2 * j))), .int (nI (N 22 (2 * j + 1)))]))
def cl_r (G : sg_G) (M : sg_M) (ca pb sl so th cx nt : Nat) (N : Nat → Nat → Nat) : Prop := M ca = some (1, .inr (9, [.ref pb, .ref sl, .ref so, .ref th, .ref cx, .ref nt])) ∧ sb_r 2 3 M pb (padl N) ∧ cl_slot M sl N ∧ cl_src G M so N ∧ cl_thr G M th N ∧ cl_ctx M cx N ∧ cl_note G M nt N
/-- the class's marks -/
def cm (t : Nat) : Prop := t ≠ 0 ∧ (t < 90 ∨ 130 ≤ t)
def cf (_ : Nat) (t : Nat) : Prop := cm t
/-! bounds of the reference's numbers -/
def wb (i : Nat) : Nat := if i = 1 then 16 else if i = 2 then 127 else if i = 3 then 4 else if i = 4 then 3 else if i = 5 then 8 else if i = 6 then 2 else if i = 7 then 15 else if i = 8 then 9 else if i = 9 then 9 else if i = 12 then 6 else if i = 13 then 1 else if i = 14 then 63 else if i = 15 then 10 else if i = 16 then 5 else if i = 17 then 1 else if i = 18 then 63 else if i = 19 then 1 else if i = 20 then 63 else if i = 21 then 7 else if i = 22 then 5 else 65535
def WN (N : Nat → Nat → Nat) : Prop := ∀ i j, N i j ≤ wb i
theorem WN.set {N : Nat → Nat → Nat} (h : WN N) {i j v : Nat} (hv : v ≤ wb i) : WN (md_set N i j v) := by
  intro a b
  unfold md_set
  by_cases ha : a = i
  · subst ha
    rw [va_up_self]
    by_cases hb : b = j
    · subst hb; rw [va_up_self]; exact hv
    · rw [va_up_ne _ _ hb]; exact h a b
  · rw [va_up_ne _ _ ha]; exact h a b
theorem WN.copy {N : Nat → Nat → Nat} (h : WN N) {u v : Nat} : WN (md_copy N u v) := by
  unfold md_copy
  have h1 : WN (md_set (md_set (md_set (md_set (md_set (md_set (md_set N 3 v (N 3 u)) 4 v (N 4 u)) 6 v (N 6 u)) 7 v (N 7 u)) 8 v (N 8 u)) 9 v (N 9 u)) 5 ((3 * v) + 0) (N 5 ((3 * u) + 0))) := ((((((h.set (h 3 u)).set (h 4 u)).set (h 6 u)).set (h 7 u)).set (h 8 u)).set (h 9 u)).set (h 5 _)
  have h2 := h1.set (i := 5) (j := (3 * v) + 1) (h1 5 ((3 * u) + 1))
  exact h2.set (h2 5 _)
theorem WN.put {N : Nat → Nat → Nat} (h : WN N) {c : Nat} (hc : c < 65535) (h2 : N 10 0 < 65535) : WN (md_put N c) := by
  unfold md_put
  exact (h.set (show c ≤ wb 11 from Nat.le_of_lt hc)).set (show _ ≤ wb 10 from h2)
section FRM
variable {G : sg_G} {M M' : sg_M} {N N' : Nat → Nat → Nat} {s a t k pa : Nat} {L : List Nat}
/-! frames: by marks that stay -/
theorem so_r.p (h : so_r G M s a N) (hf : sf (pk L) M M') (hL : ∀ x ∈ L, ¬ (x = 0 ∨ x = 10 + s ∨ x = 20 + s ∨ x = 30 + s ∨ x = 70 ∨ x = 71 ∨ x = 72)) : so_r G M' s a N := by
  obtain ⟨la, f, h1, h2, h3⟩ := h
  refine ⟨la, f, hf.p h1 (fun x => hL _ x (by simp)), h2.p hf (fun x => hL _ x (by simp)) (fun x => hL _ x (by simp)) (fun x => hL _ x (by simp)), fun j hj => ?_⟩
  obtain ⟨p, h4, h5⟩ := h3 j hj
  exact ⟨p, h4, h5.p hf (fun x => hL _ x (by simp)) (fun x => hL _ x (by simp)) (fun x => hL _ x (by simp))⟩
theorem fr_r.p (h : fr_r M t k pa N) (hf : sf (pk L) M M') (hL : ∀ x ∈ L, ¬ (x = 200 + 10 * t + k ∨ x = 70 ∨ x = 71 ∨ x = 72)) : fr_r M' t k pa N := by
  obtain ⟨re, li, h1, h2⟩ := h
  refine ⟨re, li, hf.p h1 (fun x => hL _ x (by simp)), fun e => ?_⟩
  obtain ⟨h3, h4, h5⟩ := h2 e
  refine ⟨h3, h4, fun e => ?_⟩
  obtain ⟨q, h6, h7⟩ := h5 e
  exact ⟨q, h6, h7.p hf (fun x => hL _ x (by simp)) (fun x => hL _ x (by simp)) (fun x => hL _ x (by simp))⟩
theorem cs_r.p (h : cs_r G M t a N) (hf : sf (pk L) M M') (hn : N 15 t ≤ 10) (hL : ∀ x ∈ L, ¬ (x = 0 ∨ x = 40 + t ∨ x = 50 + t ∨ x = 60 + t ∨ x = 70 ∨ x = 71 ∨ x = 72 ∨ (200 + 10 * t ≤ x ∧ x < 210 + 10 * t))) : cs_r G M' t a N := by
  obtain ⟨la, f, h1, h2, h3⟩ := h
  refine ⟨la, f, hf.p h1 (fun x => hL _ x (by simp)), h2.p hf (fun x => hL _ x (by simp)) (fun x => hL _ x (by simp)) (fun x => hL _ x (by simp)), fun k hk => ?_⟩
  obtain ⟨p, h4, h5⟩ := h3 k hk
  exact ⟨p, h4, h5.p hf (fun x hx => fun e => hL x hx (by omega))⟩
theorem cl_slot.p {sl : Nat} (h : cl_slot M sl N) (hf : sf (pk L) M M') (hL : ∀ x ∈ L, ¬ (x = 4 ∨ x = 70 ∨ x = 71 ∨ x = 72)) : cl_slot M' sl N := by
  obtain ⟨g, h1, h2⟩ := h
  refine ⟨g, hf.p h1 (fun x => hL _ x (by simp)), fun i hi => ⟨(h2 i hi).1, fun e => ?_⟩⟩
  obtain ⟨a, h3, h4⟩ := (h2 i hi).2 e
  exact ⟨a, h3, h4.p hf (fun x => hL _ x (by simp)) (fun x => hL _ x (by simp)) (fun x => hL _ x (by simp))⟩
theorem cl_src.p {so : Nat} (h : cl_src G M so N) (hf : sf (pk L) M M') (hL : ∀ x ∈ L, ¬ (x = 0 ∨ x = 5 ∨ (10 ≤ x ∧ x < 16) ∨ (20 ≤ x ∧ x < 26) ∨ (30 ≤ x ∧ x < 36) ∨ x = 70 ∨ x = 71 ∨ x = 72)) : cl_src G M' so N := by
  obtain ⟨g, h1, h2⟩ := h
  refine ⟨g, hf.p h1 (fun x => hL _ x (by simp)), fun s hs => ?_⟩
  obtain ⟨a, h3, h4⟩ := h2 s hs
  exact ⟨a, h3, h4.p hf (fun x hx => fun e => hL x hx (by omega))⟩
theorem cl_thr.p {th : Nat} (h : cl_thr G M th N) (hf : sf (pk L) M M') (hW : WN N) (hL : ∀ x ∈ L, ¬ (x = 0 ∨ x = 6 ∨ (40 ≤ x ∧ x < 44) ∨ (50 ≤ x ∧ x < 54) ∨ (60 ≤ x ∧ x < 64) ∨ x = 70 ∨ x = 71 ∨ x = 72 ∨ (200 ≤ x ∧ x < 240))) : cl_thr G M' th N := by
  obtain ⟨g, h1, h2⟩ := h
  refine ⟨g, hf.p h1 (fun x => hL _ x (by simp)), fun t ht => ⟨(h2 t ht).1, fun e => ?_⟩⟩
  obtain ⟨a, h3, h4⟩ := (h2 t ht).2 e
  exact ⟨a, h3, h4.p hf (hW 15 t) (fun x hx => fun e => hL x hx (by omega))⟩
theorem cl_ctx.p {cx : Nat} (h : cl_ctx M cx N) (hf : sf (pk L) M M') (hL : 7 ∉ L) : cl_ctx M' cx N := by
  obtain ⟨g, h1, h2⟩ := h
  exact ⟨g, hf.p h1 hL, h2⟩
theorem cl_note.p {nt : Nat} (h : cl_note G M nt N) (hf : sf (pk L) M M') (hL : ∀ x ∈ L, ¬ (x = 0 ∨ x = 8 ∨ x = 9 ∨ x = 73)) : cl_note G M' nt N := by
  obtain ⟨f, h1, h2⟩ := h
  refine ⟨f, h1.p hf (fun x => hL _ x (by simp)) (fun x => hL _ x (by simp)) (fun x => hL _ x (by simp)), fun j hj => ?_⟩
  obtain ⟨a, h3, h4⟩ := h2 j hj
  exact ⟨a, h3, hf.p h4 (fun x => hL _ x (by simp))⟩
/-! the same under other numbers -/
theorem so_r.cg (h : so_r G M s a N) (h1 : N' 12 s = N 12 s) (h2 : ∀ j, j < N 12 s → rq N' (8 + 6 * s + j) = rq N (8 + 6 * s + j)) : so_r G M s a N' := by
  obtain ⟨la, f, p1, p2, p3⟩ := h
  refine ⟨la, f, p1, by rw [h1]; exact p2, fun j hj => ?_⟩
  rw [h1] at hj
  rw [h2 j hj]
  exact p3 j hj
theorem fr_r.cg (h : fr_r M t k pa N) (h1 : N' 16 (10 * t + k) = N 16 (10 * t + k)) (h2 : N' 17 (10 * t + k) = N 17 (10 * t + k)) (h3 : N 17 (10 * t + k) ≠ 0 → N' 18 (10 * t + k) = N 18 (10 * t + k) ∧ rq N' (44 + (10 * t + k)) = rq N (44 + (10 * t + k))) : fr_r M t k pa N' := by
  obtain ⟨re, li, p1, p2⟩ := h
  refine ⟨re, li, by rw [h1, h2]; exact p1, fun e => ?_⟩
  rw [h2] at e
  obtain ⟨q1, q2⟩ := h3 e
  have q3 : N' 3 (44 + (10 * t + k)) = N 3 (44 + (10 * t + k)) := congrArg Prod.fst q2
  rw [q1, q2, q3]
  exact p2 e
theorem cs_r.cg (h : cs_r G M t a N) (h1 : N' 14 t = N 14 t) (h2 : N' 15 t = N 15 t) (h3 : ∀ k, k < N 15 t → N' 16 (10 * t + k) = N 16 (10 * t + k) ∧ N' 17 (10 * t + k) = N 17 (10 * t + k) ∧ (N 17 (10 * t + k) ≠ 0 → N' 18 (10 * t + k) = N 18 (10 * t + k) ∧ rq N' (44 + (10 * t + k)) = rq N (44 + (10 * t + k)))) : cs_r G M t a N' := by
  obtain ⟨la, f, p1, p2, p3⟩ := h
  refine ⟨la, f, by rw [h1]; exact p1, by rw [h2]; exact p2, fun k hk => ?_⟩
  rw [h2] at hk
  obtain ⟨p, q1, q2⟩ := p3 k hk
  obtain ⟨c1, c2, c3⟩ := h3 k hk
  exact ⟨p, q1, q2.cg c1 c2 c3⟩
theorem cl_slot.cg {sl : Nat} (h : cl_slot M sl N) (h1 : ∀ i, i < 8 → rq N' i = rq N i) : cl_slot M sl N' := by
  obtain ⟨g, p1, p2⟩ := h
  refine ⟨g, p1, fun i hi => ?_⟩
  have q3 : N' 3 i = N 3 i := congrArg Prod.fst (h1 i hi)
  rw [q3, h1 i hi]
  exact p2 i hi
theorem cl_src.cg {so : Nat} (h : cl_src G M so N) (h1 : ∀ s, s < 6 → N' 12 s = N 12 s ∧ ∀ j, j < N 12 s → rq N' (8 + 6 * s + j) = rq N (8 + 6 * s + j)) : cl_src G M so N' := by
  obtain ⟨g, p1, p2⟩ := h
  refine ⟨g, p1, fun s hs => ?_⟩
  obtain ⟨a, q1, q2⟩ := p2 s hs
  exact ⟨a, q1, q2.cg (h1 s hs).1 (h1 s hs).2⟩
theorem cl_thr.cg {th : Nat} (h : cl_thr G M th N) (h1 : ∀ t, t < 4 → N' 13 t = N 13 t ∧ N' 14 t = N 14 t ∧ N' 15 t = N 15 t) (h2 : ∀ t k, t < 4 → k < N 15 t → N' 16 (10 * t + k) = N 16 (10 * t + k) ∧ N' 17 (10 * t + k) = N 17 (10 * t + k) ∧ (N 17 (10 * t + k) ≠ 0 → N' 18 (10 * t + k) = N 18 (10 * t + k) ∧ rq N' (44 + (10 * t + k)) = rq N (44 + (10 * t + k)))) : cl_thr G M th N' := by
  obtain ⟨g, p1, p2⟩ := h
  refine ⟨g, p1, fun t ht => ?_⟩
  obtain ⟨c1, c2, c3⟩ := h1 t ht
  rw [c1]
  refine ⟨(p2 t ht).1, fun e => ?_⟩
  obtain ⟨a, q1, q2⟩ := (p2 t ht).2 e
  exact ⟨a, q1, q2.cg c2 c3 (fun k hk => h2 t k ht hk)⟩
theorem cl_ctx.cg {cx : Nat} (h : cl_ctx M cx N) (h1 : ∀ j, j < 8 → N' 19 j = N 19 j ∧ N' 20 j = N 20 j) : cl_ctx M cx N' := by
  obtain ⟨g, p1, p2⟩ := h
  refine ⟨g, p1, fun j hj => ?_⟩
  rw [(h1 j hj).1, (h1 j hj).2]
  exact p2 j hj
theorem cl_note.cg {nt : Nat} (h : cl_note G M nt N) (h0 : N' 21 0 = N 21 0) (h1 : ∀ j, j < 2 * N 21 0 → N' 22 j = N 22 j) : cl_note G M nt N' := by
  obtain ⟨f, p1, p2⟩ := h
  refine ⟨f, by rw [h0]; exact p1, fun j hj => ?_⟩
  rw [h0] at hj
  rw [h1 (2 * j) (by omega), h1 (2 * j + 1) (by omega)]
  exact p2 j hj
theorem padl.cg (h0 : N' 1 0 = N 1 0) (h1 : ∀ j, j < N 1 0 → N' 2 j = N 2 j) : padl N' = padl N := by
  unfold padl
  rw [h0]
  apply List.map_congr_left
  intro j hj
  exact h1 j (by simpa using hj)
end FRM
/-! what agrees: everything but the error, the helper records, the written text -/
def ag (N N' : Nat → Nat → Nat) : Prop := ∀ i j, ¬ (i = 0 ∨ i = 10 ∨ i = 11 ∨ (3 ≤ i ∧ i ≤ 9 ∧ i ≠ 5 ∧ 84 ≤ j) ∨ (i = 5 ∧ 252 ≤ j)) → N' i j = N i j
theorem ag.rf {N : Nat → Nat → Nat} : ag N N := fun _ _ _ => rfl
theorem ag.tr {N N' N'' : Nat → Nat → Nat} (h : ag N N') (h' : ag N' N'') : ag N N'' := fun i j c => (h' i j c).trans (h i j c)
theorem ag.set0 {N : Nat → Nat → Nat} {j v : Nat} : ag N (md_set N 0 j v) := fun i j c => by
  unfold md_set
  rw [va_up_ne _ _ (by omega)]
theorem ag.ms {N N' : Nat → Nat → Nat} (h : ms N N') : ag N N' := fun i j c => h i j (by omega)
theorem ag.mc {N N' : Nat → Nat → Nat} (h : mc 84 N N') : ag N N' := fun i j c => h i j (by omega)
theorem ag.rqe {N N' : Nat → Nat → Nat} (h : ag N N') {p : Nat} (hp : p < 84) : rq N' p = rq N p := by
  unfold rq
  rw [h 3 p (by omega), h 4 p (by omega), h 5 (3 * p) (by omega), h 5 (3 * p + 1) (by omega), h 5 (3 * p + 2) (by omega), h 6 p (by omega), h 7 p (by omega), h 8 p (by omega), h 9 p (by omega)]
theorem cl_r.cg {G : sg_G} {M : sg_M} {ca pb sl so th cx nt : Nat} {N N' : Nat → Nat → Nat} (h : cl_r G M ca pb sl so th cx nt N) (hW : WN N) (ha : ag N N') : cl_r G M ca pb sl so th cx nt N' := by
  obtain ⟨h1, h2, h3, h4, h5, h6, h7⟩ := h
  refine ⟨h1, ?_, h3.cg (fun i hi => ha.rqe (by omega)), h4.cg (fun s hs => ⟨ha 12 s (by omega), fun j hj => ?_⟩), h5.cg (fun t ht => ⟨ha 13 t (by omega), ha 14 t (by omega), ha 15 t (by omega)⟩) (fun t k ht hk => ?_), h6.cg (fun j hj => ⟨ha 19 j (by omega), ha 20 j (by omega)⟩), h7.cg (ha 21 0 (by omega)) (fun j hj => ha 22 j (by omega))⟩
  · rw [padl.cg (ha 1 0 (by omega)) (fun j hj => ha 2 j (by omega))]
    exact h2
  · have h9 : N 12 s ≤ 6 := hW 12 s
    exact ha.rqe (by omega)
  · have h9 : N 15 t ≤ 10 := hW 15 t
    exact ⟨ha 16 _ (by omega), ha 17 _ (by omega), fun _ => ⟨ha 18 _ (by omega), ha.rqe (by omega)⟩⟩
/-! what is at one place, and how the whole is put together again -/
theorem cl_slot.y {M : sg_M} {sl : Nat} {N : Nat → Nat → Nat} (h : cl_slot M sl N) : ∃ g : Nat → Option Nat, M sl = some (4, .inl (.object RX3, 8, .inr (.inr (.inr (.inr g))))) ∧ ∀ i, i < 8 → (N 3 i = 0 → g i = none) ∧ (N 3 i ≠ 0 → ∃ a, g i = some a ∧ pm_r M a (rq N i)) := h
/-- one source -/
theorem cl_src.at {G : sg_G} {M : sg_M} {so s : Nat} {N : Nat → Nat → Nat} (h : cl_src G M so N) (hs : s < 6) : ∃ (g : Nat → Option Nat) (a : Nat), M so = some (5, .inl (.object RX5, 6, .inr (.inr (.inr (.inr g))))) ∧ g s = some a ∧ so_r G M s a N ∧ ∀ (M' : sg_M) (N' : Nat → Nat → Nat), M' so = some (5, .inl (.object RX5, 6, .inr (.inr (.inr (.inr g))))) → so_r G M' s a N' → (∀ s' a', s' < 6 → s' ≠ s → so_r G M s' a' N → so_r G M' s' a' N') → cl_src G M' so N' := by
  obtain ⟨g, h1, h2⟩ := h
  obtain ⟨a, h3, h4⟩ := h2 s hs
  refine ⟨g, a, h1, h3, h4, fun M' N' q1 q2 q3 => ⟨g, q1, fun s' hs' => ?_⟩⟩
  by_cases e : s' = s
  · subst e; exact ⟨a, h3, q2⟩
  · obtain ⟨a', h5, h6⟩ := h2 s' hs'
    exact ⟨a', h5, q3 s' a' hs' e h6⟩
/-- one thread that is there -/
theorem cl_thr.at {G : sg_G} {M : sg_M} {th t : Nat} {N : Nat → Nat → Nat} (h : cl_thr G M th N) (ht : t < 4) (h13 : N 13 t ≠ 0) : ∃ (g : Nat → Option Nat) (a : Nat), M th = some (6, .inl (.object RX0, 4, .inr (.inr (.inr (.inr g))))) ∧ g t = some a ∧ cs_r G M t a N ∧ ∀ (M' : sg_M) (N' : Nat → Nat → Nat), M' th = some (6, .inl (.object RX0, 4, .inr (.inr (.inr (.inr g))))) → cs_r G M' t a N' → (∀ t', t' < 4 → N' 13 t' = N 13 t') → (∀ t' a', t' < 4 → t' ≠ t → cs_r G M t' a' N → cs_r G M' t' a' N') → cl_thr G M' th N' := by
  obtain ⟨g, h1, h2⟩ := h
  obtain ⟨a, h3, h4⟩ := (h2 t ht).2 h13
  refine ⟨g, a, h1, h3, h4, fun M' N' q1 q2 q0 q3 => ⟨g, q1, fun t' ht' => ?_⟩⟩
  rw [q0 t' ht']
  refine ⟨(h2 t' ht').1, fun e9 => ?_⟩
  by_cases e : t' = t
  · subst e; exact ⟨a, h3, q2⟩
  · obtain ⟨a', h5, h6⟩ := (h2 t' ht').2 e9
    exact ⟨a', h5, q3 t' a' ht' e h6⟩
