/-- what is known stays known, but at the marks L -/
def kpt (L : List Nat) (M M' : sg_M) : Prop := ∀ (a t : Nat) (e : sg_E), M a = some (t, e) → t ∉ L → M' a = some (t, e)
theorem st_r.k9 {L : List Nat} {M M' : sg_M} {t u a : Nat} {l : List Nat} (h : st_r t u M a l) (hf : kpt L M M') (h1 : t ∉ L) (h2 : u ∉ L) : st_r t u M' a l := by
  obtain ⟨b, hh, z, g, p1, p2, p3⟩ := h
  exact ⟨b, hh, z, g, hf _ _ _ p1 h1, hf _ _ _ p2 h2, p3⟩
theorem sb_r.k9 {L : List Nat} {M M' : sg_M} {t u a : Nat} {l : List Nat} (h : sb_r t u M a l) (hf : kpt L M M') (h1 : t ∉ L) (h2 : u ∉ L) : sb_r t u M' a l := by
  obtain ⟨b, ml, g, p1, p2, p3⟩ := h
  exact ⟨b, ml, g, hf _ _ _ p1 h1, hf _ _ _ p2 h2, p3⟩
theorem al_r.k9 {L : List Nat} {M M' : sg_M} {G : sg_G} {t u a n : Nat} {f : Nat → Option Nat} (h : al_r G t u M a n f) (hf : kpt L M M') (h0 : 0 ∉ L) (h1 : t ∉ L) (h2 : u ∉ L) : al_r G t u M' a n f := by
  obtain ⟨m, ar, c, v, g, p1, p2, p3, p4, p5⟩ := h
  refine ⟨m, ar, c, v, g, hf _ _ _ p1 h1, hf _ _ _ p2 ?_, p3, p4, p5⟩
  rcases p4 with ⟨rfl, -⟩ | ⟨rfl, -⟩
  · exact h0
  · exact h2
theorem pm_r.k9 {L : List Nat} {M M' : sg_M} {a : Nat} {r : RQ} (h : pm_r M a r) (hf : kpt L M M') (h0 : 70 ∉ L) (h1 : 71 ∉ L) (h2 : 72 ∉ L) : pm_r M' a r := by
  obtain ⟨t, l, p1, p2, p3, p4⟩ := h
  exact ⟨t, l, hf _ _ _ p1 h0, p2.k9 hf h1 h2, p3.k9 hf h1 h2, p4⟩
section K9
variable {G : sg_G} {M M' : sg_M} {N N' : Nat → Nat → Nat} {s a t k pa : Nat} {L : List Nat}
theorem so_r.k9 (h : so_r G M s a N) (hf : kpt L M M') (hL : ∀ x ∈ L, ¬ (x = 0 ∨ x = 10 + s ∨ x = 20 + s ∨ x = 30 + s ∨ x = 70 ∨ x = 71 ∨ x = 72)) : so_r G M' s a N := by
  obtain ⟨la, f, h1, h2, h3⟩ := h
  refine ⟨la, f, hf _ _ _ h1 (fun x => hL _ x (by simp)), h2.k9 hf (fun x => hL _ x (by simp)) (fun x => hL _ x (by simp)) (fun x => hL _ x (by simp)), fun j hj => ?_⟩
  obtain ⟨p, h4, h5⟩ := h3 j hj
  exact ⟨p, h4, h5.k9 hf (fun x => hL _ x (by simp)) (fun x => hL _ x (by simp)) (fun x => hL _ x (by simp))⟩
theorem fr_r.k9 (h : fr_r M t k pa N) (hf : kpt L M M') (hL : ∀ x ∈ L, ¬ (x = 200 + 10 * t + k ∨ x = 70 ∨ x = 71 ∨ x = 72)) : fr_r M' t k pa N := by
  obtain ⟨re, li, h1, h2⟩ := h
  refine ⟨re, li, hf _ _ _ h1 (fun x => hL _ x (by simp)), fun e => ?_⟩
  obtain ⟨h3, h4, h5⟩ := h2 e
  refine ⟨h3, h4, fun e => ?_⟩
  obtain ⟨q, h6, h7⟩ := h5 e
  exact ⟨q, h6, h7.k9 hf (fun x => hL _ x (by simp)) (fun x => hL _ x (by simp)) (fun x => hL _ x (by simp))⟩
theorem cs_r.k9 (h : cs_r G M t a N) (hf : kpt L M M') (hn : N 15 t ≤ 10) (hL : ∀ x ∈ L, ¬ (x = 0 ∨ x = 40 + t ∨ x = 50 + t ∨ x = 60 + t ∨ x = 70 ∨ x = 71 ∨ x = 72 ∨ (200 + 10 * t ≤ x ∧ x < 210 + 10 * t))) : cs_r G M' t a N := by
  obtain ⟨la, f, h1, h2, h3⟩ := h
  refine ⟨la, f, hf _ _ _ h1 (fun x => hL _ x (by simp)), h2.k9 hf (fun x => hL _ x (by simp)) (fun x => hL _ x (by simp)) (fun x => hL _ x (by simp)), fun k hk => ?_⟩
  obtain ⟨p, h4, h5⟩ := h3 k hk
  exact ⟨p, h4, h5.k9 hf (fun x hx => fun e => hL x hx (by omega))⟩
theorem cl_slot.k9 {sl : Nat} (h : cl_slot M sl N) (hf : kpt L M M') (hL : ∀ x ∈ L, ¬ (x = 4 ∨ x = 70 ∨ x = 71 ∨ x = 72)) : cl_slot M' sl N := by
  obtain ⟨g, h1, h2⟩ := h
  refine ⟨g, hf _ _ _ h1 (fun x => hL _ x (by simp)), fun i hi => ⟨(h2 i hi).1, fun e => ?_⟩⟩
  obtain ⟨a, h3, h4⟩ := (h2 i hi).2 e
  exact ⟨a, h3, h4.k9 hf (fun x => hL _ x (by simp)) (fun x => hL _ x (by simp)) (fun x => hL _ x (by simp))⟩
theorem cl_src.k9 {so : Nat} (h : cl_src G M so N) (hf : kpt L M M') (hL : ∀ x ∈ L, ¬ (x = 0 ∨ x = 5 ∨ (10 ≤ x ∧ x < 16) ∨ (20 ≤ x ∧ x < 26) ∨ (30 ≤ x ∧ x < 36) ∨ x = 70 ∨ x = 71 ∨ x = 72)) : cl_src G M' so N := by
  obtain ⟨g, h1, h2⟩ := h
  refine ⟨g, hf _ _ _ h1 (fun x => hL _ x (by simp)), fun s hs => ?_⟩
  obtain ⟨a, h3, h4⟩ := h2 s hs
  exact ⟨a, h3, h4.k9 hf (fun x hx => fun e => hL x hx (by omega))⟩
theorem cl_thr.k9 {th : Nat} (h : cl_thr G M th N) (hf : kpt L M M') (hW : WN N) (hL : ∀ x ∈ L, ¬ (x = 0 ∨ x = 6 ∨ (40 ≤ x ∧ x < 44) ∨ (50 ≤ x ∧ x < 54) ∨ (60 ≤ x ∧ x < 64) ∨ x = 70 ∨ x = 71 ∨ x = 72 ∨ (200 ≤ x ∧ x < 240))) : cl_thr G M' th N := by
  obtain ⟨g, h1, h2⟩ := h
  refine ⟨g, hf _ _ _ h1 (fun x => hL _ x (by simp)), fun t ht => ⟨(h2 t ht).1, fun e => ?_⟩⟩
  obtain ⟨a, h3, h4⟩ := (h2 t ht).2 e
  exact ⟨a, h3, h4.k9 hf (hW 15 t) (fun x hx => fun e => hL x hx (by omega))⟩
theorem cl_ctx.k9 {cx : Nat} (h : cl_ctx M cx N) (hf : kpt L M M') (hL : 7 ∉ L) : cl_ctx M' cx N := by
  obtain ⟨g, h1, h2⟩ := h
  exact ⟨g, hf _ _ _ h1 hL, h2⟩
theorem cl_note.k9 {nt : Nat} (h : cl_note G M nt N) (hf : kpt L M M') (hL : ∀ x ∈ L, ¬ (x = 0 ∨ x = 8 ∨ x = 9 ∨ x = 73)) : cl_note G M' nt N := by
  obtain ⟨f, h1, h2⟩ := h
  refine ⟨f, h1.k9 hf (fun x => hL _ x (by simp)) (fun x => hL _ x (by simp)) (fun x => hL _ x (by simp)), fun j hj => ?_⟩
  obtain ⟨a, h3, h4⟩ := h2 j hj
  exact ⟨a, h3, hf _ _ _ h4 (fun x => hL _ x (by simp))⟩
theorem cl_r.k9 {ca pb sl so th cx nt : Nat} (h : cl_r G M ca pb sl so th cx nt N) (h15 : ∀ t, N 15 t ≤ 10) (hf : kpt L M M') (hL : ∀ x ∈ L, 90 ≤ x ∧ x < 130) : cl_r G M' ca pb sl so th cx nt N := by
  obtain ⟨h1, h2, h3, h4, ⟨g, t1, t2⟩, h6, h7⟩ := h
  refine ⟨hf _ _ _ h1 (fun x => by have := hL _ x; omega), h2.k9 hf (fun x => by have := hL _ x; omega) (fun x => by have := hL _ x; omega), h3.k9 hf (fun x hx => by have := hL _ hx; omega), h4.k9 hf (fun x hx => by have := hL _ hx; omega), ⟨g, hf _ _ _ t1 (fun x => by have := hL _ x; omega), fun t ht => ⟨(t2 t ht).1, fun e => ?_⟩⟩, h6.k9 hf (fun x => by have := hL _ x; omega), h7.k9 hf (fun x hx => by have := hL _ hx; omega)⟩
  obtain ⟨a, q1, q2⟩ := (t2 t ht).2 e
  exact ⟨a, q1, q2.k9 hf (h15 t) (fun x hx => by have := hL _ hx; omega)⟩
theorem ev.k9 (h : ev G M) (hf : kpt L M M') (h0 : 0 ∉ L) : ev G M' := by
  obtain ⟨⟨bq, hh, z, g, p1, p2, p3⟩, ⟨dg, d1, d2⟩, g0, h3⟩ := h
  exact ⟨⟨bq, hh, z, g, hf _ _ _ p1 h0, hf _ _ _ p2 h0, p3⟩, ⟨dg, hf _ _ _ d1 h0, d2⟩, g0, hf _ _ _ h3 h0⟩
end K9
/-! ===== the law's loop: what holds at its head ===== -/
def refL : List Nat := [100, 101, 102, 103, 104, 105, 106, 107, 108, 109, 110, 111, 112, 113, 114, 115, 116, 117, 118, 119, 120, 121, 122, 123, 124, 125, 126, 127, 128, 129]
theorem refL_b : ∀ x ∈ refL, 90 ≤ x ∧ x < 130 := by decide
theorem refL_i {t : Nat} (h : t < 100 ∨ 130 ≤ t) : t ∉ refL := by
  intro hx
  have : ∀ x ∈ refL, 100 ≤ x ∧ x < 130 := by decide
  have := this t hx
  omega
theorem refL_o {t : Nat} (h : t ∉ refL) : t < 100 ∨ 130 ≤ t := by
  apply Decidable.byContradiction
  intro hh
  apply h
  have : ∀ k : Fin 30, 100 + k.val ∈ refL := by decide
  have := this ⟨t - 100, by omega⟩
  rwa [show 100 + (t - 100) = t by omega] at this
theorem md_fr.kp {M M' : sg_M} (h : md_fr M M') : kpt refL M M' := fun a t e hM ht => h a t e hM (refL_o ht)
/-- the class and the reference hold the same numbers -/
def lp (G : sg_G) (M : sg_M) (ca pb sl so th cx nt x oa od b n : Nat) (ad : Nat → Nat) (xs : Nat → Int32) (g : Nat → Int64) (gd : Nat → UInt64) (N : Nat → Nat → Nat) : Prop :=
  cl_r G M ca pb sl so th cx nt N ∧ md_Rep M x ad N ∧ WB N ∧ M oa = some (90, .inl (.long, 1, .inr (.inl g))) ∧ M od = some (91, .inl (.double, 1, .inr (.inr (.inr (.inl gd))))) ∧ ev G M ∧ M b = some (0, .inl (.int, n, .inl xs))
theorem md_Rep.sf9 {M M' : sg_M} {x : Nat} {ad : Nat → Nat} {N : Nat → Nat → Nat} (h : md_Rep M x ad N) (hf : sf cl9 M M') : md_Rep M' x ad N := by
  obtain ⟨h1, h2, h3⟩ := h
  have hno : ∀ t, 100 ≤ t → t < 130 → ∀ a, ¬ cl9 a t := fun t a b c hc => by
    unfold cl9 cm at hc
    omega
  refine ⟨hf.k h1 (hno 100 (by decide) (by decide) _), fun i ty n hi => ?_, h3⟩
  have hi2 : i < 23 := by
    apply Decidable.byContradiction
    intro hh
    have : md_arr i = none := by
      unfold md_arr
      split <;> first | omega | rfl
    rw [this] at hi
    cases hi
  exact hf.k (h2 i ty n hi) (hno (100 + i) (by omega) (by omega) _)
theorem md_Rep.I {M : sg_M} {x : Nat} {ad : Nat → Nat} {N : Nat → Nat → Nat} (h : md_Rep M x ad N) : md_I M M x ad N := ⟨h, fun _ _ _ h _ => h⟩
theorem md_Rep.wn {M : sg_M} {x : Nat} {ad : Nat → Nat} {N : Nat → Nat → Nat} (h : md_Rep M x ad N) (hb : WB N) : WN N := hb.wn h.2.2
