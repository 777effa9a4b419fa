/-! ===== the pieces under new and single cells; the environment ===== -/
section PCS
variable {G : sg_G} {M M' : sg_M} {N N' : Nat → Nat → Nat} {L : List Nat} {b q v : Nat} {e e' : sg_E} {y : Nat × sg_E}
theorem sf_nw (hw : sw M q y M') (hq : M q = none) : sf (pk []) M M' := (sf.rf (P := pk []) (M := M)).nw hw hq
theorem sf_st (hw : sw M b (v, e') M') (hb : M b = some (v, e)) : sf (pk [v]) M M' := (sf.rf (P := pk [v]) (M := M)).st hw hb (by simp [pk])
theorem cl_slot.nw {sl : Nat} (h : cl_slot M sl N) (hw : sw M q y M') (hq : M q = none) : cl_slot M' sl N := h.p (sf_nw hw hq) (by simp)
theorem cl_slot.st {sl : Nat} (h : cl_slot M sl N) (hw : sw M b (v, e') M') (hb : M b = some (v, e)) (hv : ¬ (v = 4 ∨ v = 70 ∨ v = 71 ∨ v = 72)) : cl_slot M' sl N := h.p (sf_st hw hb) (fun x hx => by rw [List.mem_singleton.mp hx]; exact hv)
theorem cl_src.nw {so : Nat} (h : cl_src G M so N) (hw : sw M q y M') (hq : M q = none) : cl_src G M' so N := h.p (sf_nw hw hq) (by simp)
theorem cl_src.st {so : Nat} (h : cl_src G M so N) (hw : sw M b (v, e') M') (hb : M b = some (v, e)) (hv : ¬ (v = 0 ∨ v = 5 ∨ (10 ≤ v ∧ v < 16) ∨ (20 ≤ v ∧ v < 26) ∨ (30 ≤ v ∧ v < 36) ∨ v = 70 ∨ v = 71 ∨ v = 72)) : cl_src G M' so N := h.p (sf_st hw hb) (fun x hx => by rw [List.mem_singleton.mp hx]; exact hv)
def ct (G : sg_G) (M : sg_M) (th : Nat) (N : Nat → Nat → Nat) : Prop := cl_thr G M th N ∧ WN N
theorem ct.p {th : Nat} (h : ct G M th N) (hf : sf (pk L) M M') (hL : ∀ x ∈ L, ¬ (x = 0 ∨ x = 6 ∨ (40 ≤ x ∧ x < 44) ∨ (50 ≤ x ∧ x < 54) ∨ (60 ≤ x ∧ x < 64) ∨ x = 70 ∨ x = 71 ∨ x = 72 ∨ (200 ≤ x ∧ x < 240))) : ct G M' th N := ⟨h.1.p hf h.2 hL, h.2⟩
theorem ct.nw {th : Nat} (h : ct G M th N) (hw : sw M q y M') (hq : M q = none) : ct G M' th N := h.p (sf_nw hw hq) (by simp)
theorem ct.st {th : Nat} (h : ct G M th N) (hw : sw M b (v, e') M') (hb : M b = some (v, e)) (hv : ¬ (v = 0 ∨ v = 6 ∨ (40 ≤ v ∧ v < 44) ∨ (50 ≤ v ∧ v < 54) ∨ (60 ≤ v ∧ v < 64) ∨ v = 70 ∨ v = 71 ∨ v = 72 ∨ (200 ≤ v ∧ v < 240))) : ct G M' th N := h.p (sf_st hw hb) (fun x hx => by rw [List.mem_singleton.mp hx]; exact hv)
theorem cl_ctx.nw {cx : Nat} (h : cl_ctx M cx N) (hw : sw M q y M') (hq : M q = none) : cl_ctx M' cx N := h.p (sf_nw hw hq) (by simp)
theorem cl_ctx.st {cx : Nat} (h : cl_ctx M cx N) (hw : sw M b (v, e') M') (hb : M b = some (v, e)) (hv : 7 ≠ v) : cl_ctx M' cx N := h.p (sf_st hw hb) (fun x => hv (List.mem_singleton.mp x))
theorem cl_note.nw {nt : Nat} (h : cl_note G M nt N) (hw : sw M q y M') (hq : M q = none) : cl_note G M' nt N := h.p (sf_nw hw hq) (by simp)
theorem cl_note.st {nt : Nat} (h : cl_note G M nt N) (hw : sw M b (v, e') M') (hb : M b = some (v, e)) (hv : ¬ (v = 0 ∨ v = 8 ∨ v = 9 ∨ v = 73)) : cl_note G M' nt N := h.p (sf_st hw hb) (fun x hx => by rw [List.mem_singleton.mp hx]; exact hv)
theorem gpm.p {gs : Nat → Option Nat} (h : gpm M gs N) (hf : sf (pk L) M M') (hL : ∀ x ∈ L, ¬ (x = 70 ∨ x = 71 ∨ x = 72)) : gpm M' gs N := by
  intro i hi
  refine ⟨(h i hi).1, fun e => ?_⟩
  obtain ⟨a, h3, h4⟩ := (h i hi).2 e
  exact ⟨a, h3, h4.p hf (fun x => hL _ x (by simp)) (fun x => hL _ x (by simp)) (fun x => hL _ x (by simp))⟩
theorem gpm.nw {gs : Nat → Option Nat} (h : gpm M gs N) (hw : sw M q y M') (hq : M q = none) : gpm M' gs N := h.p (sf_nw hw hq) (by simp)
theorem gpm.st {gs : Nat → Option Nat} (h : gpm M gs N) (hw : sw M b (v, e') M') (hb : M b = some (v, e)) (hv : ¬ (v = 70 ∨ v = 71 ∨ v = 72)) : gpm M' gs N := h.p (sf_st hw hb) (fun x hx => by rw [List.mem_singleton.mp hx]; exact hv)
/-- what the class's code finds in the old memory -/
def ev (G : sg_G) (M : sg_M) : Prop := st_r 0 0 M (G.2.2.2 1) [114, 119, 120, 100] ∧ dg_r G M ∧ ∃ g0 : Nat → Option Nat, M (G.2.2.2 0) = some (0, .inl (.object "java/lang/Object", 0, .inr (.inr (.inr (.inr g0)))))
theorem ev.p (h : ev G M) (hf : sf (pk L) M M') (h0 : 0 ∉ L) : ev G M' := by
  obtain ⟨h1, h2, g0, h3⟩ := h
  exact ⟨h1.p hf h0 h0, h2.p hf h0, g0, hf.p h3 h0⟩
theorem ev.nw (h : ev G M) (hw : sw M q y M') (hq : M q = none) : ev G M' := h.p (sf_nw hw hq) (by simp)
theorem ev.st (h : ev G M) (hw : sw M b (v, e') M') (hb : M b = some (v, e)) (hv : 0 ≠ v) : ev G M' := h.p (sf_st hw hb) (fun x => hv (List.mem_singleton.mp x))
theorem ev.cf (h : ev G M) (hf : sf cf M M') : ev G M' := by
  obtain ⟨⟨bq, hh, z, g, p1, p2, p3⟩, ⟨dg, d1, d2⟩, g0, h3⟩ := h
  have k : ∀ {a : Nat} {e : sg_E}, M a = some (0, e) → M' a = some (0, e) := fun h => hf.k h (fun c => c.1 rfl)
  exact ⟨⟨bq, hh, z, g, k p1, k p2, p3⟩, ⟨dg, k d1, d2⟩, g0, k h3⟩
theorem cf_pk (hf : sf (pk L) M M') (h : ∀ t ∈ L, cm t) : sf cf M M' := hf.mono (fun a t ht => h t ht)
end PCS
/-! rebuilt wholes -/
theorem cl_r.pad {G : sg_G} {M M' : sg_M} {ca pb sl so th cx nt : Nat} {N N' : Nat → Nat → Nat} (h : cl_r G M ca pb sl so th cx nt N) (hW : WN N) (hf : sf (pk [2, 3]) M M') (hp : sb_r 2 3 M' pb (padl N')) (hN : ∀ i j, 3 ≤ i → N' i j = N i j) : cl_r G M' ca pb sl so th cx nt N' := by
  obtain ⟨h1, h2, h3, h4, h5, h6, h7⟩ := h
  have hr : ∀ p, rq N' p = rq N p := fun p => by unfold rq; rw [hN 3 p (by omega), hN 4 p (by omega), hN 5 _ (by omega), hN 5 _ (by omega), hN 5 _ (by omega), hN 6 p (by omega), hN 7 p (by omega), hN 8 p (by omega), hN 9 p (by omega)]
  exact ⟨hf.p h1 (by decide), hp, (h3.p hf (by simp)).cg (fun i hi => hr i), (h4.p hf (by simp)).cg (fun s hs => ⟨hN 12 s (by omega), fun j hj => hr _⟩), (h5.p hf hW (by simp)).cg (fun t ht => ⟨hN 13 t (by omega), hN 14 t (by omega), hN 15 t (by omega)⟩) (fun t k ht hk => ⟨hN 16 _ (by omega), hN 17 _ (by omega), fun _ => ⟨hN 18 _ (by omega), hr _⟩⟩), (h6.p hf (by decide)).cg (fun j hj => ⟨hN 19 j (by omega), hN 20 j (by omega)⟩), (h7.p hf (by simp)).cg (hN 21 0 (by omega)) (fun j hj => hN 22 j (by omega))⟩
theorem padl_len (N : Nat → Nat → Nat) : (padl N).length = N 1 0 := by simp [padl]
theorem padl_get {N : Nat → Nat → Nat} {j : Nat} (h : j < N 1 0) : (padl N).getD j 0 = N 2 j := by
  simp [padl, List.getD_eq_getElem?_getD, List.getElem?_map, List.getElem?_range', h]
theorem padl_app {N : Nat → Nat → Nat} {c n : Nat} (hn : N 1 0 = n) : padl (md_set (md_set (md_set N 0 0 0) 2 n c) 1 0 (n + 1)) = padl N ++ [c] := by
  unfold padl
  have e1 : (md_set (md_set (md_set N 0 0 0) 2 n c) 1 0 (n + 1)) 1 0 = n + 1 := by simp [md_set, va_up]
  rw [e1, hn, List.range'_concat, List.map_append]
  congr 1
  · apply List.map_congr_left
    intro j hj
    have hj2 : j < n := by simpa using hj
    have : j ≠ n := by omega
    simp [md_set, va_up, this]
  · simp [md_set, va_up]
theorem padl_0 {N : Nat → Nat → Nat} (h : N 1 0 = 0) : padl N = [] := by simp [padl, h]
theorem mset_ne {N : Nat → Nat → Nat} {i j v a b : Nat} (h : ¬ (a = i ∧ b = j)) : md_set N i j v a b = N a b := by
  unfold md_set
  by_cases ha : a = i
  · subst ha
    rw [va_up_self, va_up_ne _ _ (fun e => h ⟨rfl, e⟩)]
  · rw [va_up_ne _ _ ha]
theorem mset_eq {N : Nat → Nat → Nat} {i j v : Nat} : md_set N i j v i j = v := by
  unfold md_set
  rw [va_up_self, va_up_self]
theorem rq_sne {N : Nat → Nat → Nat} {i j v p : Nat} (h : ¬ (3 ≤ i ∧ i ≤ 9)) : rq (md_set N i j v) p = rq N p := by
  unfold rq
  rw [mset_ne (by omega), mset_ne (by omega), mset_ne (by omega), mset_ne (by omega), mset_ne (by omega), mset_ne (by omega), mset_ne (by omega), mset_ne (by omega), mset_ne (by omega)]
/-! revoke -/
theorem revoke1_ok {s : Nat} : ∀ (f k : Nat) (N : Nat → Nat → Nat), k < N 12 s → N 12 s ≤ 6 → N 12 s - k < f → (md_revoke1 f N s k).1 = N 12 s - 1 ∧ (md_revoke1 f N s k).2 12 s = N 12 s - 1 ∧ (∀ p, ¬ (8 + 6 * s + k ≤ p ∧ p < 8 + 6 * s + N 12 s) → rq (md_revoke1 f N s k).2 p = rq N p) ∧ (∀ j, k ≤ j → j + 1 < N 12 s → rq (md_revoke1 f N s k).2 (8 + 6 * s + j) = rq N (8 + 6 * s + (j + 1))) ∧ (∀ i j, ¬ (3 ≤ i ∧ i ≤ 9) → ¬ (i = 12 ∧ j = s) → (md_revoke1 f N s k).2 i j = N i j) := by
  intro f
  induction f with
  | zero => intro k N h1 h2 h3; omega
  | succ f ih =>
    intro k N h1 h2 h3
    rw [md_revoke1]
    by_cases hk : N 12 s ≤ k + 1
    · rw [if_pos hk]
      refine ⟨rfl, by simp [md_set, va_up], fun p _ => ?_, fun j a b => by omega, fun i j a b => ?_⟩
      · simp [rq, md_set, va_up]
      · exact mset_ne (N := N) b
    · rw [if_neg hk]
      have e12 : md_copy N ((9 + (6 * s)) + k) ((8 + (6 * s)) + k) 12 s = N 12 s := mc.copy _ _ 12 s (by omega)
      obtain ⟨i1, i2, i3, i4, i5⟩ := ih (k + 1) (md_copy N ((9 + (6 * s)) + k) ((8 + (6 * s)) + k)) (by rw [e12]; omega) (by rw [e12]; exact h2) (by rw [e12]; omega)
      rw [e12] at i1 i2 i3 i4
      refine ⟨i1, i2, fun p hp => ?_, fun j a b => ?_, fun i j a b => ?_⟩
      · rw [i3 p (by omega), rq_copy_ne (by omega)]
      · by_cases hj : j = k
        · subst hj
          rw [i3 _ (by omega), rq_copy]
          congr 1
          omega
        · rw [i4 j (by omega) b, rq_copy_ne (by omega)]
      · rw [i5 i j a b]
        exact mc.copy _ _ i j (by omega)
