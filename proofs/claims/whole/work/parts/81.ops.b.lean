theorem md_blame_ms {N : Nat → Nat → Nat} {w q : Nat} (hg : ∀ s, N 12 s ≤ 6) (hG : gwf N) (hq8 : q < 85) (hq : wq (rq N q)) (N' : Nat → Nat → Nat) (hm : ms N N') (hw' : ∀ r, N' 4 r ≤ 3) : (md_blame N' w q).1 = blm (gl N) w (rq N q) 7 0 ∧ ms N (md_blame N' w q).2 ∧ ∀ r, (md_blame N' w q).2 4 r ≤ 3 := by
  have key : ∀ (f s : Nat) (N' : Nat → Nat → Nat), ms N N' → (∀ r, N' 4 r ≤ 3) → (md_blame1 f N' w q s).1 = blm (gl N) w (rq N q) f s ∧ ms N (md_blame1 f N' w q s).2 ∧ ∀ r, (md_blame1 f N' w q s).2 4 r ≤ 3 := by
    intro f
    induction f with
    | zero => intro s N' h hh; exact ⟨rfl, h, hh⟩
    | succ f ih =>
      intro s N' h hw'
      rw [md_blame1, blm]
      by_cases h6 : 6 ≤ s
      · rw [if_pos h6, if_pos h6]; exact ⟨rfl, h, hw'⟩
      rw [if_neg h6, if_neg h6]
      by_cases hb : (w >>> s) &&& 1 = 0
      · rw [if_pos hb, if_pos hb]; exact ih _ _ h hw'
      rw [if_neg hb, if_neg hb]
      have e : (md_mayDo N' s q).1 = isg (gl N s) (rq N q) := by
        rw [md_mayDo_isg hw' (by omega) (by rw [h 12 s (by omega)]; exact hg s) ?_ hq8 (by rw [h.rqe hq8]; exact hq), h.gle (by omega) (hg s), h.rqe hq8]
        intro j hj
        rw [h 12 s (by omega)] at hj
        have := hg s
        rw [h.rqe (by omega)]
        exact hG s j (by omega) hj
      have hm : ms N (md_mayDo N' s q).2 := h.tr (ms.mayDo _ _ _)
      rw [e]
      cases isg (gl N s) (rq N q) with
      | true =>
        rw [if_pos rfl, if_pos rfl]
        exact ih _ _ hm (mayDo_lab hw')
      | false => exact ⟨rfl, hm, mayDo_lab hw'⟩
  exact key 7 0 N' hm hw'
theorem or64 {a b : Nat} (ha : a < 64) (hb : b < 64) : a ||| b < 64 := Nat.or_lt_two_pow (n := 6) ha hb
theorem sh64 {q : Nat} (h : q ≤ 5) : 1 <<< q < 64 := by
  have : ∀ (b : Fin 6), 1 <<< b.val < 64 := by decide
  exact this ⟨q, by omega⟩
theorem walked_lt {N : Nat → Nat → Nat} (hW : WN N) {t : Nat} {q : Option Nat} : md_walked N t q < 64 := md_walked_lt (fun r => Nat.lt_succ_of_le (hW 16 r)) (fun r => Nat.lt_succ_of_le (hW 18 r)) (fun r => Nat.lt_succ_of_le (hW 14 r))
/-- the limits of the frames that are there -/
def lim (N : Nat → Nat → Nat) (t : Nat) : Prop := ∀ k, k < N 15 t → N 17 (10 * t + k) ≠ 0 → N 3 (44 + (10 * t + k)) ≠ 0 → wq (rq N (44 + (10 * t + k)))
theorem cs_r.lim {G : sg_G} {M : sg_M} {t a : Nat} {N : Nat → Nat → Nat} (h : cs_r G M t a N) : lim N t := by
  intro k hk h17 h3'
  obtain ⟨la, f, h1, h2, h3⟩ := h
  obtain ⟨p, p1, re, li, p2, p3⟩ := h3 k hk
  obtain ⟨z, z1, z2⟩ := (p3 h17).2.2 h3'
  exact z2.w
theorem walked_ms {N N' : Nat → Nat → Nat} (hm : ms N N') (hw : ∀ r, N 4 r ≤ 3) (hw' : ∀ r, N' 4 r ≤ 3) {t : Nat} (ht : t < 4) (h15 : N 15 t ≤ 10) {q : Option Nat} (hq8 : ∀ j, q = some j → j < 85 ∧ wq (rq N j)) (hl : lim N t) : md_walked N' t q = md_walked N t q := by
  rw [← k_walk_eq hw (fun j hj => (hq8 j hj).2) hl, ← k_walk_eq (N := N') hw' (fun j hj => by rw [hm.rqe (hq8 j hj).1]; exact (hq8 j hj).2) ?_]
  · have key : ∀ (f w k : Nat), k ≤ N 15 t → k_walk1 N' t q f w k = k_walk1 N t q f w k := by
      intro f
      induction f with
      | zero => intro w k _; rfl
      | succ f ih =>
        intro w k hk
        rw [k_walk1, k_walk1, hm 14 t (by omega)]
        by_cases h0 : k = 0
        · rw [if_pos h0, if_pos h0]
        · rw [if_neg h0, if_neg h0, hm 16 _ (by omega), hm 18 _ (by omega), ih _ _ (by omega)]
          have e : ends N' (10 * t + (k - 1)) q = ends N (10 * t + (k - 1)) q := by
            unfold ends
            rw [hm 17 _ (by omega), hm 3 _ (by omega), hm.rqe (by omega)]
            cases q with
            | none => rfl
            | some j => simp only [hm.rqe (hq8 j rfl).1]
          rw [e]
    unfold k_walk
    rw [hm 15 t (by omega)]
    exact key _ _ _ (Nat.le_refl _)
  · intro k hk h17 h3
    rw [hm 15 t (by omega)] at hk
    rw [hm 17 _ (by omega)] at h17
    rw [hm 3 _ (by omega)] at h3
    rw [hm.rqe (by omega)]
    exact hl k hk h17 h3

def k_alw1 (N : Nat → Nat → Nat) (t : Nat) : Nat → Nat → Nat → Nat
  | 0, _, _ => 0
  | f + 1, c, i => if 8 ≤ i then c else if N 3 i = 0 then k_alw1 N t f c (i + 1) else if (md_o (k_blm N (md_walked N t (some i)) (rq N i))) = ((-1)) then k_alw1 N t f (c + 1) (i + 1) else k_alw1 N t f c (i + 1)
theorem k_alw1_s (N : Nat → Nat → Nat) (t : Nat) (f : Nat) (c : Nat) (i : Nat) : k_alw1 N t (f + 1) c i = if 8 ≤ i then c else if N 3 i = 0 then k_alw1 N t f c (i + 1) else if (md_o (k_blm N (md_walked N t (some i)) (rq N i))) = ((-1)) then k_alw1 N t f (c + 1) (i + 1) else k_alw1 N t f c (i + 1) := rfl
set_option maxHeartbeats 400000 in
set_option maxRecDepth 100000 in
theorem c_alw1 {X : sg_X} {l : Launch} {G : sg_G} {d : Nat} {M : sg_M} {kr : Option Value → sg_M → Prop} {kx : String → sg_M → Prop} (htr : l.stackTraces = false) (hC : sg_C X l G cX6_allowed RX6 6 (d + 9)) (hR : sg_R X yX6_allowed kr kx (some .int)) {ca pb sl so th cx nt : Nat} {N : Nat → Nat → Nat} {gs go : Nat → Option Nat} {a t la : Nat} (hW : WN N) (hX : M ca = some (1, .inr (9, [.ref pb, .ref sl, .ref so, .ref th, .ref cx, .ref nt]))) (hSl : M sl = some (4, .inl (.object RX3, 8, .inr (.inr (.inr (.inr gs)))))) (hGs : gpm M gs N) (hSo : M so = some (5, .inl (.object RX5, 6, .inr (.inr (.inr (.inr go)))))) (hGo : gso G M go N) (hp : cs_r G M t a N) (hA : M a = some (40 + t, .inr (3, [.ref la, .int (nI (N 14 t))]))) : ∀ (f : Nat) (c : Nat) (i : Nat) (_ : 8 - i < f) (hi : i ≤ 8) (hk : kr (some (.int (nI (k_alw1 N t f c i)))) M), sg_W X M 0 0 11 [some (.ref ca), none, some (.ref a), some (.int (nI c)), some (.int (nI i)), none] [] := by
  intro f
  induction f with
  | zero =>
    intro c i hf
    exact absurd hf (Nat.not_lt_zero _)
  | succ f ih =>
    intro c i hf hi hk
    refine sg_iload (pc := 11) (x := nI i) hC dX6_allowed_11 rfl ?_
    refine sg_bipush (pc := 13) (nI 8) hC dX6_allowed_13 (by decide) ?_
    refine sg_icmpN_ge (pc := 15) (a := i) (b := 8) 57 hC dX6_allowed_15 (by decide) (by first | omega | decide) (by first | omega | decide) (fun h1 => ?_) (fun h1 => ?_)
    · refine sg_iload_n (pc := 57) (x := nI c) hC dX6_allowed_57 rfl ?_
      have e9 : k_alw1 N t (f + 1) c i = c := by rw [k_alw1_s]; simp only [if_pos h1]
      rw [e9] at hk
      exact sg_ireturn (st := []) (v := nI c) (pc := 58) hC hR dX6_allowed_58 hk
    · refine sg_aload_n (pc := 18) (v := .ref ca) hC dX6_allowed_18 rfl rfl ?_
      refine sg_get (pc := 19) (a := ca) (v := .ref sl) 1 hC rfl inw_X6 (by decide) tw_194 dX6_allowed_19 hX rfl ?_
      refine sg_iload (pc := 22) (x := nI i) hC dX6_allowed_22 rfl ?_
      refine sg_aald7 (pc := 24) (i := nI i) hC dX6_allowed_24 hSl (vp_in_nI (by first | omega | decide) (by first | omega | decide)) ?_
      rw [nI_clamp (by first | omega | decide)]
      show sg_W X M 0 0 25 [some (.ref ca), none, some (.ref a), some (.int (nI c)), some (.int (nI i)), none] [va_rf (gs i)]
      refine sg_astore (pc := 25) (v := va_rf (gs i)) hC dX6_allowed_25 (by decide) (sg_isRef _) ?_
      show sg_W X M 0 0 27 [some (.ref ca), none, some (.ref a), some (.int (nI c)), some (.int (nI i)), some (va_rf (gs i))] []
      refine sg_aload (pc := 27) (v := va_rf (gs i)) hC dX6_allowed_27 rfl (sg_isRef _) ?_
      refine sg_ifnull (pc := 29) (r := gs i) 51 hC dX6_allowed_29 (by decide) (fun h3 => ?_) (fun q2 h3 => ?_)
      · rw [h3]
        show sg_W X M 0 0 51 [some (.ref ca), none, some (.ref a), some (.int (nI c)), some (.int (nI i)), some (.null)] []
        have hn4 : N 3 i = 0 := Decidable.byContradiction (fun e9 => by obtain ⟨a9, h9, -⟩ := (hGs _ (by omega)).2 e9; rw [h3] at h9; cases h9)
        refine sg_iincN (pc := 51) (a := i) (b := i + 1) hC dX6_allowed_51 rfl (nI_1 _) (by decide) ?_
        show sg_W X M 0 0 54 [some (.ref ca), none, some (.ref a), some (.int (nI c)), some (.int (nI (i + 1))), some (.null)] []
        refine sg_goto (pc := 54) 11 hC dX6_allowed_54 (by decide) ?_
        have e9 : k_alw1 N t (f + 1) c i = k_alw1 N t f c (i + 1) := by rw [k_alw1_s]; simp only [if_neg (Nat.not_le.mpr h1), if_pos hn4]
        rw [e9] at hk
        refine sg_loc (L' := [some (.ref ca), none, some (.ref a), some (.int (nI c)), some (.int (nI ((i + 1)))), none]) ⟨rfl, ⟨rfl, ⟨rfl, ⟨rfl, trivial⟩⟩⟩⟩ ?_
        exact ih c (i + 1) (by first | omega | decide) (by first | omega | decide) hk
      · rw [h3]
        show sg_W X M 0 0 32 [some (.ref ca), none, some (.ref a), some (.int (nI c)), some (.int (nI i)), some (.ref q2)] []
        have hn5 : N 3 i ≠ 0 := fun e9 => by have h9 := (hGs _ (by omega)).1 e9; rw [h3] at h9; cases h9
        obtain ⟨q6, hq7, hp8⟩ := (hGs i (by omega)).2 hn5
        rw [h3] at hq7
        cases hq7
        refine sg_aload_n (pc := 32) (v := .ref ca) hC dX6_allowed_32 rfl rfl ?_
        refine sg_aload_n (pc := 33) (v := .ref a) hC dX6_allowed_33 rfl rfl ?_
        refine sg_aload (pc := 34) (v := .ref q2) hC dX6_allowed_34 rfl rfl ?_
        refine sg_callV (pc := 36) (As := [.ref q2]) (rest := [.ref ca]) (mc := 0) (ms := 0) hC tw_1056 tw_1057 tw_1058 tw_71 tw_1059 yd_X0_sourcesWalked (by decide) (ci := 3) rfl dX6_allowed_36 hA rfl (Nat.le_of_ble_eq_true rfl) (by first | omega | decide) (by first | omega | decide) ?_
        refine c_walked (oa := some q2) (q := some i) htr hW hp (Or.inr ⟨_, _, rfl, rfl, hp8⟩) ?_
        show sg_W X M 0 0 39 [some (.ref ca), none, some (.ref a), some (.int (nI c)), some (.int (nI i)), some (.ref q2)] [.int (nI (md_walked N t (some i))), .ref ca]
        refine sg_aload (pc := 39) (v := .ref q2) hC dX6_allowed_39 rfl rfl ?_
        refine sg_callV (pc := 41) (As := [.int (nI (md_walked N t (some i))), .ref q2]) (rest := []) (mc := 0) (ms := 0) hC tw_1119 tw_1121 tw_29 tw_62 tw_1122 yd_X6_sourceToBlame (by decide) (ci := 9) rfl dX6_allowed_41 hX rfl (Nat.le_of_ble_eq_true rfl) (by first | omega | decide) (by first | omega | decide) ?_
        refine c_blm htr hW hX hSo hGo hp8 (Nat.lt_trans (walked_lt hW) (by decide)) ?_
        show sg_W X M 0 0 44 [some (.ref ca), none, some (.ref a), some (.int (nI c)), some (.int (nI i)), some (.ref q2)] [.int (md_o (k_blm N (md_walked N t (some i)) (rq N i)))]
        refine sg_iconst (pc := 44) (((-1))) hC dX6_allowed_44 (by decide) ?_
        refine sg_icmp_ne (pc := 45) (x := (md_o (k_blm N (md_walked N t (some i)) (rq N i)))) (y := ((-1))) 51 hC dX6_allowed_45 (by decide) (fun h9 => ?_) (fun h9 => ?_)
        · refine sg_iincN (pc := 51) (a := i) (b := i + 1) hC dX6_allowed_51 rfl (nI_1 _) (by decide) ?_
          show sg_W X M 0 0 54 [some (.ref ca), none, some (.ref a), some (.int (nI c)), some (.int (nI (i + 1))), some (.ref q2)] []
          refine sg_goto (pc := 54) 11 hC dX6_allowed_54 (by decide) ?_
          have e9 : k_alw1 N t (f + 1) c i = k_alw1 N t f c (i + 1) := by rw [k_alw1_s]; simp only [if_neg (Nat.not_le.mpr h1), if_neg hn5, if_neg h9]
          rw [e9] at hk
          refine sg_loc (L' := [some (.ref ca), none, some (.ref a), some (.int (nI c)), some (.int (nI ((i + 1)))), none]) ⟨rfl, ⟨rfl, ⟨rfl, ⟨rfl, trivial⟩⟩⟩⟩ ?_
          exact ih c (i + 1) (by first | omega | decide) (by first | omega | decide) hk
        · refine sg_iincN (pc := 48) (a := c) (b := c + 1) hC dX6_allowed_48 rfl (nI_1 _) (by decide) ?_
          show sg_W X M 0 0 51 [some (.ref ca), none, some (.ref a), some (.int (nI (c + 1))), some (.int (nI i)), some (.ref q2)] []
          refine sg_iincN (pc := 51) (a := i) (b := i + 1) hC dX6_allowed_51 rfl (nI_1 _) (by decide) ?_
          show sg_W X M 0 0 54 [some (.ref ca), none, some (.ref a), some (.int (nI (c + 1))), some (.int (nI (i + 1))), some (.ref q2)] []
          refine sg_goto (pc := 54) 11 hC dX6_allowed_54 (by decide) ?_
          have e9 : k_alw1 N t (f + 1) c i = k_alw1 N t f (c + 1) (i + 1) := by rw [k_alw1_s]; simp only [if_neg (Nat.not_le.mpr h1), if_neg hn5, if_pos h9]
          rw [e9] at hk
          refine sg_loc (L' := [some (.ref ca), none, some (.ref a), some (.int (nI ((c + 1)))), some (.int (nI ((i + 1)))), none]) ⟨rfl, ⟨rfl, ⟨rfl, ⟨rfl, trivial⟩⟩⟩⟩ ?_
          exact ih (c + 1) (i + 1) (by first | omega | decide) (by first | omega | decide) hk

theorem mo_n {r : Option Nat} (h : ∀ k, r = some k → k < 2 ^ 31) : md_o r = -1 ↔ r = none := by
  cases r with
  | none => exact ⟨fun _ => rfl, fun _ => rfl⟩
  | some k => exact ⟨fun e => absurd e (jn_ne (h k rfl)), fun e => by cases e⟩
theorem blm_lt {gs : Nat → List RQ} {w : Nat} {r : RQ} : ∀ (f s k : Nat), blm gs w r f s = some k → k < 6 := by
  intro f
  induction f with
  | zero => intro s k h; cases h
  | succ f ih =>
    intro s k h
    rw [blm] at h
    repeat' split at h
    · cases h
    · exact ih _ _ h
    · exact ih _ _ h
    · cases h; omega
theorem allowed_eq {N : Nat → Nat → Nat} (hW : WN N) (hG : gwf N) {t : Nat} (ht : t < 4) (hl : lim N t) (hs : ∀ i, i < 8 → N 3 i ≠ 0 → wq (rq N i)) : ∀ (f n q : Nat) (N' : Nat → Nat → Nat), ms N N' → (∀ r, N' 4 r ≤ 3) → (md_allowed1 f N' t n q).1 = k_alw1 N t f n q ∧ ms N (md_allowed1 f N' t n q).2 := by
  intro f
  induction f with
  | zero => intro n q N' h _; exact ⟨rfl, h⟩
  | succ f ih =>
    intro n q N' hm hw'
    rw [md_allowed1, k_alw1]
    by_cases h8 : 8 ≤ q
    · rw [if_pos h8, if_pos h8]; exact ⟨rfl, hm⟩
    rw [if_neg h8, if_neg h8, hm 3 q (by omega)]
    by_cases h3 : N 3 q = 0
    · rw [if_pos (by omega), if_pos h3]; exact ih _ _ _ hm hw'
    rw [if_neg (by omega), if_neg h3]
    have hq := hs q (by omega) h3
    have e1 := walked_ms hm (fun r => hW 4 r) hw' ht (hW 15 t) (q := some q) (fun j hj => by cases hj; exact ⟨by omega, hq⟩) hl
    rw [e1]
    obtain ⟨b1, b2, b3⟩ := md_blame_ms (w := md_walked N t (some q)) (fun s => hW 12 s) hG (by omega) hq N' hm hw'
    rw [k_blm_eq]
    have e2 := mo_n (r := blm (gl N) (md_walked N t (some q)) (rq N q) 7 0) (fun k hk => by have := blm_lt _ _ _ hk; omega)
    cases hb : blm (gl N) (md_walked N t (some q)) (rq N q) 7 0 with
    | none =>
      rw [hb] at b1 e2
      simp only [b1]
      first | rw [if_pos (e2.mpr rfl)] | skip
      exact ih _ _ _ b2 b3
    | some k =>
      rw [hb] at b1 e2
      have e3 : ¬ md_o (some k) = -1 := fun z => by have := e2.mp z; cases this
      simp only [b1]
      first | rw [if_neg e3] | simp only [e3, if_false]
      exact ih _ _ _ b2 b3
theorem gso.w {G : sg_G} {M : sg_M} {go : Nat → Option Nat} {N : Nat → Nat → Nat} (h : gso G M go N) : gwf N := by
  intro s j hs hj
  obtain ⟨a, h1, la, f, h2, h3, h4⟩ := h s hs
  obtain ⟨p, p1, p2⟩ := h4 j hj
  exact p2.w
theorem gpm.w {M : sg_M} {gs : Nat → Option Nat} {N : Nat → Nat → Nat} (h : gpm M gs N) : ∀ i, i < 8 → N 3 i ≠ 0 → wq (rq N i) := by
  intro i hi h3
  obtain ⟨a, h1, h2⟩ := (h i hi).2 h3
  exact h2.w
theorem gso.z {G : sg_G} {M : sg_M} {go : Nat → Option Nat} {N : Nat → Nat → Nat} (h : gso G M go N) : gso G M go (md_set N 0 0 0) := fun s hs => by
  obtain ⟨a, h1, h2⟩ := h s hs
  exact ⟨a, h1, h2.cg rfl (fun _ _ => rfl)⟩
theorem gpm.z {M : sg_M} {gs : Nat → Option Nat} {N : Nat → Nat → Nat} (h : gpm M gs N) : gpm M gs (md_set N 0 0 0) := h

set_option maxHeartbeats 400000 in
set_option maxRecDepth 100000 in
theorem c_allowed_ {l : Launch} {G : sg_G} {d : Nat} {M : sg_M} {kr : Option Value → sg_M → Prop} {kx : String → sg_M → Prop} (htr : l.stackTraces = false) {ca pb sl so th cx nt : Nat} {N : Nat → Nat → Nat} {u : Int32}  (hJ : cl_r G M ca pb sl so th cx nt N) (hW : WN N) (hk : ∀ M', cl_r G M' ca pb sl so th cx nt (md_allowed N u).2 → sf cf M M' → (md_allowed N u).2 0 0 = 0 → kr (some (.int (nI (md_allowed N u).1))) M') (hx1 : ∀ M', cl_r G M' ca pb sl so th cx nt (md_allowed N u).2 → sf cf M M' → (md_allowed N u).2 0 0 = 1 → kx "java/util/NoSuchElementException" M') : sg_Met l G yX6_allowed cX6_allowed 6 (some .int) (d + 9) 1 6 [.ref ca, .int u] M kr kx := by
  refine sg_enter [some (.ref ca), some (.int u), none, none, none, none] (by decide) htr (Nat.le_of_ble_eq_true rfl) rfl ?_
  intro X hC hR
  have hC : sg_C X l G cX6_allowed RX6 6 (d + 9) := hC
  obtain ⟨hX, hPd, ⟨gs, hSl, hGs⟩, ⟨go, hSo, hGo⟩, ⟨gt, hTh, hGt⟩, ⟨gc, hCx, hGc⟩, hNt⟩ := id hJ
  refine sg_aload_n (pc := 0) (v := .ref ca) hC dX6_allowed_0 rfl rfl ?_
  refine sg_iload_n (pc := 1) (x := u) hC dX6_allowed_1 rfl ?_
  refine sg_callV (pc := 2) (As := [.int u]) (rest := []) (mc := 1) (ms := 6) hC tw_988 tw_990 tw_24 tw_62 tw_991 yd_X6_stackOf (by decide) (ci := 9) rfl dX6_allowed_2 hX rfl (Nat.le_of_ble_eq_true rfl) (by first | omega | decide) (by first | omega | decide) ?_
  refine c_stkOf htr hX hTh hGt ?_ (fun hxf6 => sg_prop hC hR (by rw [show md_allowed N u = (0, (md_set (md_set N 0 0 0) 0 0 1)) from by unfold md_allowed; rw [if_neg (ts9 (show md_isThread (md_set N 0 0 0) u = false from hxf6))] <;> rfl] at hx1; exact hx1 M (hJ.cg hW (ag.set0.tr ag.set0)) cf_rf (by simp [md_set, va_up])))
  intro q1 h02 h83 h34 hq5
  obtain ⟨q7, hq8, hp9⟩ := (hGt _ h83).2 h34
  rw [hq5] at hq8
  cases hq8
  have hs10 : md_isThread (md_set N 0 0 0) u = true := isThr_t (N := (md_set N 0 0 0)) h02 h83 h34
  obtain ⟨la11, f12, hc13, hl14, hfp15⟩ := id hp9
  show sg_W X M 0 0 5 [some (.ref ca), some (.int u), none, none, none, none] [.ref q1]
  refine sg_astore_n (pc := 5) (v := .ref q1) hC dX6_allowed_5 (by decide) rfl ?_
  show sg_W X M 0 0 6 [some (.ref ca), some (.int u), some (.ref q1), none, none, none] []
  refine sg_iconst (pc := 6) (nI 0) hC dX6_allowed_6 (by decide) ?_
  refine sg_istore_n (pc := 7) (x := nI 0) hC dX6_allowed_7 (by decide) ?_
  show sg_W X M 0 0 8 [some (.ref ca), some (.int u), some (.ref q1), some (.int (nI 0)), none, none] []
  refine sg_iconst (pc := 8) (nI 0) hC dX6_allowed_8 (by decide) ?_
  refine sg_istore (pc := 9) (x := nI 0) hC dX6_allowed_9 (by decide) ?_
  show sg_W X M 0 0 11 [some (.ref ca), some (.int u), some (.ref q1), some (.int (nI 0)), some (.int (nI 0)), none] []
  have hp0 : cs_r G M u.toNatClampNeg q1 (md_set N 0 0 0) := (hp9.cg rfl rfl (fun k hk => ⟨rfl, rfl, fun _ => ⟨rfl, rfl⟩⟩))
  have hal := allowed_eq (N := (md_set N 0 0 0)) (hW.set (i := 0) (j := 0) (v := 0) (Nat.zero_le _)) (gso.w (gso.z hGo)) h83 hp0.lim (gpm.w (gpm.z hGs)) 9 0 0 (md_set N 0 0 0) ms.rf (fun r => hW 4 r)
  have e9 : md_allowed N u = md_allowed1 9 (md_set N 0 0 0) u.toNatClampNeg 0 0 := by unfold md_allowed; rw [if_pos hs10]
  rw [e9] at hk
  refine sg_loc (L' := [some (.ref ca), none, some (.ref q1), some (.int (nI 0)), some (.int (nI 0)), none]) ⟨rfl, rfl, rfl, rfl, trivial⟩ ?_
  exact c_alw1 (N := (md_set N 0 0 0)) htr hC hR (hW.set (i := 0) (j := 0) (v := 0) (Nat.zero_le _)) hX hSl (gpm.z hGs) hSo (gso.z hGo) hp0 hc13 9 0 0 (by decide) (by decide) (by rw [← hal.1]; exact hk M (hJ.cg hW (ag.set0.tr (ag.ms hal.2))) cf_rf ((ms00 hal.2).trans (by simp [md_set, va_up])))
