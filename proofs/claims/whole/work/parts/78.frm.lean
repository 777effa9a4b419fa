def k_ends0 (gu : Nat) (li : Option Nat) (oa : Option Nat) (r : RQ) (t : RQ) : Bool := if gu = 0 then false else (match li with | none => true | some q2 => (match oa with | none => false | some q5 => if (k_incl r t) = true then true else false))
set_option maxHeartbeats 400000 in
set_option maxRecDepth 100000 in
theorem c_ends0 {l : Launch} {G : sg_G} {d : Nat} {M : sg_M} {kr : Option Value → sg_M → Prop} {kx : String → sg_M → Prop} (htr : l.stackTraces = false) {a tf gu : Nat} {so re : Int32} {li oa : Option Nat} {r t : RQ} (hA : M a = some (tf, .inr (4, [.int so, .int re, .int (nI gu), va_rf li]))) (hgu : gu ≤ 1) (hli : gu ≠ 0 → ∀ p, li = some p → pm_r M p r) (hoa : ∀ p, oa = some p → pm_r M p t) (hk : kr (some (.int (md_b (k_ends0 gu li oa r t)))) M) : sg_Met l G yX1_endsWalk cX1_endsWalk 2 (some .boolean) (d + 7) 0 0 [.ref a, va_rf oa] M kr kx := by
  refine sg_enter [some (.ref a), some (va_rf oa)] (by decide) htr (by rcases oa with _ | _ <;> exact Nat.le_of_ble_eq_true rfl) (by rcases oa with _ | _ <;> rfl) ?_
  intro X hC hR
  have hC : sg_C X l G cX1_endsWalk RX1 2 (d + 7) := hC
  refine sg_aload_n (pc := 0) (v := .ref a) hC dX1_endsWalk_0 rfl rfl ?_
  refine sg_get (pc := 1) (a := a) (v := .int (nI gu)) 2 hC rfl inw_X1 (by decide) tw_1003 dX1_endsWalk_1 hA rfl ?_
  refine sg_ifN_eq (pc := 4) (a := gu) 33 hC dX1_endsWalk_4 (by decide) (by first | omega | decide) (fun h1 => ?_) (fun h1 => ?_)
  · refine sg_iconst (pc := 33) (nI 0) hC dX1_endsWalk_33 (by decide) ?_
    have e9 : k_ends0 gu li oa r t = false := by unfold k_ends0; simp only [if_pos h1]
    rw [e9] at hk
    exact sg_zreturn (st := []) (v := md_b false) (pc := 34) (ty := .boolean) hC hR (md_narb _) dX1_endsWalk_34 hk
  · refine sg_aload_n (pc := 7) (v := .ref a) hC dX1_endsWalk_7 rfl rfl ?_
    refine sg_get (pc := 8) (a := a) (v := va_rf li) 3 hC rfl inw_X1 (by decide) tw_1004 dX1_endsWalk_8 hA rfl ?_
    refine sg_ifnull (pc := 11) (r := li) 29 hC dX1_endsWalk_11 (by decide) (fun h3 => ?_) (fun q2 h3 => ?_)
    · refine sg_iconst (pc := 29) (nI 1) hC dX1_endsWalk_29 (by decide) ?_
      refine sg_goto (pc := 30) 34 hC dX1_endsWalk_30 (by decide) ?_
      have e9 : k_ends0 gu li oa r t = true := by unfold k_ends0; simp only [if_neg h1, h3]
      rw [e9] at hk
      exact sg_zreturn (st := []) (v := md_b true) (pc := 34) (ty := .boolean) hC hR (md_narb _) dX1_endsWalk_34 hk
    · have hp4 := hli (by omega) _ h3
      have hA : M a = some (tf, .inr (4, [.int so, .int re, .int (nI gu), .ref q2])) := by rw [h3] at hA; exact hA
      refine sg_aload_n (pc := 14) (v := va_rf oa) hC dX1_endsWalk_14 rfl (sg_isRef _) ?_
      refine sg_ifnull (pc := 15) (r := oa) 33 hC dX1_endsWalk_15 (by decide) (fun h6 => ?_) (fun q5 h6 => ?_)
      · rw [h6]
        show sg_W X M 0 0 33 [some (.ref a), some (.null)] []
        refine sg_iconst (pc := 33) (nI 0) hC dX1_endsWalk_33 (by decide) ?_
        have e9 : k_ends0 gu li oa r t = false := by unfold k_ends0; simp only [if_neg h1, h3, h6]
        rw [e9] at hk
        exact sg_zreturn (st := []) (v := md_b false) (pc := 34) (ty := .boolean) hC hR (md_narb _) dX1_endsWalk_34 hk
      · rw [h6]
        show sg_W X M 0 0 18 [some (.ref a), some (.ref q5)] []
        have hp7 := hoa _ h6
        refine sg_aload_n (pc := 18) (v := .ref a) hC dX1_endsWalk_18 rfl rfl ?_
        refine sg_get (pc := 19) (a := a) (v := .ref q2) 3 hC rfl inw_X1 (by decide) tw_1004 dX1_endsWalk_19 hA rfl ?_
        refine sg_aload_n (pc := 22) (v := .ref q5) hC dX1_endsWalk_22 rfl rfl ?_
        obtain ⟨_, hx8⟩ := hp4.x
        refine sg_callV (pc := 23) (As := [.ref q5]) (rest := []) (mc := 0) (ms := 0) hC tw_1067 tw_838 tw_839 tw_87 tw_840 yd_X3_includes (by decide) (ci := 6) rfl dX1_endsWalk_23 hx8 rfl (Nat.le_of_ble_eq_true rfl) (by first | omega | decide) (by first | omega | decide) ?_
        refine c_incl htr hp4 hp7 ?_
        show sg_W X M 0 0 26 [some (.ref a), some (.ref q5)] [.int (md_b ((k_incl r t)))]
        refine sg_ifB_eq (pc := 26) (b := (k_incl r t)) 33 hC dX1_endsWalk_26 (by decide) (fun h9 => ?_) (fun h9 => ?_)
        · refine sg_iconst (pc := 33) (nI 0) hC dX1_endsWalk_33 (by decide) ?_
          have e9 : k_ends0 gu li oa r t = false := by unfold k_ends0; simp only [if_neg h1, h3, h6, if_neg (ts9 h9)]
          rw [e9] at hk
          exact sg_zreturn (st := []) (v := md_b false) (pc := 34) (ty := .boolean) hC hR (md_narb _) dX1_endsWalk_34 hk
        · refine sg_iconst (pc := 29) (nI 1) hC dX1_endsWalk_29 (by decide) ?_
          refine sg_goto (pc := 30) 34 hC dX1_endsWalk_30 (by decide) ?_
          have e9 : k_ends0 gu li oa r t = true := by unfold k_ends0; simp only [if_neg h1, h3, h6, if_pos h9]
          rw [e9] at hk
          exact sg_zreturn (st := []) (v := md_b true) (pc := 34) (ty := .boolean) hC hR (md_narb _) dX1_endsWalk_34 hk

/-- who is asked for: nothing, or a permission that is a record -/
def aq (M : sg_M) (oa q : Option Nat) (N : Nat → Nat → Nat) : Prop := (oa = none ∧ q = none) ∨ ∃ b j, oa = some b ∧ q = some j ∧ pm_r M b (rq N j)
def ends (N : Nat → Nat → Nat) (f : Nat) (q : Option Nat) : Bool := decide (N 17 f ≠ 0) && (decide (N 3 (44 + f) = 0) || (match q with
  | none => false
  | some j => inc (rq N (44 + f)) (rq N j)))
def oq (N : Nat → Nat → Nat) (q : Option Nat) : RQ := match q with
  | none => r0
  | some j => rq N j
theorem c_ends {l : Launch} {G : sg_G} {d : Nat} {M : sg_M} {kr : Option Value → sg_M → Prop} {kx : String → sg_M → Prop} (htr : l.stackTraces = false) {t k p : Nat} {N : Nat → Nat → Nat} {oa q : Option Nat} (hW : WN N) (hA : fr_r M t k p N) (hq : aq M oa q N) (hk : kr (some (.int (md_b (ends N (10 * t + k) q)))) M) : sg_Met l G yX1_endsWalk cX1_endsWalk 2 (some .boolean) (d + 7) 0 0 [.ref p, va_rf oa] M kr kx := by
  obtain ⟨re, li, h1, h2⟩ := hA
  have h17 : N 17 (10 * t + k) ≤ 1 := hW 17 _
  have hoa : ∀ b, oa = some b → pm_r M b (oq N q) := by
    intro b hb
    rcases hq with ⟨e1, e2⟩ | ⟨b', j, e1, e2, e3⟩
    · rw [e1] at hb; cases hb
    · rw [e1] at hb
      cases hb
      rw [e2]
      exact e3
  have hli : N 17 (10 * t + k) ≠ 0 → ∀ p, li = some p → pm_r M p (rq N (44 + (10 * t + k))) := by
    intro e p hp
    obtain ⟨-, q2, q3⟩ := h2 e
    by_cases h3 : N 3 (44 + (10 * t + k)) = 0
    · rw [q2 h3] at hp; cases hp
    · obtain ⟨z, z1, z2⟩ := q3 h3
      rw [z1] at hp
      cases hp
      exact z2
  refine c_ends0 htr h1 h17 hli hoa ?_
  have e : ends N (10 * t + k) q = k_ends0 (N 17 (10 * t + k)) li oa (rq N (44 + (10 * t + k))) (oq N q) := by
    unfold ends k_ends0
    by_cases hg : N 17 (10 * t + k) = 0
    · simp [hg]
    · rw [if_neg hg]
      obtain ⟨-, q2, q3⟩ := h2 hg
      by_cases h3 : N 3 (44 + (10 * t + k)) = 0
      · rw [q2 h3]; simp [hg, h3]
      · obtain ⟨z, z1, z2⟩ := q3 h3
        rw [z1]
        rcases hq with ⟨e1, e2⟩ | ⟨b', j, e1, e2, e3⟩
        · rw [e1, e2]; simp [h3]
        · rw [e1, e2]
          show _ = (if k_incl (rq N (44 + (10 * t + k))) (rq N j) = true then true else false)
          rw [k_incl_eq z2.w e3.w]
          cases hh : inc (rq N (44 + (10 * t + k))) (rq N j) <;> simp [hg, h3, hh]
  rw [← e]
  exact hk

theorem ends_g {N : Nat → Nat → Nat} {f : Nat} {q : Option Nat} (h : ends N f q = true) : N 17 f ≠ 0 := by
  unfold ends at h
  intro e
  simp [e] at h
theorem js6 {q : Nat} (hq : q ≤ 5) : 1 <<< q < 2 ^ 31 := by
  have : ∀ (b : Fin 6), 1 <<< b.val < 2 ^ 31 := by decide
  exact this ⟨q, by omega⟩

def k_walk1 (N : Nat → Nat → Nat) (t : Nat) (q : Option Nat) : Nat → Nat → Nat → Nat
  | 0, _, _ => 0
  | f + 1, w, k => if k = 0 then w ||| (N 14 t) else if (ends N (10 * t + (k - 1)) q) = true then (w ||| (1 <<< (N 16 (10 * t + (k - 1))))) ||| (N 18 (10 * t + (k - 1))) else k_walk1 N t q f (w ||| (1 <<< (N 16 (10 * t + (k - 1))))) (k - 1)
theorem k_walk1_s (N : Nat → Nat → Nat) (t : Nat) (q : Option Nat) (f : Nat) (w : Nat) (k : Nat) : k_walk1 N t q (f + 1) w k = if k = 0 then w ||| (N 14 t) else if (ends N (10 * t + (k - 1)) q) = true then (w ||| (1 <<< (N 16 (10 * t + (k - 1))))) ||| (N 18 (10 * t + (k - 1))) else k_walk1 N t q f (w ||| (1 <<< (N 16 (10 * t + (k - 1))))) (k - 1) := rfl
set_option maxHeartbeats 400000 in
set_option maxRecDepth 100000 in
theorem c_walk1 {X : sg_X} {l : Launch} {G : sg_G} {d : Nat} {M : sg_M} {kr : Option Value → sg_M → Prop} {kx : String → sg_M → Prop} (htr : l.stackTraces = false) (hC : sg_C X l G cX0_sourcesWalked RX0 5 (d + 8)) (hR : sg_R X yX0_sourcesWalked kr kx (some .int)) {a tc la u1 u2 t : Nat} {f0 : Nat → Option Nat} {N : Nat → Nat → Nat} {oa q : Option Nat} (hW : WN N) (hA : M a = some (tc, .inr (3, [.ref la, .int (nI (N 14 t))]))) (hL : al_r G u1 u2 M la (N 15 t) f0) (hF : ∀ k, k < N 15 t → ∃ p, f0 k = some p ∧ fr_r M t k p N) (hq : aq M oa q N) : ∀ (f : Nat) (w : Nat) (k : Nat) (_ : k < f) (hk9 : k ≤ N 15 t) (hk : kr (some (.int (nI (k_walk1 N t q f w k)))) M), sg_W X M 0 0 12 [some (.ref a), some (va_rf oa), some (.int (nI w)), some (.int (md_p k)), none] [] := by
  intro f
  induction f with
  | zero =>
    intro w k hf
    exact absurd hf (Nat.not_lt_zero _)
  | succ f ih =>
    intro w k hf hk9 hk
    have h15 : N 15 t ≤ 10 := hW 15 t
    refine sg_iload_n (pc := 12) (x := md_p k) hC dX0_sourcesWalked_12 rfl ?_
    refine sg_ifP_lt (pc := 13) (a := k) 62 hC dX0_sourcesWalked_13 (by decide) (by first | omega | decide | exact Nat.lt_of_le_of_lt (hW 16 _) (by decide)) (fun h1 => ?_) (fun h1 => ?_)
    · refine sg_iload_n (pc := 62) (x := nI w) hC dX0_sourcesWalked_62 rfl ?_
      refine sg_aload_n (pc := 63) (v := .ref a) hC dX0_sourcesWalked_63 rfl rfl ?_
      refine sg_get (pc := 64) (a := a) (v := .int (nI (N 14 t))) 1 hC rfl inw_X0 (by decide) tw_187 dX0_sourcesWalked_64 hA rfl ?_
      refine sg_iorN (pc := 67) (a := w) (b := N 14 t) hC dX0_sourcesWalked_67 ?_
      have e9 : k_walk1 N t q (f + 1) w k = w ||| (N 14 t) := by rw [k_walk1_s]; simp only [if_pos h1]
      rw [e9] at hk
      exact sg_ireturn (st := []) (v := nI (w ||| (N 14 t))) (pc := 68) hC hR dX0_sourcesWalked_68 hk
    · rw [md_p_pos h1]
      show sg_W X M 0 0 16 [some (.ref a), some (va_rf oa), some (.int (nI w)), some (.int (nI (k - 1))), none] []
      refine sg_aload_n (pc := 16) (v := .ref a) hC dX0_sourcesWalked_16 rfl rfl ?_
      refine sg_get (pc := 17) (a := a) (v := .ref la) 0 hC rfl inw_X0 (by decide) tw_185 dX0_sourcesWalked_17 hA rfl ?_
      refine sg_iload_n (pc := 20) (x := nI (k - 1)) hC dX0_sourcesWalked_20 rfl ?_
      obtain ⟨_, _, _, _, _, hx2, -⟩ := id hL
      refine sg_callV (pc := 21) (As := [.int (nI (k - 1))]) (rest := []) (mc := 0) (ms := 0) hC tw_1061 tw_971 tw_972 tw_69 tw_973 yd_Jx4a65c_get_915e3 (by decide) (ci := 2) rfl dX0_sourcesWalked_21 hx2 rfl (Nat.le_of_ble_eq_true rfl) (by first | omega | decide | exact Nat.lt_of_le_of_lt (hW 16 _) (by decide)) (by first | omega | decide | exact Nat.lt_of_le_of_lt (hW 16 _) (by decide)) ?_
      obtain ⟨q3, hq4, hfr5⟩ := hF (k - 1) (by omega)
      obtain ⟨re6, li7, hc8, hg9⟩ := id hfr5
      refine c_alGet htr hL (by omega) hq4 ?_
      show sg_W X M 0 0 24 [some (.ref a), some (va_rf oa), some (.int (nI w)), some (.int (nI (k - 1))), none] [.ref q3]
      refine sg_castC (pc := 24) (ci := 4) hC rfl (by simp [sg_wk]) tw_1062 dX0_sourcesWalked_24 hc8 ?_
      refine sg_astore (pc := 27) (v := .ref q3) hC dX0_sourcesWalked_27 (by decide) rfl ?_
      show sg_W X M 0 0 29 [some (.ref a), some (va_rf oa), some (.int (nI w)), some (.int (nI (k - 1))), some (.ref q3)] []
      refine sg_iload_n (pc := 29) (x := nI w) hC dX0_sourcesWalked_29 rfl ?_
      refine sg_iconst (pc := 30) (nI 1) hC dX0_sourcesWalked_30 (by decide) ?_
      refine sg_aload (pc := 31) (v := .ref q3) hC dX0_sourcesWalked_31 rfl rfl ?_
      refine sg_get (pc := 33) (a := q3) (v := .int (nI (N 16 (10 * t + (k - 1))))) 0 hC rfl inw_X1 (by decide) tw_999 dX0_sourcesWalked_33 hc8 rfl ?_
      refine sg_ishlN (pc := 36) (a := 1) (b := N 16 (10 * t + (k - 1))) hC dX0_sourcesWalked_36 (by first | omega | decide | exact Nat.lt_of_le_of_lt (hW 16 _) (by decide)) (by exact js6 (hW 16 _)) ?_
      refine sg_iorN (pc := 37) (a := w) (b := 1 <<< (N 16 (10 * t + (k - 1)))) hC dX0_sourcesWalked_37 ?_
      refine sg_istore_n (pc := 38) (x := nI (w ||| (1 <<< (N 16 (10 * t + (k - 1)))))) hC dX0_sourcesWalked_38 (by decide) ?_
      show sg_W X M 0 0 39 [some (.ref a), some (va_rf oa), some (.int (nI (w ||| (1 <<< (N 16 (10 * t + (k - 1))))))), some (.int (nI (k - 1))), some (.ref q3)] []
      refine sg_aload (pc := 39) (v := .ref q3) hC dX0_sourcesWalked_39 rfl rfl ?_
      refine sg_aload_n (pc := 41) (v := va_rf oa) hC dX0_sourcesWalked_41 rfl (sg_isRef _) ?_
      refine sg_callV (pc := 42) (As := [va_rf oa]) (rest := []) (mc := 0) (ms := 0) hC tw_1063 tw_1064 tw_1065 tw_90 tw_1066 yd_X1_endsWalk (by decide) (ci := 4) rfl dX0_sourcesWalked_42 hc8 rfl (Nat.le_of_ble_eq_true rfl) (by first | omega | decide | exact Nat.lt_of_le_of_lt (hW 16 _) (by decide)) (by first | omega | decide | exact Nat.lt_of_le_of_lt (hW 16 _) (by decide)) ?_
      refine c_ends htr hW hfr5 hq ?_
      show sg_W X M 0 0 45 [some (.ref a), some (va_rf oa), some (.int (nI (w ||| (1 <<< (N 16 (10 * t + (k - 1))))))), some (.int (nI (k - 1))), some (.ref q3)] [.int (md_b ((ends N (10 * t + (k - 1)) q)))]
      refine sg_ifB_eq (pc := 45) (b := (ends N (10 * t + (k - 1)) q)) 56 hC dX0_sourcesWalked_45 (by decide) (fun h10 => ?_) (fun h10 => ?_)
      · refine sg_iinc (pc := 56) (x := nI (k - 1)) (md_p (k - 1)) hC dX0_sourcesWalked_56 rfl (md_m1 _) (by decide) ?_
        show sg_W X M 0 0 59 [some (.ref a), some (va_rf oa), some (.int (nI (w ||| (1 <<< (N 16 (10 * t + (k - 1))))))), some (.int (md_p (k - 1))), some (.ref q3)] []
        refine sg_goto (pc := 59) 12 hC dX0_sourcesWalked_59 (by decide) ?_
        have e9 : k_walk1 N t q (f + 1) w k = k_walk1 N t q f (w ||| (1 <<< (N 16 (10 * t + (k - 1))))) (k - 1) := by rw [k_walk1_s]; simp only [if_neg h1, if_neg (ts9 h10)]
        rw [e9] at hk
        refine sg_loc (L' := [some (.ref a), some (va_rf oa), some (.int (nI ((w ||| (1 <<< (N 16 (10 * t + (k - 1)))))))), some (.int (md_p ((k - 1)))), none]) ⟨rfl, ⟨rfl, ⟨rfl, ⟨rfl, trivial⟩⟩⟩⟩ ?_
        exact ih (w ||| (1 <<< (N 16 (10 * t + (k - 1))))) (k - 1) (by first | omega | decide | exact Nat.lt_of_le_of_lt (hW 16 _) (by decide)) (by first | omega | decide | exact Nat.lt_of_le_of_lt (hW 16 _) (by decide)) hk
      · obtain ⟨hre, -⟩ := hg9 (ends_g h10)
        subst hre
        refine sg_iload_n (pc := 48) (x := nI (w ||| (1 <<< (N 16 (10 * t + (k - 1)))))) hC dX0_sourcesWalked_48 rfl ?_
        refine sg_aload (pc := 49) (v := .ref q3) hC dX0_sourcesWalked_49 rfl rfl ?_
        refine sg_get (pc := 51) (a := q3) (v := .int (nI (N 18 (10 * t + (k - 1))))) 1 hC rfl inw_X1 (by decide) tw_1002 dX0_sourcesWalked_51 hc8 rfl ?_
        refine sg_iorN (pc := 54) (a := w ||| (1 <<< (N 16 (10 * t + (k - 1))))) (b := N 18 (10 * t + (k - 1))) hC dX0_sourcesWalked_54 ?_
        have e9 : k_walk1 N t q (f + 1) w k = (w ||| (1 <<< (N 16 (10 * t + (k - 1))))) ||| (N 18 (10 * t + (k - 1))) := by rw [k_walk1_s]; simp only [if_neg h1, if_pos h10]
        rw [e9] at hk
        exact sg_ireturn (st := []) (v := nI ((w ||| (1 <<< (N 16 (10 * t + (k - 1))))) ||| (N 18 (10 * t + (k - 1))))) (pc := 55) hC hR dX0_sourcesWalked_55 hk

def k_walk (N : Nat → Nat → Nat) (t : Nat) (q : Option Nat) : Nat := k_walk1 N t q (11) 0 (N 15 t)
set_option maxHeartbeats 400000 in
set_option maxRecDepth 100000 in
theorem c_walk {l : Launch} {G : sg_G} {d : Nat} {M : sg_M} {kr : Option Value → sg_M → Prop} {kx : String → sg_M → Prop} (htr : l.stackTraces = false) {a tc la u1 u2 t : Nat} {f0 : Nat → Option Nat} {N : Nat → Nat → Nat} {oa q : Option Nat} (hW : WN N) (hA : M a = some (tc, .inr (3, [.ref la, .int (nI (N 14 t))]))) (hL : al_r G u1 u2 M la (N 15 t) f0) (hF : ∀ k, k < N 15 t → ∃ p, f0 k = some p ∧ fr_r M t k p N) (hq : aq M oa q N) (hk : kr (some (.int (nI (k_walk N t q)))) M) : sg_Met l G yX0_sourcesWalked cX0_sourcesWalked 5 (some .int) (d + 8) 0 0 [.ref a, va_rf oa] M kr kx := by
  refine sg_enter [some (.ref a), some (va_rf oa), none, none, none] (by decide) htr (by rcases oa with _ | _ <;> exact Nat.le_of_ble_eq_true rfl) (by rcases oa with _ | _ <;> rfl) ?_
  intro X hC hR
  have hC : sg_C X l G cX0_sourcesWalked RX0 5 (d + 8) := hC
  have h15 : N 15 t ≤ 10 := hW 15 t
  refine sg_iconst (pc := 0) (nI 0) hC dX0_sourcesWalked_0 (by decide) ?_
  refine sg_istore_n (pc := 1) (x := nI 0) hC dX0_sourcesWalked_1 (by decide) ?_
  show sg_W X M 0 0 2 [some (.ref a), some (va_rf oa), some (.int (nI 0)), none, none] []
  refine sg_aload_n (pc := 2) (v := .ref a) hC dX0_sourcesWalked_2 rfl rfl ?_
  refine sg_get (pc := 3) (a := a) (v := .ref la) 0 hC rfl inw_X0 (by decide) tw_185 dX0_sourcesWalked_3 hA rfl ?_
  obtain ⟨_, _, _, _, _, hx1, -⟩ := id hL
  refine sg_callV (pc := 6) (As := []) (rest := []) (mc := 0) (ms := 0) hC tw_1060 tw_868 tw_869 tw_69 tw_870 yd_Jx4a65c_size_8abf5 (by decide) (ci := 2) rfl dX0_sourcesWalked_6 hx1 rfl (Nat.le_of_ble_eq_true rfl) (by first | omega | decide | exact Nat.lt_of_le_of_lt (hW 16 _) (by decide)) (by first | omega | decide | exact Nat.lt_of_le_of_lt (hW 16 _) (by decide)) ?_
  refine c_alSize htr hL ?_
  show sg_W X M 0 0 9 [some (.ref a), some (va_rf oa), some (.int (nI 0)), none, none] [.int (nI (N 15 t))]
  refine sg_iconst (pc := 9) (nI 1) hC dX0_sourcesWalked_9 (by decide) ?_
  refine sg_isub (pc := 10) (x := nI (N 15 t)) (y := nI 1) hC dX0_sourcesWalked_10 ?_
  show sg_W X M 0 0 11 [some (.ref a), some (va_rf oa), some (.int (nI 0)), none, none] [.int (md_p (N 15 t))]
  refine sg_istore_n (pc := 11) (x := md_p (N 15 t)) hC dX0_sourcesWalked_11 (by decide) ?_
  show sg_W X M 0 0 12 [some (.ref a), some (va_rf oa), some (.int (nI 0)), some (.int (md_p (N 15 t))), none] []
  have e9 : k_walk N t q = k_walk1 N t q (11) 0 (N 15 t) := by rw [k_walk]
  rw [e9] at hk
  refine sg_loc (L' := [some (.ref a), some (va_rf oa), some (.int (nI 0)), some (.int (md_p ((N 15 t)))), none]) ⟨rfl, ⟨rfl, ⟨rfl, ⟨rfl, trivial⟩⟩⟩⟩ ?_
  exact c_walk1 htr hC hR hW hA hL hF hq (11) 0 (N 15 t) (by first | omega | decide | exact Nat.lt_of_le_of_lt (hW 16 _) (by decide)) (by first | omega | decide | exact Nat.lt_of_le_of_lt (hW 16 _) (by decide)) hk

theorem k_walk_eq {N : Nat → Nat → Nat} {t : Nat} {q : Option Nat} (hw : ∀ r, N 4 r ≤ 3) (hq : ∀ j, q = some j → wq (rq N j)) (hl : ∀ k, k < N 15 t → N 17 (10 * t + k) ≠ 0 → N 3 (44 + (10 * t + k)) ≠ 0 → wq (rq N (44 + (10 * t + k)))) : k_walk N t q = md_walked N t q := by
  have key : ∀ (f w k : Nat), k ≤ N 15 t → k_walk1 N t q f w k = md_walked1 f N t q w k := by
    intro f
    induction f with
    | zero => intro w k _; rfl
    | succ f ih =>
      intro w k hk
      rw [k_walk1, md_walked1_s]
      by_cases h0 : k = 0
      · rw [if_pos h0, if_pos h0]
      rw [if_neg h0, if_neg h0, ih _ (k - 1) (by omega)]
      unfold ends
      by_cases h17 : N 17 (10 * t + (k - 1)) = 0
      · rw [if_pos h17]; simp [h17]
      rw [if_neg h17]
      by_cases h3 : N 3 (44 + (10 * t + (k - 1))) = 0
      · rw [if_pos h3]; simp [h17, h3]
      rw [if_neg h3]
      cases hqq : q with
      | none => simp [h3]
      | some j =>
        have e := md_takes_inc hw (hl (k - 1) (by omega) h17 h3) (hq j hqq)
        simp only [e]
        by_cases hh : inc (rq N (44 + (10 * t + (k - 1)))) (rq N j) = true
        · simp [h17, h3, hh]
        · simp [h17, h3, hh]
  unfold k_walk md_walked
  exact key _ _ _ (Nat.le_refl _)
theorem c_walked {l : Launch} {G : sg_G} {d : Nat} {M : sg_M} {kr : Option Value → sg_M → Prop} {kx : String → sg_M → Prop} (htr : l.stackTraces = false) {t a : Nat} {N : Nat → Nat → Nat} {oa q : Option Nat} (hW : WN N) (hA : cs_r G M t a N) (hq : aq M oa q N) (hk : kr (some (.int (nI (md_walked N t q)))) M) : sg_Met l G yX0_sourcesWalked cX0_sourcesWalked 5 (some .int) (d + 8) 0 0 [.ref a, va_rf oa] M kr kx := by
  obtain ⟨la, f, h1, h2, h3⟩ := hA
  refine c_walk htr hW h1 h2 h3 hq ?_
  rw [k_walk_eq (fun r => hW 4 r) (fun j hj => ?_) (fun k hk h17 h3' => ?_)]
  · exact hk
  · rcases hq with ⟨e1, e2⟩ | ⟨b', j', e1, e2, e3⟩
    · rw [e2] at hj; cases hj
    · rw [e2] at hj; cases hj; exact e3.w
  · obtain ⟨p, p1, re, li, p2, p3⟩ := h3 k hk
    obtain ⟨z, z1, z2⟩ := (p3 h17).2.2 h3'
    exact z2.w

set_option maxHeartbeats 400000 in
set_option maxRecDepth 100000 in
theorem c_frInit {l : Launch} {G : sg_G} {d : Nat} {M : sg_M} {kr : Option Value → sg_M → Prop} {kx : String → sg_M → Prop} (htr : l.stackTraces = false) {a so t : Nat} (hA : M a = some (t, .inr (4, [.int (nI 0), .int (nI 0), .int (nI 0), .null]))) (ht : t ≠ 0) (hk : ∀ M', sw M a (t, .inr (4, [.int (nI so), .int (nI 0), .int (nI 0), .null])) M' → kr none M') : sg_Met l G yX1_init cX1_init 2 none (d + 1) 0 0 [.ref a, .int (nI so)] M kr kx := by
  refine sg_enter [some (.ref a), some (.int (nI so))] (by decide) htr (Nat.le_of_ble_eq_true rfl) rfl ?_
  intro X hC hR
  have hC : sg_C X l G cX1_init RX1 2 (d + 1) := hC
  refine sg_aload_n (pc := 0) (v := .ref a) hC dX1_init_0 rfl rfl ?_
  refine sg_objInit (pc := 1) hC tw_997 tw_98 tw_99 dX1_init_1 (Nat.le_of_ble_eq_true rfl) ?_
  show sg_W X M 0 0 4 [some (.ref a), some (.int (nI so))] []
  refine sg_aload_n (pc := 4) (v := .ref a) hC dX1_init_4 rfl rfl ?_
  refine sg_iload_n (pc := 5) (x := nI so) hC dX1_init_5 rfl ?_
  refine sg_putF (pc := 6) (a := a) (v := .int (nI so)) 0 hC hR rfl rfl inw_X1 tyX1 tyX1_ok nmX1 (by decide) tw_998 rfl rfl rfl rfl rfl dX1_init_6 hA (by first | omega | decide) (Nat.le_of_ble_eq_true rfl) ?_
  refine sg_nm (fun M1 hw2 => ?_)
  have hA : M1 a = some (t, .inr (4, [.int (nI so), .int (nI 0), .int (nI 0), .null])) := hw2.1
  exact sg_vreturn (st := []) (pc := 9) hC hR dX1_init_9 (hk _ hw2)

set_option maxHeartbeats 400000 in
set_option maxRecDepth 100000 in
theorem c_frDrop {l : Launch} {G : sg_G} {d : Nat} {M : sg_M} {kr : Option Value → sg_M → Prop} {kx : String → sg_M → Prop} (htr : l.stackTraces = false) {a t : Nat} {so re gu : Int32} {li : Option Nat} (hA : M a = some (t, .inr (4, [.int so, .int re, .int gu, va_rf li]))) (ht : t ≠ 0) (hk : ∀ M', sw M a (t, .inr (4, [.int so, .int re, .int (nI 0), va_rf li])) M' → kr none M') : sg_Met l G yX1_dropGuard cX1_dropGuard 1 none (d + 0) 0 0 [.ref a] M kr kx := by
  refine sg_enter [some (.ref a)] (by decide) htr (Nat.le_of_ble_eq_true rfl) rfl ?_
  intro X hC hR
  have hC : sg_C X l G cX1_dropGuard RX1 1 (d + 0) := hC
  refine sg_aload_n (pc := 0) (v := .ref a) hC dX1_dropGuard_0 rfl rfl ?_
  refine sg_iconst (pc := 1) (nI 0) hC dX1_dropGuard_1 (by decide) ?_
  refine sg_put (pc := 2) (a := a) (v := .int (nI 0)) 2 hC rfl inw_X1 tyX1 tyX1_ok nmX1 (by decide) tw_1003 rfl rfl (jp_z (by first | omega | decide)) rfl dX1_dropGuard_2 hA (by first | omega | decide) (Nat.le_of_ble_eq_true rfl) ?_
  refine sg_nm (fun M1 hw2 => ?_)
  have hA : M1 a = some (t, .inr (4, [.int so, .int re, .int (nI 0), va_rf li])) := hw2.1
  exact sg_vreturn (st := []) (pc := 5) hC hR dX1_dropGuard_5 (hk _ hw2)

set_option maxHeartbeats 400000 in
set_option maxRecDepth 100000 in
theorem c_frGuard {l : Launch} {G : sg_G} {d : Nat} {M : sg_M} {kr : Option Value → sg_M → Prop} {kx : String → sg_M → Prop} (htr : l.stackTraces = false) {a t nr : Nat} {so re gu : Int32} {li nl : Option Nat} (hA : M a = some (t, .inr (4, [.int so, .int re, .int gu, va_rf li]))) (ht : t ≠ 0) (hk : ∀ M', sw M a (t, .inr (4, [.int so, .int (nI nr), .int (nI 1), va_rf nl])) M' → kr none M') : sg_Met l G yX1_becomeGuard cX1_becomeGuard 3 none (d + 0) 0 0 [.ref a, .int (nI nr), va_rf nl] M kr kx := by
  refine sg_enter [some (.ref a), some (.int (nI nr)), some (va_rf nl)] (by decide) htr (by rcases nl with _ | _ <;> exact Nat.le_of_ble_eq_true rfl) (by rcases nl with _ | _ <;> rfl) ?_
  intro X hC hR
  have hC : sg_C X l G cX1_becomeGuard RX1 3 (d + 0) := hC
  refine sg_aload_n (pc := 0) (v := .ref a) hC dX1_becomeGuard_0 rfl rfl ?_
  refine sg_iconst (pc := 1) (nI 1) hC dX1_becomeGuard_1 (by decide) ?_
  refine sg_put (pc := 2) (a := a) (v := .int (nI 1)) 2 hC rfl inw_X1 tyX1 tyX1_ok nmX1 (by decide) tw_1003 rfl rfl (jp_z (by first | omega | decide)) rfl dX1_becomeGuard_2 hA (by first | omega | decide) (Nat.le_of_ble_eq_true rfl) ?_
  refine sg_nm (fun M1 hw2 => ?_)
  have hA : M1 a = some (t, .inr (4, [.int so, .int re, .int (nI 1), va_rf li])) := hw2.1
  refine sg_aload_n (pc := 5) (v := .ref a) hC dX1_becomeGuard_5 rfl rfl ?_
  refine sg_iload_n (pc := 6) (x := nI nr) hC dX1_becomeGuard_6 rfl ?_
  refine sg_put (pc := 7) (a := a) (v := .int (nI nr)) 1 hC rfl inw_X1 tyX1 tyX1_ok nmX1 (by decide) tw_1001 rfl rfl rfl rfl dX1_becomeGuard_7 hA (by first | omega | decide) (Nat.le_of_ble_eq_true rfl) ?_
  refine sg_nm (fun M3 hw4 => ?_)
  have hA : M3 a = some (t, .inr (4, [.int so, .int (nI nr), .int (nI 1), va_rf li])) := hw4.1
  refine sg_aload_n (pc := 10) (v := .ref a) hC dX1_becomeGuard_10 rfl rfl ?_
  refine sg_aload_n (pc := 11) (v := va_rf nl) hC dX1_becomeGuard_11 rfl (sg_isRef _) ?_
  refine sg_put (pc := 12) (a := a) (v := va_rf nl) 3 hC rfl inw_X1 tyX1 tyX1_ok nmX1 (by decide) tw_1004 rfl rfl (sg_narO _ _) (sg_fitsO _ _) dX1_becomeGuard_12 hA (by first | omega | decide) (Nat.le_of_ble_eq_true rfl) ?_
  refine sg_nm (fun M5 hw6 => ?_)
  have hA : M5 a = some (t, .inr (4, [.int so, .int (nI nr), .int (nI 1), va_rf nl])) := hw6.1
  exact sg_vreturn (st := []) (pc := 15) hC hR dX1_becomeGuard_15 (hk _ (sw.tt (sw.tt hw2 hw4) hw6))

set_option maxHeartbeats 400000 in
set_option maxRecDepth 100000 in
theorem c_noInit {l : Launch} {G : sg_G} {d : Nat} {M : sg_M} {kr : Option Value → sg_M → Prop} {kx : String → sg_M → Prop} (htr : l.stackTraces = false) {a x y t : Nat} (hA : M a = some (t, .inr (5, [.int (nI 0), .int (nI 0)]))) (ht : t ≠ 0) (hk : ∀ M', sw M a (t, .inr (5, [.int (nI x), .int (nI y)])) M' → kr none M') : sg_Met l G yX2_init cX2_init 3 none (d + 1) 0 0 [.ref a, .int (nI x), .int (nI y)] M kr kx := by
  refine sg_enter [some (.ref a), some (.int (nI x)), some (.int (nI y))] (by decide) htr (Nat.le_of_ble_eq_true rfl) rfl ?_
  intro X hC hR
  have hC : sg_C X l G cX2_init RX2 3 (d + 1) := hC
  refine sg_aload_n (pc := 0) (v := .ref a) hC dX2_init_0 rfl rfl ?_
  refine sg_objInit (pc := 1) hC tw_1128 tw_98 tw_99 dX2_init_1 (Nat.le_of_ble_eq_true rfl) ?_
  show sg_W X M 0 0 4 [some (.ref a), some (.int (nI x)), some (.int (nI y))] []
  refine sg_aload_n (pc := 4) (v := .ref a) hC dX2_init_4 rfl rfl ?_
  refine sg_iload_n (pc := 5) (x := nI x) hC dX2_init_5 rfl ?_
  refine sg_putF (pc := 6) (a := a) (v := .int (nI x)) 0 hC hR rfl rfl inw_X2 tyX2 tyX2_ok nmX2 (by decide) tw_1129 rfl rfl rfl rfl rfl dX2_init_6 hA (by first | omega | decide) (Nat.le_of_ble_eq_true rfl) ?_
  refine sg_nm (fun M1 hw2 => ?_)
  have hA : M1 a = some (t, .inr (5, [.int (nI x), .int (nI 0)])) := hw2.1
  refine sg_aload_n (pc := 9) (v := .ref a) hC dX2_init_9 rfl rfl ?_
  refine sg_iload_n (pc := 10) (x := nI y) hC dX2_init_10 rfl ?_
  refine sg_putF (pc := 11) (a := a) (v := .int (nI y)) 1 hC hR rfl rfl inw_X2 tyX2 tyX2_ok nmX2 (by decide) tw_1131 rfl rfl rfl rfl rfl dX2_init_11 hA (by first | omega | decide) (Nat.le_of_ble_eq_true rfl) ?_
  refine sg_nm (fun M3 hw4 => ?_)
  have hA : M3 a = some (t, .inr (5, [.int (nI x), .int (nI y)])) := hw4.1
  exact sg_vreturn (st := []) (pc := 14) hC hR dX2_init_14 (hk _ (sw.tt hw2 hw4))

set_option maxHeartbeats 400000 in
set_option maxRecDepth 100000 in
theorem c_soInit {l : Launch} {G : sg_G} {d : Nat} {M : sg_M} {kr : Option Value → sg_M → Prop} {kx : String → sg_M → Prop} (htr : l.stackTraces = false) {a t u v : Nat} {g0 : Nat → Option Nat} (hA : M a = some (t, .inr (8, [.null]))) (ht : t ≠ 0) (hu : u ≠ 0) (htu : u ≠ t) (hD : M (G.2.2.2 0) = some (0, .inl (.object "java/lang/Object", 0, .inr (.inr (.inr (.inr g0)))))) (hk : ∀ la M', M' a = some (t, .inr (8, [.ref la])) → al_r G u v M' la 0 (fun _ => none) → sf (pk [t]) M M' → kr none M') : sg_Met l G yX5_init cX5_init 1 none (d + 4) 1 3 [.ref a] M kr kx := by
  refine sg_enter [some (.ref a)] (by decide) htr (Nat.le_of_ble_eq_true rfl) rfl ?_
  intro X hC hR
  have hC : sg_C X l G cX5_init RX5 1 (d + 4) := hC
  have hf : sf (pk [t]) M M := sf.rf
  refine sg_aload_n (pc := 0) (v := .ref a) hC dX5_init_0 rfl rfl ?_
  refine sg_objInit (pc := 1) hC tw_170 tw_98 tw_99 dX5_init_1 (Nat.le_of_ble_eq_true rfl) ?_
  show sg_W X M 1 3 4 [some (.ref a)] []
  refine sg_aload_n (pc := 4) (v := .ref a) hC dX5_init_4 rfl rfl ?_
  refine sg_new (pc := 5) (ci := 2) (u) [.int (nI 0), .null, .int (nI 0)] hC rfl inw_Jx4a65c tyJx4a65c tyJx4a65c_ok tw_171 tw_140 tw_69 (by intro j hj; have h9 : j = 0 ∨ j = 1 ∨ j = 2 := (by omega); rcases h9 with rfl | rfl | rfl <;> rfl) dX5_init_5 (by first | omega | decide) (by first | omega | decide) (by first | omega | decide) (fun q1 hq2 => ?_)
  refine sg_nm (fun M3 hw4 => ?_)
  have ne5 : a ≠ q1 := sg_fresh hA hq2
  have hA : M3 a = some (t, .inr (8, [.null])) := hw4.n hA ne5
  have ne6 : (G.2.2.2 0) ≠ q1 := sg_fresh hD hq2
  have hD : M3 (G.2.2.2 0) = some (0, .inl (.object "java/lang/Object", 0, .inr (.inr (.inr (.inr g0))))) := hw4.n hD ne6
  have hn7 : M q1 = none := hf.fr hq2
  have hf : sf (pk [t]) M M3 := hf.nw hw4 hn7
  have hF8 : M3 q1 = some (u, .inr (2, [.int (nI 0), .null, .int (nI 0)])) := hw4.1
  show sg_W X M3 0 0 8 [some (.ref a)] [.ref q1, .ref a]
  refine sg_dup (pc := 8) hC dX5_init_8 rfl ?_
  refine sg_callI (pc := 9) (b := q1) (As := []) (rest := [.ref q1, .ref a]) (mc := 0) (ms := 0) hC tw_172 tw_142 tw_69 tw_143 rfl yd_Jx4a65c_init_da8c8 (by decide) dX5_init_9 rfl (Nat.le_of_ble_eq_true rfl) (by first | omega | decide) (by first | omega | decide) ?_
  refine c_alInit htr hF8 (by first | omega | decide) (fun M9 hw10 => ?_)
  have hA : M9 a = some (t, .inr (8, [.null])) := hw10.n hA ne5
  have hD : M9 (G.2.2.2 0) = some (0, .inl (.object "java/lang/Object", 0, .inr (.inr (.inr (.inr g0))))) := hw10.n hD ne6
  have hf : sf (pk [t]) M M9 := hf.nw hw10 hn7
  have hF8 : M9 q1 = some (u, .inr (2, [.int (nI 0), .ref (G.2.2.2 0), .int (nI 0)])) := hw10.1
  show sg_W X M9 0 0 12 [some (.ref a)] [.ref q1, .ref a]
  refine sg_putF (pc := 12) (a := a) (v := .ref q1) 0 hC hR rfl rfl inw_X5 tyX5 tyX5_ok nmX5 (by decide) tw_173 rfl rfl rfl rfl rfl dX5_init_12 hA (by first | omega | decide) (Nat.le_of_ble_eq_true rfl) ?_
  refine sg_nm (fun M11 hw12 => ?_)
  have hD : M11 (G.2.2.2 0) = some (0, .inl (.object "java/lang/Object", 0, .inr (.inr (.inr (.inr g0))))) := hw12.n hD (sg_net hD hA (by first | omega | decide))
  have hF8 : M11 q1 = some (u, .inr (2, [.int (nI 0), .ref (G.2.2.2 0), .int (nI 0)])) := hw12.n hF8 (Ne.symm ne5)
  have hf : sf (pk [t]) M M11 := hf.st hw12 hA (by simp [pk])
  have hA : M11 a = some (t, .inr (8, [.ref q1])) := hw12.1
  exact sg_vreturn (st := []) (pc := 15) hC hR dX5_init_15 (hk q1 _ hA ⟨0, G.2.2.2 0, 0, 0, g0, hF8, hD, Nat.le_refl _, Or.inl ⟨rfl, rfl, rfl⟩, fun j hj => absurd hj (Nat.not_lt_zero _)⟩ hf)

set_option maxHeartbeats 400000 in
set_option maxRecDepth 100000 in
theorem c_csInit {l : Launch} {G : sg_G} {d : Nat} {M : sg_M} {kr : Option Value → sg_M → Prop} {kx : String → sg_M → Prop} (htr : l.stackTraces = false) {a t u v mk : Nat} {g0 : Nat → Option Nat} (hA : M a = some (t, .inr (3, [.null, .int (nI 0)]))) (ht : t ≠ 0) (hu : u ≠ 0) (htu : u ≠ t) (hD : M (G.2.2.2 0) = some (0, .inl (.object "java/lang/Object", 0, .inr (.inr (.inr (.inr g0)))))) (hk : ∀ la M', M' a = some (t, .inr (3, [.ref la, .int (nI mk)])) → al_r G u v M' la 0 (fun _ => none) → sf (pk [t]) M M' → kr none M') : sg_Met l G yX0_init cX0_init 2 none (d + 4) 1 3 [.ref a, .int (nI mk)] M kr kx := by
  refine sg_enter [some (.ref a), some (.int (nI mk))] (by decide) htr (Nat.le_of_ble_eq_true rfl) rfl ?_
  intro X hC hR
  have hC : sg_C X l G cX0_init RX0 2 (d + 4) := hC
  have hf : sf (pk [t]) M M := sf.rf
  refine sg_aload_n (pc := 0) (v := .ref a) hC dX0_init_0 rfl rfl ?_
  refine sg_objInit (pc := 1) hC tw_182 tw_98 tw_99 dX0_init_1 (Nat.le_of_ble_eq_true rfl) ?_
  show sg_W X M 1 3 4 [some (.ref a), some (.int (nI mk))] []
  refine sg_aload_n (pc := 4) (v := .ref a) hC dX0_init_4 rfl rfl ?_
  refine sg_new (pc := 5) (ci := 2) (u) [.int (nI 0), .null, .int (nI 0)] hC rfl inw_Jx4a65c tyJx4a65c tyJx4a65c_ok tw_183 tw_140 tw_69 (by intro j hj; have h9 : j = 0 ∨ j = 1 ∨ j = 2 := (by omega); rcases h9 with rfl | rfl | rfl <;> rfl) dX0_init_5 (by first | omega | decide) (by first | omega | decide) (by first | omega | decide) (fun q1 hq2 => ?_)
  refine sg_nm (fun M3 hw4 => ?_)
  have ne5 : a ≠ q1 := sg_fresh hA hq2
  have hA : M3 a = some (t, .inr (3, [.null, .int (nI 0)])) := hw4.n hA ne5
  have ne6 : (G.2.2.2 0) ≠ q1 := sg_fresh hD hq2
  have hD : M3 (G.2.2.2 0) = some (0, .inl (.object "java/lang/Object", 0, .inr (.inr (.inr (.inr g0))))) := hw4.n hD ne6
  have hn7 : M q1 = none := hf.fr hq2
  have hf : sf (pk [t]) M M3 := hf.nw hw4 hn7
  have hF8 : M3 q1 = some (u, .inr (2, [.int (nI 0), .null, .int (nI 0)])) := hw4.1
  show sg_W X M3 0 0 8 [some (.ref a), some (.int (nI mk))] [.ref q1, .ref a]
  refine sg_dup (pc := 8) hC dX0_init_8 rfl ?_
  refine sg_callI (pc := 9) (b := q1) (As := []) (rest := [.ref q1, .ref a]) (mc := 0) (ms := 0) hC tw_184 tw_142 tw_69 tw_143 rfl yd_Jx4a65c_init_da8c8 (by decide) dX0_init_9 rfl (Nat.le_of_ble_eq_true rfl) (by first | omega | decide) (by first | omega | decide) ?_
  refine c_alInit htr hF8 (by first | omega | decide) (fun M9 hw10 => ?_)
  have hA : M9 a = some (t, .inr (3, [.null, .int (nI 0)])) := hw10.n hA ne5
  have hD : M9 (G.2.2.2 0) = some (0, .inl (.object "java/lang/Object", 0, .inr (.inr (.inr (.inr g0))))) := hw10.n hD ne6
  have hf : sf (pk [t]) M M9 := hf.nw hw10 hn7
  have hF8 : M9 q1 = some (u, .inr (2, [.int (nI 0), .ref (G.2.2.2 0), .int (nI 0)])) := hw10.1
  show sg_W X M9 0 0 12 [some (.ref a), some (.int (nI mk))] [.ref q1, .ref a]
  refine sg_putF (pc := 12) (a := a) (v := .ref q1) 0 hC hR rfl rfl inw_X0 tyX0 tyX0_ok nmX0 (by decide) tw_185 rfl rfl rfl rfl rfl dX0_init_12 hA (by first | omega | decide) (Nat.le_of_ble_eq_true rfl) ?_
  refine sg_nm (fun M11 hw12 => ?_)
  have hD : M11 (G.2.2.2 0) = some (0, .inl (.object "java/lang/Object", 0, .inr (.inr (.inr (.inr g0))))) := hw12.n hD (sg_net hD hA (by first | omega | decide))
  have hF8 : M11 q1 = some (u, .inr (2, [.int (nI 0), .ref (G.2.2.2 0), .int (nI 0)])) := hw12.n hF8 (Ne.symm ne5)
  have hf : sf (pk [t]) M M11 := hf.st hw12 hA (by simp [pk])
  have hA : M11 a = some (t, .inr (3, [.ref q1, .int (nI 0)])) := hw12.1
  refine sg_aload_n (pc := 15) (v := .ref a) hC dX0_init_15 rfl rfl ?_
  refine sg_iload_n (pc := 16) (x := nI mk) hC dX0_init_16 rfl ?_
  refine sg_putF (pc := 17) (a := a) (v := .int (nI mk)) 1 hC hR rfl rfl inw_X0 tyX0 tyX0_ok nmX0 (by decide) tw_187 rfl rfl rfl rfl rfl dX0_init_17 hA (by first | omega | decide) (Nat.le_of_ble_eq_true rfl) ?_
  refine sg_nm (fun M13 hw14 => ?_)
  have hD : M13 (G.2.2.2 0) = some (0, .inl (.object "java/lang/Object", 0, .inr (.inr (.inr (.inr g0))))) := hw14.n hD (sg_net hD hA (by first | omega | decide))
  have hF8 : M13 q1 = some (u, .inr (2, [.int (nI 0), .ref (G.2.2.2 0), .int (nI 0)])) := hw14.n hF8 (Ne.symm ne5)
  have hf : sf (pk [t]) M M13 := hf.st hw14 hA (by simp [pk])
  have hA : M13 a = some (t, .inr (3, [.ref q1, .int (nI mk)])) := hw14.1
  exact sg_vreturn (st := []) (pc := 20) hC hR dX0_init_20 (hk q1 _ hA ⟨0, G.2.2.2 0, 0, 0, g0, hF8, hD, Nat.le_refl _, Or.inl ⟨rfl, rfl, rfl⟩, fun j hj => absurd hj (Nat.not_lt_zero _)⟩ hf)
