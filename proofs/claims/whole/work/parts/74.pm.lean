/-! ===== permissions ===== -/
theorem st_r.le {M : sg_M} {t u a : Nat} {w : List Nat} (h : st_r t u M a w) : w.length ≤ 40 := by
  obtain ⟨_, _, _, _, -, -, h, -⟩ := h
  exact h
theorem st_r.ch {M : sg_M} {t u a : Nat} {w : List Nat} (h : st_r t u M a w) : ∀ j, j < w.length → w.getD j 0 < 128 := by
  obtain ⟨_, _, _, _, -, -, -, h⟩ := h
  exact fun j hj => (h j hj).2
def pm_fs (t l : Nat) (r : RQ) : List Value := [.int (nI (dk r)), .ref t, .int (nI (dp r)), .ref l, .int (nI (dw r))]
def pm_r (M : sg_M) (a : Nat) (r : RQ) : Prop := ∃ t l, M a = some (70, .inr (6, pm_fs t l r)) ∧ st_r 71 72 M t (dt r) ∧ st_r 71 72 M l (dl r) ∧ wq r
theorem pm_r.p {L : List Nat} {M M' : sg_M} {a : Nat} {r : RQ} (h : pm_r M a r) (hf : sf (pk L) M M') (h0 : 70 ∉ L) (h1 : 71 ∉ L) (h2 : 72 ∉ L) : pm_r M' a r := by
  obtain ⟨t, l, p1, p2, p3, p4⟩ := h
  exact ⟨t, l, hf.p p1 h0, p2.p hf h1 h2, p3.p hf h1 h2, p4⟩
theorem pm_r.st {M M' : sg_M} {a b v : Nat} {r : RQ} {e e' : sg_E} (h : pm_r M a r) (hw : sw M b (v, e') M') (hb : M b = some (v, e)) (h0 : 70 ≠ v) (h1 : 71 ≠ v) (h2 : 72 ≠ v) : pm_r M' a r := by
  obtain ⟨t, l, p1, p2, p3, p4⟩ := h
  exact ⟨t, l, hw.n p1 (sg_net p1 hb h0), p2.st hw hb h1 h2, p3.st hw hb h1 h2, p4⟩
theorem pm_r.nw {M M' : sg_M} {a q : Nat} {r : RQ} {y : Nat × sg_E} (h : pm_r M a r) (hw : sw M q y M') (hq : M q = none) : pm_r M' a r := by
  obtain ⟨t, l, p1, p2, p3, p4⟩ := h
  exact ⟨t, l, hw.n p1 (sg_fresh p1 hq), p2.nw hw hq, p3.nw hw hq, p4⟩
theorem pm_r.w {M : sg_M} {a : Nat} {r : RQ} (h : pm_r M a r) : wq r := by
  obtain ⟨_, _, -, -, -, h⟩ := h
  exact h
theorem pm_r.x {M : sg_M} {a : Nat} {r : RQ} (h : pm_r M a r) : ∃ vs, M a = some (70, .inr (6, vs)) := by
  obtain ⟨_, _, h, -⟩ := h
  exact ⟨_, h⟩
theorem dk_lt (r : RQ) : dk r < 128 := by
  unfold dk
  repeat' split
  all_goals decide
theorem dw_lt {r : RQ} (h : wq r) : dw r ≤ 2 := by
  unfold dw
  repeat' split
  · rename_i h2
    exact (h.2.2.2.2.2.1 h2).1
  · omega
  · omega
theorem dp_lt {r : RQ} (h : wq r) : dp r < 4294967296 := by
  unfold dp
  repeat' split
  · decide
  · rename_i h1 h2
    have := (h.2.2.2.2.2.1 h2).2.2
    omega
  · rename_i h1 h2 h3
    have h9 := (h.2.2.2.2.2.2.1 h3).2.2.2.1
    have h8 : 2 <<< r.2.2.2.2.2 ≤ 1024 := by
      have : ∀ (b : Fin 10), 2 <<< b.val ≤ 1024 := by decide
      exact this ⟨r.2.2.2.2.2, Nat.lt_succ_of_le h9⟩
    exact Nat.lt_of_le_of_lt (Nat.le_trans (Nat.sub_le _ _) h8) (by decide)
  · decide

def k_begins1 (w : List Nat) (v : List Nat) : Nat → Nat → Bool
  | 0, _ => false
  | f + 1, i => if v.length ≤ i then true else if w.getD i 0 = v.getD i 0 then k_begins1 w v f (i + 1) else false
theorem k_begins1_s (w : List Nat) (v : List Nat) (f : Nat) (i : Nat) : k_begins1 w v (f + 1) i = if v.length ≤ i then true else if w.getD i 0 = v.getD i 0 then k_begins1 w v f (i + 1) else false := rfl
set_option maxHeartbeats 400000 in
set_option maxRecDepth 100000 in
theorem c_begins1 {X : sg_X} {l : Launch} {G : sg_G} {d : Nat} {M : sg_M} {kr : Option Value → sg_M → Prop} {kx : String → sg_M → Prop} (htr : l.stackTraces = false) (hC : sg_C X l G cX3_beginsBy RX3 3 (d + 4)) (hR : sg_R X yX3_beginsBy kr kx (some .boolean)) {a tt lb e : Nat} {kd pp ww : Int32} {w v : List Nat} (hA : M a = some (70, .inr (6, [.int kd, .ref tt, .int pp, .ref lb, .int ww]))) (hS : st_r 71 72 M lb w) (hE : st_r 71 72 M e v) (hle : v.length ≤ w.length) : ∀ (f : Nat) (i : Nat) (_ : v.length - i < f) (hi : i ≤ v.length) (hk : kr (some (.int (md_b (k_begins1 w v f i)))) M), sg_W X M 0 0 18 [some (.ref a), some (.ref e), some (.int (nI i))] [] := by
  intro f
  induction f with
  | zero =>
    intro i hf
    exact absurd hf (Nat.not_lt_zero _)
  | succ f ih =>
    intro i hf hi hk
    have hw40 := hS.le
    have hv40 := hE.le
    refine sg_iload_n (pc := 18) (x := nI i) hC dX3_beginsBy_18 rfl ?_
    refine sg_aload_n (pc := 19) (v := .ref e) hC dX3_beginsBy_19 rfl rfl ?_
    obtain ⟨_, _, _, _, hx2, -⟩ := id hE
    refine sg_callV (pc := 20) (As := []) (rest := [.int (nI i)]) (mc := 0) (ms := 0) hC tw_849 tw_482 tw_483 tw_65 tw_484 yd_J0_length_8abf5 (by decide) (ci := 0) rfl dX3_beginsBy_20 hx2 rfl (Nat.le_of_ble_eq_true rfl) (by first | omega | decide | (have h9 := hS.ch i (by omega); omega) | (have h9 := hE.ch i (by omega); omega)) (by first | omega | decide | (have h9 := hS.ch i (by omega); omega) | (have h9 := hE.ch i (by omega); omega)) ?_
    refine c_slen htr hE ?_
    show sg_W X M 0 0 23 [some (.ref a), some (.ref e), some (.int (nI i))] [.int (nI v.length), .int (nI i)]
    refine sg_icmpN_ge (pc := 23) (a := i) (b := v.length) 50 hC dX3_beginsBy_23 (by decide) (by first | omega | decide | (have h9 := hS.ch i (by omega); omega) | (have h9 := hE.ch i (by omega); omega)) (by first | omega | decide | (have h9 := hS.ch i (by omega); omega) | (have h9 := hE.ch i (by omega); omega)) (fun h3 => ?_) (fun h3 => ?_)
    · refine sg_iconst (pc := 50) (nI 1) hC dX3_beginsBy_50 (by decide) ?_
      have e9 : k_begins1 w v (f + 1) i = true := by rw [k_begins1_s]; simp only [if_pos h3]
      rw [e9] at hk
      exact sg_zreturn (st := []) (v := md_b true) (pc := 51) (ty := .boolean) hC hR (md_narb _) dX3_beginsBy_51 hk
    · refine sg_aload_n (pc := 26) (v := .ref a) hC dX3_beginsBy_26 rfl rfl ?_
      refine sg_get (pc := 27) (a := a) (v := .ref lb) 3 hC rfl inw_X3 (by decide) tw_804 dX3_beginsBy_27 hA rfl ?_
      refine sg_iload_n (pc := 30) (x := nI i) hC dX3_beginsBy_30 rfl ?_
      obtain ⟨_, _, _, _, hx5, -⟩ := id hS
      refine sg_callV (pc := 31) (As := [.int (nI i)]) (rest := []) (mc := 0) (ms := 0) hC tw_850 tw_612 tw_613 tw_65 tw_614 yd_J0_charAt_5068e (by decide) (ci := 0) rfl dX3_beginsBy_31 hx5 rfl (Nat.le_of_ble_eq_true rfl) (by first | omega | decide | (have h9 := hS.ch i (by omega); omega) | (have h9 := hE.ch i (by omega); omega)) (by first | omega | decide | (have h9 := hS.ch i (by omega); omega) | (have h9 := hE.ch i (by omega); omega)) ?_
      refine c_charAt htr hS (by first | omega | decide | (have h9 := hS.ch i (by omega); omega) | (have h9 := hE.ch i (by omega); omega)) ?_
      show sg_W X M 0 0 34 [some (.ref a), some (.ref e), some (.int (nI i))] [.int (nI (w.getD i 0))]
      refine sg_aload_n (pc := 34) (v := .ref e) hC dX3_beginsBy_34 rfl rfl ?_
      refine sg_iload_n (pc := 35) (x := nI i) hC dX3_beginsBy_35 rfl ?_
      obtain ⟨_, _, _, _, hx7, -⟩ := id hE
      refine sg_callV (pc := 36) (As := [.int (nI i)]) (rest := [.int (nI (w.getD i 0))]) (mc := 0) (ms := 0) hC tw_850 tw_612 tw_613 tw_65 tw_614 yd_J0_charAt_5068e (by decide) (ci := 0) rfl dX3_beginsBy_36 hx7 rfl (Nat.le_of_ble_eq_true rfl) (by first | omega | decide | (have h9 := hS.ch i (by omega); omega) | (have h9 := hE.ch i (by omega); omega)) (by first | omega | decide | (have h9 := hS.ch i (by omega); omega) | (have h9 := hE.ch i (by omega); omega)) ?_
      refine c_charAt htr hE (by first | omega | decide | (have h9 := hS.ch i (by omega); omega) | (have h9 := hE.ch i (by omega); omega)) ?_
      show sg_W X M 0 0 39 [some (.ref a), some (.ref e), some (.int (nI i))] [.int (nI (v.getD i 0)), .int (nI (w.getD i 0))]
      refine sg_icmpN_eq (pc := 39) (a := w.getD i 0) (b := v.getD i 0) 44 hC dX3_beginsBy_39 (by decide) (by first | omega | decide | (have h9 := hS.ch i (by omega); omega) | (have h9 := hE.ch i (by omega); omega)) (by first | omega | decide | (have h9 := hS.ch i (by omega); omega) | (have h9 := hE.ch i (by omega); omega)) (fun h8 => ?_) (fun h8 => ?_)
      · refine sg_iincN (pc := 44) (a := i) (b := i + 1) hC dX3_beginsBy_44 rfl (nI_1 _) (by decide) ?_
        show sg_W X M 0 0 47 [some (.ref a), some (.ref e), some (.int (nI (i + 1)))] []
        refine sg_goto (pc := 47) 18 hC dX3_beginsBy_47 (by decide) ?_
        have e9 : k_begins1 w v (f + 1) i = k_begins1 w v f (i + 1) := by rw [k_begins1_s]; simp only [if_neg (Nat.not_le.mpr h3), if_pos h8]
        rw [e9] at hk
        refine sg_loc (L' := [some (.ref a), some (.ref e), some (.int (nI ((i + 1))))]) ⟨rfl, ⟨rfl, ⟨rfl, trivial⟩⟩⟩ ?_
        exact ih (i + 1) (by first | omega | decide | (have h9 := hS.ch i (by omega); omega) | (have h9 := hE.ch i (by omega); omega)) (by first | omega | decide | (have h9 := hS.ch i (by omega); omega) | (have h9 := hE.ch i (by omega); omega)) hk
      · refine sg_iconst (pc := 42) (nI 0) hC dX3_beginsBy_42 (by decide) ?_
        have e9 : k_begins1 w v (f + 1) i = false := by rw [k_begins1_s]; simp only [if_neg (Nat.not_le.mpr h3), if_neg h8]
        rw [e9] at hk
        exact sg_zreturn (st := []) (v := md_b false) (pc := 43) (ty := .boolean) hC hR (md_narb _) dX3_beginsBy_43 hk

def k_begins (w : List Nat) (v : List Nat) : Bool := if v.length ≤ w.length then k_begins1 w v (v.length + 1) 0 else false
set_option maxHeartbeats 400000 in
set_option maxRecDepth 100000 in
theorem c_begins {l : Launch} {G : sg_G} {d : Nat} {M : sg_M} {kr : Option Value → sg_M → Prop} {kx : String → sg_M → Prop} (htr : l.stackTraces = false) {a tt lb e : Nat} {kd pp ww : Int32} {w v : List Nat} (hA : M a = some (70, .inr (6, [.int kd, .ref tt, .int pp, .ref lb, .int ww]))) (hS : st_r 71 72 M lb w) (hE : st_r 71 72 M e v) (hk : kr (some (.int (md_b (k_begins w v)))) M) : sg_Met l G yX3_beginsBy cX3_beginsBy 3 (some .boolean) (d + 4) 0 0 [.ref a, .ref e] M kr kx := by
  refine sg_enter [some (.ref a), some (.ref e), none] (by decide) htr (Nat.le_of_ble_eq_true rfl) rfl ?_
  intro X hC hR
  have hC : sg_C X l G cX3_beginsBy RX3 3 (d + 4) := hC
  have hw40 := hS.le
  have hv40 := hE.le
  refine sg_aload_n (pc := 0) (v := .ref a) hC dX3_beginsBy_0 rfl rfl ?_
  refine sg_get (pc := 1) (a := a) (v := .ref lb) 3 hC rfl inw_X3 (by decide) tw_804 dX3_beginsBy_1 hA rfl ?_
  obtain ⟨_, _, _, _, hx2, -⟩ := id hS
  refine sg_callV (pc := 4) (As := []) (rest := []) (mc := 0) (ms := 0) hC tw_849 tw_482 tw_483 tw_65 tw_484 yd_J0_length_8abf5 (by decide) (ci := 0) rfl dX3_beginsBy_4 hx2 rfl (Nat.le_of_ble_eq_true rfl) (by first | omega | decide | (have h9 := hS.ch i (by omega); omega) | (have h9 := hE.ch i (by omega); omega)) (by first | omega | decide | (have h9 := hS.ch i (by omega); omega) | (have h9 := hE.ch i (by omega); omega)) ?_
  refine c_slen htr hS ?_
  show sg_W X M 0 0 7 [some (.ref a), some (.ref e), none] [.int (nI w.length)]
  refine sg_aload_n (pc := 7) (v := .ref e) hC dX3_beginsBy_7 rfl rfl ?_
  obtain ⟨_, _, _, _, hx4, -⟩ := id hE
  refine sg_callV (pc := 8) (As := []) (rest := [.int (nI w.length)]) (mc := 0) (ms := 0) hC tw_849 tw_482 tw_483 tw_65 tw_484 yd_J0_length_8abf5 (by decide) (ci := 0) rfl dX3_beginsBy_8 hx4 rfl (Nat.le_of_ble_eq_true rfl) (by first | omega | decide | (have h9 := hS.ch i (by omega); omega) | (have h9 := hE.ch i (by omega); omega)) (by first | omega | decide | (have h9 := hS.ch i (by omega); omega) | (have h9 := hE.ch i (by omega); omega)) ?_
  refine c_slen htr hE ?_
  show sg_W X M 0 0 11 [some (.ref a), some (.ref e), none] [.int (nI v.length), .int (nI w.length)]
  refine sg_icmpN_ge (pc := 11) (a := w.length) (b := v.length) 16 hC dX3_beginsBy_11 (by decide) (by first | omega | decide | (have h9 := hS.ch i (by omega); omega) | (have h9 := hE.ch i (by omega); omega)) (by first | omega | decide | (have h9 := hS.ch i (by omega); omega) | (have h9 := hE.ch i (by omega); omega)) (fun h5 => ?_) (fun h5 => ?_)
  · refine sg_iconst (pc := 16) (nI 0) hC dX3_beginsBy_16 (by decide) ?_
    refine sg_istore_n (pc := 17) (x := nI 0) hC dX3_beginsBy_17 (by decide) ?_
    show sg_W X M 0 0 18 [some (.ref a), some (.ref e), some (.int (nI 0))] []
    have e9 : k_begins w v = k_begins1 w v (v.length + 1) 0 := by rw [k_begins]; simp only [if_pos h5]
    rw [e9] at hk
    refine sg_loc (L' := [some (.ref a), some (.ref e), some (.int (nI 0))]) ⟨rfl, ⟨rfl, ⟨rfl, trivial⟩⟩⟩ ?_
    exact c_begins1 htr hC hR hA hS hE (by omega) (v.length + 1) 0 (by first | omega | decide | (have h9 := hS.ch i (by omega); omega) | (have h9 := hE.ch i (by omega); omega)) (by first | omega | decide | (have h9 := hS.ch i (by omega); omega) | (have h9 := hE.ch i (by omega); omega)) hk
  · refine sg_iconst (pc := 14) (nI 0) hC dX3_beginsBy_14 (by decide) ?_
    have e9 : k_begins w v = false := by rw [k_begins]; simp only [if_neg (Nat.not_le.mpr h5)]
    rw [e9] at hk
    exact sg_zreturn (st := []) (v := md_b false) (pc := 15) (ty := .boolean) hC hR (md_narb _) dX3_beginsBy_15 hk

theorem k_begins1_eq (w v : List Nat) (hl : v.length ≤ w.length) : ∀ (f i : Nat), v.length - i < f → i ≤ v.length → k_begins1 w v f i = (v.drop i).isPrefixOf (w.drop i) := by
  intro f
  induction f with
  | zero => intro i h; omega
  | succ f ih =>
    intro i h hi
    rw [k_begins1]
    by_cases h1 : v.length ≤ i
    · rw [if_pos h1, List.drop_of_length_le h1]
      cases w.drop i <;> rfl
    · rw [if_neg h1, ih (i + 1) (by omega) (by omega)]
      have e1 : v.drop i = v.getD i 0 :: v.drop (i + 1) := by
        rw [List.drop_eq_getElem_cons (by omega)]
        simp [List.getD_eq_getElem?_getD, List.getElem?_eq_getElem (show i < v.length by omega)]
      have e2 : w.drop i = w.getD i 0 :: w.drop (i + 1) := by
        rw [List.drop_eq_getElem_cons (by omega)]
        simp [List.getD_eq_getElem?_getD, List.getElem?_eq_getElem (show i < w.length by omega)]
      rw [e1, e2]
      show _ = ((v.getD i 0 == w.getD i 0) && _)
      by_cases h2 : w.getD i 0 = v.getD i 0
      · rw [if_pos h2, show (v.getD i 0 == w.getD i 0) = true from by rw [h2]; exact beq_self_eq_true _, Bool.true_and]
      · rw [if_neg h2, show (v.getD i 0 == w.getD i 0) = false from beq_eq_false_iff_ne.mpr (Ne.symm h2), Bool.false_and]
theorem k_begins_eq (w v : List Nat) : k_begins w v = v.isPrefixOf w := by
  unfold k_begins
  by_cases h : v.length ≤ w.length
  · rw [if_pos h, k_begins1_eq w v h _ 0 (by omega) (Nat.zero_le _)]
    rfl
  · rw [if_neg h]
    cases h9 : v.isPrefixOf w with
    | false => rfl
    | true => exact absurd (pre_len h9) h

def k_wfits (w1 : Nat) (w2 : Nat) (u : List Nat) (v : List Nat) : Bool := if (nI v.length - nI u.length) = 0 then if w2 = w1 then if w1 = 2 then if 0 < (nI v.length - nI u.length) then true else if w2 = 0 then false else true else if w1 = 1 then true else true else if w1 = 2 then if 0 < (nI v.length - nI u.length) then true else if w2 = 0 then false else true else if w1 = 1 then if (nI v.length - nI u.length) = nI 1 then if w2 = 0 then true else false else false else false else if w1 = 2 then if 0 < (nI v.length - nI u.length) then true else if w2 = 0 then false else true else if w1 = 1 then if (nI v.length - nI u.length) = nI 1 then if w2 = 0 then true else false else false else false
set_option maxHeartbeats 400000 in
set_option maxRecDepth 100000 in
theorem c_wfits {l : Launch} {G : sg_G} {d : Nat} {M : sg_M} {kr : Option Value → sg_M → Prop} {kx : String → sg_M → Prop} (htr : l.stackTraces = false) {a b ta la tb lb w1 w2 : Nat} {k1 p1 k2 p2 : Int32} {u v : List Nat} (hA : M a = some (70, .inr (6, [.int k1, .ref ta, .int p1, .ref la, .int (nI w1)]))) (hB : M b = some (70, .inr (6, [.int k2, .ref tb, .int p2, .ref lb, .int (nI w2)]))) (hS : st_r 71 72 M la u) (hT : st_r 71 72 M lb v) (h1 : w1 ≤ 2) (h2 : w2 ≤ 2) (hk : kr (some (.int (md_b (k_wfits w1 w2 u v)))) M) : sg_Met l G yX3_wildcardFits cX3_wildcardFits 4 (some .boolean) (d + 2) 0 0 [.ref a, .ref b] M kr kx := by
  refine sg_enter [some (.ref a), some (.ref b), none, none] (by decide) htr (Nat.le_of_ble_eq_true rfl) rfl ?_
  intro X hC hR
  have hC : sg_C X l G cX3_wildcardFits RX3 4 (d + 2) := hC
  have hu40 := hS.le
  have hv40 := hT.le
  refine sg_aload_n (pc := 0) (v := .ref b) hC dX3_wildcardFits_0 rfl rfl ?_
  refine sg_get (pc := 1) (a := b) (v := .ref lb) 3 hC rfl inw_X3 (by decide) tw_804 dX3_wildcardFits_1 hB rfl ?_
  obtain ⟨_, _, _, _, hx2, -⟩ := id hT
  refine sg_callV (pc := 4) (As := []) (rest := []) (mc := 0) (ms := 0) hC tw_849 tw_482 tw_483 tw_65 tw_484 yd_J0_length_8abf5 (by decide) (ci := 0) rfl dX3_wildcardFits_4 hx2 rfl (Nat.le_of_ble_eq_true rfl) (by first | omega | decide) (by first | omega | decide) ?_
  refine c_slen htr hT ?_
  show sg_W X M 0 0 7 [some (.ref a), some (.ref b), none, none] [.int (nI v.length)]
  refine sg_aload_n (pc := 7) (v := .ref a) hC dX3_wildcardFits_7 rfl rfl ?_
  refine sg_get (pc := 8) (a := a) (v := .ref la) 3 hC rfl inw_X3 (by decide) tw_804 dX3_wildcardFits_8 hA rfl ?_
  obtain ⟨_, _, _, _, hx4, -⟩ := id hS
  refine sg_callV (pc := 11) (As := []) (rest := [.int (nI v.length)]) (mc := 0) (ms := 0) hC tw_849 tw_482 tw_483 tw_65 tw_484 yd_J0_length_8abf5 (by decide) (ci := 0) rfl dX3_wildcardFits_11 hx4 rfl (Nat.le_of_ble_eq_true rfl) (by first | omega | decide) (by first | omega | decide) ?_
  refine c_slen htr hS ?_
  show sg_W X M 0 0 14 [some (.ref a), some (.ref b), none, none] [.int (nI u.length), .int (nI v.length)]
  refine sg_isub (pc := 14) (x := nI v.length) (y := nI u.length) hC dX3_wildcardFits_14 ?_
  refine sg_istore_n (pc := 15) (x := (nI v.length - nI u.length)) hC dX3_wildcardFits_15 (by decide) ?_
  show sg_W X M 0 0 16 [some (.ref a), some (.ref b), some (.int (nI v.length - nI u.length)), none] []
  refine sg_iload_n (pc := 16) (x := (nI v.length - nI u.length)) hC dX3_wildcardFits_16 rfl ?_
  refine sg_if_ne (pc := 17) (x := (nI v.length - nI u.length)) 35 hC dX3_wildcardFits_17 (by decide) (fun h5 => ?_) (fun h5 => ?_)
  · refine sg_iconst (pc := 35) (nI 0) hC dX3_wildcardFits_35 (by decide) ?_
    refine sg_istore_n (pc := 36) (x := nI 0) hC dX3_wildcardFits_36 (by decide) ?_
    show sg_W X M 0 0 37 [some (.ref a), some (.ref b), some (.int (nI v.length - nI u.length)), some (.int (nI 0))] []
    refine sg_aload_n (pc := 37) (v := .ref a) hC dX3_wildcardFits_37 rfl rfl ?_
    refine sg_get (pc := 38) (a := a) (v := .int (nI w1)) 4 hC rfl inw_X3 (by decide) tw_805 dX3_wildcardFits_38 hA rfl ?_
    refine sg_iconst (pc := 41) (nI 2) hC dX3_wildcardFits_41 (by decide) ?_
    refine sg_icmpN_ne (pc := 42) (a := w1) (b := 2) 62 hC dX3_wildcardFits_42 (by decide) (by first | omega | decide) (by first | omega | decide) (fun h6 => ?_) (fun h6 => ?_)
    · refine sg_aload_n (pc := 62) (v := .ref a) hC dX3_wildcardFits_62 rfl rfl ?_
      refine sg_get (pc := 63) (a := a) (v := .int (nI w1)) 4 hC rfl inw_X3 (by decide) tw_805 dX3_wildcardFits_63 hA rfl ?_
      refine sg_iconst (pc := 66) (nI 1) hC dX3_wildcardFits_66 (by decide) ?_
      refine sg_icmpN_ne (pc := 67) (a := w1) (b := 1) 92 hC dX3_wildcardFits_67 (by decide) (by first | omega | decide) (by first | omega | decide) (fun h7 => ?_) (fun h7 => ?_)
      · refine sg_iload_n (pc := 92) (x := nI 0) hC dX3_wildcardFits_92 rfl ?_
        have e9 : k_wfits w1 w2 u v = false := by rw [k_wfits]; simp only [if_neg h5, if_neg h6, if_neg h7]
        rw [e9] at hk
        exact sg_zreturn (st := []) (v := md_b false) (pc := 93) (ty := .boolean) hC hR (md_narb _) dX3_wildcardFits_93 hk
      · refine sg_iload_n (pc := 70) (x := nI 0) hC dX3_wildcardFits_70 rfl ?_
        refine sg_ifN_ne (pc := 71) (a := 0) 86 hC dX3_wildcardFits_71 (by decide) (by decide) (fun h8 => absurd h8 (by decide)) (fun _ => ?_)
        refine sg_iload_n (pc := 74) (x := (nI v.length - nI u.length)) hC dX3_wildcardFits_74 rfl ?_
        refine sg_iconst (pc := 75) (nI 1) hC dX3_wildcardFits_75 (by decide) ?_
        refine sg_icmp_ne (pc := 76) (x := (nI v.length - nI u.length)) (y := nI 1) 90 hC dX3_wildcardFits_76 (by decide) (fun h9 => ?_) (fun h9 => ?_)
        · refine sg_iconst (pc := 90) (nI 0) hC dX3_wildcardFits_90 (by decide) ?_
          have e9 : k_wfits w1 w2 u v = false := by rw [k_wfits]; simp only [if_neg h5, if_neg h6, if_pos h7, if_neg h9]
          rw [e9] at hk
          exact sg_zreturn (st := []) (v := md_b false) (pc := 91) (ty := .boolean) hC hR (md_narb _) dX3_wildcardFits_91 hk
        · refine sg_aload_n (pc := 79) (v := .ref b) hC dX3_wildcardFits_79 rfl rfl ?_
          refine sg_get (pc := 80) (a := b) (v := .int (nI w2)) 4 hC rfl inw_X3 (by decide) tw_805 dX3_wildcardFits_80 hB rfl ?_
          refine sg_ifN_ne (pc := 83) (a := w2) 90 hC dX3_wildcardFits_83 (by decide) (by first | omega | decide) (fun h10 => ?_) (fun h10 => ?_)
          · refine sg_iconst (pc := 90) (nI 0) hC dX3_wildcardFits_90 (by decide) ?_
            have e9 : k_wfits w1 w2 u v = false := by rw [k_wfits]; simp only [if_neg h5, if_neg h6, if_pos h7, if_pos h9, if_neg h10]
            rw [e9] at hk
            exact sg_zreturn (st := []) (v := md_b false) (pc := 91) (ty := .boolean) hC hR (md_narb _) dX3_wildcardFits_91 hk
          · refine sg_iconst (pc := 86) (nI 1) hC dX3_wildcardFits_86 (by decide) ?_
            refine sg_goto (pc := 87) 91 hC dX3_wildcardFits_87 (by decide) ?_
            have e9 : k_wfits w1 w2 u v = true := by rw [k_wfits]; simp only [if_neg h5, if_neg h6, if_pos h7, if_pos h9, if_pos h10]
            rw [e9] at hk
            exact sg_zreturn (st := []) (v := md_b true) (pc := 91) (ty := .boolean) hC hR (md_narb _) dX3_wildcardFits_91 hk
    · refine sg_iload_n (pc := 45) (x := (nI v.length - nI u.length)) hC dX3_wildcardFits_45 rfl ?_
      refine sg_if_gt (pc := 46) (x := (nI v.length - nI u.length)) 56 hC dX3_wildcardFits_46 (by decide) (fun h11 => ?_) (fun h11 => ?_)
      · refine sg_iconst (pc := 56) (nI 1) hC dX3_wildcardFits_56 (by decide) ?_
        refine sg_goto (pc := 57) 61 hC dX3_wildcardFits_57 (by decide) ?_
        have e9 : k_wfits w1 w2 u v = true := by rw [k_wfits]; simp only [if_neg h5, if_pos h6, if_pos h11]
        rw [e9] at hk
        exact sg_zreturn (st := []) (v := md_b true) (pc := 61) (ty := .boolean) hC hR (md_narb _) dX3_wildcardFits_61 hk
      · refine sg_aload_n (pc := 49) (v := .ref b) hC dX3_wildcardFits_49 rfl rfl ?_
        refine sg_get (pc := 50) (a := b) (v := .int (nI w2)) 4 hC rfl inw_X3 (by decide) tw_805 dX3_wildcardFits_50 hB rfl ?_
        refine sg_ifN_eq (pc := 53) (a := w2) 60 hC dX3_wildcardFits_53 (by decide) (by first | omega | decide) (fun h12 => ?_) (fun h12 => ?_)
        · refine sg_iconst (pc := 60) (nI 0) hC dX3_wildcardFits_60 (by decide) ?_
          have e9 : k_wfits w1 w2 u v = false := by rw [k_wfits]; simp only [if_neg h5, if_pos h6, if_neg h11, if_pos h12]
          rw [e9] at hk
          exact sg_zreturn (st := []) (v := md_b false) (pc := 61) (ty := .boolean) hC hR (md_narb _) dX3_wildcardFits_61 hk
        · refine sg_iconst (pc := 56) (nI 1) hC dX3_wildcardFits_56 (by decide) ?_
          refine sg_goto (pc := 57) 61 hC dX3_wildcardFits_57 (by decide) ?_
          have e9 : k_wfits w1 w2 u v = true := by rw [k_wfits]; simp only [if_neg h5, if_pos h6, if_neg h11, if_neg h12]
          rw [e9] at hk
          exact sg_zreturn (st := []) (v := md_b true) (pc := 61) (ty := .boolean) hC hR (md_narb _) dX3_wildcardFits_61 hk
  · refine sg_aload_n (pc := 20) (v := .ref b) hC dX3_wildcardFits_20 rfl rfl ?_
    refine sg_get (pc := 21) (a := b) (v := .int (nI w2)) 4 hC rfl inw_X3 (by decide) tw_805 dX3_wildcardFits_21 hB rfl ?_
    refine sg_aload_n (pc := 24) (v := .ref a) hC dX3_wildcardFits_24 rfl rfl ?_
    refine sg_get (pc := 25) (a := a) (v := .int (nI w1)) 4 hC rfl inw_X3 (by decide) tw_805 dX3_wildcardFits_25 hA rfl ?_
    refine sg_icmpN_ne (pc := 28) (a := w2) (b := w1) 35 hC dX3_wildcardFits_28 (by decide) (by first | omega | decide) (by first | omega | decide) (fun h13 => ?_) (fun h13 => ?_)
    · refine sg_iconst (pc := 35) (nI 0) hC dX3_wildcardFits_35 (by decide) ?_
      refine sg_istore_n (pc := 36) (x := nI 0) hC dX3_wildcardFits_36 (by decide) ?_
      show sg_W X M 0 0 37 [some (.ref a), some (.ref b), some (.int (nI v.length - nI u.length)), some (.int (nI 0))] []
      refine sg_aload_n (pc := 37) (v := .ref a) hC dX3_wildcardFits_37 rfl rfl ?_
      refine sg_get (pc := 38) (a := a) (v := .int (nI w1)) 4 hC rfl inw_X3 (by decide) tw_805 dX3_wildcardFits_38 hA rfl ?_
      refine sg_iconst (pc := 41) (nI 2) hC dX3_wildcardFits_41 (by decide) ?_
      refine sg_icmpN_ne (pc := 42) (a := w1) (b := 2) 62 hC dX3_wildcardFits_42 (by decide) (by first | omega | decide) (by first | omega | decide) (fun h14 => ?_) (fun h14 => ?_)
      · refine sg_aload_n (pc := 62) (v := .ref a) hC dX3_wildcardFits_62 rfl rfl ?_
        refine sg_get (pc := 63) (a := a) (v := .int (nI w1)) 4 hC rfl inw_X3 (by decide) tw_805 dX3_wildcardFits_63 hA rfl ?_
        refine sg_iconst (pc := 66) (nI 1) hC dX3_wildcardFits_66 (by decide) ?_
        refine sg_icmpN_ne (pc := 67) (a := w1) (b := 1) 92 hC dX3_wildcardFits_67 (by decide) (by first | omega | decide) (by first | omega | decide) (fun h15 => ?_) (fun h15 => ?_)
        · refine sg_iload_n (pc := 92) (x := nI 0) hC dX3_wildcardFits_92 rfl ?_
          have e9 : k_wfits w1 w2 u v = false := by rw [k_wfits]; simp only [if_pos h5, if_neg h13, if_neg h14, if_neg h15]
          rw [e9] at hk
          exact sg_zreturn (st := []) (v := md_b false) (pc := 93) (ty := .boolean) hC hR (md_narb _) dX3_wildcardFits_93 hk
        · refine sg_iload_n (pc := 70) (x := nI 0) hC dX3_wildcardFits_70 rfl ?_
          refine sg_ifN_ne (pc := 71) (a := 0) 86 hC dX3_wildcardFits_71 (by decide) (by decide) (fun h16 => absurd h16 (by decide)) (fun _ => ?_)
          refine sg_iload_n (pc := 74) (x := (nI v.length - nI u.length)) hC dX3_wildcardFits_74 rfl ?_
          refine sg_iconst (pc := 75) (nI 1) hC dX3_wildcardFits_75 (by decide) ?_
          refine sg_icmp_ne (pc := 76) (x := (nI v.length - nI u.length)) (y := nI 1) 90 hC dX3_wildcardFits_76 (by decide) (fun h17 => ?_) (fun h17 => ?_)
          · refine sg_iconst (pc := 90) (nI 0) hC dX3_wildcardFits_90 (by decide) ?_
            have e9 : k_wfits w1 w2 u v = false := by rw [k_wfits]; simp only [if_pos h5, if_neg h13, if_neg h14, if_pos h15, if_neg h17]
            rw [e9] at hk
            exact sg_zreturn (st := []) (v := md_b false) (pc := 91) (ty := .boolean) hC hR (md_narb _) dX3_wildcardFits_91 hk
          · refine sg_aload_n (pc := 79) (v := .ref b) hC dX3_wildcardFits_79 rfl rfl ?_
            refine sg_get (pc := 80) (a := b) (v := .int (nI w2)) 4 hC rfl inw_X3 (by decide) tw_805 dX3_wildcardFits_80 hB rfl ?_
            refine sg_ifN_ne (pc := 83) (a := w2) 90 hC dX3_wildcardFits_83 (by decide) (by first | omega | decide) (fun h18 => ?_) (fun h18 => ?_)
            · refine sg_iconst (pc := 90) (nI 0) hC dX3_wildcardFits_90 (by decide) ?_
              have e9 : k_wfits w1 w2 u v = false := by rw [k_wfits]; simp only [if_pos h5, if_neg h13, if_neg h14, if_pos h15, if_pos h17, if_neg h18]
              rw [e9] at hk
              exact sg_zreturn (st := []) (v := md_b false) (pc := 91) (ty := .boolean) hC hR (md_narb _) dX3_wildcardFits_91 hk
            · refine sg_iconst (pc := 86) (nI 1) hC dX3_wildcardFits_86 (by decide) ?_
              refine sg_goto (pc := 87) 91 hC dX3_wildcardFits_87 (by decide) ?_
              have e9 : k_wfits w1 w2 u v = true := by rw [k_wfits]; simp only [if_pos h5, if_neg h13, if_neg h14, if_pos h15, if_pos h17, if_pos h18]
              rw [e9] at hk
              exact sg_zreturn (st := []) (v := md_b true) (pc := 91) (ty := .boolean) hC hR (md_narb _) dX3_wildcardFits_91 hk
      · refine sg_iload_n (pc := 45) (x := (nI v.length - nI u.length)) hC dX3_wildcardFits_45 rfl ?_
        refine sg_if_gt (pc := 46) (x := (nI v.length - nI u.length)) 56 hC dX3_wildcardFits_46 (by decide) (fun h19 => ?_) (fun h19 => ?_)
        · refine sg_iconst (pc := 56) (nI 1) hC dX3_wildcardFits_56 (by decide) ?_
          refine sg_goto (pc := 57) 61 hC dX3_wildcardFits_57 (by decide) ?_
          have e9 : k_wfits w1 w2 u v = true := by rw [k_wfits]; simp only [if_pos h5, if_neg h13, if_pos h14, if_pos h19]
          rw [e9] at hk
          exact sg_zreturn (st := []) (v := md_b true) (pc := 61) (ty := .boolean) hC hR (md_narb _) dX3_wildcardFits_61 hk
        · refine sg_aload_n (pc := 49) (v := .ref b) hC dX3_wildcardFits_49 rfl rfl ?_
          refine sg_get (pc := 50) (a := b) (v := .int (nI w2)) 4 hC rfl inw_X3 (by decide) tw_805 dX3_wildcardFits_50 hB rfl ?_
          refine sg_ifN_eq (pc := 53) (a := w2) 60 hC dX3_wildcardFits_53 (by decide) (by first | omega | decide) (fun h20 => ?_) (fun h20 => ?_)
          · refine sg_iconst (pc := 60) (nI 0) hC dX3_wildcardFits_60 (by decide) ?_
            have e9 : k_wfits w1 w2 u v = false := by rw [k_wfits]; simp only [if_pos h5, if_neg h13, if_pos h14, if_neg h19, if_pos h20]
            rw [e9] at hk
            exact sg_zreturn (st := []) (v := md_b false) (pc := 61) (ty := .boolean) hC hR (md_narb _) dX3_wildcardFits_61 hk
          · refine sg_iconst (pc := 56) (nI 1) hC dX3_wildcardFits_56 (by decide) ?_
            refine sg_goto (pc := 57) 61 hC dX3_wildcardFits_57 (by decide) ?_
            have e9 : k_wfits w1 w2 u v = true := by rw [k_wfits]; simp only [if_pos h5, if_neg h13, if_pos h14, if_neg h19, if_neg h20]
            rw [e9] at hk
            exact sg_zreturn (st := []) (v := md_b true) (pc := 61) (ty := .boolean) hC hR (md_narb _) dX3_wildcardFits_61 hk
    · refine sg_iconst (pc := 31) (nI 1) hC dX3_wildcardFits_31 (by decide) ?_
      refine sg_goto (pc := 32) 36 hC dX3_wildcardFits_32 (by decide) ?_
      refine sg_istore_n (pc := 36) (x := nI 1) hC dX3_wildcardFits_36 (by decide) ?_
      show sg_W X M 0 0 37 [some (.ref a), some (.ref b), some (.int (nI v.length - nI u.length)), some (.int (nI 1))] []
      refine sg_aload_n (pc := 37) (v := .ref a) hC dX3_wildcardFits_37 rfl rfl ?_
      refine sg_get (pc := 38) (a := a) (v := .int (nI w1)) 4 hC rfl inw_X3 (by decide) tw_805 dX3_wildcardFits_38 hA rfl ?_
      refine sg_iconst (pc := 41) (nI 2) hC dX3_wildcardFits_41 (by decide) ?_
      refine sg_icmpN_ne (pc := 42) (a := w1) (b := 2) 62 hC dX3_wildcardFits_42 (by decide) (by first | omega | decide) (by first | omega | decide) (fun h21 => ?_) (fun h21 => ?_)
      · refine sg_aload_n (pc := 62) (v := .ref a) hC dX3_wildcardFits_62 rfl rfl ?_
        refine sg_get (pc := 63) (a := a) (v := .int (nI w1)) 4 hC rfl inw_X3 (by decide) tw_805 dX3_wildcardFits_63 hA rfl ?_
        refine sg_iconst (pc := 66) (nI 1) hC dX3_wildcardFits_66 (by decide) ?_
        refine sg_icmpN_ne (pc := 67) (a := w1) (b := 1) 92 hC dX3_wildcardFits_67 (by decide) (by first | omega | decide) (by first | omega | decide) (fun h22 => ?_) (fun h22 => ?_)
        · refine sg_iload_n (pc := 92) (x := nI 1) hC dX3_wildcardFits_92 rfl ?_
          have e9 : k_wfits w1 w2 u v = true := by rw [k_wfits]; simp only [if_pos h5, if_pos h13, if_neg h21, if_neg h22]
          rw [e9] at hk
          exact sg_zreturn (st := []) (v := md_b true) (pc := 93) (ty := .boolean) hC hR (md_narb _) dX3_wildcardFits_93 hk
        · refine sg_iload_n (pc := 70) (x := nI 1) hC dX3_wildcardFits_70 rfl ?_
          refine sg_ifN_ne (pc := 71) (a := 1) 86 hC dX3_wildcardFits_71 (by decide) (by decide) (fun _ => ?_) (fun h23 => absurd h23 (by decide))
          refine sg_iconst (pc := 86) (nI 1) hC dX3_wildcardFits_86 (by decide) ?_
          refine sg_goto (pc := 87) 91 hC dX3_wildcardFits_87 (by decide) ?_
          have e9 : k_wfits w1 w2 u v = true := by rw [k_wfits]; simp only [if_pos h5, if_pos h13, if_neg h21, if_pos h22]
          rw [e9] at hk
          exact sg_zreturn (st := []) (v := md_b true) (pc := 91) (ty := .boolean) hC hR (md_narb _) dX3_wildcardFits_91 hk
      · refine sg_iload_n (pc := 45) (x := (nI v.length - nI u.length)) hC dX3_wildcardFits_45 rfl ?_
        refine sg_if_gt (pc := 46) (x := (nI v.length - nI u.length)) 56 hC dX3_wildcardFits_46 (by decide) (fun h24 => ?_) (fun h24 => ?_)
        · refine sg_iconst (pc := 56) (nI 1) hC dX3_wildcardFits_56 (by decide) ?_
          refine sg_goto (pc := 57) 61 hC dX3_wildcardFits_57 (by decide) ?_
          have e9 : k_wfits w1 w2 u v = true := by rw [k_wfits]; simp only [if_pos h5, if_pos h13, if_pos h21, if_pos h24]
          rw [e9] at hk
          exact sg_zreturn (st := []) (v := md_b true) (pc := 61) (ty := .boolean) hC hR (md_narb _) dX3_wildcardFits_61 hk
        · refine sg_aload_n (pc := 49) (v := .ref b) hC dX3_wildcardFits_49 rfl rfl ?_
          refine sg_get (pc := 50) (a := b) (v := .int (nI w2)) 4 hC rfl inw_X3 (by decide) tw_805 dX3_wildcardFits_50 hB rfl ?_
          refine sg_ifN_eq (pc := 53) (a := w2) 60 hC dX3_wildcardFits_53 (by decide) (by first | omega | decide) (fun h25 => ?_) (fun h25 => ?_)
          · refine sg_iconst (pc := 60) (nI 0) hC dX3_wildcardFits_60 (by decide) ?_
            have e9 : k_wfits w1 w2 u v = false := by rw [k_wfits]; simp only [if_pos h5, if_pos h13, if_pos h21, if_neg h24, if_pos h25]
            rw [e9] at hk
            exact sg_zreturn (st := []) (v := md_b false) (pc := 61) (ty := .boolean) hC hR (md_narb _) dX3_wildcardFits_61 hk
          · refine sg_iconst (pc := 56) (nI 1) hC dX3_wildcardFits_56 (by decide) ?_
            refine sg_goto (pc := 57) 61 hC dX3_wildcardFits_57 (by decide) ?_
            have e9 : k_wfits w1 w2 u v = true := by rw [k_wfits]; simp only [if_pos h5, if_pos h13, if_pos h21, if_neg h24, if_neg h25]
            rw [e9] at hk
            exact sg_zreturn (st := []) (v := md_b true) (pc := 61) (ty := .boolean) hC hR (md_narb _) dX3_wildcardFits_61 hk

theorem nsub4 {a b : Nat} (ha : a ≤ 3) (hb : b ≤ 3) : (nI a - nI b = 0 ↔ a = b) ∧ (0 < nI a - nI b ↔ b < a) ∧ (nI a - nI b = nI 1 ↔ a = b + 1) := by
  have h2 : ∀ (x y : Fin 4), (nI x.val - nI y.val = 0 ↔ x.val = y.val) ∧ (0 < nI x.val - nI y.val ↔ y.val < x.val) ∧ (nI x.val - nI y.val = nI 1 ↔ x.val = y.val + 1) := by decide +kernel
  exact h2 ⟨a, by omega⟩ ⟨b, by omega⟩
theorem k_wfits_eq {w1 w2 : Nat} {u v : List Nat} (hu : u.length ≤ 3) (hv : v.length ≤ 3) : k_wfits w1 w2 u v = wfit w1 w2 u.length v.length := by
  obtain ⟨e1, e2, e3⟩ := nsub4 hv hu
  unfold k_wfits wfit
  simp only [e1, e2, e3]
  grind

def k_reach (r : RQ) (t : RQ) : Bool := if dk r = 42 then true else if dk r = dk t then if (k_begins (dl t) (dl r)) = true then if (k_wfits (dw r) (dw t) (dl r) (dl t)) = true then true else false else false else false
set_option maxHeartbeats 400000 in
set_option maxRecDepth 100000 in
theorem c_reach {l : Launch} {G : sg_G} {d : Nat} {M : sg_M} {kr : Option Value → sg_M → Prop} {kx : String → sg_M → Prop} (htr : l.stackTraces = false) {a b : Nat} {r t : RQ} (hA : pm_r M a r) (hB : pm_r M b t) (hk : kr (some (.int (md_b (k_reach r t)))) M) : sg_Met l G yX3_reaches cX3_reaches 2 (some .boolean) (d + 5) 0 0 [.ref a, .ref b] M kr kx := by
  refine sg_enter [some (.ref a), some (.ref b)] (by decide) htr (Nat.le_of_ble_eq_true rfl) rfl ?_
  intro X hC hR
  have hC : sg_C X l G cX3_reaches RX3 2 (d + 5) := hC
  obtain ⟨tA, lA, hA1, hA2, hA3, hA4⟩ := id hA
  have hbA1 := dk_lt r
  have hbA2 := dw_lt hA4
  have hbA3 := hA3.le
  obtain ⟨tB, lB, hB1, hB2, hB3, hB4⟩ := id hB
  have hbB1 := dk_lt t
  have hbB2 := dw_lt hB4
  have hbB3 := hB3.le
  refine sg_aload_n (pc := 0) (v := .ref a) hC dX3_reaches_0 rfl rfl ?_
  refine sg_get (pc := 1) (a := a) (v := .int (nI (dk r))) 0 hC rfl inw_X3 (by decide) tw_798 dX3_reaches_1 hA1 rfl ?_
  refine sg_bipush (pc := 4) (nI 42) hC dX3_reaches_4 (by decide) ?_
  refine sg_icmpN_ne (pc := 6) (a := dk r) (b := 42) 11 hC dX3_reaches_6 (by decide) (by first | omega | decide) (by first | omega | decide) (fun h1 => ?_) (fun h1 => ?_)
  · refine sg_aload_n (pc := 11) (v := .ref a) hC dX3_reaches_11 rfl rfl ?_
    refine sg_get (pc := 12) (a := a) (v := .int (nI (dk r))) 0 hC rfl inw_X3 (by decide) tw_798 dX3_reaches_12 hA1 rfl ?_
    refine sg_aload_n (pc := 15) (v := .ref b) hC dX3_reaches_15 rfl rfl ?_
    refine sg_get (pc := 16) (a := b) (v := .int (nI (dk t))) 0 hC rfl inw_X3 (by decide) tw_798 dX3_reaches_16 hB1 rfl ?_
    refine sg_icmpN_ne (pc := 19) (a := dk r) (b := dk t) 45 hC dX3_reaches_19 (by decide) (by first | omega | decide) (by first | omega | decide) (fun h2 => ?_) (fun h2 => ?_)
    · refine sg_iconst (pc := 45) (nI 0) hC dX3_reaches_45 (by decide) ?_
      have e9 : k_reach r t = false := by rw [k_reach]; simp only [if_neg h1, if_neg h2]
      rw [e9] at hk
      exact sg_zreturn (st := []) (v := md_b false) (pc := 46) (ty := .boolean) hC hR (md_narb _) dX3_reaches_46 hk
    · refine sg_aload_n (pc := 22) (v := .ref b) hC dX3_reaches_22 rfl rfl ?_
      refine sg_aload_n (pc := 23) (v := .ref a) hC dX3_reaches_23 rfl rfl ?_
      refine sg_get (pc := 24) (a := a) (v := .ref lA) 3 hC rfl inw_X3 (by decide) tw_804 dX3_reaches_24 hA1 rfl ?_
      refine sg_callV (pc := 27) (As := [.ref lA]) (rest := []) (mc := 0) (ms := 0) hC tw_845 tw_847 tw_17 tw_87 tw_848 yd_X3_beginsBy (by decide) (ci := 6) rfl dX3_reaches_27 hB1 rfl (Nat.le_of_ble_eq_true rfl) (by first | omega | decide) (by first | omega | decide) ?_
      refine c_begins htr hB1 hB3 hA3 ?_
      show sg_W X M 0 0 30 [some (.ref a), some (.ref b)] [.int (md_b ((k_begins (dl t) (dl r))))]
      refine sg_ifB_eq (pc := 30) (b := (k_begins (dl t) (dl r))) 45 hC dX3_reaches_30 (by decide) (fun h3 => ?_) (fun h3 => ?_)
      · refine sg_iconst (pc := 45) (nI 0) hC dX3_reaches_45 (by decide) ?_
        have e9 : k_reach r t = false := by rw [k_reach]; simp only [if_neg h1, if_pos h2, if_neg (ts9 h3)]
        rw [e9] at hk
        exact sg_zreturn (st := []) (v := md_b false) (pc := 46) (ty := .boolean) hC hR (md_narb _) dX3_reaches_46 hk
      · refine sg_aload_n (pc := 33) (v := .ref a) hC dX3_reaches_33 rfl rfl ?_
        refine sg_aload_n (pc := 34) (v := .ref b) hC dX3_reaches_34 rfl rfl ?_
        refine sg_callV (pc := 35) (As := [.ref b]) (rest := []) (mc := 0) (ms := 0) hC tw_851 tw_853 tw_18 tw_87 tw_854 yd_X3_wildcardFits (by decide) (ci := 6) rfl dX3_reaches_35 hA1 rfl (Nat.le_of_ble_eq_true rfl) (by first | omega | decide) (by first | omega | decide) ?_
        refine c_wfits htr hA1 hB1 hA3 hB3 (by first | omega | decide) (by first | omega | decide) ?_
        show sg_W X M 0 0 38 [some (.ref a), some (.ref b)] [.int (md_b ((k_wfits (dw r) (dw t) (dl r) (dl t))))]
        refine sg_ifB_eq (pc := 38) (b := (k_wfits (dw r) (dw t) (dl r) (dl t))) 45 hC dX3_reaches_38 (by decide) (fun h4 => ?_) (fun h4 => ?_)
        · refine sg_iconst (pc := 45) (nI 0) hC dX3_reaches_45 (by decide) ?_
          have e9 : k_reach r t = false := by rw [k_reach]; simp only [if_neg h1, if_pos h2, if_pos h3, if_neg (ts9 h4)]
          rw [e9] at hk
          exact sg_zreturn (st := []) (v := md_b false) (pc := 46) (ty := .boolean) hC hR (md_narb _) dX3_reaches_46 hk
        · refine sg_iconst (pc := 41) (nI 1) hC dX3_reaches_41 (by decide) ?_
          refine sg_goto (pc := 42) 46 hC dX3_reaches_42 (by decide) ?_
          have e9 : k_reach r t = true := by rw [k_reach]; simp only [if_neg h1, if_pos h2, if_pos h3, if_pos h4]
          rw [e9] at hk
          exact sg_zreturn (st := []) (v := md_b true) (pc := 46) (ty := .boolean) hC hR (md_narb _) dX3_reaches_46 hk
  · refine sg_iconst (pc := 9) (nI 1) hC dX3_reaches_9 (by decide) ?_
    have e9 : k_reach r t = true := by rw [k_reach]; simp only [if_pos h1]
    rw [e9] at hk
    exact sg_zreturn (st := []) (v := md_b true) (pc := 10) (ty := .boolean) hC hR (md_narb _) dX3_reaches_10 hk

theorem dk_1 {r : RQ} (h : wq r) : dk r = 42 ↔ r.1 = 1 := by
  unfold dk
  repeat' split
  all_goals omega
theorem dk_2 {r : RQ} (h : wq r) : dk r = 102 ↔ r.1 = 2 := by
  unfold dk
  repeat' split
  all_goals omega
theorem dk_e {r t : RQ} (h : wq r) (h2 : wq t) : dk r = dk t ↔ r.1 = t.1 := by
  have := h.1
  have := h.2.1
  have := h2.1
  have := h2.2.1
  unfold dk
  repeat' split
  all_goals omega
theorem k_reach_eq {r t : RQ} (h : wq r) (h2 : wq t) : k_reach r t = reach r t := by
  unfold k_reach reach
  rw [k_begins_eq, k_wfits_eq (by rw [dl_len]; exact h.2.2.1) (by rw [dl_len]; exact h2.2.2.1)]
  by_cases h1 : r.1 = 1
  · rw [if_pos ((dk_1 h).mpr h1), if_pos h1]
  · rw [if_neg (fun e => h1 ((dk_1 h).mp e)), if_neg h1]
    by_cases h3 : r.1 = t.1
    · rw [if_pos ((dk_e h h2).mpr h3)]
      cases (dl r).isPrefixOf (dl t) <;> cases wfit (dw r) (dw t) (dl r).length (dl t).length <;> simp [h3]
    · rw [if_neg (fun e => h3 ((dk_e h h2).mp e))]
      simp [h3]

def k_incl (r : RQ) (t : RQ) : Bool := if (k_reach r t) = true then if ((nI (dp t)) &&& (((nI (dp r)) ^^^ (((-1)))))) = 0 then true else false else false
set_option maxHeartbeats 400000 in
set_option maxRecDepth 100000 in
theorem c_incl {l : Launch} {G : sg_G} {d : Nat} {M : sg_M} {kr : Option Value → sg_M → Prop} {kx : String → sg_M → Prop} (htr : l.stackTraces = false) {a b : Nat} {r t : RQ} (hA : pm_r M a r) (hB : pm_r M b t) (hk : kr (some (.int (md_b (k_incl r t)))) M) : sg_Met l G yX3_includes cX3_includes 2 (some .boolean) (d + 6) 0 0 [.ref a, .ref b] M kr kx := by
  refine sg_enter [some (.ref a), some (.ref b)] (by decide) htr (Nat.le_of_ble_eq_true rfl) rfl ?_
  intro X hC hR
  have hC : sg_C X l G cX3_includes RX3 2 (d + 6) := hC
  obtain ⟨tA, lA, hA1, hA2, hA3, hA4⟩ := id hA
  have hbA1 := dk_lt r
  have hbA2 := dw_lt hA4
  have hbA3 := hA3.le
  obtain ⟨tB, lB, hB1, hB2, hB3, hB4⟩ := id hB
  have hbB1 := dk_lt t
  have hbB2 := dw_lt hB4
  have hbB3 := hB3.le
  refine sg_aload_n (pc := 0) (v := .ref a) hC dX3_includes_0 rfl rfl ?_
  refine sg_aload_n (pc := 1) (v := .ref b) hC dX3_includes_1 rfl rfl ?_
  refine sg_callV (pc := 2) (As := [.ref b]) (rest := []) (mc := 0) (ms := 0) hC tw_841 tw_842 tw_843 tw_87 tw_844 yd_X3_reaches (by decide) (ci := 6) rfl dX3_includes_2 hA1 rfl (Nat.le_of_ble_eq_true rfl) (by first | omega | decide) (by first | omega | decide) ?_
  refine c_reach htr hA hB ?_
  show sg_W X M 0 0 5 [some (.ref a), some (.ref b)] [.int (md_b ((k_reach r t)))]
  refine sg_ifB_eq (pc := 5) (b := (k_reach r t)) 26 hC dX3_includes_5 (by decide) (fun h1 => ?_) (fun h1 => ?_)
  · refine sg_iconst (pc := 26) (nI 0) hC dX3_includes_26 (by decide) ?_
    have e9 : k_incl r t = false := by rw [k_incl]; simp only [if_neg (ts9 h1)]
    rw [e9] at hk
    exact sg_zreturn (st := []) (v := md_b false) (pc := 27) (ty := .boolean) hC hR (md_narb _) dX3_includes_27 hk
  · refine sg_aload_n (pc := 8) (v := .ref b) hC dX3_includes_8 rfl rfl ?_
    refine sg_get (pc := 9) (a := b) (v := .int (nI (dp t))) 2 hC rfl inw_X3 (by decide) tw_802 dX3_includes_9 hB1 rfl ?_
    refine sg_aload_n (pc := 12) (v := .ref a) hC dX3_includes_12 rfl rfl ?_
    refine sg_get (pc := 13) (a := a) (v := .int (nI (dp r))) 2 hC rfl inw_X3 (by decide) tw_802 dX3_includes_13 hA1 rfl ?_
    refine sg_iconst (pc := 16) (((-1))) hC dX3_includes_16 (by decide) ?_
    refine sg_ixor (pc := 17) (x := nI (dp r)) (y := ((-1))) hC dX3_includes_17 ?_
    refine sg_iand (pc := 18) (x := nI (dp t)) (y := ((nI (dp r)) ^^^ (((-1))))) hC dX3_includes_18 ?_
    refine sg_if_ne (pc := 19) (x := ((nI (dp t)) &&& (((nI (dp r)) ^^^ (((-1))))))) 26 hC dX3_includes_19 (by decide) (fun h2 => ?_) (fun h2 => ?_)
    · refine sg_iconst (pc := 26) (nI 0) hC dX3_includes_26 (by decide) ?_
      have e9 : k_incl r t = false := by rw [k_incl]; simp only [if_pos h1, if_neg h2]
      rw [e9] at hk
      exact sg_zreturn (st := []) (v := md_b false) (pc := 27) (ty := .boolean) hC hR (md_narb _) dX3_includes_27 hk
    · refine sg_iconst (pc := 22) (nI 1) hC dX3_includes_22 (by decide) ?_
      refine sg_goto (pc := 23) 27 hC dX3_includes_23 (by decide) ?_
      have e9 : k_incl r t = true := by rw [k_incl]; simp only [if_pos h1, if_pos h2]
      rw [e9] at hk
      exact sg_zreturn (st := []) (v := md_b true) (pc := 27) (ty := .boolean) hC hR (md_narb _) dX3_includes_27 hk

theorem prt2 {a b : Nat} (ha : a < 16) (hb : b < 16) : (nI b &&& (nI a ^^^ (-1)) = 0 ↔ a &&& b = b) := by
  have h : ∀ (x y : Fin 16), (nI y.val &&& (nI x.val ^^^ (-1)) = 0 ↔ x.val &&& y.val = y.val) := by decide +kernel
  exact h ⟨a, ha⟩ ⟨b, hb⟩
theorem prt3 {a b c d : Nat} (h1 : a ≤ b) (h2 : b ≤ 9) (h3 : c ≤ d) (h4 : d ≤ 9) : (nI ((2 <<< d) - (1 <<< c)) &&& (nI ((2 <<< b) - (1 <<< a)) ^^^ (-1)) = 0 ↔ a ≤ c ∧ d ≤ b) := by
  have h : ∀ (b : Fin 10) (a : Fin (b.val + 1)) (d : Fin 10) (c : Fin (d.val + 1)), (nI ((2 <<< d.val) - (1 <<< c.val)) &&& (nI ((2 <<< b.val) - (1 <<< a.val)) ^^^ (-1)) = 0 ↔ a.val ≤ c.val ∧ d.val ≤ b.val) := by decide +kernel
  exact h ⟨b, by omega⟩ ⟨a, by show a < b + 1; omega⟩ ⟨d, by omega⟩ ⟨c, by show c < d + 1; omega⟩
theorem k_incl_eq {r t : RQ} (h : wq r) (h2 : wq t) : k_incl r t = inc r t := by
  unfold k_incl inc
  rw [k_reach_eq h h2]
  cases hr : reach r t with
  | false => rfl
  | true =>
    rw [if_pos rfl, Bool.true_and]
    unfold prt
    by_cases h1 : r.1 = 1
    · rw [if_pos h1, if_pos]
      rw [show dp r = 4294967295 from by simp [dp, h1], show nI 4294967295 ^^^ (-1) = 0 from by decide]
      exact Int32.and_zero
    · rw [if_neg h1]
      have he : r.1 = t.1 := by
        unfold reach at hr
        rw [if_neg h1] at hr
        simp at hr
        exact hr.1.1
      by_cases h3 : r.1 = 2
      · rw [if_pos h3, show dp r = r.2.2.2.1 from by simp [dp, h3], show dp t = t.2.2.2.1 from by simp [dp, ← he, h3]]
        have e := prt2 (h.2.2.2.2.2.1 h3).2.2 (h2.2.2.2.2.2.1 (he ▸ h3)).2.2
        by_cases h4 : r.2.2.2.1 &&& t.2.2.2.1 = t.2.2.2.1
        · rw [if_pos (e.mpr h4)]; simp [h4]
        · rw [if_neg (fun z => h4 (e.mp z))]; simp [h4]
      · rw [if_neg h3]
        by_cases h5 : r.1 = 3
        · have q1 := h.2.2.2.2.2.2.1 h5
          have q2 := h2.2.2.2.2.2.2.1 (he ▸ h5)
          rw [if_pos h5, show dp r = (2 <<< r.2.2.2.2.2) - (1 <<< r.2.2.2.2.1) from by simp [dp, h5], show dp t = (2 <<< t.2.2.2.2.2) - (1 <<< t.2.2.2.2.1) from by simp [dp, ← he, h5]]
          have e := prt3 q1.2.2.1 q1.2.2.2.1 q2.2.2.1 q2.2.2.2.1
          by_cases h4 : r.2.2.2.2.1 ≤ t.2.2.2.2.1 ∧ t.2.2.2.2.2 ≤ r.2.2.2.2.2
          · rw [if_pos (e.mpr h4)]; simp [h4]
          · rw [if_neg (fun z => h4 (e.mp z))]
            cases hh : (decide (r.2.2.2.2.1 ≤ t.2.2.2.2.1) && decide (t.2.2.2.2.2 ≤ r.2.2.2.2.2)) with
            | false => rfl
            | true => simp at hh; exact absurd hh h4
        · rw [if_neg h5, if_pos]
          rw [show dp t = 0 from by simp [dp, ← he, h1, h3, h5], show nI 0 = 0 from rfl]
          exact Int32.zero_and

set_option maxHeartbeats 400000 in
set_option maxRecDepth 100000 in
theorem c_pmInit {l : Launch} {G : sg_G} {d : Nat} {M : sg_M} {kr : Option Value → sg_M → Prop} {kx : String → sg_M → Prop} (htr : l.stackTraces = false) {a c t p lb w : Nat} (hA : M a = some (70, .inr (6, [.int (nI 0), .null, .int (nI 0), .null, .int (nI 0)]))) (hc : c < 128) (hk : ∀ M', sw M a (70, .inr (6, [.int (nI c), .ref t, .int (nI p), .ref lb, .int (nI w)])) M' → kr none M') : sg_Met l G yX3_init cX3_init 6 none (d + 1) 0 0 [.ref a, .int (nI c), .ref t, .int (nI p), .ref lb, .int (nI w)] M kr kx := by
  refine sg_enter [some (.ref a), some (.int (nI c)), some (.ref t), some (.int (nI p)), some (.ref lb), some (.int (nI w))] (by decide) htr (Nat.le_of_ble_eq_true rfl) rfl ?_
  intro X hC hR
  have hC : sg_C X l G cX3_init RX3 6 (d + 1) := hC
  refine sg_aload_n (pc := 0) (v := .ref a) hC dX3_init_0 rfl rfl ?_
  refine sg_objInit (pc := 1) hC tw_797 tw_98 tw_99 dX3_init_1 (Nat.le_of_ble_eq_true rfl) ?_
  show sg_W X M 0 0 4 [some (.ref a), some (.int (nI c)), some (.ref t), some (.int (nI p)), some (.ref lb), some (.int (nI w))] []
  refine sg_aload_n (pc := 4) (v := .ref a) hC dX3_init_4 rfl rfl ?_
  refine sg_iload_n (pc := 5) (x := nI c) hC dX3_init_5 rfl ?_
  refine sg_putF (pc := 6) (a := a) (v := .int (nI c)) 0 hC hR rfl rfl inw_X3 tyX3 tyX3_ok nmX3 (by decide) tw_798 rfl rfl rfl (jp_c (by first | omega | decide)) (pk_charN (by first | omega | decide)).2 dX3_init_6 hA (by first | omega | decide) (Nat.le_of_ble_eq_true rfl) ?_
  refine sg_nm (fun M1 hw2 => ?_)
  have hA : M1 a = some (70, .inr (6, [.int (nI c), .null, .int (nI 0), .null, .int (nI 0)])) := hw2.1
  refine sg_aload_n (pc := 9) (v := .ref a) hC dX3_init_9 rfl rfl ?_
  refine sg_aload_n (pc := 10) (v := .ref t) hC dX3_init_10 rfl rfl ?_
  refine sg_putF (pc := 11) (a := a) (v := .ref t) 1 hC hR rfl rfl inw_X3 tyX3 tyX3_ok nmX3 (by decide) tw_800 rfl rfl rfl rfl rfl dX3_init_11 hA (by first | omega | decide) (Nat.le_of_ble_eq_true rfl) ?_
  refine sg_nm (fun M3 hw4 => ?_)
  have hA : M3 a = some (70, .inr (6, [.int (nI c), .ref t, .int (nI 0), .null, .int (nI 0)])) := hw4.1
  refine sg_aload_n (pc := 14) (v := .ref a) hC dX3_init_14 rfl rfl ?_
  refine sg_iload_n (pc := 15) (x := nI p) hC dX3_init_15 rfl ?_
  refine sg_putF (pc := 16) (a := a) (v := .int (nI p)) 2 hC hR rfl rfl inw_X3 tyX3 tyX3_ok nmX3 (by decide) tw_802 rfl rfl rfl rfl rfl dX3_init_16 hA (by first | omega | decide) (Nat.le_of_ble_eq_true rfl) ?_
  refine sg_nm (fun M5 hw6 => ?_)
  have hA : M5 a = some (70, .inr (6, [.int (nI c), .ref t, .int (nI p), .null, .int (nI 0)])) := hw6.1
  refine sg_aload_n (pc := 19) (v := .ref a) hC dX3_init_19 rfl rfl ?_
  refine sg_aload (pc := 20) (v := .ref lb) hC dX3_init_20 rfl rfl ?_
  refine sg_putF (pc := 22) (a := a) (v := .ref lb) 3 hC hR rfl rfl inw_X3 tyX3 tyX3_ok nmX3 (by decide) tw_804 rfl rfl rfl rfl rfl dX3_init_22 hA (by first | omega | decide) (Nat.le_of_ble_eq_true rfl) ?_
  refine sg_nm (fun M7 hw8 => ?_)
  have hA : M7 a = some (70, .inr (6, [.int (nI c), .ref t, .int (nI p), .ref lb, .int (nI 0)])) := hw8.1
  refine sg_aload_n (pc := 25) (v := .ref a) hC dX3_init_25 rfl rfl ?_
  refine sg_iload (pc := 26) (x := nI w) hC dX3_init_26 rfl ?_
  refine sg_putF (pc := 28) (a := a) (v := .int (nI w)) 4 hC hR rfl rfl inw_X3 tyX3 tyX3_ok nmX3 (by decide) tw_805 rfl rfl rfl rfl rfl dX3_init_28 hA (by first | omega | decide) (Nat.le_of_ble_eq_true rfl) ?_
  refine sg_nm (fun M9 hw10 => ?_)
  have hA : M9 a = some (70, .inr (6, [.int (nI c), .ref t, .int (nI p), .ref lb, .int (nI w)])) := hw10.1
  exact sg_vreturn (st := []) (pc := 31) hC hR dX3_init_31 (hk _ (sw.tt (sw.tt (sw.tt (sw.tt hw2 hw4) hw6) hw8) hw10))
