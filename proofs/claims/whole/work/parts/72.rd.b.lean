theorem jd_neg {c k : Nat} (h : c < 48) (hk : k < 2 ^ 30) : nI c - nI 48 < nI k := by
  rw [Int32.lt_iff_toInt_lt, pk_sub_toInt (by omega) (by decide), nI_toInt (by omega)]
  omega
theorem jn_ne {v : Nat} (h : v < 2 ^ 31) : nI v ≠ -1 := by
  intro e
  have := congrArg Int32.toInt e
  rw [nI_toInt h] at this
  have h2 : (-1 : Int32).toInt = -1 := by decide
  omega
theorem jsh {lo hi : Nat} (h : lo ≤ hi) (h2 : hi ≤ 9) : 1 <<< lo ≤ 2 <<< hi := by
  have : ∀ (a b : Fin 10), a.val ≤ b.val → 1 <<< a.val ≤ 2 <<< b.val := by decide
  exact this ⟨lo, by omega⟩ ⟨hi, by omega⟩ h
theorem jsh2 {hi : Nat} (h2 : hi ≤ 9) : 2 <<< hi ≤ 1024 := by
  have : ∀ (b : Fin 10), 2 <<< b.val ≤ 1024 := by decide
  exact this ⟨hi, by omega⟩
theorem jsh1 {hi : Nat} (h2 : hi ≤ 9) : 1 <<< hi ≤ 512 := by
  have : ∀ (b : Fin 10), 1 <<< b.val ≤ 512 := by decide
  exact this ⟨hi, by omega⟩
theorem jo_cases (r : Option Nat) : r = none ∨ ∃ v, r = some v := by
  cases r with
  | none => exact Or.inl rfl
  | some v => exact Or.inr ⟨v, rfl⟩
theorem jmo {r : Option Nat} (h : ∀ k, r = some k → k < 2 ^ 31) : (if md_o r < nI 0 then nI 0 else md_o r) = nI (r.getD 0) := by
  cases r with
  | none => decide
  | some k =>
    have := h k rfl
    show (if nI k < nI 0 then nI 0 else nI k) = nI k
    rw [if_neg (show ¬ nI k < nI 0 from nI_pos this)]
/-- the place of a letter -/
def jl (c : Nat) : Option Nat := jx [114, 119, 120, 100] c 5 0
theorem jl_eq (c : Nat) : jl c = if 114 = c then some 0 else if 119 = c then some 1 else if 120 = c then some 2 else if 100 = c then some 3 else none := by
  unfold jl
  simp [jx]
theorem jl_lt {c q : Nat} (h : jl c = some q) : q < 4 := by
  rw [jl_eq] at h
  repeat' split at h
  all_goals first | cases h | skip
  all_goals omega
theorem jor {p q : Nat} (hp : p < 16) (hq : q < 4) : p ||| 1 <<< q < 16 := by
  have : ∀ (a : Fin 16) (b : Fin 4), a.val ||| 1 <<< b.val < 16 := by decide
  exact this ⟨p, hp⟩ ⟨q, hq⟩
theorem jshl4 {q : Nat} (hq : q < 4) : 1 <<< q < 16 := by
  have : ∀ (b : Fin 4), 1 <<< b.val < 16 := by decide
  exact this ⟨q, hq⟩
theorem jshr {p q : Nat} : p >>> q ≤ p := Nat.shiftRight_le _ _
theorem jand1 {p : Nat} : p &&& 1 ≤ 1 := Nat.and_le_right

def k_readDigit (tx : List Nat) (s : RS) (m : Nat) : Option Nat × RS := if 48 ≤ k_next tx s then if (k_next tx s) - 48 < m then (none, s) else if (k_next tx s) - 48 ≤ 9 then (some ((k_next tx s) - 48), (s.1 + 1, s.2.1, s.2.2.1, s.2.2.2.1, s.2.2.2.2.1, s.2.2.2.2.2)) else (none, s) else (none, s)
set_option maxHeartbeats 1000000 in
set_option maxRecDepth 100000 in
theorem c_readDigit {l : Launch} {G : sg_G} {d : Nat} {M0 M : sg_M} {kr : Option Value → sg_M → Prop} {kx : String → sg_M → Prop} {x ta b kd : Nat} {tx : List Nat} {s : RS} (htr : l.stackTraces = false) (hI : rd_I G M0 M x ta b kd tx s) (m : Nat) (hm : m < 10) (hk : ∀ M', rd_I G M0 M' x ta b kd tx (k_readDigit tx s m).2 → kr (some (.int (md_o (k_readDigit tx s m).1))) M') : sg_Met l G yX4_readDigit cX4_readDigit 3 (some .int) (d + 5) 0 0 [.ref x, .int (nI m)] M kr kx := by
  refine sg_enter [some (.ref x), some (.int (nI m)), none] (by decide) htr (Nat.le_of_ble_eq_true rfl) rfl ?_
  intro X hC hR
  have hC : sg_C X l G cX4_readDigit RX4 3 (d + 5) := hC
  have hn1 := hI.hn.1
  have hn2 := hI.hn.2
  have hcs := hI.hc
  refine sg_aload_n (pc := 0) (v := .ref x) hC dX4_readDigit_0 rfl rfl ?_
  refine sg_callV (pc := 1) (As := []) (rest := []) (mc := 0) (ms := 0) hC tw_606 tw_608 tw_2 tw_83 tw_609 yd_X4_next (by decide) (ci := 7) rfl dX4_readDigit_1 hI.hx rfl (Nat.le_of_ble_eq_true rfl) (by first | omega | decide) (by first | omega | decide) ?_
  refine c_next htr hI   ?_
  have hc1 := k_next_lt (s := s) hcs
  show sg_W X M 0 0 4 [some (.ref x), some (.int (nI m)), none] [.int (nI ((k_next tx s)))]
  refine sg_bipush (pc := 4) (nI 48) hC dX4_readDigit_4 (by decide) ?_
  by_cases h2 : 48 ≤ k_next tx s
  · refine sg_isubN (pc := 6) (a := k_next tx s) (b := 48) hC dX4_readDigit_6 h2 ?_
    refine sg_istore_n (pc := 7) (x := nI ((k_next tx s) - 48)) hC dX4_readDigit_7 (by decide) ?_
    show sg_W X M 0 0 8 [some (.ref x), some (.int (nI m)), some (.int (nI ((k_next tx s) - 48)))] []
    refine sg_iload_n (pc := 8) (x := nI ((k_next tx s) - 48)) hC dX4_readDigit_8 rfl ?_
    refine sg_iload_n (pc := 9) (x := nI m) hC dX4_readDigit_9 rfl ?_
    refine sg_icmpN_lt (pc := 10) (a := (k_next tx s) - 48) (b := m) 19 hC dX4_readDigit_10 (by decide) (by first | omega | decide) (by first | omega | decide) (fun h3 => ?_) (fun h3 => ?_)
    · refine sg_iconst (pc := 19) (((-1))) hC dX4_readDigit_19 (by decide) ?_
      have e9 : k_readDigit tx s m = (none, s) := by rw [k_readDigit]; simp only [if_pos h2, if_pos h3]
      rw [e9] at hk
      exact sg_ireturn (st := []) (v := md_o none) (pc := 20) hC hR dX4_readDigit_20 (hk M hI)
    · refine sg_iload_n (pc := 13) (x := nI ((k_next tx s) - 48)) hC dX4_readDigit_13 rfl ?_
      refine sg_bipush (pc := 14) (nI 9) hC dX4_readDigit_14 (by decide) ?_
      refine sg_icmpN_le (pc := 16) (a := (k_next tx s) - 48) (b := 9) 21 hC dX4_readDigit_16 (by decide) (by first | omega | decide) (by first | omega | decide) (fun h4 => ?_) (fun h4 => ?_)
      · refine sg_aload_n (pc := 21) (v := .ref x) hC dX4_readDigit_21 rfl rfl ?_
        refine sg_dup (pc := 22) hC dX4_readDigit_22 rfl ?_
        refine rd_get (pc := 23) (i := 1) hC (by decide) tw_551 dX4_readDigit_23 hI rfl ?_
        show sg_W X M 0 0 26 [some (.ref x), some (.int (nI m)), some (.int (nI ((k_next tx s) - 48)))] [.int (nI s.1), .ref x]
        refine sg_iconst (pc := 26) (nI 1) hC dX4_readDigit_26 (by decide) ?_
        refine sg_iaddN (pc := 27) (a := s.1) (b := 1) hC dX4_readDigit_27 ?_
        refine rd_put1 (pc := 28) (v := s.1 + 1) hC tw_551 dX4_readDigit_28 hI (by have h9 := k_next_in (tx := tx) (s := s) (by omega); omega) (fun M5 hI => ?_)
        have hI : rd_I G M0 M5 x ta b kd tx ((s.1 + 1, s.2.1, s.2.2.1, s.2.2.2.1, s.2.2.2.2.1, s.2.2.2.2.2)) := hI
        show sg_W X M5 0 0 31 [some (.ref x), some (.int (nI m)), some (.int (nI ((k_next tx s) - 48)))] []
        refine sg_iload_n (pc := 31) (x := nI ((k_next tx s) - 48)) hC dX4_readDigit_31 rfl ?_
        have e9 : k_readDigit tx s m = (some ((k_next tx s) - 48), (s.1 + 1, s.2.1, s.2.2.1, s.2.2.2.1, s.2.2.2.2.1, s.2.2.2.2.2)) := by rw [k_readDigit]; simp only [if_pos h2, if_neg (Nat.not_lt.mpr h3), if_pos h4]
        rw [e9] at hk
        exact sg_ireturn (st := []) (v := md_o (some ((k_next tx s) - 48))) (pc := 32) hC hR dX4_readDigit_32 (hk M5 hI)
      · refine sg_iconst (pc := 19) (((-1))) hC dX4_readDigit_19 (by decide) ?_
        have e9 : k_readDigit tx s m = (none, s) := by rw [k_readDigit]; simp only [if_pos h2, if_neg (Nat.not_lt.mpr h3), if_neg (Nat.not_le.mpr h4)]
        rw [e9] at hk
        exact sg_ireturn (st := []) (v := md_o none) (pc := 20) hC hR dX4_readDigit_20 (hk M hI)
  · refine sg_isub (pc := 6) (x := nI (k_next tx s)) (y := nI 48) hC dX4_readDigit_6 ?_
    refine sg_istore_n (pc := 7) (x := nI (k_next tx s) - nI 48) hC dX4_readDigit_7 (by decide) ?_
    show sg_W X M 0 0 8 [some (.ref x), some (.int (nI m)), some (.int (nI (k_next tx s) - nI 48))] []
    refine sg_iload_n (pc := 8) (x := nI (k_next tx s) - nI 48) hC dX4_readDigit_8 rfl ?_
    refine sg_iload_n (pc := 9) (x := nI m) hC dX4_readDigit_9 rfl ?_
    refine sg_icmp_lt (pc := 10) (x := nI (k_next tx s) - nI 48) (y := nI m) 19 hC dX4_readDigit_10 (by decide) (fun _ => ?_) (fun h9 => absurd (jd_neg (by omega) (by omega)) h9)
    refine sg_iconst (pc := 19) (((-1))) hC dX4_readDigit_19 (by decide) ?_
    have e9 : k_readDigit tx s m = (none, s) := by rw [k_readDigit]; simp only [if_neg h2]
    rw [e9] at hk
    exact sg_ireturn (st := []) (v := md_o none) (pc := 20) hC hR dX4_readDigit_20 (hk M hI)

theorem k_readDigit_v {tx : List Nat} {s : RS} {m v : Nat} (h : (k_readDigit tx s m).1 = some v) : m ≤ v ∧ v ≤ 9 := by
  unfold k_readDigit at h
  repeat' split at h
  all_goals first | cases h | skip
  all_goals omega

def k_readLetters (tx : List Nat) (s : RS)  : Bool × RS := (match jl ((k_next tx s)) with | none => if s.2.2.2.1 = 0 then (false, s) else (true, s) | some q9 => if (s.2.2.2.1 >>> q9) &&& 1 = 1 then if s.2.2.2.1 = 0 then (false, s) else (true, s) else (match jl ((k_next tx ((s.1 + 1, s.2.1, s.2.2.1, s.2.2.2.1 ||| (1 <<< q9), s.2.2.2.2.1, s.2.2.2.2.2)))) with | none => if s.2.2.2.1 ||| (1 <<< q9) = 0 then (false, (s.1 + 1, s.2.1, s.2.2.1, s.2.2.2.1 ||| (1 <<< q9), s.2.2.2.2.1, s.2.2.2.2.2)) else (true, (s.1 + 1, s.2.1, s.2.2.1, s.2.2.2.1 ||| (1 <<< q9), s.2.2.2.2.1, s.2.2.2.2.2)) | some q26 => if ((s.2.2.2.1 ||| (1 <<< q9)) >>> q26) &&& 1 = 1 then if s.2.2.2.1 ||| (1 <<< q9) = 0 then (false, (s.1 + 1, s.2.1, s.2.2.1, s.2.2.2.1 ||| (1 <<< q9), s.2.2.2.2.1, s.2.2.2.2.2)) else (true, (s.1 + 1, s.2.1, s.2.2.1, s.2.2.2.1 ||| (1 <<< q9), s.2.2.2.2.1, s.2.2.2.2.2)) else (match jl ((k_next tx (((s.1 + 1) + 1, s.2.1, s.2.2.1, (s.2.2.2.1 ||| (1 <<< q9)) ||| (1 <<< q26), s.2.2.2.2.1, s.2.2.2.2.2)))) with | none => if (s.2.2.2.1 ||| (1 <<< q9)) ||| (1 <<< q26) = 0 then (false, ((s.1 + 1) + 1, s.2.1, s.2.2.1, (s.2.2.2.1 ||| (1 <<< q9)) ||| (1 <<< q26), s.2.2.2.2.1, s.2.2.2.2.2)) else (true, ((s.1 + 1) + 1, s.2.1, s.2.2.1, (s.2.2.2.1 ||| (1 <<< q9)) ||| (1 <<< q26), s.2.2.2.2.1, s.2.2.2.2.2)) | some q43 => if (((s.2.2.2.1 ||| (1 <<< q9)) ||| (1 <<< q26)) >>> q43) &&& 1 = 1 then if (s.2.2.2.1 ||| (1 <<< q9)) ||| (1 <<< q26) = 0 then (false, ((s.1 + 1) + 1, s.2.1, s.2.2.1, (s.2.2.2.1 ||| (1 <<< q9)) ||| (1 <<< q26), s.2.2.2.2.1, s.2.2.2.2.2)) else (true, ((s.1 + 1) + 1, s.2.1, s.2.2.1, (s.2.2.2.1 ||| (1 <<< q9)) ||| (1 <<< q26), s.2.2.2.2.1, s.2.2.2.2.2)) else (match jl ((k_next tx ((((s.1 + 1) + 1) + 1, s.2.1, s.2.2.1, ((s.2.2.2.1 ||| (1 <<< q9)) ||| (1 <<< q26)) ||| (1 <<< q43), s.2.2.2.2.1, s.2.2.2.2.2)))) with | none => if ((s.2.2.2.1 ||| (1 <<< q9)) ||| (1 <<< q26)) ||| (1 <<< q43) = 0 then (false, (((s.1 + 1) + 1) + 1, s.2.1, s.2.2.1, ((s.2.2.2.1 ||| (1 <<< q9)) ||| (1 <<< q26)) ||| (1 <<< q43), s.2.2.2.2.1, s.2.2.2.2.2)) else (true, (((s.1 + 1) + 1) + 1, s.2.1, s.2.2.1, ((s.2.2.2.1 ||| (1 <<< q9)) ||| (1 <<< q26)) ||| (1 <<< q43), s.2.2.2.2.1, s.2.2.2.2.2)) | some q60 => if ((((s.2.2.2.1 ||| (1 <<< q9)) ||| (1 <<< q26)) ||| (1 <<< q43)) >>> q60) &&& 1 = 1 then if ((s.2.2.2.1 ||| (1 <<< q9)) ||| (1 <<< q26)) ||| (1 <<< q43) = 0 then (false, (((s.1 + 1) + 1) + 1, s.2.1, s.2.2.1, ((s.2.2.2.1 ||| (1 <<< q9)) ||| (1 <<< q26)) ||| (1 <<< q43), s.2.2.2.2.1, s.2.2.2.2.2)) else (true, (((s.1 + 1) + 1) + 1, s.2.1, s.2.2.1, ((s.2.2.2.1 ||| (1 <<< q9)) ||| (1 <<< q26)) ||| (1 <<< q43), s.2.2.2.2.1, s.2.2.2.2.2)) else if (((s.2.2.2.1 ||| (1 <<< q9)) ||| (1 <<< q26)) ||| (1 <<< q43)) ||| (1 <<< q60) = 0 then (false, ((((s.1 + 1) + 1) + 1) + 1, s.2.1, s.2.2.1, (((s.2.2.2.1 ||| (1 <<< q9)) ||| (1 <<< q26)) ||| (1 <<< q43)) ||| (1 <<< q60), s.2.2.2.2.1, s.2.2.2.2.2)) else (true, ((((s.1 + 1) + 1) + 1) + 1, s.2.1, s.2.2.1, (((s.2.2.2.1 ||| (1 <<< q9)) ||| (1 <<< q26)) ||| (1 <<< q43)) ||| (1 <<< q60), s.2.2.2.2.1, s.2.2.2.2.2))))))
set_option maxHeartbeats 1000000 in
set_option maxRecDepth 100000 in
theorem c_readLetters {l : Launch} {G : sg_G} {d : Nat} {M0 M : sg_M} {kr : Option Value → sg_M → Prop} {kx : String → sg_M → Prop} {x ta b kd : Nat} {tx : List Nat} {s : RS} (htr : l.stackTraces = false) (hI : rd_I G M0 M x ta b kd tx s)  (hp : s.2.2.2.1 < 16) (hk : ∀ M', rd_I G M0 M' x ta b kd tx (k_readLetters tx s).2 → kr (some (.int (md_b (k_readLetters tx s).1))) M') : sg_Met l G yX4_readLetters cX4_readLetters 3 (some .boolean) (d + 5) 0 0 [.ref x] M kr kx := by
  refine sg_enter [some (.ref x), none, none] (by decide) htr (Nat.le_of_ble_eq_true rfl) rfl ?_
  intro X hC hR
  have hC : sg_C X l G cX4_readLetters RX4 3 (d + 5) := hC
  have hn1 := hI.hn.1
  have hn2 := hI.hn.2
  have hcs := hI.hc
  refine sg_iconst (pc := 0) (nI 0) hC dX4_readLetters_0 (by decide) ?_
  refine sg_istore_n (pc := 1) (x := nI 0) hC dX4_readLetters_1 (by decide) ?_
  show sg_W X M 0 0 2 [some (.ref x), some (.int (nI 0)), none] []
  refine sg_iload_n (pc := 2) (x := nI 0) hC dX4_readLetters_2 rfl ?_
  refine sg_ldc_rwxd (pc := 3) hC dX4_readLetters_3 ?_
  obtain ⟨_, _, _, _, hx2, -⟩ := id hI.hl
  refine sg_callV (pc := 5) (As := []) (rest := [.int (nI 0)]) (mc := 0) (ms := 0) hC tw_610 tw_482 tw_483 tw_65 tw_484 yd_J0_length_8abf5 (by decide) (ci := 0) rfl dX4_readLetters_5 hx2 rfl (Nat.le_of_ble_eq_true rfl) (by first | omega | decide | exact Nat.lt_of_le_of_lt jshr (by omega) | exact Nat.lt_of_le_of_lt jand1 (by decide)) (by first | omega | decide | exact Nat.lt_of_le_of_lt jshr (by omega) | exact Nat.lt_of_le_of_lt jand1 (by decide)) ?_
  refine c_slen htr hI.hl ?_
  show sg_W X M 0 0 8 [some (.ref x), some (.int (nI 0)), none] [.int (nI 4), .int (nI 0)]
  refine sg_icmpN_ge (pc := 8) (a := 0) (b := 4) 68 hC dX4_readLetters_8 (by decide) (by decide) (by decide) (fun h3 => absurd h3 (by decide)) (fun _ => ?_)
  refine sg_ldc_rwxd (pc := 11) hC dX4_readLetters_11 ?_
  refine sg_aload_n (pc := 13) (v := .ref x) hC dX4_readLetters_13 rfl rfl ?_
  refine sg_callV (pc := 14) (As := []) (rest := [.ref (G.2.2.2 1)]) (mc := 0) (ms := 0) hC tw_606 tw_608 tw_2 tw_83 tw_609 yd_X4_next (by decide) (ci := 7) rfl dX4_readLetters_14 hI.hx rfl (Nat.le_of_ble_eq_true rfl) (by first | omega | decide | exact Nat.lt_of_le_of_lt jshr (by omega) | exact Nat.lt_of_le_of_lt jand1 (by decide)) (by first | omega | decide | exact Nat.lt_of_le_of_lt jshr (by omega) | exact Nat.lt_of_le_of_lt jand1 (by decide)) ?_
  refine c_next htr hI   ?_
  have hc4 := k_next_lt (s := s) hcs
  show sg_W X M 0 0 17 [some (.ref x), some (.int (nI 0)), none] [.int (nI ((k_next tx s))), .ref (G.2.2.2 1)]
  obtain ⟨_, _, _, _, hx6, -⟩ := id hI.hl
  refine sg_callV (pc := 17) (As := [.int (nI ((k_next tx s)))]) (rest := []) (mc := 0) (ms := 0) hC tw_648 tw_649 tw_650 tw_65 tw_651 yd_J0_indexOf_0f7a4 (by decide) (ci := 0) rfl dX4_readLetters_17 hx6 rfl (Nat.le_of_ble_eq_true rfl) (by first | omega | decide | exact Nat.lt_of_le_of_lt jshr (by omega) | exact Nat.lt_of_le_of_lt jand1 (by decide)) (by first | omega | decide | exact Nat.lt_of_le_of_lt jshr (by omega) | exact Nat.lt_of_le_of_lt jand1 (by decide)) ?_
  refine c_indexOf htr hI.hl (by first | omega | decide | exact Nat.lt_of_le_of_lt jshr (by omega) | exact Nat.lt_of_le_of_lt jand1 (by decide)) ?_
  show sg_W X M 0 0 20 [some (.ref x), some (.int (nI 0)), none] [.int (md_o (jl ((k_next tx s))))]
  refine sg_istore_n (pc := 20) (x := md_o (jl ((k_next tx s)))) hC dX4_readLetters_20 (by decide) ?_
  show sg_W X M 0 0 21 [some (.ref x), some (.int (nI 0)), some (.int (md_o (jl ((k_next tx s)))))] []
  refine sg_iload_n (pc := 21) (x := md_o (jl ((k_next tx s)))) hC dX4_readLetters_21 rfl ?_
  refine sg_ifO_lt (pc := 22) (r := jl ((k_next tx s))) 68 hC dX4_readLetters_22 (by decide) (fun k9 hk9 => by have := jl_lt hk9; omega) (fun h7 => ?_) (fun h7 => ?_)
  · refine sg_aload_n (pc := 68) (v := .ref x) hC dX4_readLetters_68 rfl rfl ?_
    refine rd_get (pc := 69) (i := 5) hC (by decide) tw_555 dX4_readLetters_69 hI rfl ?_
    show sg_W X M 0 0 72 [some (.ref x), some (.int (nI 0)), some (.int (md_o (jl ((k_next tx s)))))] [.int (nI s.2.2.2.1)]
    refine sg_ifN_eq (pc := 72) (a := s.2.2.2.1) 79 hC dX4_readLetters_72 (by decide) (by first | omega | decide | exact Nat.lt_of_le_of_lt jshr (by omega) | exact Nat.lt_of_le_of_lt jand1 (by decide)) (fun h8 => ?_) (fun h8 => ?_)
    · refine sg_iconst (pc := 79) (nI 0) hC dX4_readLetters_79 (by decide) ?_
      have e9 : k_readLetters tx s = (false, s) := by rw [k_readLetters]; simp only [h7, if_pos h8]
      rw [e9] at hk
      exact sg_zreturn (st := []) (v := md_b false) (pc := 80) (ty := .boolean) hC hR (md_narb _) dX4_readLetters_80 (hk M hI)
    · refine sg_iconst (pc := 75) (nI 1) hC dX4_readLetters_75 (by decide) ?_
      refine sg_goto (pc := 76) 80 hC dX4_readLetters_76 (by decide) ?_
      have e9 : k_readLetters tx s = (true, s) := by rw [k_readLetters]; simp only [h7, if_neg h8]
      rw [e9] at hk
      exact sg_zreturn (st := []) (v := md_b true) (pc := 80) (ty := .boolean) hC hR (md_narb _) dX4_readLetters_80 (hk M hI)
  · obtain ⟨q9, hq10⟩ := md_os h7
    rw [hq10]
    show sg_W X M 0 0 25 [some (.ref x), some (.int (nI 0)), some (.int (nI q9))] []
    have hq11 := jl_lt hq10
    have hq12 := jshl4 (q := q9) (by omega)
    have hq13 := jor (p := s.2.2.2.1) (q := q9) (by omega) (by omega)
    have hn14 := k_next_in (tx := tx) (s := s) (by intro h9; rw [show jl (((k_next tx s))) = none from by rw [h9]; decide] at hq10; cases hq10)
    refine sg_aload_n (pc := 25) (v := .ref x) hC dX4_readLetters_25 rfl rfl ?_
    refine rd_get (pc := 26) (i := 5) hC (by decide) tw_555 dX4_readLetters_26 hI rfl ?_
    show sg_W X M 0 0 29 [some (.ref x), some (.int (nI 0)), some (.int (nI q9))] [.int (nI s.2.2.2.1)]
    refine sg_iload_n (pc := 29) (x := nI q9) hC dX4_readLetters_29 rfl ?_
    refine sg_ishrN (pc := 30) (a := s.2.2.2.1) (b := q9) hC dX4_readLetters_30 (by first | omega | decide | exact Nat.lt_of_le_of_lt jshr (by omega) | exact Nat.lt_of_le_of_lt jand1 (by decide)) (by first | omega | exact Nat.lt_of_lt_of_le (jshl4 (by omega)) (by decide)) ?_
    refine sg_iconst (pc := 31) (nI 1) hC dX4_readLetters_31 (by decide) ?_
    refine sg_iandN (pc := 32) (a := s.2.2.2.1 >>> q9) (b := 1) hC dX4_readLetters_32 ?_
    refine sg_iconst (pc := 33) (nI 1) hC dX4_readLetters_33 (by decide) ?_
    refine sg_icmpN_ne (pc := 34) (a := (s.2.2.2.1 >>> q9) &&& 1) (b := 1) 40 hC dX4_readLetters_34 (by decide) (by first | omega | decide | exact Nat.lt_of_le_of_lt jshr (by omega) | exact Nat.lt_of_le_of_lt jand1 (by decide)) (by first | omega | decide | exact Nat.lt_of_le_of_lt jshr (by omega) | exact Nat.lt_of_le_of_lt jand1 (by decide)) (fun h15 => ?_) (fun h15 => ?_)
    · refine sg_aload_n (pc := 40) (v := .ref x) hC dX4_readLetters_40 rfl rfl ?_
      refine sg_dup (pc := 41) hC dX4_readLetters_41 rfl ?_
      refine rd_get (pc := 42) (i := 5) hC (by decide) tw_555 dX4_readLetters_42 hI rfl ?_
      show sg_W X M 0 0 45 [some (.ref x), some (.int (nI 0)), some (.int (nI q9))] [.int (nI s.2.2.2.1), .ref x]
      refine sg_iconst (pc := 45) (nI 1) hC dX4_readLetters_45 (by decide) ?_
      refine sg_iload_n (pc := 46) (x := nI q9) hC dX4_readLetters_46 rfl ?_
      refine sg_ishlN (pc := 47) (a := 1) (b := q9) hC dX4_readLetters_47 (by first | omega | decide | exact Nat.lt_of_le_of_lt jshr (by omega) | exact Nat.lt_of_le_of_lt jand1 (by decide)) (by first | omega | exact Nat.lt_of_lt_of_le (jshl4 (by omega)) (by decide)) ?_
      refine sg_iorN (pc := 48) (a := s.2.2.2.1) (b := 1 <<< q9) hC dX4_readLetters_48 ?_
      refine rd_put5 (pc := 49) (v := s.2.2.2.1 ||| (1 <<< q9)) hC tw_555 dX4_readLetters_49 hI (fun M16 hI => ?_)
      have hI : rd_I G M0 M16 x ta b kd tx ((s.1, s.2.1, s.2.2.1, s.2.2.2.1 ||| (1 <<< q9), s.2.2.2.2.1, s.2.2.2.2.2)) := hI
      show sg_W X M16 0 0 52 [some (.ref x), some (.int (nI 0)), some (.int (nI q9))] []
      refine sg_aload_n (pc := 52) (v := .ref x) hC dX4_readLetters_52 rfl rfl ?_
      refine sg_dup (pc := 53) hC dX4_readLetters_53 rfl ?_
      refine rd_get (pc := 54) (i := 1) hC (by decide) tw_551 dX4_readLetters_54 hI rfl ?_
      show sg_W X M16 0 0 57 [some (.ref x), some (.int (nI 0)), some (.int (nI q9))] [.int (nI s.1), .ref x]
      refine sg_iconst (pc := 57) (nI 1) hC dX4_readLetters_57 (by decide) ?_
      refine sg_iaddN (pc := 58) (a := s.1) (b := 1) hC dX4_readLetters_58 ?_
      refine rd_put1 (pc := 59) (v := s.1 + 1) hC tw_551 dX4_readLetters_59 hI (by omega) (fun M17 hI => ?_)
      have hI : rd_I G M0 M17 x ta b kd tx ((s.1 + 1, s.2.1, s.2.2.1, s.2.2.2.1 ||| (1 <<< q9), s.2.2.2.2.1, s.2.2.2.2.2)) := hI
      show sg_W X M17 0 0 62 [some (.ref x), some (.int (nI 0)), some (.int (nI q9))] []
      refine sg_iincN (pc := 62) (a := 0) (b := 1) hC dX4_readLetters_62 rfl (nI_1 _) (by decide) ?_
      show sg_W X M17 0 0 65 [some (.ref x), some (.int (nI 1)), some (.int (nI q9))] []
      refine sg_goto (pc := 65) 2 hC dX4_readLetters_65 (by decide) ?_
      refine sg_iload_n (pc := 2) (x := nI 1) hC dX4_readLetters_2 rfl ?_
      refine sg_ldc_rwxd (pc := 3) hC dX4_readLetters_3 ?_
      obtain ⟨_, _, _, _, hx19, -⟩ := id hI.hl
      refine sg_callV (pc := 5) (As := []) (rest := [.int (nI 1)]) (mc := 0) (ms := 0) hC tw_610 tw_482 tw_483 tw_65 tw_484 yd_J0_length_8abf5 (by decide) (ci := 0) rfl dX4_readLetters_5 hx19 rfl (Nat.le_of_ble_eq_true rfl) (by first | omega | decide | exact Nat.lt_of_le_of_lt jshr (by omega) | exact Nat.lt_of_le_of_lt jand1 (by decide)) (by first | omega | decide | exact Nat.lt_of_le_of_lt jshr (by omega) | exact Nat.lt_of_le_of_lt jand1 (by decide)) ?_
      refine c_slen htr hI.hl ?_
      show sg_W X M17 0 0 8 [some (.ref x), some (.int (nI 1)), some (.int (nI q9))] [.int (nI 4), .int (nI 1)]
      refine sg_icmpN_ge (pc := 8) (a := 1) (b := 4) 68 hC dX4_readLetters_8 (by decide) (by decide) (by decide) (fun h20 => absurd h20 (by decide)) (fun _ => ?_)
      refine sg_ldc_rwxd (pc := 11) hC dX4_readLetters_11 ?_
      refine sg_aload_n (pc := 13) (v := .ref x) hC dX4_readLetters_13 rfl rfl ?_
      refine sg_callV (pc := 14) (As := []) (rest := [.ref (G.2.2.2 1)]) (mc := 0) (ms := 0) hC tw_606 tw_608 tw_2 tw_83 tw_609 yd_X4_next (by decide) (ci := 7) rfl dX4_readLetters_14 hI.hx rfl (Nat.le_of_ble_eq_true rfl) (by first | omega | decide | exact Nat.lt_of_le_of_lt jshr (by omega) | exact Nat.lt_of_le_of_lt jand1 (by decide)) (by first | omega | decide | exact Nat.lt_of_le_of_lt jshr (by omega) | exact Nat.lt_of_le_of_lt jand1 (by decide)) ?_
      refine c_next htr hI   ?_
      have hc21 := k_next_lt (s := (s.1 + 1, s.2.1, s.2.2.1, s.2.2.2.1 ||| (1 <<< q9), s.2.2.2.2.1, s.2.2.2.2.2)) hcs
      show sg_W X M17 0 0 17 [some (.ref x), some (.int (nI 1)), some (.int (nI q9))] [.int (nI ((k_next tx ((s.1 + 1, s.2.1, s.2.2.1, s.2.2.2.1 ||| (1 <<< q9), s.2.2.2.2.1, s.2.2.2.2.2))))), .ref (G.2.2.2 1)]
      obtain ⟨_, _, _, _, hx23, -⟩ := id hI.hl
      refine sg_callV (pc := 17) (As := [.int (nI ((k_next tx ((s.1 + 1, s.2.1, s.2.2.1, s.2.2.2.1 ||| (1 <<< q9), s.2.2.2.2.1, s.2.2.2.2.2)))))]) (rest := []) (mc := 0) (ms := 0) hC tw_648 tw_649 tw_650 tw_65 tw_651 yd_J0_indexOf_0f7a4 (by decide) (ci := 0) rfl dX4_readLetters_17 hx23 rfl (Nat.le_of_ble_eq_true rfl) (by first | omega | decide | exact Nat.lt_of_le_of_lt jshr (by omega) | exact Nat.lt_of_le_of_lt jand1 (by decide)) (by first | omega | decide | exact Nat.lt_of_le_of_lt jshr (by omega) | exact Nat.lt_of_le_of_lt jand1 (by decide)) ?_
      refine c_indexOf htr hI.hl (by first | omega | decide | exact Nat.lt_of_le_of_lt jshr (by omega) | exact Nat.lt_of_le_of_lt jand1 (by decide)) ?_
      show sg_W X M17 0 0 20 [some (.ref x), some (.int (nI 1)), some (.int (nI q9))] [.int (md_o (jl ((k_next tx ((s.1 + 1, s.2.1, s.2.2.1, s.2.2.2.1 ||| (1 <<< q9), s.2.2.2.2.1, s.2.2.2.2.2))))))]
      refine sg_istore_n (pc := 20) (x := md_o (jl ((k_next tx ((s.1 + 1, s.2.1, s.2.2.1, s.2.2.2.1 ||| (1 <<< q9), s.2.2.2.2.1, s.2.2.2.2.2)))))) hC dX4_readLetters_20 (by decide) ?_
      show sg_W X M17 0 0 21 [some (.ref x), some (.int (nI 1)), some (.int (md_o (jl ((k_next tx ((s.1 + 1, s.2.1, s.2.2.1, s.2.2.2.1 ||| (1 <<< q9), s.2.2.2.2.1, s.2.2.2.2.2)))))))] []
      refine sg_iload_n (pc := 21) (x := md_o (jl ((k_next tx ((s.1 + 1, s.2.1, s.2.2.1, s.2.2.2.1 ||| (1 <<< q9), s.2.2.2.2.1, s.2.2.2.2.2)))))) hC dX4_readLetters_21 rfl ?_
      refine sg_ifO_lt (pc := 22) (r := jl ((k_next tx ((s.1 + 1, s.2.1, s.2.2.1, s.2.2.2.1 ||| (1 <<< q9), s.2.2.2.2.1, s.2.2.2.2.2))))) 68 hC dX4_readLetters_22 (by decide) (fun k9 hk9 => by have := jl_lt hk9; omega) (fun h24 => ?_) (fun h24 => ?_)
      · refine sg_aload_n (pc := 68) (v := .ref x) hC dX4_readLetters_68 rfl rfl ?_
        refine rd_get (pc := 69) (i := 5) hC (by decide) tw_555 dX4_readLetters_69 hI rfl ?_
        show sg_W X M17 0 0 72 [some (.ref x), some (.int (nI 1)), some (.int (md_o (jl ((k_next tx ((s.1 + 1, s.2.1, s.2.2.1, s.2.2.2.1 ||| (1 <<< q9), s.2.2.2.2.1, s.2.2.2.2.2)))))))] [.int (nI (s.2.2.2.1 ||| (1 <<< q9)))]
        refine sg_ifN_eq (pc := 72) (a := s.2.2.2.1 ||| (1 <<< q9)) 79 hC dX4_readLetters_72 (by decide) (by first | omega | decide | exact Nat.lt_of_le_of_lt jshr (by omega) | exact Nat.lt_of_le_of_lt jand1 (by decide)) (fun h25 => ?_) (fun h25 => ?_)
        · refine sg_iconst (pc := 79) (nI 0) hC dX4_readLetters_79 (by decide) ?_
          have e9 : k_readLetters tx s = (false, (s.1 + 1, s.2.1, s.2.2.1, s.2.2.2.1 ||| (1 <<< q9), s.2.2.2.2.1, s.2.2.2.2.2)) := by rw [k_readLetters]; simp only [hq10, if_neg h15, h24, if_pos h25]
          rw [e9] at hk
          exact sg_zreturn (st := []) (v := md_b false) (pc := 80) (ty := .boolean) hC hR (md_narb _) dX4_readLetters_80 (hk M17 hI)
        · refine sg_iconst (pc := 75) (nI 1) hC dX4_readLetters_75 (by decide) ?_
          refine sg_goto (pc := 76) 80 hC dX4_readLetters_76 (by decide) ?_
          have e9 : k_readLetters tx s = (true, (s.1 + 1, s.2.1, s.2.2.1, s.2.2.2.1 ||| (1 <<< q9), s.2.2.2.2.1, s.2.2.2.2.2)) := by rw [k_readLetters]; simp only [hq10, if_neg h15, h24, if_neg h25]
          rw [e9] at hk
          exact sg_zreturn (st := []) (v := md_b true) (pc := 80) (ty := .boolean) hC hR (md_narb _) dX4_readLetters_80 (hk M17 hI)
      · obtain ⟨q26, hq27⟩ := md_os h24
        rw [hq27]
        show sg_W X M17 0 0 25 [some (.ref x), some (.int (nI 1)), some (.int (nI q26))] []
        have hq28 := jl_lt hq27
        have hq29 := jshl4 (q := q26) (by omega)
        have hq30 := jor (p := s.2.2.2.1 ||| (1 <<< q9)) (q := q26) (by omega) (by omega)
        have hn31 := k_next_in (tx := tx) (s := (s.1 + 1, s.2.1, s.2.2.1, s.2.2.2.1 ||| (1 <<< q9), s.2.2.2.2.1, s.2.2.2.2.2)) (by intro h9; rw [show jl (((k_next tx ((s.1 + 1, s.2.1, s.2.2.1, s.2.2.2.1 ||| (1 <<< q9), s.2.2.2.2.1, s.2.2.2.2.2))))) = none from by rw [h9]; decide] at hq27; cases hq27)
        refine sg_aload_n (pc := 25) (v := .ref x) hC dX4_readLetters_25 rfl rfl ?_
        refine rd_get (pc := 26) (i := 5) hC (by decide) tw_555 dX4_readLetters_26 hI rfl ?_
        show sg_W X M17 0 0 29 [some (.ref x), some (.int (nI 1)), some (.int (nI q26))] [.int (nI (s.2.2.2.1 ||| (1 <<< q9)))]
        refine sg_iload_n (pc := 29) (x := nI q26) hC dX4_readLetters_29 rfl ?_
        refine sg_ishrN (pc := 30) (a := s.2.2.2.1 ||| (1 <<< q9)) (b := q26) hC dX4_readLetters_30 (by first | omega | decide | exact Nat.lt_of_le_of_lt jshr (by omega) | exact Nat.lt_of_le_of_lt jand1 (by decide)) (by first | omega | exact Nat.lt_of_lt_of_le (jshl4 (by omega)) (by decide)) ?_
        refine sg_iconst (pc := 31) (nI 1) hC dX4_readLetters_31 (by decide) ?_
        refine sg_iandN (pc := 32) (a := (s.2.2.2.1 ||| (1 <<< q9)) >>> q26) (b := 1) hC dX4_readLetters_32 ?_
        refine sg_iconst (pc := 33) (nI 1) hC dX4_readLetters_33 (by decide) ?_
        refine sg_icmpN_ne (pc := 34) (a := ((s.2.2.2.1 ||| (1 <<< q9)) >>> q26) &&& 1) (b := 1) 40 hC dX4_readLetters_34 (by decide) (by first | omega | decide | exact Nat.lt_of_le_of_lt jshr (by omega) | exact Nat.lt_of_le_of_lt jand1 (by decide)) (by first | omega | decide | exact Nat.lt_of_le_of_lt jshr (by omega) | exact Nat.lt_of_le_of_lt jand1 (by decide)) (fun h32 => ?_) (fun h32 => ?_)
        · refine sg_aload_n (pc := 40) (v := .ref x) hC dX4_readLetters_40 rfl rfl ?_
          refine sg_dup (pc := 41) hC dX4_readLetters_41 rfl ?_
          refine rd_get (pc := 42) (i := 5) hC (by decide) tw_555 dX4_readLetters_42 hI rfl ?_
          show sg_W X M17 0 0 45 [some (.ref x), some (.int (nI 1)), some (.int (nI q26))] [.int (nI (s.2.2.2.1 ||| (1 <<< q9))), .ref x]
          refine sg_iconst (pc := 45) (nI 1) hC dX4_readLetters_45 (by decide) ?_
          refine sg_iload_n (pc := 46) (x := nI q26) hC dX4_readLetters_46 rfl ?_
          refine sg_ishlN (pc := 47) (a := 1) (b := q26) hC dX4_readLetters_47 (by first | omega | decide | exact Nat.lt_of_le_of_lt jshr (by omega) | exact Nat.lt_of_le_of_lt jand1 (by decide)) (by first | omega | exact Nat.lt_of_lt_of_le (jshl4 (by omega)) (by decide)) ?_
          refine sg_iorN (pc := 48) (a := s.2.2.2.1 ||| (1 <<< q9)) (b := 1 <<< q26) hC dX4_readLetters_48 ?_
          refine rd_put5 (pc := 49) (v := (s.2.2.2.1 ||| (1 <<< q9)) ||| (1 <<< q26)) hC tw_555 dX4_readLetters_49 hI (fun M33 hI => ?_)
          have hI : rd_I G M0 M33 x ta b kd tx ((s.1 + 1, s.2.1, s.2.2.1, (s.2.2.2.1 ||| (1 <<< q9)) ||| (1 <<< q26), s.2.2.2.2.1, s.2.2.2.2.2)) := hI
          show sg_W X M33 0 0 52 [some (.ref x), some (.int (nI 1)), some (.int (nI q26))] []
          refine sg_aload_n (pc := 52) (v := .ref x) hC dX4_readLetters_52 rfl rfl ?_
          refine sg_dup (pc := 53) hC dX4_readLetters_53 rfl ?_
          refine rd_get (pc := 54) (i := 1) hC (by decide) tw_551 dX4_readLetters_54 hI rfl ?_
          show sg_W X M33 0 0 57 [some (.ref x), some (.int (nI 1)), some (.int (nI q26))] [.int (nI (s.1 + 1)), .ref x]
          refine sg_iconst (pc := 57) (nI 1) hC dX4_readLetters_57 (by decide) ?_
          refine sg_iaddN (pc := 58) (a := s.1 + 1) (b := 1) hC dX4_readLetters_58 ?_
          refine rd_put1 (pc := 59) (v := (s.1 + 1) + 1) hC tw_551 dX4_readLetters_59 hI (by omega) (fun M34 hI => ?_)
          have hI : rd_I G M0 M34 x ta b kd tx (((s.1 + 1) + 1, s.2.1, s.2.2.1, (s.2.2.2.1 ||| (1 <<< q9)) ||| (1 <<< q26), s.2.2.2.2.1, s.2.2.2.2.2)) := hI
          show sg_W X M34 0 0 62 [some (.ref x), some (.int (nI 1)), some (.int (nI q26))] []
          refine sg_iincN (pc := 62) (a := 1) (b := 2) hC dX4_readLetters_62 rfl (nI_1 _) (by decide) ?_
          show sg_W X M34 0 0 65 [some (.ref x), some (.int (nI 2)), some (.int (nI q26))] []
          refine sg_goto (pc := 65) 2 hC dX4_readLetters_65 (by decide) ?_
          refine sg_iload_n (pc := 2) (x := nI 2) hC dX4_readLetters_2 rfl ?_
          refine sg_ldc_rwxd (pc := 3) hC dX4_readLetters_3 ?_
          obtain ⟨_, _, _, _, hx36, -⟩ := id hI.hl
          refine sg_callV (pc := 5) (As := []) (rest := [.int (nI 2)]) (mc := 0) (ms := 0) hC tw_610 tw_482 tw_483 tw_65 tw_484 yd_J0_length_8abf5 (by decide) (ci := 0) rfl dX4_readLetters_5 hx36 rfl (Nat.le_of_ble_eq_true rfl) (by first | omega | decide | exact Nat.lt_of_le_of_lt jshr (by omega) | exact Nat.lt_of_le_of_lt jand1 (by decide)) (by first | omega | decide | exact Nat.lt_of_le_of_lt jshr (by omega) | exact Nat.lt_of_le_of_lt jand1 (by decide)) ?_
          refine c_slen htr hI.hl ?_
          show sg_W X M34 0 0 8 [some (.ref x), some (.int (nI 2)), some (.int (nI q26))] [.int (nI 4), .int (nI 2)]
          refine sg_icmpN_ge (pc := 8) (a := 2) (b := 4) 68 hC dX4_readLetters_8 (by decide) (by decide) (by decide) (fun h37 => absurd h37 (by decide)) (fun _ => ?_)
          refine sg_ldc_rwxd (pc := 11) hC dX4_readLetters_11 ?_
          refine sg_aload_n (pc := 13) (v := .ref x) hC dX4_readLetters_13 rfl rfl ?_
          refine sg_callV (pc := 14) (As := []) (rest := [.ref (G.2.2.2 1)]) (mc := 0) (ms := 0) hC tw_606 tw_608 tw_2 tw_83 tw_609 yd_X4_next (by decide) (ci := 7) rfl dX4_readLetters_14 hI.hx rfl (Nat.le_of_ble_eq_true rfl) (by first | omega | decide | exact Nat.lt_of_le_of_lt jshr (by omega) | exact Nat.lt_of_le_of_lt jand1 (by decide)) (by first | omega | decide | exact Nat.lt_of_le_of_lt jshr (by omega) | exact Nat.lt_of_le_of_lt jand1 (by decide)) ?_
          refine c_next htr hI   ?_
          have hc38 := k_next_lt (s := ((s.1 + 1) + 1, s.2.1, s.2.2.1, (s.2.2.2.1 ||| (1 <<< q9)) ||| (1 <<< q26), s.2.2.2.2.1, s.2.2.2.2.2)) hcs
          show sg_W X M34 0 0 17 [some (.ref x), some (.int (nI 2)), some (.int (nI q26))] [.int (nI ((k_next tx (((s.1 + 1) + 1, s.2.1, s.2.2.1, (s.2.2.2.1 ||| (1 <<< q9)) ||| (1 <<< q26), s.2.2.2.2.1, s.2.2.2.2.2))))), .ref (G.2.2.2 1)]
          obtain ⟨_, _, _, _, hx40, -⟩ := id hI.hl
          refine sg_callV (pc := 17) (As := [.int (nI ((k_next tx (((s.1 + 1) + 1, s.2.1, s.2.2.1, (s.2.2.2.1 ||| (1 <<< q9)) ||| (1 <<< q26), s.2.2.2.2.1, s.2.2.2.2.2)))))]) (rest := []) (mc := 0) (ms := 0) hC tw_648 tw_649 tw_650 tw_65 tw_651 yd_J0_indexOf_0f7a4 (by decide) (ci := 0) rfl dX4_readLetters_17 hx40 rfl (Nat.le_of_ble_eq_true rfl) (by first | omega | decide | exact Nat.lt_of_le_of_lt jshr (by omega) | exact Nat.lt_of_le_of_lt jand1 (by decide)) (by first | omega | decide | exact Nat.lt_of_le_of_lt jshr (by omega) | exact Nat.lt_of_le_of_lt jand1 (by decide)) ?_
          refine c_indexOf htr hI.hl (by first | omega | decide | exact Nat.lt_of_le_of_lt jshr (by omega) | exact Nat.lt_of_le_of_lt jand1 (by decide)) ?_
          show sg_W X M34 0 0 20 [some (.ref x), some (.int (nI 2)), some (.int (nI q26))] [.int (md_o (jl ((k_next tx (((s.1 + 1) + 1, s.2.1, s.2.2.1, (s.2.2.2.1 ||| (1 <<< q9)) ||| (1 <<< q26), s.2.2.2.2.1, s.2.2.2.2.2))))))]
          refine sg_istore_n (pc := 20) (x := md_o (jl ((k_next tx (((s.1 + 1) + 1, s.2.1, s.2.2.1, (s.2.2.2.1 ||| (1 <<< q9)) ||| (1 <<< q26), s.2.2.2.2.1, s.2.2.2.2.2)))))) hC dX4_readLetters_20 (by decide) ?_
          show sg_W X M34 0 0 21 [some (.ref x), some (.int (nI 2)), some (.int (md_o (jl ((k_next tx (((s.1 + 1) + 1, s.2.1, s.2.2.1, (s.2.2.2.1 ||| (1 <<< q9)) ||| (1 <<< q26), s.2.2.2.2.1, s.2.2.2.2.2)))))))] []
          refine sg_iload_n (pc := 21) (x := md_o (jl ((k_next tx (((s.1 + 1) + 1, s.2.1, s.2.2.1, (s.2.2.2.1 ||| (1 <<< q9)) ||| (1 <<< q26), s.2.2.2.2.1, s.2.2.2.2.2)))))) hC dX4_readLetters_21 rfl ?_
          refine sg_ifO_lt (pc := 22) (r := jl ((k_next tx (((s.1 + 1) + 1, s.2.1, s.2.2.1, (s.2.2.2.1 ||| (1 <<< q9)) ||| (1 <<< q26), s.2.2.2.2.1, s.2.2.2.2.2))))) 68 hC dX4_readLetters_22 (by decide) (fun k9 hk9 => by have := jl_lt hk9; omega) (fun h41 => ?_) (fun h41 => ?_)
          · refine sg_aload_n (pc := 68) (v := .ref x) hC dX4_readLetters_68 rfl rfl ?_
            refine rd_get (pc := 69) (i := 5) hC (by decide) tw_555 dX4_readLetters_69 hI rfl ?_
            show sg_W X M34 0 0 72 [some (.ref x), some (.int (nI 2)), some (.int (md_o (jl ((k_next tx (((s.1 + 1) + 1, s.2.1, s.2.2.1, (s.2.2.2.1 ||| (1 <<< q9)) ||| (1 <<< q26), s.2.2.2.2.1, s.2.2.2.2.2)))))))] [.int (nI ((s.2.2.2.1 ||| (1 <<< q9)) ||| (1 <<< q26)))]
            refine sg_ifN_eq (pc := 72) (a := (s.2.2.2.1 ||| (1 <<< q9)) ||| (1 <<< q26)) 79 hC dX4_readLetters_72 (by decide) (by first | omega | decide | exact Nat.lt_of_le_of_lt jshr (by omega) | exact Nat.lt_of_le_of_lt jand1 (by decide)) (fun h42 => ?_) (fun h42 => ?_)
            · refine sg_iconst (pc := 79) (nI 0) hC dX4_readLetters_79 (by decide) ?_
              have e9 : k_readLetters tx s = (false, ((s.1 + 1) + 1, s.2.1, s.2.2.1, (s.2.2.2.1 ||| (1 <<< q9)) ||| (1 <<< q26), s.2.2.2.2.1, s.2.2.2.2.2)) := by rw [k_readLetters]; simp only [hq10, if_neg h15, hq27, if_neg h32, h41, if_pos h42]
              rw [e9] at hk
              exact sg_zreturn (st := []) (v := md_b false) (pc := 80) (ty := .boolean) hC hR (md_narb _) dX4_readLetters_80 (hk M34 hI)
            · refine sg_iconst (pc := 75) (nI 1) hC dX4_readLetters_75 (by decide) ?_
              refine sg_goto (pc := 76) 80 hC dX4_readLetters_76 (by decide) ?_
              have e9 : k_readLetters tx s = (true, ((s.1 + 1) + 1, s.2.1, s.2.2.1, (s.2.2.2.1 ||| (1 <<< q9)) ||| (1 <<< q26), s.2.2.2.2.1, s.2.2.2.2.2)) := by rw [k_readLetters]; simp only [hq10, if_neg h15, hq27, if_neg h32, h41, if_neg h42]
              rw [e9] at hk
              exact sg_zreturn (st := []) (v := md_b true) (pc := 80) (ty := .boolean) hC hR (md_narb _) dX4_readLetters_80 (hk M34 hI)
          · obtain ⟨q43, hq44⟩ := md_os h41
            rw [hq44]
            show sg_W X M34 0 0 25 [some (.ref x), some (.int (nI 2)), some (.int (nI q43))] []
            have hq45 := jl_lt hq44
            have hq46 := jshl4 (q := q43) (by omega)
            have hq47 := jor (p := (s.2.2.2.1 ||| (1 <<< q9)) ||| (1 <<< q26)) (q := q43) (by omega) (by omega)
            have hn48 := k_next_in (tx := tx) (s := ((s.1 + 1) + 1, s.2.1, s.2.2.1, (s.2.2.2.1 ||| (1 <<< q9)) ||| (1 <<< q26), s.2.2.2.2.1, s.2.2.2.2.2)) (by intro h9; rw [show jl (((k_next tx (((s.1 + 1) + 1, s.2.1, s.2.2.1, (s.2.2.2.1 ||| (1 <<< q9)) ||| (1 <<< q26), s.2.2.2.2.1, s.2.2.2.2.2))))) = none from by rw [h9]; decide] at hq44; cases hq44)
            refine sg_aload_n (pc := 25) (v := .ref x) hC dX4_readLetters_25 rfl rfl ?_
            refine rd_get (pc := 26) (i := 5) hC (by decide) tw_555 dX4_readLetters_26 hI rfl ?_
            show sg_W X M34 0 0 29 [some (.ref x), some (.int (nI 2)), some (.int (nI q43))] [.int (nI ((s.2.2.2.1 ||| (1 <<< q9)) ||| (1 <<< q26)))]
            refine sg_iload_n (pc := 29) (x := nI q43) hC dX4_readLetters_29 rfl ?_
            refine sg_ishrN (pc := 30) (a := (s.2.2.2.1 ||| (1 <<< q9)) ||| (1 <<< q26)) (b := q43) hC dX4_readLetters_30 (by first | omega | decide | exact Nat.lt_of_le_of_lt jshr (by omega) | exact Nat.lt_of_le_of_lt jand1 (by decide)) (by first | omega | exact Nat.lt_of_lt_of_le (jshl4 (by omega)) (by decide)) ?_
            refine sg_iconst (pc := 31) (nI 1) hC dX4_readLetters_31 (by decide) ?_
            refine sg_iandN (pc := 32) (a := ((s.2.2.2.1 ||| (1 <<< q9)) ||| (1 <<< q26)) >>> q43) (b := 1) hC dX4_readLetters_32 ?_
            refine sg_iconst (pc := 33) (nI 1) hC dX4_readLetters_33 (by decide) ?_
            refine sg_icmpN_ne (pc := 34) (a := (((s.2.2.2.1 ||| (1 <<< q9)) ||| (1 <<< q26)) >>> q43) &&& 1) (b := 1) 40 hC dX4_readLetters_34 (by decide) (by first | omega | decide | exact Nat.lt_of_le_of_lt jshr (by omega) | exact Nat.lt_of_le_of_lt jand1 (by decide)) (by first | omega | decide | exact Nat.lt_of_le_of_lt jshr (by omega) | exact Nat.lt_of_le_of_lt jand1 (by decide)) (fun h49 => ?_) (fun h49 => ?_)
            · refine sg_aload_n (pc := 40) (v := .ref x) hC dX4_readLetters_40 rfl rfl ?_
              refine sg_dup (pc := 41) hC dX4_readLetters_41 rfl ?_
              refine rd_get (pc := 42) (i := 5) hC (by decide) tw_555 dX4_readLetters_42 hI rfl ?_
              show sg_W X M34 0 0 45 [some (.ref x), some (.int (nI 2)), some (.int (nI q43))] [.int (nI ((s.2.2.2.1 ||| (1 <<< q9)) ||| (1 <<< q26))), .ref x]
              refine sg_iconst (pc := 45) (nI 1) hC dX4_readLetters_45 (by decide) ?_
              refine sg_iload_n (pc := 46) (x := nI q43) hC dX4_readLetters_46 rfl ?_
              refine sg_ishlN (pc := 47) (a := 1) (b := q43) hC dX4_readLetters_47 (by first | omega | decide | exact Nat.lt_of_le_of_lt jshr (by omega) | exact Nat.lt_of_le_of_lt jand1 (by decide)) (by first | omega | exact Nat.lt_of_lt_of_le (jshl4 (by omega)) (by decide)) ?_
              refine sg_iorN (pc := 48) (a := (s.2.2.2.1 ||| (1 <<< q9)) ||| (1 <<< q26)) (b := 1 <<< q43) hC dX4_readLetters_48 ?_
              refine rd_put5 (pc := 49) (v := ((s.2.2.2.1 ||| (1 <<< q9)) ||| (1 <<< q26)) ||| (1 <<< q43)) hC tw_555 dX4_readLetters_49 hI (fun M50 hI => ?_)
              have hI : rd_I G M0 M50 x ta b kd tx (((s.1 + 1) + 1, s.2.1, s.2.2.1, ((s.2.2.2.1 ||| (1 <<< q9)) ||| (1 <<< q26)) ||| (1 <<< q43), s.2.2.2.2.1, s.2.2.2.2.2)) := hI
              show sg_W X M50 0 0 52 [some (.ref x), some (.int (nI 2)), some (.int (nI q43))] []
              refine sg_aload_n (pc := 52) (v := .ref x) hC dX4_readLetters_52 rfl rfl ?_
              refine sg_dup (pc := 53) hC dX4_readLetters_53 rfl ?_
              refine rd_get (pc := 54) (i := 1) hC (by decide) tw_551 dX4_readLetters_54 hI rfl ?_
              show sg_W X M50 0 0 57 [some (.ref x), some (.int (nI 2)), some (.int (nI q43))] [.int (nI ((s.1 + 1) + 1)), .ref x]
              refine sg_iconst (pc := 57) (nI 1) hC dX4_readLetters_57 (by decide) ?_
              refine sg_iaddN (pc := 58) (a := (s.1 + 1) + 1) (b := 1) hC dX4_readLetters_58 ?_
              refine rd_put1 (pc := 59) (v := ((s.1 + 1) + 1) + 1) hC tw_551 dX4_readLetters_59 hI (by omega) (fun M51 hI => ?_)
              have hI : rd_I G M0 M51 x ta b kd tx ((((s.1 + 1) + 1) + 1, s.2.1, s.2.2.1, ((s.2.2.2.1 ||| (1 <<< q9)) ||| (1 <<< q26)) ||| (1 <<< q43), s.2.2.2.2.1, s.2.2.2.2.2)) := hI
              show sg_W X M51 0 0 62 [some (.ref x), some (.int (nI 2)), some (.int (nI q43))] []
              refine sg_iincN (pc := 62) (a := 2) (b := 3) hC dX4_readLetters_62 rfl (nI_1 _) (by decide) ?_
              show sg_W X M51 0 0 65 [some (.ref x), some (.int (nI 3)), some (.int (nI q43))] []
              refine sg_goto (pc := 65) 2 hC dX4_readLetters_65 (by decide) ?_
              refine sg_iload_n (pc := 2) (x := nI 3) hC dX4_readLetters_2 rfl ?_
              refine sg_ldc_rwxd (pc := 3) hC dX4_readLetters_3 ?_
              obtain ⟨_, _, _, _, hx53, -⟩ := id hI.hl
              refine sg_callV (pc := 5) (As := []) (rest := [.int (nI 3)]) (mc := 0) (ms := 0) hC tw_610 tw_482 tw_483 tw_65 tw_484 yd_J0_length_8abf5 (by decide) (ci := 0) rfl dX4_readLetters_5 hx53 rfl (Nat.le_of_ble_eq_true rfl) (by first | omega | decide | exact Nat.lt_of_le_of_lt jshr (by omega) | exact Nat.lt_of_le_of_lt jand1 (by decide)) (by first | omega | decide | exact Nat.lt_of_le_of_lt jshr (by omega) | exact Nat.lt_of_le_of_lt jand1 (by decide)) ?_
              refine c_slen htr hI.hl ?_
              show sg_W X M51 0 0 8 [some (.ref x), some (.int (nI 3)), some (.int (nI q43))] [.int (nI 4), .int (nI 3)]
              refine sg_icmpN_ge (pc := 8) (a := 3) (b := 4) 68 hC dX4_readLetters_8 (by decide) (by decide) (by decide) (fun h54 => absurd h54 (by decide)) (fun _ => ?_)
              refine sg_ldc_rwxd (pc := 11) hC dX4_readLetters_11 ?_
              refine sg_aload_n (pc := 13) (v := .ref x) hC dX4_readLetters_13 rfl rfl ?_
              refine sg_callV (pc := 14) (As := []) (rest := [.ref (G.2.2.2 1)]) (mc := 0) (ms := 0) hC tw_606 tw_608 tw_2 tw_83 tw_609 yd_X4_next (by decide) (ci := 7) rfl dX4_readLetters_14 hI.hx rfl (Nat.le_of_ble_eq_true rfl) (by first | omega | decide | exact Nat.lt_of_le_of_lt jshr (by omega) | exact Nat.lt_of_le_of_lt jand1 (by decide)) (by first | omega | decide | exact Nat.lt_of_le_of_lt jshr (by omega) | exact Nat.lt_of_le_of_lt jand1 (by decide)) ?_
              refine c_next htr hI   ?_
              have hc55 := k_next_lt (s := (((s.1 + 1) + 1) + 1, s.2.1, s.2.2.1, ((s.2.2.2.1 ||| (1 <<< q9)) ||| (1 <<< q26)) ||| (1 <<< q43), s.2.2.2.2.1, s.2.2.2.2.2)) hcs
              show sg_W X M51 0 0 17 [some (.ref x), some (.int (nI 3)), some (.int (nI q43))] [.int (nI ((k_next tx ((((s.1 + 1) + 1) + 1, s.2.1, s.2.2.1, ((s.2.2.2.1 ||| (1 <<< q9)) ||| (1 <<< q26)) ||| (1 <<< q43), s.2.2.2.2.1, s.2.2.2.2.2))))), .ref (G.2.2.2 1)]
              obtain ⟨_, _, _, _, hx57, -⟩ := id hI.hl
              refine sg_callV (pc := 17) (As := [.int (nI ((k_next tx ((((s.1 + 1) + 1) + 1, s.2.1, s.2.2.1, ((s.2.2.2.1 ||| (1 <<< q9)) ||| (1 <<< q26)) ||| (1 <<< q43), s.2.2.2.2.1, s.2.2.2.2.2)))))]) (rest := []) (mc := 0) (ms := 0) hC tw_648 tw_649 tw_650 tw_65 tw_651 yd_J0_indexOf_0f7a4 (by decide) (ci := 0) rfl dX4_readLetters_17 hx57 rfl (Nat.le_of_ble_eq_true rfl) (by first | omega | decide | exact Nat.lt_of_le_of_lt jshr (by omega) | exact Nat.lt_of_le_of_lt jand1 (by decide)) (by first | omega | decide | exact Nat.lt_of_le_of_lt jshr (by omega) | exact Nat.lt_of_le_of_lt jand1 (by decide)) ?_
              refine c_indexOf htr hI.hl (by first | omega | decide | exact Nat.lt_of_le_of_lt jshr (by omega) | exact Nat.lt_of_le_of_lt jand1 (by decide)) ?_
              show sg_W X M51 0 0 20 [some (.ref x), some (.int (nI 3)), some (.int (nI q43))] [.int (md_o (jl ((k_next tx ((((s.1 + 1) + 1) + 1, s.2.1, s.2.2.1, ((s.2.2.2.1 ||| (1 <<< q9)) ||| (1 <<< q26)) ||| (1 <<< q43), s.2.2.2.2.1, s.2.2.2.2.2))))))]
              refine sg_istore_n (pc := 20) (x := md_o (jl ((k_next tx ((((s.1 + 1) + 1) + 1, s.2.1, s.2.2.1, ((s.2.2.2.1 ||| (1 <<< q9)) ||| (1 <<< q26)) ||| (1 <<< q43), s.2.2.2.2.1, s.2.2.2.2.2)))))) hC dX4_readLetters_20 (by decide) ?_
              show sg_W X M51 0 0 21 [some (.ref x), some (.int (nI 3)), some (.int (md_o (jl ((k_next tx ((((s.1 + 1) + 1) + 1, s.2.1, s.2.2.1, ((s.2.2.2.1 ||| (1 <<< q9)) ||| (1 <<< q26)) ||| (1 <<< q43), s.2.2.2.2.1, s.2.2.2.2.2)))))))] []
              refine sg_iload_n (pc := 21) (x := md_o (jl ((k_next tx ((((s.1 + 1) + 1) + 1, s.2.1, s.2.2.1, ((s.2.2.2.1 ||| (1 <<< q9)) ||| (1 <<< q26)) ||| (1 <<< q43), s.2.2.2.2.1, s.2.2.2.2.2)))))) hC dX4_readLetters_21 rfl ?_
              refine sg_ifO_lt (pc := 22) (r := jl ((k_next tx ((((s.1 + 1) + 1) + 1, s.2.1, s.2.2.1, ((s.2.2.2.1 ||| (1 <<< q9)) ||| (1 <<< q26)) ||| (1 <<< q43), s.2.2.2.2.1, s.2.2.2.2.2))))) 68 hC dX4_readLetters_22 (by decide) (fun k9 hk9 => by have := jl_lt hk9; omega) (fun h58 => ?_) (fun h58 => ?_)
              · refine sg_aload_n (pc := 68) (v := .ref x) hC dX4_readLetters_68 rfl rfl ?_
                refine rd_get (pc := 69) (i := 5) hC (by decide) tw_555 dX4_readLetters_69 hI rfl ?_
                show sg_W X M51 0 0 72 [some (.ref x), some (.int (nI 3)), some (.int (md_o (jl ((k_next tx ((((s.1 + 1) + 1) + 1, s.2.1, s.2.2.1, ((s.2.2.2.1 ||| (1 <<< q9)) ||| (1 <<< q26)) ||| (1 <<< q43), s.2.2.2.2.1, s.2.2.2.2.2)))))))] [.int (nI (((s.2.2.2.1 ||| (1 <<< q9)) ||| (1 <<< q26)) ||| (1 <<< q43)))]
                refine sg_ifN_eq (pc := 72) (a := ((s.2.2.2.1 ||| (1 <<< q9)) ||| (1 <<< q26)) ||| (1 <<< q43)) 79 hC dX4_readLetters_72 (by decide) (by first | omega | decide | exact Nat.lt_of_le_of_lt jshr (by omega) | exact Nat.lt_of_le_of_lt jand1 (by decide)) (fun h59 => ?_) (fun h59 => ?_)
                · refine sg_iconst (pc := 79) (nI 0) hC dX4_readLetters_79 (by decide) ?_
                  have e9 : k_readLetters tx s = (false, (((s.1 + 1) + 1) + 1, s.2.1, s.2.2.1, ((s.2.2.2.1 ||| (1 <<< q9)) ||| (1 <<< q26)) ||| (1 <<< q43), s.2.2.2.2.1, s.2.2.2.2.2)) := by rw [k_readLetters]; simp only [hq10, if_neg h15, hq27, if_neg h32, hq44, if_neg h49, h58, if_pos h59]
                  rw [e9] at hk
                  exact sg_zreturn (st := []) (v := md_b false) (pc := 80) (ty := .boolean) hC hR (md_narb _) dX4_readLetters_80 (hk M51 hI)
                · refine sg_iconst (pc := 75) (nI 1) hC dX4_readLetters_75 (by decide) ?_
                  refine sg_goto (pc := 76) 80 hC dX4_readLetters_76 (by decide) ?_
                  have e9 : k_readLetters tx s = (true, (((s.1 + 1) + 1) + 1, s.2.1, s.2.2.1, ((s.2.2.2.1 ||| (1 <<< q9)) ||| (1 <<< q26)) ||| (1 <<< q43), s.2.2.2.2.1, s.2.2.2.2.2)) := by rw [k_readLetters]; simp only [hq10, if_neg h15, hq27, if_neg h32, hq44, if_neg h49, h58, if_neg h59]
                  rw [e9] at hk
                  exact sg_zreturn (st := []) (v := md_b true) (pc := 80) (ty := .boolean) hC hR (md_narb _) dX4_readLetters_80 (hk M51 hI)
              · obtain ⟨q60, hq61⟩ := md_os h58
                rw [hq61]
                show sg_W X M51 0 0 25 [some (.ref x), some (.int (nI 3)), some (.int (nI q60))] []
                have hq62 := jl_lt hq61
                have hq63 := jshl4 (q := q60) (by omega)
                have hq64 := jor (p := ((s.2.2.2.1 ||| (1 <<< q9)) ||| (1 <<< q26)) ||| (1 <<< q43)) (q := q60) (by omega) (by omega)
                have hn65 := k_next_in (tx := tx) (s := (((s.1 + 1) + 1) + 1, s.2.1, s.2.2.1, ((s.2.2.2.1 ||| (1 <<< q9)) ||| (1 <<< q26)) ||| (1 <<< q43), s.2.2.2.2.1, s.2.2.2.2.2)) (by intro h9; rw [show jl (((k_next tx ((((s.1 + 1) + 1) + 1, s.2.1, s.2.2.1, ((s.2.2.2.1 ||| (1 <<< q9)) ||| (1 <<< q26)) ||| (1 <<< q43), s.2.2.2.2.1, s.2.2.2.2.2))))) = none from by rw [h9]; decide] at hq61; cases hq61)
                refine sg_aload_n (pc := 25) (v := .ref x) hC dX4_readLetters_25 rfl rfl ?_
                refine rd_get (pc := 26) (i := 5) hC (by decide) tw_555 dX4_readLetters_26 hI rfl ?_
                show sg_W X M51 0 0 29 [some (.ref x), some (.int (nI 3)), some (.int (nI q60))] [.int (nI (((s.2.2.2.1 ||| (1 <<< q9)) ||| (1 <<< q26)) ||| (1 <<< q43)))]
                refine sg_iload_n (pc := 29) (x := nI q60) hC dX4_readLetters_29 rfl ?_
                refine sg_ishrN (pc := 30) (a := ((s.2.2.2.1 ||| (1 <<< q9)) ||| (1 <<< q26)) ||| (1 <<< q43)) (b := q60) hC dX4_readLetters_30 (by first | omega | decide | exact Nat.lt_of_le_of_lt jshr (by omega) | exact Nat.lt_of_le_of_lt jand1 (by decide)) (by first | omega | exact Nat.lt_of_lt_of_le (jshl4 (by omega)) (by decide)) ?_
                refine sg_iconst (pc := 31) (nI 1) hC dX4_readLetters_31 (by decide) ?_
                refine sg_iandN (pc := 32) (a := (((s.2.2.2.1 ||| (1 <<< q9)) ||| (1 <<< q26)) ||| (1 <<< q43)) >>> q60) (b := 1) hC dX4_readLetters_32 ?_
                refine sg_iconst (pc := 33) (nI 1) hC dX4_readLetters_33 (by decide) ?_
                refine sg_icmpN_ne (pc := 34) (a := ((((s.2.2.2.1 ||| (1 <<< q9)) ||| (1 <<< q26)) ||| (1 <<< q43)) >>> q60) &&& 1) (b := 1) 40 hC dX4_readLetters_34 (by decide) (by first | omega | decide | exact Nat.lt_of_le_of_lt jshr (by omega) | exact Nat.lt_of_le_of_lt jand1 (by decide)) (by first | omega | decide | exact Nat.lt_of_le_of_lt jshr (by omega) | exact Nat.lt_of_le_of_lt jand1 (by decide)) (fun h66 => ?_) (fun h66 => ?_)
                · refine sg_aload_n (pc := 40) (v := .ref x) hC dX4_readLetters_40 rfl rfl ?_
                  refine sg_dup (pc := 41) hC dX4_readLetters_41 rfl ?_
                  refine rd_get (pc := 42) (i := 5) hC (by decide) tw_555 dX4_readLetters_42 hI rfl ?_
                  show sg_W X M51 0 0 45 [some (.ref x), some (.int (nI 3)), some (.int (nI q60))] [.int (nI (((s.2.2.2.1 ||| (1 <<< q9)) ||| (1 <<< q26)) ||| (1 <<< q43))), .ref x]
                  refine sg_iconst (pc := 45) (nI 1) hC dX4_readLetters_45 (by decide) ?_
                  refine sg_iload_n (pc := 46) (x := nI q60) hC dX4_readLetters_46 rfl ?_
                  refine sg_ishlN (pc := 47) (a := 1) (b := q60) hC dX4_readLetters_47 (by first | omega | decide | exact Nat.lt_of_le_of_lt jshr (by omega) | exact Nat.lt_of_le_of_lt jand1 (by decide)) (by first | omega | exact Nat.lt_of_lt_of_le (jshl4 (by omega)) (by decide)) ?_
                  refine sg_iorN (pc := 48) (a := ((s.2.2.2.1 ||| (1 <<< q9)) ||| (1 <<< q26)) ||| (1 <<< q43)) (b := 1 <<< q60) hC dX4_readLetters_48 ?_
                  refine rd_put5 (pc := 49) (v := (((s.2.2.2.1 ||| (1 <<< q9)) ||| (1 <<< q26)) ||| (1 <<< q43)) ||| (1 <<< q60)) hC tw_555 dX4_readLetters_49 hI (fun M67 hI => ?_)
                  have hI : rd_I G M0 M67 x ta b kd tx ((((s.1 + 1) + 1) + 1, s.2.1, s.2.2.1, (((s.2.2.2.1 ||| (1 <<< q9)) ||| (1 <<< q26)) ||| (1 <<< q43)) ||| (1 <<< q60), s.2.2.2.2.1, s.2.2.2.2.2)) := hI
                  show sg_W X M67 0 0 52 [some (.ref x), some (.int (nI 3)), some (.int (nI q60))] []
                  refine sg_aload_n (pc := 52) (v := .ref x) hC dX4_readLetters_52 rfl rfl ?_
                  refine sg_dup (pc := 53) hC dX4_readLetters_53 rfl ?_
                  refine rd_get (pc := 54) (i := 1) hC (by decide) tw_551 dX4_readLetters_54 hI rfl ?_
                  show sg_W X M67 0 0 57 [some (.ref x), some (.int (nI 3)), some (.int (nI q60))] [.int (nI (((s.1 + 1) + 1) + 1)), .ref x]
                  refine sg_iconst (pc := 57) (nI 1) hC dX4_readLetters_57 (by decide) ?_
                  refine sg_iaddN (pc := 58) (a := ((s.1 + 1) + 1) + 1) (b := 1) hC dX4_readLetters_58 ?_
                  refine rd_put1 (pc := 59) (v := (((s.1 + 1) + 1) + 1) + 1) hC tw_551 dX4_readLetters_59 hI (by omega) (fun M68 hI => ?_)
                  have hI : rd_I G M0 M68 x ta b kd tx (((((s.1 + 1) + 1) + 1) + 1, s.2.1, s.2.2.1, (((s.2.2.2.1 ||| (1 <<< q9)) ||| (1 <<< q26)) ||| (1 <<< q43)) ||| (1 <<< q60), s.2.2.2.2.1, s.2.2.2.2.2)) := hI
                  show sg_W X M68 0 0 62 [some (.ref x), some (.int (nI 3)), some (.int (nI q60))] []
                  refine sg_iincN (pc := 62) (a := 3) (b := 4) hC dX4_readLetters_62 rfl (nI_1 _) (by decide) ?_
                  show sg_W X M68 0 0 65 [some (.ref x), some (.int (nI 4)), some (.int (nI q60))] []
                  refine sg_goto (pc := 65) 2 hC dX4_readLetters_65 (by decide) ?_
                  refine sg_iload_n (pc := 2) (x := nI 4) hC dX4_readLetters_2 rfl ?_
                  refine sg_ldc_rwxd (pc := 3) hC dX4_readLetters_3 ?_
                  obtain ⟨_, _, _, _, hx70, -⟩ := id hI.hl
                  refine sg_callV (pc := 5) (As := []) (rest := [.int (nI 4)]) (mc := 0) (ms := 0) hC tw_610 tw_482 tw_483 tw_65 tw_484 yd_J0_length_8abf5 (by decide) (ci := 0) rfl dX4_readLetters_5 hx70 rfl (Nat.le_of_ble_eq_true rfl) (by first | omega | decide | exact Nat.lt_of_le_of_lt jshr (by omega) | exact Nat.lt_of_le_of_lt jand1 (by decide)) (by first | omega | decide | exact Nat.lt_of_le_of_lt jshr (by omega) | exact Nat.lt_of_le_of_lt jand1 (by decide)) ?_
                  refine c_slen htr hI.hl ?_
                  show sg_W X M68 0 0 8 [some (.ref x), some (.int (nI 4)), some (.int (nI q60))] [.int (nI 4), .int (nI 4)]
                  refine sg_icmpN_ge (pc := 8) (a := 4) (b := 4) 68 hC dX4_readLetters_8 (by decide) (by decide) (by decide) (fun _ => ?_) (fun h71 => absurd h71 (by decide))
                  refine sg_aload_n (pc := 68) (v := .ref x) hC dX4_readLetters_68 rfl rfl ?_
                  refine rd_get (pc := 69) (i := 5) hC (by decide) tw_555 dX4_readLetters_69 hI rfl ?_
                  show sg_W X M68 0 0 72 [some (.ref x), some (.int (nI 4)), some (.int (nI q60))] [.int (nI ((((s.2.2.2.1 ||| (1 <<< q9)) ||| (1 <<< q26)) ||| (1 <<< q43)) ||| (1 <<< q60)))]
                  refine sg_ifN_eq (pc := 72) (a := (((s.2.2.2.1 ||| (1 <<< q9)) ||| (1 <<< q26)) ||| (1 <<< q43)) ||| (1 <<< q60)) 79 hC dX4_readLetters_72 (by decide) (by first | omega | decide | exact Nat.lt_of_le_of_lt jshr (by omega) | exact Nat.lt_of_le_of_lt jand1 (by decide)) (fun h72 => ?_) (fun h72 => ?_)
                  · refine sg_iconst (pc := 79) (nI 0) hC dX4_readLetters_79 (by decide) ?_
                    have e9 : k_readLetters tx s = (false, ((((s.1 + 1) + 1) + 1) + 1, s.2.1, s.2.2.1, (((s.2.2.2.1 ||| (1 <<< q9)) ||| (1 <<< q26)) ||| (1 <<< q43)) ||| (1 <<< q60), s.2.2.2.2.1, s.2.2.2.2.2)) := by rw [k_readLetters]; simp only [hq10, if_neg h15, hq27, if_neg h32, hq44, if_neg h49, hq61, if_neg h66, if_pos h72]
                    rw [e9] at hk
                    exact sg_zreturn (st := []) (v := md_b false) (pc := 80) (ty := .boolean) hC hR (md_narb _) dX4_readLetters_80 (hk M68 hI)
                  · refine sg_iconst (pc := 75) (nI 1) hC dX4_readLetters_75 (by decide) ?_
                    refine sg_goto (pc := 76) 80 hC dX4_readLetters_76 (by decide) ?_
                    have e9 : k_readLetters tx s = (true, ((((s.1 + 1) + 1) + 1) + 1, s.2.1, s.2.2.1, (((s.2.2.2.1 ||| (1 <<< q9)) ||| (1 <<< q26)) ||| (1 <<< q43)) ||| (1 <<< q60), s.2.2.2.2.1, s.2.2.2.2.2)) := by rw [k_readLetters]; simp only [hq10, if_neg h15, hq27, if_neg h32, hq44, if_neg h49, hq61, if_neg h66, if_neg h72]
                    rw [e9] at hk
                    exact sg_zreturn (st := []) (v := md_b true) (pc := 80) (ty := .boolean) hC hR (md_narb _) dX4_readLetters_80 (hk M68 hI)
                · refine sg_goto (pc := 37) 68 hC dX4_readLetters_37 (by decide) ?_
                  refine sg_aload_n (pc := 68) (v := .ref x) hC dX4_readLetters_68 rfl rfl ?_
                  refine rd_get (pc := 69) (i := 5) hC (by decide) tw_555 dX4_readLetters_69 hI rfl ?_
                  show sg_W X M51 0 0 72 [some (.ref x), some (.int (nI 3)), some (.int (nI q60))] [.int (nI (((s.2.2.2.1 ||| (1 <<< q9)) ||| (1 <<< q26)) ||| (1 <<< q43)))]
                  refine sg_ifN_eq (pc := 72) (a := ((s.2.2.2.1 ||| (1 <<< q9)) ||| (1 <<< q26)) ||| (1 <<< q43)) 79 hC dX4_readLetters_72 (by decide) (by first | omega | decide | exact Nat.lt_of_le_of_lt jshr (by omega) | exact Nat.lt_of_le_of_lt jand1 (by decide)) (fun h73 => ?_) (fun h73 => ?_)
                  · refine sg_iconst (pc := 79) (nI 0) hC dX4_readLetters_79 (by decide) ?_
                    have e9 : k_readLetters tx s = (false, (((s.1 + 1) + 1) + 1, s.2.1, s.2.2.1, ((s.2.2.2.1 ||| (1 <<< q9)) ||| (1 <<< q26)) ||| (1 <<< q43), s.2.2.2.2.1, s.2.2.2.2.2)) := by rw [k_readLetters]; simp only [hq10, if_neg h15, hq27, if_neg h32, hq44, if_neg h49, hq61, if_pos h66, if_pos h73]
                    rw [e9] at hk
                    exact sg_zreturn (st := []) (v := md_b false) (pc := 80) (ty := .boolean) hC hR (md_narb _) dX4_readLetters_80 (hk M51 hI)
                  · refine sg_iconst (pc := 75) (nI 1) hC dX4_readLetters_75 (by decide) ?_
                    refine sg_goto (pc := 76) 80 hC dX4_readLetters_76 (by decide) ?_
                    have e9 : k_readLetters tx s = (true, (((s.1 + 1) + 1) + 1, s.2.1, s.2.2.1, ((s.2.2.2.1 ||| (1 <<< q9)) ||| (1 <<< q26)) ||| (1 <<< q43), s.2.2.2.2.1, s.2.2.2.2.2)) := by rw [k_readLetters]; simp only [hq10, if_neg h15, hq27, if_neg h32, hq44, if_neg h49, hq61, if_pos h66, if_neg h73]
                    rw [e9] at hk
                    exact sg_zreturn (st := []) (v := md_b true) (pc := 80) (ty := .boolean) hC hR (md_narb _) dX4_readLetters_80 (hk M51 hI)
            · refine sg_goto (pc := 37) 68 hC dX4_readLetters_37 (by decide) ?_
              refine sg_aload_n (pc := 68) (v := .ref x) hC dX4_readLetters_68 rfl rfl ?_
              refine rd_get (pc := 69) (i := 5) hC (by decide) tw_555 dX4_readLetters_69 hI rfl ?_
              show sg_W X M34 0 0 72 [some (.ref x), some (.int (nI 2)), some (.int (nI q43))] [.int (nI ((s.2.2.2.1 ||| (1 <<< q9)) ||| (1 <<< q26)))]
              refine sg_ifN_eq (pc := 72) (a := (s.2.2.2.1 ||| (1 <<< q9)) ||| (1 <<< q26)) 79 hC dX4_readLetters_72 (by decide) (by first | omega | decide | exact Nat.lt_of_le_of_lt jshr (by omega) | exact Nat.lt_of_le_of_lt jand1 (by decide)) (fun h74 => ?_) (fun h74 => ?_)
              · refine sg_iconst (pc := 79) (nI 0) hC dX4_readLetters_79 (by decide) ?_
                have e9 : k_readLetters tx s = (false, ((s.1 + 1) + 1, s.2.1, s.2.2.1, (s.2.2.2.1 ||| (1 <<< q9)) ||| (1 <<< q26), s.2.2.2.2.1, s.2.2.2.2.2)) := by rw [k_readLetters]; simp only [hq10, if_neg h15, hq27, if_neg h32, hq44, if_pos h49, if_pos h74]
                rw [e9] at hk
                exact sg_zreturn (st := []) (v := md_b false) (pc := 80) (ty := .boolean) hC hR (md_narb _) dX4_readLetters_80 (hk M34 hI)
              · refine sg_iconst (pc := 75) (nI 1) hC dX4_readLetters_75 (by decide) ?_
                refine sg_goto (pc := 76) 80 hC dX4_readLetters_76 (by decide) ?_
                have e9 : k_readLetters tx s = (true, ((s.1 + 1) + 1, s.2.1, s.2.2.1, (s.2.2.2.1 ||| (1 <<< q9)) ||| (1 <<< q26), s.2.2.2.2.1, s.2.2.2.2.2)) := by rw [k_readLetters]; simp only [hq10, if_neg h15, hq27, if_neg h32, hq44, if_pos h49, if_neg h74]
                rw [e9] at hk
                exact sg_zreturn (st := []) (v := md_b true) (pc := 80) (ty := .boolean) hC hR (md_narb _) dX4_readLetters_80 (hk M34 hI)
        · refine sg_goto (pc := 37) 68 hC dX4_readLetters_37 (by decide) ?_
          refine sg_aload_n (pc := 68) (v := .ref x) hC dX4_readLetters_68 rfl rfl ?_
          refine rd_get (pc := 69) (i := 5) hC (by decide) tw_555 dX4_readLetters_69 hI rfl ?_
          show sg_W X M17 0 0 72 [some (.ref x), some (.int (nI 1)), some (.int (nI q26))] [.int (nI (s.2.2.2.1 ||| (1 <<< q9)))]
          refine sg_ifN_eq (pc := 72) (a := s.2.2.2.1 ||| (1 <<< q9)) 79 hC dX4_readLetters_72 (by decide) (by first | omega | decide | exact Nat.lt_of_le_of_lt jshr (by omega) | exact Nat.lt_of_le_of_lt jand1 (by decide)) (fun h75 => ?_) (fun h75 => ?_)
          · refine sg_iconst (pc := 79) (nI 0) hC dX4_readLetters_79 (by decide) ?_
            have e9 : k_readLetters tx s = (false, (s.1 + 1, s.2.1, s.2.2.1, s.2.2.2.1 ||| (1 <<< q9), s.2.2.2.2.1, s.2.2.2.2.2)) := by rw [k_readLetters]; simp only [hq10, if_neg h15, hq27, if_pos h32, if_pos h75]
            rw [e9] at hk
            exact sg_zreturn (st := []) (v := md_b false) (pc := 80) (ty := .boolean) hC hR (md_narb _) dX4_readLetters_80 (hk M17 hI)
          · refine sg_iconst (pc := 75) (nI 1) hC dX4_readLetters_75 (by decide) ?_
            refine sg_goto (pc := 76) 80 hC dX4_readLetters_76 (by decide) ?_
            have e9 : k_readLetters tx s = (true, (s.1 + 1, s.2.1, s.2.2.1, s.2.2.2.1 ||| (1 <<< q9), s.2.2.2.2.1, s.2.2.2.2.2)) := by rw [k_readLetters]; simp only [hq10, if_neg h15, hq27, if_pos h32, if_neg h75]
            rw [e9] at hk
            exact sg_zreturn (st := []) (v := md_b true) (pc := 80) (ty := .boolean) hC hR (md_narb _) dX4_readLetters_80 (hk M17 hI)
    · refine sg_goto (pc := 37) 68 hC dX4_readLetters_37 (by decide) ?_
      refine sg_aload_n (pc := 68) (v := .ref x) hC dX4_readLetters_68 rfl rfl ?_
      refine rd_get (pc := 69) (i := 5) hC (by decide) tw_555 dX4_readLetters_69 hI rfl ?_
      show sg_W X M 0 0 72 [some (.ref x), some (.int (nI 0)), some (.int (nI q9))] [.int (nI s.2.2.2.1)]
      refine sg_ifN_eq (pc := 72) (a := s.2.2.2.1) 79 hC dX4_readLetters_72 (by decide) (by first | omega | decide | exact Nat.lt_of_le_of_lt jshr (by omega) | exact Nat.lt_of_le_of_lt jand1 (by decide)) (fun h76 => ?_) (fun h76 => ?_)
      · refine sg_iconst (pc := 79) (nI 0) hC dX4_readLetters_79 (by decide) ?_
        have e9 : k_readLetters tx s = (false, s) := by rw [k_readLetters]; simp only [hq10, if_pos h15, if_pos h76]
        rw [e9] at hk
        exact sg_zreturn (st := []) (v := md_b false) (pc := 80) (ty := .boolean) hC hR (md_narb _) dX4_readLetters_80 (hk M hI)
      · refine sg_iconst (pc := 75) (nI 1) hC dX4_readLetters_75 (by decide) ?_
        refine sg_goto (pc := 76) 80 hC dX4_readLetters_76 (by decide) ?_
        have e9 : k_readLetters tx s = (true, s) := by rw [k_readLetters]; simp only [hq10, if_pos h15, if_neg h76]
        rw [e9] at hk
        exact sg_zreturn (st := []) (v := md_b true) (pc := 80) (ty := .boolean) hC hR (md_narb _) dX4_readLetters_80 (hk M hI)

def k_readRange (tx : List Nat) (s : RS)  : Bool × RS := if (k_accept tx ((k_readDigit tx s 0).2) 45).1 = true then (match (k_readDigit tx s 0).1 with | none => (match (k_readDigit tx ((k_accept tx ((k_readDigit tx s 0).2) 45).2) (((k_readDigit tx s 0).1).getD 0)).1 with | none => (false, (k_readDigit tx ((k_accept tx ((k_readDigit tx s 0).2) 45).2) (((k_readDigit tx s 0).1).getD 0)).2) | some v17 => (true, (((k_readDigit tx ((k_accept tx ((k_readDigit tx s 0).2) 45).2) (((k_readDigit tx s 0).1).getD 0)).2).1, ((k_readDigit tx ((k_accept tx ((k_readDigit tx s 0).2) 45).2) (((k_readDigit tx s 0).1).getD 0)).2).2.1, ((k_readDigit tx ((k_accept tx ((k_readDigit tx s 0).2) 45).2) (((k_readDigit tx s 0).1).getD 0)).2).2.2.1, (2 <<< v17) - 1, 0, v17))) | some v15 => (match (k_readDigit tx ((k_accept tx ((k_readDigit tx s 0).2) 45).2) (((k_readDigit tx s 0).1).getD 0)).1 with | none => (true, (((k_readDigit tx ((k_accept tx ((k_readDigit tx s 0).2) 45).2) (((k_readDigit tx s 0).1).getD 0)).2).1, ((k_readDigit tx ((k_accept tx ((k_readDigit tx s 0).2) 45).2) (((k_readDigit tx s 0).1).getD 0)).2).2.1, ((k_readDigit tx ((k_accept tx ((k_readDigit tx s 0).2) 45).2) (((k_readDigit tx s 0).1).getD 0)).2).2.2.1, 1024 - (1 <<< v15), v15, 9)) | some v24 => (true, (((k_readDigit tx ((k_accept tx ((k_readDigit tx s 0).2) 45).2) (((k_readDigit tx s 0).1).getD 0)).2).1, ((k_readDigit tx ((k_accept tx ((k_readDigit tx s 0).2) 45).2) (((k_readDigit tx s 0).1).getD 0)).2).2.1, ((k_readDigit tx ((k_accept tx ((k_readDigit tx s 0).2) 45).2) (((k_readDigit tx s 0).1).getD 0)).2).2.2.1, (2 <<< v24) - (1 <<< v15), v15, v24)))) else (match (k_readDigit tx s 0).1 with | none => (false, (k_accept tx ((k_readDigit tx s 0).2) 45).2) | some v7 => (true, (((k_accept tx ((k_readDigit tx s 0).2) 45).2).1, ((k_accept tx ((k_readDigit tx s 0).2) 45).2).2.1, ((k_accept tx ((k_readDigit tx s 0).2) 45).2).2.2.1, (2 <<< v7) - (1 <<< v7), v7, v7)))
set_option maxHeartbeats 1000000 in
set_option maxRecDepth 100000 in
theorem c_readRange {l : Launch} {G : sg_G} {d : Nat} {M0 M : sg_M} {kr : Option Value → sg_M → Prop} {kx : String → sg_M → Prop} {x ta b kd : Nat} {tx : List Nat} {s : RS} (htr : l.stackTraces = false) (hI : rd_I G M0 M x ta b kd tx s)   (hk : ∀ M', rd_I G M0 M' x ta b kd tx (k_readRange tx s).2 → kr (some (.int (md_b (k_readRange tx s).1))) M') : sg_Met l G yX4_readRange cX4_readRange 3 (some .boolean) (d + 6) 0 0 [.ref x] M kr kx := by
  refine sg_enter [some (.ref x), none, none] (by decide) htr (Nat.le_of_ble_eq_true rfl) rfl ?_
  intro X hC hR
  have hC : sg_C X l G cX4_readRange RX4 3 (d + 6) := hC
  have hn1 := hI.hn.1
  have hn2 := hI.hn.2
  have hcs := hI.hc
  refine sg_aload_n (pc := 0) (v := .ref x) hC dX4_readRange_0 rfl rfl ?_
  refine sg_iconst (pc := 1) (nI 0) hC dX4_readRange_1 (by decide) ?_
  refine sg_callV (pc := 2) (As := [.int (nI 0)]) (rest := []) (mc := 0) (ms := 0) hC tw_736 tw_738 tw_11 tw_83 tw_739 yd_X4_readDigit (by decide) (ci := 7) rfl dX4_readRange_2 hI.hx rfl (Nat.le_of_ble_eq_true rfl) (by first | omega | decide | exact jsh (by omega) (by omega) | exact jsh (lo := 0) (by omega) (by omega) | exact Nat.le_trans (jsh1 (by omega)) (by decide) | exact Nat.lt_of_le_of_lt (jsh2 (by omega)) (by decide) | exact Nat.lt_of_le_of_lt (jsh1 (by omega)) (by decide)) (by first | omega | decide | exact jsh (by omega) (by omega) | exact jsh (lo := 0) (by omega) (by omega) | exact Nat.le_trans (jsh1 (by omega)) (by decide) | exact Nat.lt_of_le_of_lt (jsh2 (by omega)) (by decide) | exact Nat.lt_of_le_of_lt (jsh1 (by omega)) (by decide)) ?_
  refine c_readDigit htr hI 0 (by first | omega | decide | exact jsh (by omega) (by omega) | exact jsh (lo := 0) (by omega) (by omega) | exact Nat.le_trans (jsh1 (by omega)) (by decide) | exact Nat.lt_of_le_of_lt (jsh2 (by omega)) (by decide) | exact Nat.lt_of_le_of_lt (jsh1 (by omega)) (by decide)) (fun M1 hI => ?_)
  have hI : rd_I G M0 M1 x ta b kd tx ((k_readDigit tx s 0).2) := hI
  show sg_W X M1 0 0 5 [some (.ref x), none, none] [.int (md_o ((k_readDigit tx s 0).1))]
  refine sg_istore_n (pc := 5) (x := md_o ((k_readDigit tx s 0).1)) hC dX4_readRange_5 (by decide) ?_
  show sg_W X M1 0 0 6 [some (.ref x), some (.int (md_o ((k_readDigit tx s 0).1))), none] []
  refine sg_aload_n (pc := 6) (v := .ref x) hC dX4_readRange_6 rfl rfl ?_
  refine sg_bipush (pc := 7) (nI 45) hC dX4_readRange_7 (by decide) ?_
  refine sg_callV (pc := 9) (As := [.int (nI 45)]) (rest := []) (mc := 0) (ms := 0) hC tw_626 tw_628 tw_3 tw_83 tw_629 yd_X4_accept (by decide) (ci := 7) rfl dX4_readRange_9 hI.hx rfl (Nat.le_of_ble_eq_true rfl) (by first | omega | decide | exact jsh (by omega) (by omega) | exact jsh (lo := 0) (by omega) (by omega) | exact Nat.le_trans (jsh1 (by omega)) (by decide) | exact Nat.lt_of_le_of_lt (jsh2 (by omega)) (by decide) | exact Nat.lt_of_le_of_lt (jsh1 (by omega)) (by decide)) (by first | omega | decide | exact jsh (by omega) (by omega) | exact jsh (lo := 0) (by omega) (by omega) | exact Nat.le_trans (jsh1 (by omega)) (by decide) | exact Nat.lt_of_le_of_lt (jsh2 (by omega)) (by decide) | exact Nat.lt_of_le_of_lt (jsh1 (by omega)) (by decide)) ?_
  refine c_accept htr hI 45 (by first | omega | decide | exact jsh (by omega) (by omega) | exact jsh (lo := 0) (by omega) (by omega) | exact Nat.le_trans (jsh1 (by omega)) (by decide) | exact Nat.lt_of_le_of_lt (jsh2 (by omega)) (by decide) | exact Nat.lt_of_le_of_lt (jsh1 (by omega)) (by decide)) (by first | omega | decide | exact jsh (by omega) (by omega) | exact jsh (lo := 0) (by omega) (by omega) | exact Nat.le_trans (jsh1 (by omega)) (by decide) | exact Nat.lt_of_le_of_lt (jsh2 (by omega)) (by decide) | exact Nat.lt_of_le_of_lt (jsh1 (by omega)) (by decide)) (fun M2 hI => ?_)
  have hI : rd_I G M0 M2 x ta b kd tx ((k_accept tx ((k_readDigit tx s 0).2) 45).2) := hI
  have hl3 : ((k_accept tx ((k_readDigit tx s 0).2) 45).2).2.1 = ((k_readDigit tx s 0).2).2.1 := congrArg Prod.fst (k_accept_b tx ((k_readDigit tx s 0).2) 45)
  have hl4 : ((k_accept tx ((k_readDigit tx s 0).2) 45).2).2.1.length = ((k_readDigit tx s 0).2).2.1.length := by rw [hl3]
  show sg_W X M2 0 0 12 [some (.ref x), some (.int (md_o ((k_readDigit tx s 0).1))), none] [.int (md_b ((k_accept tx ((k_readDigit tx s 0).2) 45).1))]
  refine sg_ifB_eq (pc := 12) (b := (k_accept tx ((k_readDigit tx s 0).2) 45).1) 27 hC dX4_readRange_12 (by decide) (fun h5 => ?_) (fun h5 => ?_)
  · refine sg_iload_n (pc := 27) (x := md_o ((k_readDigit tx s 0).1)) hC dX4_readRange_27 rfl ?_
    refine sg_istore_n (pc := 28) (x := md_o ((k_readDigit tx s 0).1)) hC dX4_readRange_28 (by decide) ?_
    show sg_W X M2 0 0 29 [some (.ref x), some (.int (md_o ((k_readDigit tx s 0).1))), some (.int (md_o ((k_readDigit tx s 0).1)))] []
    obtain h6 | ⟨v7, h6⟩ := jo_cases ((k_readDigit tx s 0).1)
    · rw [show md_o ((k_readDigit tx s 0).1) = ((-1)) from by rw [h6]; rfl]
      show sg_W X M2 0 0 29 [some (.ref x), some (.int ((-1))), some (.int ((-1)))] []
      refine sg_iload_n (pc := 29) (x := ((-1))) hC dX4_readRange_29 rfl ?_
      refine sg_iconst (pc := 30) (((-1))) hC dX4_readRange_30 (by decide) ?_
      refine sg_icmp_ne (pc := 31) (x := -1) (y := -1) 41 hC dX4_readRange_31 (by decide) (fun h9 => absurd rfl h9) (fun _ => ?_)
      refine sg_iload_n (pc := 34) (x := ((-1))) hC dX4_readRange_34 rfl ?_
      refine sg_iconst (pc := 35) (((-1))) hC dX4_readRange_35 (by decide) ?_
      refine sg_icmp_ne (pc := 36) (x := -1) (y := -1) 41 hC dX4_readRange_36 (by decide) (fun h9 => absurd rfl h9) (fun _ => ?_)
      refine sg_iconst (pc := 39) (nI 0) hC dX4_readRange_39 (by decide) ?_
      have e9 : k_readRange tx s = (false, (k_accept tx ((k_readDigit tx s 0).2) 45).2) := by rw [k_readRange]; simp only [if_neg (ts9 h5)]; rw [h6]
      rw [e9] at hk
      exact sg_zreturn (st := []) (v := md_b false) (pc := 40) (ty := .boolean) hC hR (md_narb _) dX4_readRange_40 (hk M2 hI)
    · rw [show md_o ((k_readDigit tx s 0).1) = nI v7 from by rw [h6]; rfl]
      show sg_W X M2 0 0 29 [some (.ref x), some (.int (nI v7)), some (.int (nI v7))] []
      have hv8 := k_readDigit_v h6
      refine sg_iload_n (pc := 29) (x := nI v7) hC dX4_readRange_29 rfl ?_
      refine sg_iconst (pc := 30) (((-1))) hC dX4_readRange_30 (by decide) ?_
      refine sg_icmp_ne (pc := 31) (x := nI v7) (y := -1) 41 hC dX4_readRange_31 (by decide) (fun _ => ?_) (fun h9 => absurd h9 (jn_ne (by omega)))
      refine sg_aload_n (pc := 41) (v := .ref x) hC dX4_readRange_41 rfl rfl ?_
      refine sg_iload_n (pc := 42) (x := nI v7) hC dX4_readRange_42 rfl ?_
      refine sg_iconst (pc := 43) (((-1))) hC dX4_readRange_43 (by decide) ?_
      refine sg_icmp_ne (pc := 44) (x := nI v7) (y := -1) 51 hC dX4_readRange_44 (by decide) (fun _ => ?_) (fun h9 => absurd h9 (jn_ne (by omega)))
      refine sg_iload_n (pc := 51) (x := nI v7) hC dX4_readRange_51 rfl ?_
      refine rd_put6 (pc := 52) (v := v7) hC tw_556 dX4_readRange_52 hI (fun M9 hI => ?_)
      have hI : rd_I G M0 M9 x ta b kd tx ((((k_accept tx ((k_readDigit tx s 0).2) 45).2).1, ((k_accept tx ((k_readDigit tx s 0).2) 45).2).2.1, ((k_accept tx ((k_readDigit tx s 0).2) 45).2).2.2.1, ((k_accept tx ((k_readDigit tx s 0).2) 45).2).2.2.2.1, v7, ((k_accept tx ((k_readDigit tx s 0).2) 45).2).2.2.2.2.2)) := hI
      show sg_W X M9 0 0 55 [some (.ref x), some (.int (nI v7)), some (.int (nI v7))] []
      refine sg_aload_n (pc := 55) (v := .ref x) hC dX4_readRange_55 rfl rfl ?_
      refine sg_iload_n (pc := 56) (x := nI v7) hC dX4_readRange_56 rfl ?_
      refine sg_iconst (pc := 57) (((-1))) hC dX4_readRange_57 (by decide) ?_
      refine sg_icmp_ne (pc := 58) (x := nI v7) (y := -1) 66 hC dX4_readRange_58 (by decide) (fun _ => ?_) (fun h9 => absurd h9 (jn_ne (by omega)))
      refine sg_iload_n (pc := 66) (x := nI v7) hC dX4_readRange_66 rfl ?_
      refine rd_put7 (pc := 67) (v := v7) hC tw_557 dX4_readRange_67 hI (fun M10 hI => ?_)
      have hI : rd_I G M0 M10 x ta b kd tx ((((k_accept tx ((k_readDigit tx s 0).2) 45).2).1, ((k_accept tx ((k_readDigit tx s 0).2) 45).2).2.1, ((k_accept tx ((k_readDigit tx s 0).2) 45).2).2.2.1, ((k_accept tx ((k_readDigit tx s 0).2) 45).2).2.2.2.1, v7, v7)) := hI
      show sg_W X M10 0 0 70 [some (.ref x), some (.int (nI v7)), some (.int (nI v7))] []
      refine sg_aload_n (pc := 70) (v := .ref x) hC dX4_readRange_70 rfl rfl ?_
      refine sg_iconst (pc := 71) (nI 2) hC dX4_readRange_71 (by decide) ?_
      refine sg_aload_n (pc := 72) (v := .ref x) hC dX4_readRange_72 rfl rfl ?_
      refine rd_get (pc := 73) (i := 7) hC (by decide) tw_557 dX4_readRange_73 hI rfl ?_
      show sg_W X M10 0 0 76 [some (.ref x), some (.int (nI v7)), some (.int (nI v7))] [.int (nI v7), .int (nI 2), .ref x]
      refine sg_ishlN (pc := 76) (a := 2) (b := v7) hC dX4_readRange_76 (by first | omega | decide | exact jsh (by omega) (by omega) | exact jsh (lo := 0) (by omega) (by omega) | exact Nat.le_trans (jsh1 (by omega)) (by decide) | exact Nat.lt_of_le_of_lt (jsh2 (by omega)) (by decide) | exact Nat.lt_of_le_of_lt (jsh1 (by omega)) (by decide)) (by first | omega | decide | exact jsh (by omega) (by omega) | exact jsh (lo := 0) (by omega) (by omega) | exact Nat.le_trans (jsh1 (by omega)) (by decide) | exact Nat.lt_of_le_of_lt (jsh2 (by omega)) (by decide) | exact Nat.lt_of_le_of_lt (jsh1 (by omega)) (by decide)) ?_
      refine sg_iconst (pc := 77) (nI 1) hC dX4_readRange_77 (by decide) ?_
      refine sg_aload_n (pc := 78) (v := .ref x) hC dX4_readRange_78 rfl rfl ?_
      refine rd_get (pc := 79) (i := 6) hC (by decide) tw_556 dX4_readRange_79 hI rfl ?_
      show sg_W X M10 0 0 82 [some (.ref x), some (.int (nI v7)), some (.int (nI v7))] [.int (nI v7), .int (nI 1), .int (nI (2 <<< v7)), .ref x]
      refine sg_ishlN (pc := 82) (a := 1) (b := v7) hC dX4_readRange_82 (by first | omega | decide | exact jsh (by omega) (by omega) | exact jsh (lo := 0) (by omega) (by omega) | exact Nat.le_trans (jsh1 (by omega)) (by decide) | exact Nat.lt_of_le_of_lt (jsh2 (by omega)) (by decide) | exact Nat.lt_of_le_of_lt (jsh1 (by omega)) (by decide)) (by first | omega | decide | exact jsh (by omega) (by omega) | exact jsh (lo := 0) (by omega) (by omega) | exact Nat.le_trans (jsh1 (by omega)) (by decide) | exact Nat.lt_of_le_of_lt (jsh2 (by omega)) (by decide) | exact Nat.lt_of_le_of_lt (jsh1 (by omega)) (by decide)) ?_
      refine sg_isubN (pc := 83) (a := 2 <<< v7) (b := 1 <<< v7) hC dX4_readRange_83 (by first | omega | decide | exact jsh (by omega) (by omega) | exact jsh (lo := 0) (by omega) (by omega) | exact Nat.le_trans (jsh1 (by omega)) (by decide) | exact Nat.lt_of_le_of_lt (jsh2 (by omega)) (by decide) | exact Nat.lt_of_le_of_lt (jsh1 (by omega)) (by decide)) ?_
      refine rd_put5 (pc := 84) (v := (2 <<< v7) - (1 <<< v7)) hC tw_555 dX4_readRange_84 hI (fun M11 hI => ?_)
      have hI : rd_I G M0 M11 x ta b kd tx ((((k_accept tx ((k_readDigit tx s 0).2) 45).2).1, ((k_accept tx ((k_readDigit tx s 0).2) 45).2).2.1, ((k_accept tx ((k_readDigit tx s 0).2) 45).2).2.2.1, (2 <<< v7) - (1 <<< v7), v7, v7)) := hI
      show sg_W X M11 0 0 87 [some (.ref x), some (.int (nI v7)), some (.int (nI v7))] []
      refine sg_iconst (pc := 87) (nI 1) hC dX4_readRange_87 (by decide) ?_
      have e9 : k_readRange tx s = (true, (((k_accept tx ((k_readDigit tx s 0).2) 45).2).1, ((k_accept tx ((k_readDigit tx s 0).2) 45).2).2.1, ((k_accept tx ((k_readDigit tx s 0).2) 45).2).2.2.1, (2 <<< v7) - (1 <<< v7), v7, v7)) := by rw [k_readRange]; simp only [if_neg (ts9 h5)]; rw [h6]
      rw [e9] at hk
      exact sg_zreturn (st := []) (v := md_b true) (pc := 88) (ty := .boolean) hC hR (md_narb _) dX4_readRange_88 (hk M11 hI)
  · refine sg_aload_n (pc := 15) (v := .ref x) hC dX4_readRange_15 rfl rfl ?_
    refine sg_iload_n (pc := 16) (x := md_o ((k_readDigit tx s 0).1)) hC dX4_readRange_16 rfl ?_
    refine sg_iconst (pc := 17) (nI 0) hC dX4_readRange_17 (by decide) ?_
    refine sg_mmax (pc := 18) (x := md_o ((k_readDigit tx s 0).1)) (y := nI 0) hC tw_740 tw_242 tw_74 tw_243 dX4_readRange_18 (Nat.le_of_ble_eq_true rfl) ?_
    rw [jmo (fun k9 hk9 => by have := k_readDigit_v hk9; omega)]
    have hx12 : ((k_readDigit tx s 0).1).getD 0 < 10 := by cases hz : (k_readDigit tx s 0).1 with | none => decide | some z => (have := k_readDigit_v hz; show z < 10; omega)
    show sg_W X M2 0 0 21 [some (.ref x), some (.int (md_o ((k_readDigit tx s 0).1))), none] [.int (nI (((k_readDigit tx s 0).1).getD 0)), .ref x]
    refine sg_callV (pc := 21) (As := [.int (nI (((k_readDigit tx s 0).1).getD 0))]) (rest := []) (mc := 0) (ms := 0) hC tw_736 tw_738 tw_11 tw_83 tw_739 yd_X4_readDigit (by decide) (ci := 7) rfl dX4_readRange_21 hI.hx rfl (Nat.le_of_ble_eq_true rfl) (by first | omega | decide | exact jsh (by omega) (by omega) | exact jsh (lo := 0) (by omega) (by omega) | exact Nat.le_trans (jsh1 (by omega)) (by decide) | exact Nat.lt_of_le_of_lt (jsh2 (by omega)) (by decide) | exact Nat.lt_of_le_of_lt (jsh1 (by omega)) (by decide)) (by first | omega | decide | exact jsh (by omega) (by omega) | exact jsh (lo := 0) (by omega) (by omega) | exact Nat.le_trans (jsh1 (by omega)) (by decide) | exact Nat.lt_of_le_of_lt (jsh2 (by omega)) (by decide) | exact Nat.lt_of_le_of_lt (jsh1 (by omega)) (by decide)) ?_
    refine c_readDigit htr hI (((k_readDigit tx s 0).1).getD 0) (by first | omega | decide | exact jsh (by omega) (by omega) | exact jsh (lo := 0) (by omega) (by omega) | exact Nat.le_trans (jsh1 (by omega)) (by decide) | exact Nat.lt_of_le_of_lt (jsh2 (by omega)) (by decide) | exact Nat.lt_of_le_of_lt (jsh1 (by omega)) (by decide)) (fun M13 hI => ?_)
    have hI : rd_I G M0 M13 x ta b kd tx ((k_readDigit tx ((k_accept tx ((k_readDigit tx s 0).2) 45).2) (((k_readDigit tx s 0).1).getD 0)).2) := hI
    show sg_W X M13 0 0 24 [some (.ref x), some (.int (md_o ((k_readDigit tx s 0).1))), none] [.int (md_o ((k_readDigit tx ((k_accept tx ((k_readDigit tx s 0).2) 45).2) (((k_readDigit tx s 0).1).getD 0)).1))]
    refine sg_goto (pc := 24) 28 hC dX4_readRange_24 (by decide) ?_
    refine sg_istore_n (pc := 28) (x := md_o ((k_readDigit tx ((k_accept tx ((k_readDigit tx s 0).2) 45).2) (((k_readDigit tx s 0).1).getD 0)).1)) hC dX4_readRange_28 (by decide) ?_
    show sg_W X M13 0 0 29 [some (.ref x), some (.int (md_o ((k_readDigit tx s 0).1))), some (.int (md_o ((k_readDigit tx ((k_accept tx ((k_readDigit tx s 0).2) 45).2) (((k_readDigit tx s 0).1).getD 0)).1)))] []
    obtain h14 | ⟨v15, h14⟩ := jo_cases ((k_readDigit tx s 0).1)
    · rw [show md_o ((k_readDigit tx s 0).1) = ((-1)) from by rw [h14]; rfl]
      show sg_W X M13 0 0 29 [some (.ref x), some (.int ((-1))), some (.int (md_o ((k_readDigit tx ((k_accept tx ((k_readDigit tx s 0).2) 45).2) (((k_readDigit tx s 0).1).getD 0)).1)))] []
      obtain h16 | ⟨v17, h16⟩ := jo_cases ((k_readDigit tx ((k_accept tx ((k_readDigit tx s 0).2) 45).2) (((k_readDigit tx s 0).1).getD 0)).1)
      · rw [show md_o ((k_readDigit tx ((k_accept tx ((k_readDigit tx s 0).2) 45).2) (((k_readDigit tx s 0).1).getD 0)).1) = ((-1)) from by rw [h16]; rfl]
        show sg_W X M13 0 0 29 [some (.ref x), some (.int ((-1))), some (.int ((-1)))] []
        refine sg_iload_n (pc := 29) (x := ((-1))) hC dX4_readRange_29 rfl ?_
        refine sg_iconst (pc := 30) (((-1))) hC dX4_readRange_30 (by decide) ?_
        refine sg_icmp_ne (pc := 31) (x := -1) (y := -1) 41 hC dX4_readRange_31 (by decide) (fun h9 => absurd rfl h9) (fun _ => ?_)
        refine sg_iload_n (pc := 34) (x := ((-1))) hC dX4_readRange_34 rfl ?_
        refine sg_iconst (pc := 35) (((-1))) hC dX4_readRange_35 (by decide) ?_
        refine sg_icmp_ne (pc := 36) (x := -1) (y := -1) 41 hC dX4_readRange_36 (by decide) (fun h9 => absurd rfl h9) (fun _ => ?_)
        refine sg_iconst (pc := 39) (nI 0) hC dX4_readRange_39 (by decide) ?_
        have e9 : k_readRange tx s = (false, (k_readDigit tx ((k_accept tx ((k_readDigit tx s 0).2) 45).2) (((k_readDigit tx s 0).1).getD 0)).2) := by rw [k_readRange]; simp only [if_pos h5]; rw [h16, h14]
        rw [e9] at hk
        exact sg_zreturn (st := []) (v := md_b false) (pc := 40) (ty := .boolean) hC hR (md_narb _) dX4_readRange_40 (hk M13 hI)
      · rw [show md_o ((k_readDigit tx ((k_accept tx ((k_readDigit tx s 0).2) 45).2) (((k_readDigit tx s 0).1).getD 0)).1) = nI v17 from by rw [h16]; rfl]
        show sg_W X M13 0 0 29 [some (.ref x), some (.int ((-1))), some (.int (nI v17))] []
        have hv18 := k_readDigit_v h16
        refine sg_iload_n (pc := 29) (x := ((-1))) hC dX4_readRange_29 rfl ?_
        refine sg_iconst (pc := 30) (((-1))) hC dX4_readRange_30 (by decide) ?_
        refine sg_icmp_ne (pc := 31) (x := -1) (y := -1) 41 hC dX4_readRange_31 (by decide) (fun h9 => absurd rfl h9) (fun _ => ?_)
        refine sg_iload_n (pc := 34) (x := nI v17) hC dX4_readRange_34 rfl ?_
        refine sg_iconst (pc := 35) (((-1))) hC dX4_readRange_35 (by decide) ?_
        refine sg_icmp_ne (pc := 36) (x := nI v17) (y := -1) 41 hC dX4_readRange_36 (by decide) (fun _ => ?_) (fun h9 => absurd h9 (jn_ne (by omega)))
        refine sg_aload_n (pc := 41) (v := .ref x) hC dX4_readRange_41 rfl rfl ?_
        refine sg_iload_n (pc := 42) (x := ((-1))) hC dX4_readRange_42 rfl ?_
        refine sg_iconst (pc := 43) (((-1))) hC dX4_readRange_43 (by decide) ?_
        refine sg_icmp_ne (pc := 44) (x := -1) (y := -1) 51 hC dX4_readRange_44 (by decide) (fun h9 => absurd rfl h9) (fun _ => ?_)
        refine sg_iconst (pc := 47) (nI 0) hC dX4_readRange_47 (by decide) ?_
        refine sg_goto (pc := 48) 52 hC dX4_readRange_48 (by decide) ?_
        refine rd_put6 (pc := 52) (v := 0) hC tw_556 dX4_readRange_52 hI (fun M19 hI => ?_)
        have hI : rd_I G M0 M19 x ta b kd tx ((((k_readDigit tx ((k_accept tx ((k_readDigit tx s 0).2) 45).2) (((k_readDigit tx s 0).1).getD 0)).2).1, ((k_readDigit tx ((k_accept tx ((k_readDigit tx s 0).2) 45).2) (((k_readDigit tx s 0).1).getD 0)).2).2.1, ((k_readDigit tx ((k_accept tx ((k_readDigit tx s 0).2) 45).2) (((k_readDigit tx s 0).1).getD 0)).2).2.2.1, ((k_readDigit tx ((k_accept tx ((k_readDigit tx s 0).2) 45).2) (((k_readDigit tx s 0).1).getD 0)).2).2.2.2.1, 0, ((k_readDigit tx ((k_accept tx ((k_readDigit tx s 0).2) 45).2) (((k_readDigit tx s 0).1).getD 0)).2).2.2.2.2.2)) := hI
        show sg_W X M19 0 0 55 [some (.ref x), some (.int ((-1))), some (.int (nI v17))] []
        refine sg_aload_n (pc := 55) (v := .ref x) hC dX4_readRange_55 rfl rfl ?_
        refine sg_iload_n (pc := 56) (x := nI v17) hC dX4_readRange_56 rfl ?_
        refine sg_iconst (pc := 57) (((-1))) hC dX4_readRange_57 (by decide) ?_
        refine sg_icmp_ne (pc := 58) (x := nI v17) (y := -1) 66 hC dX4_readRange_58 (by decide) (fun _ => ?_) (fun h9 => absurd h9 (jn_ne (by omega)))
        refine sg_iload_n (pc := 66) (x := nI v17) hC dX4_readRange_66 rfl ?_
        refine rd_put7 (pc := 67) (v := v17) hC tw_557 dX4_readRange_67 hI (fun M20 hI => ?_)
        have hI : rd_I G M0 M20 x ta b kd tx ((((k_readDigit tx ((k_accept tx ((k_readDigit tx s 0).2) 45).2) (((k_readDigit tx s 0).1).getD 0)).2).1, ((k_readDigit tx ((k_accept tx ((k_readDigit tx s 0).2) 45).2) (((k_readDigit tx s 0).1).getD 0)).2).2.1, ((k_readDigit tx ((k_accept tx ((k_readDigit tx s 0).2) 45).2) (((k_readDigit tx s 0).1).getD 0)).2).2.2.1, ((k_readDigit tx ((k_accept tx ((k_readDigit tx s 0).2) 45).2) (((k_readDigit tx s 0).1).getD 0)).2).2.2.2.1, 0, v17)) := hI
        show sg_W X M20 0 0 70 [some (.ref x), some (.int ((-1))), some (.int (nI v17))] []
        refine sg_aload_n (pc := 70) (v := .ref x) hC dX4_readRange_70 rfl rfl ?_
        refine sg_iconst (pc := 71) (nI 2) hC dX4_readRange_71 (by decide) ?_
        refine sg_aload_n (pc := 72) (v := .ref x) hC dX4_readRange_72 rfl rfl ?_
        refine rd_get (pc := 73) (i := 7) hC (by decide) tw_557 dX4_readRange_73 hI rfl ?_
        show sg_W X M20 0 0 76 [some (.ref x), some (.int ((-1))), some (.int (nI v17))] [.int (nI v17), .int (nI 2), .ref x]
        refine sg_ishlN (pc := 76) (a := 2) (b := v17) hC dX4_readRange_76 (by first | omega | decide | exact jsh (by omega) (by omega) | exact jsh (lo := 0) (by omega) (by omega) | exact Nat.le_trans (jsh1 (by omega)) (by decide) | exact Nat.lt_of_le_of_lt (jsh2 (by omega)) (by decide) | exact Nat.lt_of_le_of_lt (jsh1 (by omega)) (by decide)) (by first | omega | decide | exact jsh (by omega) (by omega) | exact jsh (lo := 0) (by omega) (by omega) | exact Nat.le_trans (jsh1 (by omega)) (by decide) | exact Nat.lt_of_le_of_lt (jsh2 (by omega)) (by decide) | exact Nat.lt_of_le_of_lt (jsh1 (by omega)) (by decide)) ?_
        refine sg_iconst (pc := 77) (nI 1) hC dX4_readRange_77 (by decide) ?_
        refine sg_aload_n (pc := 78) (v := .ref x) hC dX4_readRange_78 rfl rfl ?_
        refine rd_get (pc := 79) (i := 6) hC (by decide) tw_556 dX4_readRange_79 hI rfl ?_
        show sg_W X M20 0 0 82 [some (.ref x), some (.int ((-1))), some (.int (nI v17))] [.int (nI 0), .int (nI 1), .int (nI (2 <<< v17)), .ref x]
        refine sg_ishlN (pc := 82) (a := 1) (b := 0) hC dX4_readRange_82 (by first | omega | decide | exact jsh (by omega) (by omega) | exact jsh (lo := 0) (by omega) (by omega) | exact Nat.le_trans (jsh1 (by omega)) (by decide) | exact Nat.lt_of_le_of_lt (jsh2 (by omega)) (by decide) | exact Nat.lt_of_le_of_lt (jsh1 (by omega)) (by decide)) (by first | omega | decide | exact jsh (by omega) (by omega) | exact jsh (lo := 0) (by omega) (by omega) | exact Nat.le_trans (jsh1 (by omega)) (by decide) | exact Nat.lt_of_le_of_lt (jsh2 (by omega)) (by decide) | exact Nat.lt_of_le_of_lt (jsh1 (by omega)) (by decide)) ?_
        show sg_W X M20 0 0 83 [some (.ref x), some (.int ((-1))), some (.int (nI v17))] [.int (nI 1), .int (nI (2 <<< v17)), .ref x]
        refine sg_isubN (pc := 83) (a := 2 <<< v17) (b := 1) hC dX4_readRange_83 (by first | omega | decide | exact jsh (by omega) (by omega) | exact jsh (lo := 0) (by omega) (by omega) | exact Nat.le_trans (jsh1 (by omega)) (by decide) | exact Nat.lt_of_le_of_lt (jsh2 (by omega)) (by decide) | exact Nat.lt_of_le_of_lt (jsh1 (by omega)) (by decide)) ?_
        refine rd_put5 (pc := 84) (v := (2 <<< v17) - 1) hC tw_555 dX4_readRange_84 hI (fun M21 hI => ?_)
        have hI : rd_I G M0 M21 x ta b kd tx ((((k_readDigit tx ((k_accept tx ((k_readDigit tx s 0).2) 45).2) (((k_readDigit tx s 0).1).getD 0)).2).1, ((k_readDigit tx ((k_accept tx ((k_readDigit tx s 0).2) 45).2) (((k_readDigit tx s 0).1).getD 0)).2).2.1, ((k_readDigit tx ((k_accept tx ((k_readDigit tx s 0).2) 45).2) (((k_readDigit tx s 0).1).getD 0)).2).2.2.1, (2 <<< v17) - 1, 0, v17)) := hI
        show sg_W X M21 0 0 87 [some (.ref x), some (.int ((-1))), some (.int (nI v17))] []
        refine sg_iconst (pc := 87) (nI 1) hC dX4_readRange_87 (by decide) ?_
        have e9 : k_readRange tx s = (true, (((k_readDigit tx ((k_accept tx ((k_readDigit tx s 0).2) 45).2) (((k_readDigit tx s 0).1).getD 0)).2).1, ((k_readDigit tx ((k_accept tx ((k_readDigit tx s 0).2) 45).2) (((k_readDigit tx s 0).1).getD 0)).2).2.1, ((k_readDigit tx ((k_accept tx ((k_readDigit tx s 0).2) 45).2) (((k_readDigit tx s 0).1).getD 0)).2).2.2.1, (2 <<< v17) - 1, 0, v17)) := by rw [k_readRange]; simp only [if_pos h5]; rw [h16, h14]
        rw [e9] at hk
        exact sg_zreturn (st := []) (v := md_b true) (pc := 88) (ty := .boolean) hC hR (md_narb _) dX4_readRange_88 (hk M21 hI)
    · rw [show md_o ((k_readDigit tx s 0).1) = nI v15 from by rw [h14]; rfl]
      show sg_W X M13 0 0 29 [some (.ref x), some (.int (nI v15)), some (.int (md_o ((k_readDigit tx ((k_accept tx ((k_readDigit tx s 0).2) 45).2) (((k_readDigit tx s 0).1).getD 0)).1)))] []
      have hv22 := k_readDigit_v h14
      obtain h23 | ⟨v24, h23⟩ := jo_cases ((k_readDigit tx ((k_accept tx ((k_readDigit tx s 0).2) 45).2) (((k_readDigit tx s 0).1).getD 0)).1)
      · rw [show md_o ((k_readDigit tx ((k_accept tx ((k_readDigit tx s 0).2) 45).2) (((k_readDigit tx s 0).1).getD 0)).1) = ((-1)) from by rw [h23]; rfl]
        show sg_W X M13 0 0 29 [some (.ref x), some (.int (nI v15)), some (.int ((-1)))] []
        refine sg_iload_n (pc := 29) (x := nI v15) hC dX4_readRange_29 rfl ?_
        refine sg_iconst (pc := 30) (((-1))) hC dX4_readRange_30 (by decide) ?_
        refine sg_icmp_ne (pc := 31) (x := nI v15) (y := -1) 41 hC dX4_readRange_31 (by decide) (fun _ => ?_) (fun h9 => absurd h9 (jn_ne (by omega)))
        refine sg_aload_n (pc := 41) (v := .ref x) hC dX4_readRange_41 rfl rfl ?_
        refine sg_iload_n (pc := 42) (x := nI v15) hC dX4_readRange_42 rfl ?_
        refine sg_iconst (pc := 43) (((-1))) hC dX4_readRange_43 (by decide) ?_
        refine sg_icmp_ne (pc := 44) (x := nI v15) (y := -1) 51 hC dX4_readRange_44 (by decide) (fun _ => ?_) (fun h9 => absurd h9 (jn_ne (by omega)))
        refine sg_iload_n (pc := 51) (x := nI v15) hC dX4_readRange_51 rfl ?_
        refine rd_put6 (pc := 52) (v := v15) hC tw_556 dX4_readRange_52 hI (fun M25 hI => ?_)
        have hI : rd_I G M0 M25 x ta b kd tx ((((k_readDigit tx ((k_accept tx ((k_readDigit tx s 0).2) 45).2) (((k_readDigit tx s 0).1).getD 0)).2).1, ((k_readDigit tx ((k_accept tx ((k_readDigit tx s 0).2) 45).2) (((k_readDigit tx s 0).1).getD 0)).2).2.1, ((k_readDigit tx ((k_accept tx ((k_readDigit tx s 0).2) 45).2) (((k_readDigit tx s 0).1).getD 0)).2).2.2.1, ((k_readDigit tx ((k_accept tx ((k_readDigit tx s 0).2) 45).2) (((k_readDigit tx s 0).1).getD 0)).2).2.2.2.1, v15, ((k_readDigit tx ((k_accept tx ((k_readDigit tx s 0).2) 45).2) (((k_readDigit tx s 0).1).getD 0)).2).2.2.2.2.2)) := hI
        show sg_W X M25 0 0 55 [some (.ref x), some (.int (nI v15)), some (.int ((-1)))] []
        refine sg_aload_n (pc := 55) (v := .ref x) hC dX4_readRange_55 rfl rfl ?_
        refine sg_iload_n (pc := 56) (x := ((-1))) hC dX4_readRange_56 rfl ?_
        refine sg_iconst (pc := 57) (((-1))) hC dX4_readRange_57 (by decide) ?_
        refine sg_icmp_ne (pc := 58) (x := -1) (y := -1) 66 hC dX4_readRange_58 (by decide) (fun h9 => absurd rfl h9) (fun _ => ?_)
        refine sg_bipush (pc := 61) (nI 9) hC dX4_readRange_61 (by decide) ?_
        refine sg_goto (pc := 63) 67 hC dX4_readRange_63 (by decide) ?_
        refine rd_put7 (pc := 67) (v := 9) hC tw_557 dX4_readRange_67 hI (fun M26 hI => ?_)
        have hI : rd_I G M0 M26 x ta b kd tx ((((k_readDigit tx ((k_accept tx ((k_readDigit tx s 0).2) 45).2) (((k_readDigit tx s 0).1).getD 0)).2).1, ((k_readDigit tx ((k_accept tx ((k_readDigit tx s 0).2) 45).2) (((k_readDigit tx s 0).1).getD 0)).2).2.1, ((k_readDigit tx ((k_accept tx ((k_readDigit tx s 0).2) 45).2) (((k_readDigit tx s 0).1).getD 0)).2).2.2.1, ((k_readDigit tx ((k_accept tx ((k_readDigit tx s 0).2) 45).2) (((k_readDigit tx s 0).1).getD 0)).2).2.2.2.1, v15, 9)) := hI
        show sg_W X M26 0 0 70 [some (.ref x), some (.int (nI v15)), some (.int ((-1)))] []
        refine sg_aload_n (pc := 70) (v := .ref x) hC dX4_readRange_70 rfl rfl ?_
        refine sg_iconst (pc := 71) (nI 2) hC dX4_readRange_71 (by decide) ?_
        refine sg_aload_n (pc := 72) (v := .ref x) hC dX4_readRange_72 rfl rfl ?_
        refine rd_get (pc := 73) (i := 7) hC (by decide) tw_557 dX4_readRange_73 hI rfl ?_
        show sg_W X M26 0 0 76 [some (.ref x), some (.int (nI v15)), some (.int ((-1)))] [.int (nI 9), .int (nI 2), .ref x]
        refine sg_ishlN (pc := 76) (a := 2) (b := 9) hC dX4_readRange_76 (by first | omega | decide | exact jsh (by omega) (by omega) | exact jsh (lo := 0) (by omega) (by omega) | exact Nat.le_trans (jsh1 (by omega)) (by decide) | exact Nat.lt_of_le_of_lt (jsh2 (by omega)) (by decide) | exact Nat.lt_of_le_of_lt (jsh1 (by omega)) (by decide)) (by first | omega | decide | exact jsh (by omega) (by omega) | exact jsh (lo := 0) (by omega) (by omega) | exact Nat.le_trans (jsh1 (by omega)) (by decide) | exact Nat.lt_of_le_of_lt (jsh2 (by omega)) (by decide) | exact Nat.lt_of_le_of_lt (jsh1 (by omega)) (by decide)) ?_
        show sg_W X M26 0 0 77 [some (.ref x), some (.int (nI v15)), some (.int ((-1)))] [.int (nI 1024), .ref x]
        refine sg_iconst (pc := 77) (nI 1) hC dX4_readRange_77 (by decide) ?_
        refine sg_aload_n (pc := 78) (v := .ref x) hC dX4_readRange_78 rfl rfl ?_
        refine rd_get (pc := 79) (i := 6) hC (by decide) tw_556 dX4_readRange_79 hI rfl ?_
        show sg_W X M26 0 0 82 [some (.ref x), some (.int (nI v15)), some (.int ((-1)))] [.int (nI v15), .int (nI 1), .int (nI 1024), .ref x]
        refine sg_ishlN (pc := 82) (a := 1) (b := v15) hC dX4_readRange_82 (by first | omega | decide | exact jsh (by omega) (by omega) | exact jsh (lo := 0) (by omega) (by omega) | exact Nat.le_trans (jsh1 (by omega)) (by decide) | exact Nat.lt_of_le_of_lt (jsh2 (by omega)) (by decide) | exact Nat.lt_of_le_of_lt (jsh1 (by omega)) (by decide)) (by first | omega | decide | exact jsh (by omega) (by omega) | exact jsh (lo := 0) (by omega) (by omega) | exact Nat.le_trans (jsh1 (by omega)) (by decide) | exact Nat.lt_of_le_of_lt (jsh2 (by omega)) (by decide) | exact Nat.lt_of_le_of_lt (jsh1 (by omega)) (by decide)) ?_
        refine sg_isubN (pc := 83) (a := 1024) (b := 1 <<< v15) hC dX4_readRange_83 (by first | omega | decide | exact jsh (by omega) (by omega) | exact jsh (lo := 0) (by omega) (by omega) | exact Nat.le_trans (jsh1 (by omega)) (by decide) | exact Nat.lt_of_le_of_lt (jsh2 (by omega)) (by decide) | exact Nat.lt_of_le_of_lt (jsh1 (by omega)) (by decide)) ?_
        refine rd_put5 (pc := 84) (v := 1024 - (1 <<< v15)) hC tw_555 dX4_readRange_84 hI (fun M27 hI => ?_)
        have hI : rd_I G M0 M27 x ta b kd tx ((((k_readDigit tx ((k_accept tx ((k_readDigit tx s 0).2) 45).2) (((k_readDigit tx s 0).1).getD 0)).2).1, ((k_readDigit tx ((k_accept tx ((k_readDigit tx s 0).2) 45).2) (((k_readDigit tx s 0).1).getD 0)).2).2.1, ((k_readDigit tx ((k_accept tx ((k_readDigit tx s 0).2) 45).2) (((k_readDigit tx s 0).1).getD 0)).2).2.2.1, 1024 - (1 <<< v15), v15, 9)) := hI
        show sg_W X M27 0 0 87 [some (.ref x), some (.int (nI v15)), some (.int ((-1)))] []
        refine sg_iconst (pc := 87) (nI 1) hC dX4_readRange_87 (by decide) ?_
        have e9 : k_readRange tx s = (true, (((k_readDigit tx ((k_accept tx ((k_readDigit tx s 0).2) 45).2) (((k_readDigit tx s 0).1).getD 0)).2).1, ((k_readDigit tx ((k_accept tx ((k_readDigit tx s 0).2) 45).2) (((k_readDigit tx s 0).1).getD 0)).2).2.1, ((k_readDigit tx ((k_accept tx ((k_readDigit tx s 0).2) 45).2) (((k_readDigit tx s 0).1).getD 0)).2).2.2.1, 1024 - (1 <<< v15), v15, 9)) := by rw [k_readRange]; simp only [if_pos h5]; rw [h23, h14]
        rw [e9] at hk
        exact sg_zreturn (st := []) (v := md_b true) (pc := 88) (ty := .boolean) hC hR (md_narb _) dX4_readRange_88 (hk M27 hI)
      · rw [show md_o ((k_readDigit tx ((k_accept tx ((k_readDigit tx s 0).2) 45).2) (((k_readDigit tx s 0).1).getD 0)).1) = nI v24 from by rw [h23]; rfl]
        show sg_W X M13 0 0 29 [some (.ref x), some (.int (nI v15)), some (.int (nI v24))] []
        have hv28 := k_readDigit_v h23
        have hle29 : v15 ≤ v24 := by have h9 := (k_readDigit_v h23).1; rw [h14] at h9; exact h9
        refine sg_iload_n (pc := 29) (x := nI v15) hC dX4_readRange_29 rfl ?_
        refine sg_iconst (pc := 30) (((-1))) hC dX4_readRange_30 (by decide) ?_
        refine sg_icmp_ne (pc := 31) (x := nI v15) (y := -1) 41 hC dX4_readRange_31 (by decide) (fun _ => ?_) (fun h9 => absurd h9 (jn_ne (by omega)))
        refine sg_aload_n (pc := 41) (v := .ref x) hC dX4_readRange_41 rfl rfl ?_
        refine sg_iload_n (pc := 42) (x := nI v15) hC dX4_readRange_42 rfl ?_
        refine sg_iconst (pc := 43) (((-1))) hC dX4_readRange_43 (by decide) ?_
        refine sg_icmp_ne (pc := 44) (x := nI v15) (y := -1) 51 hC dX4_readRange_44 (by decide) (fun _ => ?_) (fun h9 => absurd h9 (jn_ne (by omega)))
        refine sg_iload_n (pc := 51) (x := nI v15) hC dX4_readRange_51 rfl ?_
        refine rd_put6 (pc := 52) (v := v15) hC tw_556 dX4_readRange_52 hI (fun M30 hI => ?_)
        have hI : rd_I G M0 M30 x ta b kd tx ((((k_readDigit tx ((k_accept tx ((k_readDigit tx s 0).2) 45).2) (((k_readDigit tx s 0).1).getD 0)).2).1, ((k_readDigit tx ((k_accept tx ((k_readDigit tx s 0).2) 45).2) (((k_readDigit tx s 0).1).getD 0)).2).2.1, ((k_readDigit tx ((k_accept tx ((k_readDigit tx s 0).2) 45).2) (((k_readDigit tx s 0).1).getD 0)).2).2.2.1, ((k_readDigit tx ((k_accept tx ((k_readDigit tx s 0).2) 45).2) (((k_readDigit tx s 0).1).getD 0)).2).2.2.2.1, v15, ((k_readDigit tx ((k_accept tx ((k_readDigit tx s 0).2) 45).2) (((k_readDigit tx s 0).1).getD 0)).2).2.2.2.2.2)) := hI
        show sg_W X M30 0 0 55 [some (.ref x), some (.int (nI v15)), some (.int (nI v24))] []
        refine sg_aload_n (pc := 55) (v := .ref x) hC dX4_readRange_55 rfl rfl ?_
        refine sg_iload_n (pc := 56) (x := nI v24) hC dX4_readRange_56 rfl ?_
        refine sg_iconst (pc := 57) (((-1))) hC dX4_readRange_57 (by decide) ?_
        refine sg_icmp_ne (pc := 58) (x := nI v24) (y := -1) 66 hC dX4_readRange_58 (by decide) (fun _ => ?_) (fun h9 => absurd h9 (jn_ne (by omega)))
        refine sg_iload_n (pc := 66) (x := nI v24) hC dX4_readRange_66 rfl ?_
        refine rd_put7 (pc := 67) (v := v24) hC tw_557 dX4_readRange_67 hI (fun M31 hI => ?_)
        have hI : rd_I G M0 M31 x ta b kd tx ((((k_readDigit tx ((k_accept tx ((k_readDigit tx s 0).2) 45).2) (((k_readDigit tx s 0).1).getD 0)).2).1, ((k_readDigit tx ((k_accept tx ((k_readDigit tx s 0).2) 45).2) (((k_readDigit tx s 0).1).getD 0)).2).2.1, ((k_readDigit tx ((k_accept tx ((k_readDigit tx s 0).2) 45).2) (((k_readDigit tx s 0).1).getD 0)).2).2.2.1, ((k_readDigit tx ((k_accept tx ((k_readDigit tx s 0).2) 45).2) (((k_readDigit tx s 0).1).getD 0)).2).2.2.2.1, v15, v24)) := hI
        show sg_W X M31 0 0 70 [some (.ref x), some (.int (nI v15)), some (.int (nI v24))] []
        refine sg_aload_n (pc := 70) (v := .ref x) hC dX4_readRange_70 rfl rfl ?_
        refine sg_iconst (pc := 71) (nI 2) hC dX4_readRange_71 (by decide) ?_
        refine sg_aload_n (pc := 72) (v := .ref x) hC dX4_readRange_72 rfl rfl ?_
        refine rd_get (pc := 73) (i := 7) hC (by decide) tw_557 dX4_readRange_73 hI rfl ?_
        show sg_W X M31 0 0 76 [some (.ref x), some (.int (nI v15)), some (.int (nI v24))] [.int (nI v24), .int (nI 2), .ref x]
        refine sg_ishlN (pc := 76) (a := 2) (b := v24) hC dX4_readRange_76 (by first | omega | decide | exact jsh (by omega) (by omega) | exact jsh (lo := 0) (by omega) (by omega) | exact Nat.le_trans (jsh1 (by omega)) (by decide) | exact Nat.lt_of_le_of_lt (jsh2 (by omega)) (by decide) | exact Nat.lt_of_le_of_lt (jsh1 (by omega)) (by decide)) (by first | omega | decide | exact jsh (by omega) (by omega) | exact jsh (lo := 0) (by omega) (by omega) | exact Nat.le_trans (jsh1 (by omega)) (by decide) | exact Nat.lt_of_le_of_lt (jsh2 (by omega)) (by decide) | exact Nat.lt_of_le_of_lt (jsh1 (by omega)) (by decide)) ?_
        refine sg_iconst (pc := 77) (nI 1) hC dX4_readRange_77 (by decide) ?_
        refine sg_aload_n (pc := 78) (v := .ref x) hC dX4_readRange_78 rfl rfl ?_
        refine rd_get (pc := 79) (i := 6) hC (by decide) tw_556 dX4_readRange_79 hI rfl ?_
        show sg_W X M31 0 0 82 [some (.ref x), some (.int (nI v15)), some (.int (nI v24))] [.int (nI v15), .int (nI 1), .int (nI (2 <<< v24)), .ref x]
        refine sg_ishlN (pc := 82) (a := 1) (b := v15) hC dX4_readRange_82 (by first | omega | decide | exact jsh (by omega) (by omega) | exact jsh (lo := 0) (by omega) (by omega) | exact Nat.le_trans (jsh1 (by omega)) (by decide) | exact Nat.lt_of_le_of_lt (jsh2 (by omega)) (by decide) | exact Nat.lt_of_le_of_lt (jsh1 (by omega)) (by decide)) (by first | omega | decide | exact jsh (by omega) (by omega) | exact jsh (lo := 0) (by omega) (by omega) | exact Nat.le_trans (jsh1 (by omega)) (by decide) | exact Nat.lt_of_le_of_lt (jsh2 (by omega)) (by decide) | exact Nat.lt_of_le_of_lt (jsh1 (by omega)) (by decide)) ?_
        refine sg_isubN (pc := 83) (a := 2 <<< v24) (b := 1 <<< v15) hC dX4_readRange_83 (by first | omega | decide | exact jsh (by omega) (by omega) | exact jsh (lo := 0) (by omega) (by omega) | exact Nat.le_trans (jsh1 (by omega)) (by decide) | exact Nat.lt_of_le_of_lt (jsh2 (by omega)) (by decide) | exact Nat.lt_of_le_of_lt (jsh1 (by omega)) (by decide)) ?_
        refine rd_put5 (pc := 84) (v := (2 <<< v24) - (1 <<< v15)) hC tw_555 dX4_readRange_84 hI (fun M32 hI => ?_)
        have hI : rd_I G M0 M32 x ta b kd tx ((((k_readDigit tx ((k_accept tx ((k_readDigit tx s 0).2) 45).2) (((k_readDigit tx s 0).1).getD 0)).2).1, ((k_readDigit tx ((k_accept tx ((k_readDigit tx s 0).2) 45).2) (((k_readDigit tx s 0).1).getD 0)).2).2.1, ((k_readDigit tx ((k_accept tx ((k_readDigit tx s 0).2) 45).2) (((k_readDigit tx s 0).1).getD 0)).2).2.2.1, (2 <<< v24) - (1 <<< v15), v15, v24)) := hI
        show sg_W X M32 0 0 87 [some (.ref x), some (.int (nI v15)), some (.int (nI v24))] []
        refine sg_iconst (pc := 87) (nI 1) hC dX4_readRange_87 (by decide) ?_
        have e9 : k_readRange tx s = (true, (((k_readDigit tx ((k_accept tx ((k_readDigit tx s 0).2) 45).2) (((k_readDigit tx s 0).1).getD 0)).2).1, ((k_readDigit tx ((k_accept tx ((k_readDigit tx s 0).2) 45).2) (((k_readDigit tx s 0).1).getD 0)).2).2.1, ((k_readDigit tx ((k_accept tx ((k_readDigit tx s 0).2) 45).2) (((k_readDigit tx s 0).1).getD 0)).2).2.2.1, (2 <<< v24) - (1 <<< v15), v15, v24)) := by rw [k_readRange]; simp only [if_pos h5]; rw [h23, h14]
        rw [e9] at hk
        exact sg_zreturn (st := []) (v := md_b true) (pc := 88) (ty := .boolean) hC hR (md_narb _) dX4_readRange_88 (hk M32 hI)

theorem k_acceptW_p (tx : List Nat) (s : RS) (c w : Nat) : (k_acceptW tx s c w).2.2.2.2 = s.2.2.2 := by
  unfold k_acceptW
  split
  · show (k_accept tx s c).2.2.2.2 = s.2.2.2
    rw [k_accept_b]
  · show (k_accept tx s c).2.2.2.2 = s.2.2.2
    rw [k_accept_b]
theorem k_readLabel_p (tx : List Nat) (s : RS) : (k_readLabel tx s).2.2.2 = s.2.2 := by
  unfold k_readLabel
  repeat' split
  all_goals rfl
def kp (tx : List Nat) : Nat → RS → Bool × RS
  | 0, s => (true, s)
  | n + 1, s => if (k_accept tx s 47).1 = true then (if (k_acceptW tx (k_accept tx s 47).2 42 1).1 = true then (true, (k_acceptW tx (k_accept tx s 47).2 42 1).2) else if (k_acceptW tx (k_acceptW tx (k_accept tx s 47).2 42 1).2 45 2).1 = true then (true, (k_acceptW tx (k_acceptW tx (k_accept tx s 47).2 42 1).2 45 2).2) else if (k_readLabel tx (k_acceptW tx (k_acceptW tx (k_accept tx s 47).2 42 1).2 45 2).2).1 = true then kp tx n (k_readLabel tx (k_acceptW tx (k_acceptW tx (k_accept tx s 47).2 42 1).2 45 2).2).2 else (false, (k_readLabel tx (k_acceptW tx (k_acceptW tx (k_accept tx s 47).2 42 1).2 45 2).2).2)) else (decide (n < 2), (k_accept tx s 47).2)
theorem k_path_e (tx : List Nat) (s : RS) : k_readPath tx s = kp tx 3 s := rfl
theorem kp_p (tx : List Nat) : ∀ (n : Nat) (s : RS), (kp tx n s).2.2.2.2 = s.2.2.2 := by
  intro n
  induction n with
  | zero => intro s; rfl
  | succ n ih =>
    intro s
    rw [kp]
    have e1 : (k_accept tx s 47).2.2.2.2 = s.2.2.2 := by rw [k_accept_b]
    have e2 : (k_acceptW tx (k_accept tx s 47).2 42 1).2.2.2.2 = s.2.2.2 := by rw [k_acceptW_p, e1]
    have e3 : (k_acceptW tx (k_acceptW tx (k_accept tx s 47).2 42 1).2 45 2).2.2.2.2 = s.2.2.2 := by rw [k_acceptW_p, e2]
    have e4 : (k_readLabel tx (k_acceptW tx (k_acceptW tx (k_accept tx s 47).2 42 1).2 45 2).2).2.2.2.2 = s.2.2.2 := by rw [k_readLabel_p, e3]
    by_cases h1 : (k_accept tx s 47).1 = true
    · rw [if_pos h1]
      by_cases h2 : (k_acceptW tx (k_accept tx s 47).2 42 1).1 = true
      · rw [if_pos h2]; exact e2
      · rw [if_neg h2]
        by_cases h3 : (k_acceptW tx (k_acceptW tx (k_accept tx s 47).2 42 1).2 45 2).1 = true
        · rw [if_pos h3]; exact e3
        · rw [if_neg h3]
          by_cases h4 : (k_readLabel tx (k_acceptW tx (k_acceptW tx (k_accept tx s 47).2 42 1).2 45 2).2).1 = true
          · rw [if_pos h4, ih]; exact e4
          · rw [if_neg h4]; exact e4
    · rw [if_neg h1]; exact e1
theorem k_readPath_p (tx : List Nat) (s : RS) : (k_readPath tx s).2.2.2.2 = s.2.2.2 := by
  rw [k_path_e]
  exact kp_p tx 3 s

def k_readPerm (tx : List Nat) (s : RS)  : Bool × RS := if (k_accept tx s 42).1 = true then (true, (((k_accept tx s 42).2).1, ((k_accept tx s 42).2).2.1, ((k_accept tx s 42).2).2.2.1, 4294967295, ((k_accept tx s 42).2).2.2.2.2.1, ((k_accept tx s 42).2).2.2.2.2.2)) else if (k_accept tx ((k_accept tx s 42).2) 102).1 = true then if (k_readPath tx ((k_accept tx ((k_accept tx s 42).2) 102).2)).1 = true then if (k_accept tx ((k_readPath tx ((k_accept tx ((k_accept tx s 42).2) 102).2)).2) 58).1 = true then if (k_readLetters tx ((k_accept tx ((k_readPath tx ((k_accept tx ((k_accept tx s 42).2) 102).2)).2) 58).2)).1 = true then (true, (k_readLetters tx ((k_accept tx ((k_readPath tx ((k_accept tx ((k_accept tx s 42).2) 102).2)).2) 58).2)).2) else (false, (k_readLetters tx ((k_accept tx ((k_readPath tx ((k_accept tx ((k_accept tx s 42).2) 102).2)).2) 58).2)).2) else (false, (k_accept tx ((k_readPath tx ((k_accept tx ((k_accept tx s 42).2) 102).2)).2) 58).2) else (false, (k_readPath tx ((k_accept tx ((k_accept tx s 42).2) 102).2)).2) else if (k_accept tx ((k_accept tx ((k_accept tx s 42).2) 102).2) 104).1 = true then if (k_readHost tx ((k_accept tx ((k_accept tx ((k_accept tx s 42).2) 102).2) 104).2)).1 = true then if (k_accept tx ((k_readHost tx ((k_accept tx ((k_accept tx ((k_accept tx s 42).2) 102).2) 104).2)).2) 58).1 = true then if (k_readRange tx ((k_accept tx ((k_readHost tx ((k_accept tx ((k_accept tx ((k_accept tx s 42).2) 102).2) 104).2)).2) 58).2)).1 = true then (true, (k_readRange tx ((k_accept tx ((k_readHost tx ((k_accept tx ((k_accept tx ((k_accept tx s 42).2) 102).2) 104).2)).2) 58).2)).2) else (false, (k_readRange tx ((k_accept tx ((k_readHost tx ((k_accept tx ((k_accept tx ((k_accept tx s 42).2) 102).2) 104).2)).2) 58).2)).2) else (false, (k_accept tx ((k_readHost tx ((k_accept tx ((k_accept tx ((k_accept tx s 42).2) 102).2) 104).2)).2) 58).2) else (false, (k_readHost tx ((k_accept tx ((k_accept tx ((k_accept tx s 42).2) 102).2) 104).2)).2) else if (k_accept tx ((k_accept tx ((k_accept tx ((k_accept tx s 42).2) 102).2) 104).2) 110).1 = true then if (k_readName tx ((k_accept tx ((k_accept tx ((k_accept tx ((k_accept tx s 42).2) 102).2) 104).2) 110).2)).1 = true then (true, (k_readName tx ((k_accept tx ((k_accept tx ((k_accept tx ((k_accept tx s 42).2) 102).2) 104).2) 110).2)).2) else (false, (k_readName tx ((k_accept tx ((k_accept tx ((k_accept tx ((k_accept tx s 42).2) 102).2) 104).2) 110).2)).2) else (false, (k_accept tx ((k_accept tx ((k_accept tx ((k_accept tx s 42).2) 102).2) 104).2) 110).2)
set_option maxHeartbeats 1000000 in
set_option maxRecDepth 100000 in
theorem c_readPerm {l : Launch} {G : sg_G} {d : Nat} {M0 M : sg_M} {kr : Option Value → sg_M → Prop} {kx : String → sg_M → Prop} {x ta b kd : Nat} {tx : List Nat} {s : RS} (htr : l.stackTraces = false) (hI : rd_I G M0 M x ta b kd tx s)  (hl : s.2.1.length = 0) (hp : s.2.2.2.1 = 0) (hk : ∀ M', rd_I G M0 M' x ta b (k_next tx s) tx (k_readPerm tx s).2 → kr (some (.int (md_b (k_readPerm tx s).1))) M') : sg_Met l G yX4_readPermission cX4_readPermission 1 (some .boolean) (d + 8) 0 0 [.ref x] M kr kx := by
  refine sg_enter [some (.ref x)] (by decide) htr (Nat.le_of_ble_eq_true rfl) rfl ?_
  intro X hC hR
  have hC : sg_C X l G cX4_readPermission RX4 1 (d + 8) := hC
  have hn1 := hI.hn.1
  have hn2 := hI.hn.2
  have hcs := hI.hc
  refine sg_aload_n (pc := 0) (v := .ref x) hC dX4_readPermission_0 rfl rfl ?_
  refine sg_aload_n (pc := 1) (v := .ref x) hC dX4_readPermission_1 rfl rfl ?_
  refine sg_callV (pc := 2) (As := []) (rest := [.ref x]) (mc := 0) (ms := 0) hC tw_606 tw_608 tw_2 tw_83 tw_609 yd_X4_next (by decide) (ci := 7) rfl dX4_readPermission_2 hI.hx rfl (Nat.le_of_ble_eq_true rfl) (by first | omega | decide | (have h9 := hI.hn.1; omega) | (simp only [k_accept_b, k_readPath_p]; omega) | (simp only [k_accept_b, k_readPath_p]; decide) | (show (k_accept tx _ _).2.2.1.length = 0; simp only [k_accept_b]; omega)) (by first | omega | decide | (have h9 := hI.hn.1; omega) | (simp only [k_accept_b, k_readPath_p]; omega) | (simp only [k_accept_b, k_readPath_p]; decide) | (show (k_accept tx _ _).2.2.1.length = 0; simp only [k_accept_b]; omega)) ?_
  refine c_next htr hI   ?_
  have hc1 := k_next_lt (s := s) hcs
  show sg_W X M 0 0 5 [some (.ref x)] [.int (nI ((k_next tx s))), .ref x]
  refine rd_put2 (pc := 5) (v := (k_next tx s)) hC tw_552 dX4_readPermission_5 hI (by first | omega | decide | (have h9 := hI.hn.1; omega) | (simp only [k_accept_b, k_readPath_p]; omega) | (simp only [k_accept_b, k_readPath_p]; decide) | (show (k_accept tx _ _).2.2.1.length = 0; simp only [k_accept_b]; omega)) (fun M2 hI => ?_)
  have hI : rd_I G M0 M2 x ta b ((k_next tx s)) tx s := hI
  show sg_W X M2 0 0 8 [some (.ref x)] []
  refine sg_aload_n (pc := 8) (v := .ref x) hC dX4_readPermission_8 rfl rfl ?_
  refine sg_bipush (pc := 9) (nI 42) hC dX4_readPermission_9 (by decide) ?_
  refine sg_callV (pc := 11) (As := [.int (nI 42)]) (rest := []) (mc := 0) (ms := 0) hC tw_626 tw_628 tw_3 tw_83 tw_629 yd_X4_accept (by decide) (ci := 7) rfl dX4_readPermission_11 hI.hx rfl (Nat.le_of_ble_eq_true rfl) (by first | omega | decide | (have h9 := hI.hn.1; omega) | (simp only [k_accept_b, k_readPath_p]; omega) | (simp only [k_accept_b, k_readPath_p]; decide) | (show (k_accept tx _ _).2.2.1.length = 0; simp only [k_accept_b]; omega)) (by first | omega | decide | (have h9 := hI.hn.1; omega) | (simp only [k_accept_b, k_readPath_p]; omega) | (simp only [k_accept_b, k_readPath_p]; decide) | (show (k_accept tx _ _).2.2.1.length = 0; simp only [k_accept_b]; omega)) ?_
  refine c_accept htr hI 42 (by first | omega | decide | (have h9 := hI.hn.1; omega) | (simp only [k_accept_b, k_readPath_p]; omega) | (simp only [k_accept_b, k_readPath_p]; decide) | (show (k_accept tx _ _).2.2.1.length = 0; simp only [k_accept_b]; omega)) (by first | omega | decide | (have h9 := hI.hn.1; omega) | (simp only [k_accept_b, k_readPath_p]; omega) | (simp only [k_accept_b, k_readPath_p]; decide) | (show (k_accept tx _ _).2.2.1.length = 0; simp only [k_accept_b]; omega)) (fun M3 hI => ?_)
  have hI : rd_I G M0 M3 x ta b ((k_next tx s)) tx ((k_accept tx s 42).2) := hI
  have hl4 : ((k_accept tx s 42).2).2.1 = s.2.1 := congrArg Prod.fst (k_accept_b tx s 42)
  have hl5 : ((k_accept tx s 42).2).2.1.length = s.2.1.length := by rw [hl4]
  show sg_W X M3 0 0 14 [some (.ref x)] [.int (md_b ((k_accept tx s 42).1))]
  refine sg_ifB_eq (pc := 14) (b := (k_accept tx s 42).1) 24 hC dX4_readPermission_14 (by decide) (fun h6 => ?_) (fun h6 => ?_)
  · refine sg_aload_n (pc := 24) (v := .ref x) hC dX4_readPermission_24 rfl rfl ?_
    refine sg_bipush (pc := 25) (nI 102) hC dX4_readPermission_25 (by decide) ?_
    refine sg_callV (pc := 27) (As := [.int (nI 102)]) (rest := []) (mc := 0) (ms := 0) hC tw_626 tw_628 tw_3 tw_83 tw_629 yd_X4_accept (by decide) (ci := 7) rfl dX4_readPermission_27 hI.hx rfl (Nat.le_of_ble_eq_true rfl) (by first | omega | decide | (have h9 := hI.hn.1; omega) | (simp only [k_accept_b, k_readPath_p]; omega) | (simp only [k_accept_b, k_readPath_p]; decide) | (show (k_accept tx _ _).2.2.1.length = 0; simp only [k_accept_b]; omega)) (by first | omega | decide | (have h9 := hI.hn.1; omega) | (simp only [k_accept_b, k_readPath_p]; omega) | (simp only [k_accept_b, k_readPath_p]; decide) | (show (k_accept tx _ _).2.2.1.length = 0; simp only [k_accept_b]; omega)) ?_
    refine c_accept htr hI 102 (by first | omega | decide | (have h9 := hI.hn.1; omega) | (simp only [k_accept_b, k_readPath_p]; omega) | (simp only [k_accept_b, k_readPath_p]; decide) | (show (k_accept tx _ _).2.2.1.length = 0; simp only [k_accept_b]; omega)) (by first | omega | decide | (have h9 := hI.hn.1; omega) | (simp only [k_accept_b, k_readPath_p]; omega) | (simp only [k_accept_b, k_readPath_p]; decide) | (show (k_accept tx _ _).2.2.1.length = 0; simp only [k_accept_b]; omega)) (fun M7 hI => ?_)
    have hI : rd_I G M0 M7 x ta b ((k_next tx s)) tx ((k_accept tx ((k_accept tx s 42).2) 102).2) := hI
    have hl8 : ((k_accept tx ((k_accept tx s 42).2) 102).2).2.1 = ((k_accept tx s 42).2).2.1 := congrArg Prod.fst (k_accept_b tx ((k_accept tx s 42).2) 102)
    have hl9 : ((k_accept tx ((k_accept tx s 42).2) 102).2).2.1.length = ((k_accept tx s 42).2).2.1.length := by rw [hl8]
    show sg_W X M7 0 0 30 [some (.ref x)] [.int (md_b ((k_accept tx ((k_accept tx s 42).2) 102).1))]
    refine sg_ifB_eq (pc := 30) (b := (k_accept tx ((k_accept tx s 42).2) 102).1) 62 hC dX4_readPermission_30 (by decide) (fun h10 => ?_) (fun h10 => ?_)
    · refine sg_aload_n (pc := 62) (v := .ref x) hC dX4_readPermission_62 rfl rfl ?_
      refine sg_bipush (pc := 63) (nI 104) hC dX4_readPermission_63 (by decide) ?_
      refine sg_callV (pc := 65) (As := [.int (nI 104)]) (rest := []) (mc := 0) (ms := 0) hC tw_626 tw_628 tw_3 tw_83 tw_629 yd_X4_accept (by decide) (ci := 7) rfl dX4_readPermission_65 hI.hx rfl (Nat.le_of_ble_eq_true rfl) (by first | omega | decide | (have h9 := hI.hn.1; omega) | (simp only [k_accept_b, k_readPath_p]; omega) | (simp only [k_accept_b, k_readPath_p]; decide) | (show (k_accept tx _ _).2.2.1.length = 0; simp only [k_accept_b]; omega)) (by first | omega | decide | (have h9 := hI.hn.1; omega) | (simp only [k_accept_b, k_readPath_p]; omega) | (simp only [k_accept_b, k_readPath_p]; decide) | (show (k_accept tx _ _).2.2.1.length = 0; simp only [k_accept_b]; omega)) ?_
      refine c_accept htr hI 104 (by first | omega | decide | (have h9 := hI.hn.1; omega) | (simp only [k_accept_b, k_readPath_p]; omega) | (simp only [k_accept_b, k_readPath_p]; decide) | (show (k_accept tx _ _).2.2.1.length = 0; simp only [k_accept_b]; omega)) (by first | omega | decide | (have h9 := hI.hn.1; omega) | (simp only [k_accept_b, k_readPath_p]; omega) | (simp only [k_accept_b, k_readPath_p]; decide) | (show (k_accept tx _ _).2.2.1.length = 0; simp only [k_accept_b]; omega)) (fun M11 hI => ?_)
      have hI : rd_I G M0 M11 x ta b ((k_next tx s)) tx ((k_accept tx ((k_accept tx ((k_accept tx s 42).2) 102).2) 104).2) := hI
      have hl12 : ((k_accept tx ((k_accept tx ((k_accept tx s 42).2) 102).2) 104).2).2.1 = ((k_accept tx ((k_accept tx s 42).2) 102).2).2.1 := congrArg Prod.fst (k_accept_b tx ((k_accept tx ((k_accept tx s 42).2) 102).2) 104)
      have hl13 : ((k_accept tx ((k_accept tx ((k_accept tx s 42).2) 102).2) 104).2).2.1.length = ((k_accept tx ((k_accept tx s 42).2) 102).2).2.1.length := by rw [hl12]
      show sg_W X M11 0 0 68 [some (.ref x)] [.int (md_b ((k_accept tx ((k_accept tx ((k_accept tx s 42).2) 102).2) 104).1))]
      refine sg_ifB_eq (pc := 68) (b := (k_accept tx ((k_accept tx ((k_accept tx s 42).2) 102).2) 104).1) 100 hC dX4_readPermission_68 (by decide) (fun h14 => ?_) (fun h14 => ?_)
      · refine sg_aload_n (pc := 100) (v := .ref x) hC dX4_readPermission_100 rfl rfl ?_
        refine sg_bipush (pc := 101) (nI 110) hC dX4_readPermission_101 (by decide) ?_
        refine sg_callV (pc := 103) (As := [.int (nI 110)]) (rest := []) (mc := 0) (ms := 0) hC tw_626 tw_628 tw_3 tw_83 tw_629 yd_X4_accept (by decide) (ci := 7) rfl dX4_readPermission_103 hI.hx rfl (Nat.le_of_ble_eq_true rfl) (by first | omega | decide | (have h9 := hI.hn.1; omega) | (simp only [k_accept_b, k_readPath_p]; omega) | (simp only [k_accept_b, k_readPath_p]; decide) | (show (k_accept tx _ _).2.2.1.length = 0; simp only [k_accept_b]; omega)) (by first | omega | decide | (have h9 := hI.hn.1; omega) | (simp only [k_accept_b, k_readPath_p]; omega) | (simp only [k_accept_b, k_readPath_p]; decide) | (show (k_accept tx _ _).2.2.1.length = 0; simp only [k_accept_b]; omega)) ?_
        refine c_accept htr hI 110 (by first | omega | decide | (have h9 := hI.hn.1; omega) | (simp only [k_accept_b, k_readPath_p]; omega) | (simp only [k_accept_b, k_readPath_p]; decide) | (show (k_accept tx _ _).2.2.1.length = 0; simp only [k_accept_b]; omega)) (by first | omega | decide | (have h9 := hI.hn.1; omega) | (simp only [k_accept_b, k_readPath_p]; omega) | (simp only [k_accept_b, k_readPath_p]; decide) | (show (k_accept tx _ _).2.2.1.length = 0; simp only [k_accept_b]; omega)) (fun M15 hI => ?_)
        have hI : rd_I G M0 M15 x ta b ((k_next tx s)) tx ((k_accept tx ((k_accept tx ((k_accept tx ((k_accept tx s 42).2) 102).2) 104).2) 110).2) := hI
        have hl16 : ((k_accept tx ((k_accept tx ((k_accept tx ((k_accept tx s 42).2) 102).2) 104).2) 110).2).2.1 = ((k_accept tx ((k_accept tx ((k_accept tx s 42).2) 102).2) 104).2).2.1 := congrArg Prod.fst (k_accept_b tx ((k_accept tx ((k_accept tx ((k_accept tx s 42).2) 102).2) 104).2) 110)
        have hl17 : ((k_accept tx ((k_accept tx ((k_accept tx ((k_accept tx s 42).2) 102).2) 104).2) 110).2).2.1.length = ((k_accept tx ((k_accept tx ((k_accept tx s 42).2) 102).2) 104).2).2.1.length := by rw [hl16]
        show sg_W X M15 0 0 106 [some (.ref x)] [.int (md_b ((k_accept tx ((k_accept tx ((k_accept tx ((k_accept tx s 42).2) 102).2) 104).2) 110).1))]
        refine sg_ifB_eq (pc := 106) (b := (k_accept tx ((k_accept tx ((k_accept tx ((k_accept tx s 42).2) 102).2) 104).2) 110).1) 120 hC dX4_readPermission_106 (by decide) (fun h18 => ?_) (fun h18 => ?_)
        · refine sg_iconst (pc := 120) (nI 0) hC dX4_readPermission_120 (by decide) ?_
          have e9 : k_readPerm tx s = (false, (k_accept tx ((k_accept tx ((k_accept tx ((k_accept tx s 42).2) 102).2) 104).2) 110).2) := by rw [k_readPerm]; simp only [if_neg (ts9 h6), if_neg (ts9 h10), if_neg (ts9 h14), if_neg (ts9 h18)]
          rw [e9] at hk
          exact sg_zreturn (st := []) (v := md_b false) (pc := 121) (ty := .boolean) hC hR (md_narb _) dX4_readPermission_121 (hk M15 hI)
        · refine sg_aload_n (pc := 109) (v := .ref x) hC dX4_readPermission_109 rfl rfl ?_
          refine sg_callV (pc := 110) (As := []) (rest := []) (mc := 0) (ms := 0) hC tw_741 tw_743 tw_12 tw_83 tw_744 yd_X4_readName (by decide) (ci := 7) rfl dX4_readPermission_110 hI.hx rfl (Nat.le_of_ble_eq_true rfl) (by first | omega | decide | (have h9 := hI.hn.1; omega) | (simp only [k_accept_b, k_readPath_p]; omega) | (simp only [k_accept_b, k_readPath_p]; decide) | (show (k_accept tx _ _).2.2.1.length = 0; simp only [k_accept_b]; omega)) (by first | omega | decide | (have h9 := hI.hn.1; omega) | (simp only [k_accept_b, k_readPath_p]; omega) | (simp only [k_accept_b, k_readPath_p]; decide) | (show (k_accept tx _ _).2.2.1.length = 0; simp only [k_accept_b]; omega)) ?_
          refine c_readName htr hI  (by first | omega | decide | (have h9 := hI.hn.1; omega) | (simp only [k_accept_b, k_readPath_p]; omega) | (simp only [k_accept_b, k_readPath_p]; decide) | (show (k_accept tx _ _).2.2.1.length = 0; simp only [k_accept_b]; omega)) (fun M19 hI => ?_)
          have hI : rd_I G M0 M19 x ta b ((k_next tx s)) tx ((k_readName tx ((k_accept tx ((k_accept tx ((k_accept tx ((k_accept tx s 42).2) 102).2) 104).2) 110).2)).2) := hI
          show sg_W X M19 0 0 113 [some (.ref x)] [.int (md_b ((k_readName tx ((k_accept tx ((k_accept tx ((k_accept tx ((k_accept tx s 42).2) 102).2) 104).2) 110).2)).1))]
          refine sg_ifB_eq (pc := 113) (b := (k_readName tx ((k_accept tx ((k_accept tx ((k_accept tx ((k_accept tx s 42).2) 102).2) 104).2) 110).2)).1) 120 hC dX4_readPermission_113 (by decide) (fun h20 => ?_) (fun h20 => ?_)
          · refine sg_iconst (pc := 120) (nI 0) hC dX4_readPermission_120 (by decide) ?_
            have e9 : k_readPerm tx s = (false, (k_readName tx ((k_accept tx ((k_accept tx ((k_accept tx ((k_accept tx s 42).2) 102).2) 104).2) 110).2)).2) := by rw [k_readPerm]; simp only [if_neg (ts9 h6), if_neg (ts9 h10), if_neg (ts9 h14), if_pos h18, if_neg (ts9 h20)]
            rw [e9] at hk
            exact sg_zreturn (st := []) (v := md_b false) (pc := 121) (ty := .boolean) hC hR (md_narb _) dX4_readPermission_121 (hk M19 hI)
          · refine sg_iconst (pc := 116) (nI 1) hC dX4_readPermission_116 (by decide) ?_
            refine sg_goto (pc := 117) 121 hC dX4_readPermission_117 (by decide) ?_
            have e9 : k_readPerm tx s = (true, (k_readName tx ((k_accept tx ((k_accept tx ((k_accept tx ((k_accept tx s 42).2) 102).2) 104).2) 110).2)).2) := by rw [k_readPerm]; simp only [if_neg (ts9 h6), if_neg (ts9 h10), if_neg (ts9 h14), if_pos h18, if_pos h20]
            rw [e9] at hk
            exact sg_zreturn (st := []) (v := md_b true) (pc := 121) (ty := .boolean) hC hR (md_narb _) dX4_readPermission_121 (hk M19 hI)
      · refine sg_aload_n (pc := 71) (v := .ref x) hC dX4_readPermission_71 rfl rfl ?_
        refine sg_callV (pc := 72) (As := []) (rest := []) (mc := 0) (ms := 0) hC tw_694 tw_696 tw_8 tw_83 tw_697 yd_X4_readHost (by decide) (ci := 7) rfl dX4_readPermission_72 hI.hx rfl (Nat.le_of_ble_eq_true rfl) (by first | omega | decide | (have h9 := hI.hn.1; omega) | (simp only [k_accept_b, k_readPath_p]; omega) | (simp only [k_accept_b, k_readPath_p]; decide) | (show (k_accept tx _ _).2.2.1.length = 0; simp only [k_accept_b]; omega)) (by first | omega | decide | (have h9 := hI.hn.1; omega) | (simp only [k_accept_b, k_readPath_p]; omega) | (simp only [k_accept_b, k_readPath_p]; decide) | (show (k_accept tx _ _).2.2.1.length = 0; simp only [k_accept_b]; omega)) ?_
        refine c_readHost htr hI  (by first | omega | decide | (have h9 := hI.hn.1; omega) | (simp only [k_accept_b, k_readPath_p]; omega) | (simp only [k_accept_b, k_readPath_p]; decide) | (show (k_accept tx _ _).2.2.1.length = 0; simp only [k_accept_b]; omega)) (fun M21 hI => ?_)
        have hI : rd_I G M0 M21 x ta b ((k_next tx s)) tx ((k_readHost tx ((k_accept tx ((k_accept tx ((k_accept tx s 42).2) 102).2) 104).2)).2) := hI
        show sg_W X M21 0 0 75 [some (.ref x)] [.int (md_b ((k_readHost tx ((k_accept tx ((k_accept tx ((k_accept tx s 42).2) 102).2) 104).2)).1))]
        refine sg_ifB_eq (pc := 75) (b := (k_readHost tx ((k_accept tx ((k_accept tx ((k_accept tx s 42).2) 102).2) 104).2)).1) 98 hC dX4_readPermission_75 (by decide) (fun h22 => ?_) (fun h22 => ?_)
        · refine sg_iconst (pc := 98) (nI 0) hC dX4_readPermission_98 (by decide) ?_
          have e9 : k_readPerm tx s = (false, (k_readHost tx ((k_accept tx ((k_accept tx ((k_accept tx s 42).2) 102).2) 104).2)).2) := by rw [k_readPerm]; simp only [if_neg (ts9 h6), if_neg (ts9 h10), if_pos h14, if_neg (ts9 h22)]
          rw [e9] at hk
          exact sg_zreturn (st := []) (v := md_b false) (pc := 99) (ty := .boolean) hC hR (md_narb _) dX4_readPermission_99 (hk M21 hI)
        · refine sg_aload_n (pc := 78) (v := .ref x) hC dX4_readPermission_78 rfl rfl ?_
          refine sg_bipush (pc := 79) (nI 58) hC dX4_readPermission_79 (by decide) ?_
          refine sg_callV (pc := 81) (As := [.int (nI 58)]) (rest := []) (mc := 0) (ms := 0) hC tw_626 tw_628 tw_3 tw_83 tw_629 yd_X4_accept (by decide) (ci := 7) rfl dX4_readPermission_81 hI.hx rfl (Nat.le_of_ble_eq_true rfl) (by first | omega | decide | (have h9 := hI.hn.1; omega) | (simp only [k_accept_b, k_readPath_p]; omega) | (simp only [k_accept_b, k_readPath_p]; decide) | (show (k_accept tx _ _).2.2.1.length = 0; simp only [k_accept_b]; omega)) (by first | omega | decide | (have h9 := hI.hn.1; omega) | (simp only [k_accept_b, k_readPath_p]; omega) | (simp only [k_accept_b, k_readPath_p]; decide) | (show (k_accept tx _ _).2.2.1.length = 0; simp only [k_accept_b]; omega)) ?_
          refine c_accept htr hI 58 (by first | omega | decide | (have h9 := hI.hn.1; omega) | (simp only [k_accept_b, k_readPath_p]; omega) | (simp only [k_accept_b, k_readPath_p]; decide) | (show (k_accept tx _ _).2.2.1.length = 0; simp only [k_accept_b]; omega)) (by first | omega | decide | (have h9 := hI.hn.1; omega) | (simp only [k_accept_b, k_readPath_p]; omega) | (simp only [k_accept_b, k_readPath_p]; decide) | (show (k_accept tx _ _).2.2.1.length = 0; simp only [k_accept_b]; omega)) (fun M23 hI => ?_)
          have hI : rd_I G M0 M23 x ta b ((k_next tx s)) tx ((k_accept tx ((k_readHost tx ((k_accept tx ((k_accept tx ((k_accept tx s 42).2) 102).2) 104).2)).2) 58).2) := hI
          have hl24 : ((k_accept tx ((k_readHost tx ((k_accept tx ((k_accept tx ((k_accept tx s 42).2) 102).2) 104).2)).2) 58).2).2.1 = ((k_readHost tx ((k_accept tx ((k_accept tx ((k_accept tx s 42).2) 102).2) 104).2)).2).2.1 := congrArg Prod.fst (k_accept_b tx ((k_readHost tx ((k_accept tx ((k_accept tx ((k_accept tx s 42).2) 102).2) 104).2)).2) 58)
          have hl25 : ((k_accept tx ((k_readHost tx ((k_accept tx ((k_accept tx ((k_accept tx s 42).2) 102).2) 104).2)).2) 58).2).2.1.length = ((k_readHost tx ((k_accept tx ((k_accept tx ((k_accept tx s 42).2) 102).2) 104).2)).2).2.1.length := by rw [hl24]
          show sg_W X M23 0 0 84 [some (.ref x)] [.int (md_b ((k_accept tx ((k_readHost tx ((k_accept tx ((k_accept tx ((k_accept tx s 42).2) 102).2) 104).2)).2) 58).1))]
          refine sg_ifB_eq (pc := 84) (b := (k_accept tx ((k_readHost tx ((k_accept tx ((k_accept tx ((k_accept tx s 42).2) 102).2) 104).2)).2) 58).1) 98 hC dX4_readPermission_84 (by decide) (fun h26 => ?_) (fun h26 => ?_)
          · refine sg_iconst (pc := 98) (nI 0) hC dX4_readPermission_98 (by decide) ?_
            have e9 : k_readPerm tx s = (false, (k_accept tx ((k_readHost tx ((k_accept tx ((k_accept tx ((k_accept tx s 42).2) 102).2) 104).2)).2) 58).2) := by rw [k_readPerm]; simp only [if_neg (ts9 h6), if_neg (ts9 h10), if_pos h14, if_pos h22, if_neg (ts9 h26)]
            rw [e9] at hk
            exact sg_zreturn (st := []) (v := md_b false) (pc := 99) (ty := .boolean) hC hR (md_narb _) dX4_readPermission_99 (hk M23 hI)
          · refine sg_aload_n (pc := 87) (v := .ref x) hC dX4_readPermission_87 rfl rfl ?_
            refine sg_callV (pc := 88) (As := []) (rest := []) (mc := 0) (ms := 0) hC tw_732 tw_734 tw_10 tw_83 tw_735 yd_X4_readRange (by decide) (ci := 7) rfl dX4_readPermission_88 hI.hx rfl (Nat.le_of_ble_eq_true rfl) (by first | omega | decide | (have h9 := hI.hn.1; omega) | (simp only [k_accept_b, k_readPath_p]; omega) | (simp only [k_accept_b, k_readPath_p]; decide) | (show (k_accept tx _ _).2.2.1.length = 0; simp only [k_accept_b]; omega)) (by first | omega | decide | (have h9 := hI.hn.1; omega) | (simp only [k_accept_b, k_readPath_p]; omega) | (simp only [k_accept_b, k_readPath_p]; decide) | (show (k_accept tx _ _).2.2.1.length = 0; simp only [k_accept_b]; omega)) ?_
            refine c_readRange htr hI   (fun M27 hI => ?_)
            have hI : rd_I G M0 M27 x ta b ((k_next tx s)) tx ((k_readRange tx ((k_accept tx ((k_readHost tx ((k_accept tx ((k_accept tx ((k_accept tx s 42).2) 102).2) 104).2)).2) 58).2)).2) := hI
            show sg_W X M27 0 0 91 [some (.ref x)] [.int (md_b ((k_readRange tx ((k_accept tx ((k_readHost tx ((k_accept tx ((k_accept tx ((k_accept tx s 42).2) 102).2) 104).2)).2) 58).2)).1))]
            refine sg_ifB_eq (pc := 91) (b := (k_readRange tx ((k_accept tx ((k_readHost tx ((k_accept tx ((k_accept tx ((k_accept tx s 42).2) 102).2) 104).2)).2) 58).2)).1) 98 hC dX4_readPermission_91 (by decide) (fun h28 => ?_) (fun h28 => ?_)
            · refine sg_iconst (pc := 98) (nI 0) hC dX4_readPermission_98 (by decide) ?_
              have e9 : k_readPerm tx s = (false, (k_readRange tx ((k_accept tx ((k_readHost tx ((k_accept tx ((k_accept tx ((k_accept tx s 42).2) 102).2) 104).2)).2) 58).2)).2) := by rw [k_readPerm]; simp only [if_neg (ts9 h6), if_neg (ts9 h10), if_pos h14, if_pos h22, if_pos h26, if_neg (ts9 h28)]
              rw [e9] at hk
              exact sg_zreturn (st := []) (v := md_b false) (pc := 99) (ty := .boolean) hC hR (md_narb _) dX4_readPermission_99 (hk M27 hI)
            · refine sg_iconst (pc := 94) (nI 1) hC dX4_readPermission_94 (by decide) ?_
              refine sg_goto (pc := 95) 99 hC dX4_readPermission_95 (by decide) ?_
              have e9 : k_readPerm tx s = (true, (k_readRange tx ((k_accept tx ((k_readHost tx ((k_accept tx ((k_accept tx ((k_accept tx s 42).2) 102).2) 104).2)).2) 58).2)).2) := by rw [k_readPerm]; simp only [if_neg (ts9 h6), if_neg (ts9 h10), if_pos h14, if_pos h22, if_pos h26, if_pos h28]
              rw [e9] at hk
              exact sg_zreturn (st := []) (v := md_b true) (pc := 99) (ty := .boolean) hC hR (md_narb _) dX4_readPermission_99 (hk M27 hI)
    · refine sg_aload_n (pc := 33) (v := .ref x) hC dX4_readPermission_33 rfl rfl ?_
      refine sg_callV (pc := 34) (As := []) (rest := []) (mc := 0) (ms := 0) hC tw_630 tw_632 tw_4 tw_83 tw_633 yd_X4_readPath (by decide) (ci := 7) rfl dX4_readPermission_34 hI.hx rfl (Nat.le_of_ble_eq_true rfl) (by first | omega | decide | (have h9 := hI.hn.1; omega) | (simp only [k_accept_b, k_readPath_p]; omega) | (simp only [k_accept_b, k_readPath_p]; decide) | (show (k_accept tx _ _).2.2.1.length = 0; simp only [k_accept_b]; omega)) (by first | omega | decide | (have h9 := hI.hn.1; omega) | (simp only [k_accept_b, k_readPath_p]; omega) | (simp only [k_accept_b, k_readPath_p]; decide) | (show (k_accept tx _ _).2.2.1.length = 0; simp only [k_accept_b]; omega)) ?_
      refine c_readPath htr hI  (by first | omega | decide | (have h9 := hI.hn.1; omega) | (simp only [k_accept_b, k_readPath_p]; omega) | (simp only [k_accept_b, k_readPath_p]; decide) | (show (k_accept tx _ _).2.2.1.length = 0; simp only [k_accept_b]; omega)) (fun M29 hI => ?_)
      have hI : rd_I G M0 M29 x ta b ((k_next tx s)) tx ((k_readPath tx ((k_accept tx ((k_accept tx s 42).2) 102).2)).2) := hI
      show sg_W X M29 0 0 37 [some (.ref x)] [.int (md_b ((k_readPath tx ((k_accept tx ((k_accept tx s 42).2) 102).2)).1))]
      refine sg_ifB_eq (pc := 37) (b := (k_readPath tx ((k_accept tx ((k_accept tx s 42).2) 102).2)).1) 60 hC dX4_readPermission_37 (by decide) (fun h30 => ?_) (fun h30 => ?_)
      · refine sg_iconst (pc := 60) (nI 0) hC dX4_readPermission_60 (by decide) ?_
        have e9 : k_readPerm tx s = (false, (k_readPath tx ((k_accept tx ((k_accept tx s 42).2) 102).2)).2) := by rw [k_readPerm]; simp only [if_neg (ts9 h6), if_pos h10, if_neg (ts9 h30)]
        rw [e9] at hk
        exact sg_zreturn (st := []) (v := md_b false) (pc := 61) (ty := .boolean) hC hR (md_narb _) dX4_readPermission_61 (hk M29 hI)
      · refine sg_aload_n (pc := 40) (v := .ref x) hC dX4_readPermission_40 rfl rfl ?_
        refine sg_bipush (pc := 41) (nI 58) hC dX4_readPermission_41 (by decide) ?_
        refine sg_callV (pc := 43) (As := [.int (nI 58)]) (rest := []) (mc := 0) (ms := 0) hC tw_626 tw_628 tw_3 tw_83 tw_629 yd_X4_accept (by decide) (ci := 7) rfl dX4_readPermission_43 hI.hx rfl (Nat.le_of_ble_eq_true rfl) (by first | omega | decide | (have h9 := hI.hn.1; omega) | (simp only [k_accept_b, k_readPath_p]; omega) | (simp only [k_accept_b, k_readPath_p]; decide) | (show (k_accept tx _ _).2.2.1.length = 0; simp only [k_accept_b]; omega)) (by first | omega | decide | (have h9 := hI.hn.1; omega) | (simp only [k_accept_b, k_readPath_p]; omega) | (simp only [k_accept_b, k_readPath_p]; decide) | (show (k_accept tx _ _).2.2.1.length = 0; simp only [k_accept_b]; omega)) ?_
        refine c_accept htr hI 58 (by first | omega | decide | (have h9 := hI.hn.1; omega) | (simp only [k_accept_b, k_readPath_p]; omega) | (simp only [k_accept_b, k_readPath_p]; decide) | (show (k_accept tx _ _).2.2.1.length = 0; simp only [k_accept_b]; omega)) (by first | omega | decide | (have h9 := hI.hn.1; omega) | (simp only [k_accept_b, k_readPath_p]; omega) | (simp only [k_accept_b, k_readPath_p]; decide) | (show (k_accept tx _ _).2.2.1.length = 0; simp only [k_accept_b]; omega)) (fun M31 hI => ?_)
        have hI : rd_I G M0 M31 x ta b ((k_next tx s)) tx ((k_accept tx ((k_readPath tx ((k_accept tx ((k_accept tx s 42).2) 102).2)).2) 58).2) := hI
        have hl32 : ((k_accept tx ((k_readPath tx ((k_accept tx ((k_accept tx s 42).2) 102).2)).2) 58).2).2.1 = ((k_readPath tx ((k_accept tx ((k_accept tx s 42).2) 102).2)).2).2.1 := congrArg Prod.fst (k_accept_b tx ((k_readPath tx ((k_accept tx ((k_accept tx s 42).2) 102).2)).2) 58)
        have hl33 : ((k_accept tx ((k_readPath tx ((k_accept tx ((k_accept tx s 42).2) 102).2)).2) 58).2).2.1.length = ((k_readPath tx ((k_accept tx ((k_accept tx s 42).2) 102).2)).2).2.1.length := by rw [hl32]
        show sg_W X M31 0 0 46 [some (.ref x)] [.int (md_b ((k_accept tx ((k_readPath tx ((k_accept tx ((k_accept tx s 42).2) 102).2)).2) 58).1))]
        refine sg_ifB_eq (pc := 46) (b := (k_accept tx ((k_readPath tx ((k_accept tx ((k_accept tx s 42).2) 102).2)).2) 58).1) 60 hC dX4_readPermission_46 (by decide) (fun h34 => ?_) (fun h34 => ?_)
        · refine sg_iconst (pc := 60) (nI 0) hC dX4_readPermission_60 (by decide) ?_
          have e9 : k_readPerm tx s = (false, (k_accept tx ((k_readPath tx ((k_accept tx ((k_accept tx s 42).2) 102).2)).2) 58).2) := by rw [k_readPerm]; simp only [if_neg (ts9 h6), if_pos h10, if_pos h30, if_neg (ts9 h34)]
          rw [e9] at hk
          exact sg_zreturn (st := []) (v := md_b false) (pc := 61) (ty := .boolean) hC hR (md_narb _) dX4_readPermission_61 (hk M31 hI)
        · refine sg_aload_n (pc := 49) (v := .ref x) hC dX4_readPermission_49 rfl rfl ?_
          refine sg_callV (pc := 50) (As := []) (rest := []) (mc := 0) (ms := 0) hC tw_643 tw_645 tw_7 tw_83 tw_646 yd_X4_readLetters (by decide) (ci := 7) rfl dX4_readPermission_50 hI.hx rfl (Nat.le_of_ble_eq_true rfl) (by first | omega | decide | (have h9 := hI.hn.1; omega) | (simp only [k_accept_b, k_readPath_p]; omega) | (simp only [k_accept_b, k_readPath_p]; decide) | (show (k_accept tx _ _).2.2.1.length = 0; simp only [k_accept_b]; omega)) (by first | omega | decide | (have h9 := hI.hn.1; omega) | (simp only [k_accept_b, k_readPath_p]; omega) | (simp only [k_accept_b, k_readPath_p]; decide) | (show (k_accept tx _ _).2.2.1.length = 0; simp only [k_accept_b]; omega)) ?_
          refine c_readLetters htr hI  (by first | omega | decide | (have h9 := hI.hn.1; omega) | (simp only [k_accept_b, k_readPath_p]; omega) | (simp only [k_accept_b, k_readPath_p]; decide) | (show (k_accept tx _ _).2.2.1.length = 0; simp only [k_accept_b]; omega)) (fun M35 hI => ?_)
          have hI : rd_I G M0 M35 x ta b ((k_next tx s)) tx ((k_readLetters tx ((k_accept tx ((k_readPath tx ((k_accept tx ((k_accept tx s 42).2) 102).2)).2) 58).2)).2) := hI
          show sg_W X M35 0 0 53 [some (.ref x)] [.int (md_b ((k_readLetters tx ((k_accept tx ((k_readPath tx ((k_accept tx ((k_accept tx s 42).2) 102).2)).2) 58).2)).1))]
          refine sg_ifB_eq (pc := 53) (b := (k_readLetters tx ((k_accept tx ((k_readPath tx ((k_accept tx ((k_accept tx s 42).2) 102).2)).2) 58).2)).1) 60 hC dX4_readPermission_53 (by decide) (fun h36 => ?_) (fun h36 => ?_)
          · refine sg_iconst (pc := 60) (nI 0) hC dX4_readPermission_60 (by decide) ?_
            have e9 : k_readPerm tx s = (false, (k_readLetters tx ((k_accept tx ((k_readPath tx ((k_accept tx ((k_accept tx s 42).2) 102).2)).2) 58).2)).2) := by rw [k_readPerm]; simp only [if_neg (ts9 h6), if_pos h10, if_pos h30, if_pos h34, if_neg (ts9 h36)]
            rw [e9] at hk
            exact sg_zreturn (st := []) (v := md_b false) (pc := 61) (ty := .boolean) hC hR (md_narb _) dX4_readPermission_61 (hk M35 hI)
          · refine sg_iconst (pc := 56) (nI 1) hC dX4_readPermission_56 (by decide) ?_
            refine sg_goto (pc := 57) 61 hC dX4_readPermission_57 (by decide) ?_
            have e9 : k_readPerm tx s = (true, (k_readLetters tx ((k_accept tx ((k_readPath tx ((k_accept tx ((k_accept tx s 42).2) 102).2)).2) 58).2)).2) := by rw [k_readPerm]; simp only [if_neg (ts9 h6), if_pos h10, if_pos h30, if_pos h34, if_pos h36]
            rw [e9] at hk
            exact sg_zreturn (st := []) (v := md_b true) (pc := 61) (ty := .boolean) hC hR (md_narb _) dX4_readPermission_61 (hk M35 hI)
  · refine sg_aload_n (pc := 17) (v := .ref x) hC dX4_readPermission_17 rfl rfl ?_
    refine sg_iconst (pc := 18) (((-1))) hC dX4_readPermission_18 (by decide) ?_
    rw [show (-1 : Int32) = nI 4294967295 from by decide]
    refine rd_put5 (pc := 19) (v := 4294967295) hC tw_555 dX4_readPermission_19 hI (fun M37 hI => ?_)
    have hI : rd_I G M0 M37 x ta b ((k_next tx s)) tx ((((k_accept tx s 42).2).1, ((k_accept tx s 42).2).2.1, ((k_accept tx s 42).2).2.2.1, 4294967295, ((k_accept tx s 42).2).2.2.2.2.1, ((k_accept tx s 42).2).2.2.2.2.2)) := hI
    show sg_W X M37 0 0 22 [some (.ref x)] []
    refine sg_iconst (pc := 22) (nI 1) hC dX4_readPermission_22 (by decide) ?_
    have e9 : k_readPerm tx s = (true, (((k_accept tx s 42).2).1, ((k_accept tx s 42).2).2.1, ((k_accept tx s 42).2).2.2.1, 4294967295, ((k_accept tx s 42).2).2.2.2.2.1, ((k_accept tx s 42).2).2.2.2.2.2)) := by rw [k_readPerm]; simp only [if_pos h6]
    rw [e9] at hk
    exact sg_zreturn (st := []) (v := md_b true) (pc := 23) (ty := .boolean) hC hR (md_narb _) dX4_readPermission_23 (hk M37 hI)

def k_succ (tx : List Nat) (s : RS)  : Bool × RS := if (k_readPerm tx s).1 = true then if ((k_readPerm tx s).2).1 = tx.length then (true, (k_readPerm tx s).2) else (false, (k_readPerm tx s).2) else (false, (k_readPerm tx s).2)
set_option maxHeartbeats 1000000 in
set_option maxRecDepth 100000 in
theorem c_succ {l : Launch} {G : sg_G} {d : Nat} {M0 M : sg_M} {kr : Option Value → sg_M → Prop} {kx : String → sg_M → Prop} {x ta b kd : Nat} {tx : List Nat} {s : RS} (htr : l.stackTraces = false) (hI : rd_I G M0 M x ta b kd tx s)  (hl : s.2.1.length = 0) (hp : s.2.2.2.1 = 0) (hk : ∀ M', rd_I G M0 M' x ta b (k_next tx s) tx (k_succ tx s).2 → kr (some (.int (md_b (k_succ tx s).1))) M') : sg_Met l G yX4_succeeds cX4_succeeds 1 (some .boolean) (d + 9) 0 0 [.ref x] M kr kx := by
  refine sg_enter [some (.ref x)] (by decide) htr (Nat.le_of_ble_eq_true rfl) rfl ?_
  intro X hC hR
  have hC : sg_C X l G cX4_succeeds RX4 1 (d + 9) := hC
  have hn1 := hI.hn.1
  have hn2 := hI.hn.2
  have hcs := hI.hc
  refine sg_aload_n (pc := 0) (v := .ref x) hC dX4_succeeds_0 rfl rfl ?_
  refine sg_callV (pc := 1) (As := []) (rest := []) (mc := 0) (ms := 0) hC tw_602 tw_604 tw_1 tw_83 tw_605 yd_X4_readPermission (by decide) (ci := 7) rfl dX4_succeeds_1 hI.hx rfl (Nat.le_of_ble_eq_true rfl) (by first | omega | decide | (have h9 := hI.hn.1; omega) | (simp only [k_accept_b, k_readPath_p]; omega) | (simp only [k_accept_b, k_readPath_p]; decide) | (show (k_accept tx _ _).2.2.1.length = 0; simp only [k_accept_b]; omega)) (by first | omega | decide | (have h9 := hI.hn.1; omega) | (simp only [k_accept_b, k_readPath_p]; omega) | (simp only [k_accept_b, k_readPath_p]; decide) | (show (k_accept tx _ _).2.2.1.length = 0; simp only [k_accept_b]; omega)) ?_
  refine c_readPerm htr hI  (by first | omega | decide | (have h9 := hI.hn.1; omega) | (simp only [k_accept_b, k_readPath_p]; omega) | (simp only [k_accept_b, k_readPath_p]; decide) | (show (k_accept tx _ _).2.2.1.length = 0; simp only [k_accept_b]; omega)) (by first | omega | decide | (have h9 := hI.hn.1; omega) | (simp only [k_accept_b, k_readPath_p]; omega) | (simp only [k_accept_b, k_readPath_p]; decide) | (show (k_accept tx _ _).2.2.1.length = 0; simp only [k_accept_b]; omega)) (fun M1 hI => ?_)
  have hI : rd_I G M0 M1 x ta b (k_next tx s) tx ((k_readPerm tx s).2) := hI
  show sg_W X M1 0 0 4 [some (.ref x)] [.int (md_b ((k_readPerm tx s).1))]
  refine sg_ifB_eq (pc := 4) (b := (k_readPerm tx s).1) 25 hC dX4_succeeds_4 (by decide) (fun h2 => ?_) (fun h2 => ?_)
  · refine sg_iconst (pc := 25) (nI 0) hC dX4_succeeds_25 (by decide) ?_
    have e9 : k_succ tx s = (false, (k_readPerm tx s).2) := by rw [k_succ]; simp only [if_neg (ts9 h2)]
    rw [e9] at hk
    exact sg_zreturn (st := []) (v := md_b false) (pc := 26) (ty := .boolean) hC hR (md_narb _) dX4_succeeds_26 (hk M1 hI)
  · refine sg_aload_n (pc := 7) (v := .ref x) hC dX4_succeeds_7 rfl rfl ?_
    refine rd_get (pc := 8) (i := 1) hC (by decide) tw_551 dX4_succeeds_8 hI rfl ?_
    show sg_W X M1 0 0 11 [some (.ref x)] [.int (nI (((k_readPerm tx s).2).1))]
    refine sg_aload_n (pc := 11) (v := .ref x) hC dX4_succeeds_11 rfl rfl ?_
    refine rd_get (pc := 12) (i := 0) hC (by decide) tw_550 dX4_succeeds_12 hI rfl ?_
    show sg_W X M1 0 0 15 [some (.ref x)] [.ref ta, .int (nI (((k_readPerm tx s).2).1))]
    obtain ⟨_, _, _, _, hx4, -⟩ := id hI.ht
    refine sg_callV (pc := 15) (As := []) (rest := [.int (nI (((k_readPerm tx s).2).1))]) (mc := 0) (ms := 0) hC tw_610 tw_482 tw_483 tw_65 tw_484 yd_J0_length_8abf5 (by decide) (ci := 0) rfl dX4_succeeds_15 hx4 rfl (Nat.le_of_ble_eq_true rfl) (by first | omega | decide | (have h9 := hI.hn.1; omega) | (simp only [k_accept_b, k_readPath_p]; omega) | (simp only [k_accept_b, k_readPath_p]; decide) | (show (k_accept tx _ _).2.2.1.length = 0; simp only [k_accept_b]; omega)) (by first | omega | decide | (have h9 := hI.hn.1; omega) | (simp only [k_accept_b, k_readPath_p]; omega) | (simp only [k_accept_b, k_readPath_p]; decide) | (show (k_accept tx _ _).2.2.1.length = 0; simp only [k_accept_b]; omega)) ?_
    refine c_slen htr hI.ht ?_
    show sg_W X M1 0 0 18 [some (.ref x)] [.int (nI tx.length), .int (nI (((k_readPerm tx s).2).1))]
    refine sg_icmpN_ne (pc := 18) (a := ((k_readPerm tx s).2).1) (b := tx.length) 25 hC dX4_succeeds_18 (by decide) (by first | omega | decide | (have h9 := hI.hn.1; omega) | (simp only [k_accept_b, k_readPath_p]; omega) | (simp only [k_accept_b, k_readPath_p]; decide) | (show (k_accept tx _ _).2.2.1.length = 0; simp only [k_accept_b]; omega)) (by first | omega | decide | (have h9 := hI.hn.1; omega) | (simp only [k_accept_b, k_readPath_p]; omega) | (simp only [k_accept_b, k_readPath_p]; decide) | (show (k_accept tx _ _).2.2.1.length = 0; simp only [k_accept_b]; omega)) (fun h5 => ?_) (fun h5 => ?_)
    · refine sg_iconst (pc := 25) (nI 0) hC dX4_succeeds_25 (by decide) ?_
      have e9 : k_succ tx s = (false, (k_readPerm tx s).2) := by rw [k_succ]; simp only [if_pos h2, if_neg h5]
      rw [e9] at hk
      exact sg_zreturn (st := []) (v := md_b false) (pc := 26) (ty := .boolean) hC hR (md_narb _) dX4_succeeds_26 (hk M1 hI)
    · refine sg_iconst (pc := 21) (nI 1) hC dX4_succeeds_21 (by decide) ?_
      refine sg_goto (pc := 22) 26 hC dX4_succeeds_22 (by decide) ?_
      have e9 : k_succ tx s = (true, (k_readPerm tx s).2) := by rw [k_succ]; simp only [if_pos h2, if_pos h5]
      rw [e9] at hk
      exact sg_zreturn (st := []) (v := md_b true) (pc := 26) (ty := .boolean) hC hR (md_narb _) dX4_succeeds_26 (hk M1 hI)

def k_pos (tx : List Nat) (s : RS)  : Nat := s.1
set_option maxHeartbeats 1000000 in
set_option maxRecDepth 100000 in
theorem c_pos {l : Launch} {G : sg_G} {d : Nat} {M0 M : sg_M} {kr : Option Value → sg_M → Prop} {kx : String → sg_M → Prop} {x ta b kd : Nat} {tx : List Nat} {s : RS} (htr : l.stackTraces = false) (hI : rd_I G M0 M x ta b kd tx s)   (hk : kr (some (.int (nI (k_pos tx s)))) M) : sg_Met l G yX4_position cX4_position 1 (some .int) (d + 0) 0 0 [.ref x] M kr kx := by
  refine sg_enter [some (.ref x)] (by decide) htr (Nat.le_of_ble_eq_true rfl) rfl ?_
  intro X hC hR
  have hC : sg_C X l G cX4_position RX4 1 (d + 0) := hC
  have hn1 := hI.hn.1
  have hn2 := hI.hn.2
  have hcs := hI.hc
  refine sg_aload_n (pc := 0) (v := .ref x) hC dX4_position_0 rfl rfl ?_
  refine rd_get (pc := 1) (i := 1) hC (by decide) tw_551 dX4_position_1 hI rfl ?_
  show sg_W X M 0 0 4 [some (.ref x)] [.int (nI s.1)]
  have e9 : k_pos tx s = s.1 := by rw [k_pos]
  rw [e9] at hk
  exact sg_ireturn (st := []) (v := nI s.1) (pc := 4) hC hR dX4_position_4 hk
