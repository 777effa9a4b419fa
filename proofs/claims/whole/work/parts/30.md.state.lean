/-! ===== the reference's state: N i j, field i's place j ===== -/
def md_arr : Nat → Option (FieldType × Nat)
  | 2 => some (.char, 16)
  | 3 => some (.int, 86)
  | 4 => some (.int, 86)
  | 5 => some (.int, 258)
  | 6 => some (.int, 86)
  | 7 => some (.int, 86)
  | 8 => some (.int, 86)
  | 9 => some (.int, 86)
  | 11 => some (.char, 20)
  | 12 => some (.int, 6)
  | 13 => some (.boolean, 4)
  | 14 => some (.int, 4)
  | 15 => some (.int, 4)
  | 16 => some (.int, 40)
  | 17 => some (.boolean, 40)
  | 18 => some (.int, 40)
  | 19 => some (.boolean, 8)
  | 20 => some (.int, 8)
  | 22 => some (.int, 14)
  | _ => none
def md_fs (ad : Nat → Nat) (N : Nat → Nat → Nat) : List Value := [.int (nI (N 0 0)), .int (nI (N 1 0)), .ref (ad 2), .ref (ad 3), .ref (ad 4), .ref (ad 5), .ref (ad 6), .ref (ad 7), .ref (ad 8), .ref (ad 9), .int (nI (N 10 0)), .ref (ad 11), .ref (ad 12), .ref (ad 13), .ref (ad 14), .ref (ad 15), .ref (ad 16), .ref (ad 17), .ref (ad 18), .ref (ad 19), .ref (ad 20), .int (nI (N 21 0)), .ref (ad 22)]
def md_Rep (M : sg_M) (x : Nat) (ad : Nat → Nat) (N : Nat → Nat → Nat) : Prop :=
  M x = some (100, .inr (10, md_fs ad N)) ∧ (∀ (i : Nat) (ty : FieldType) (n : Nat), md_arr i = some (ty, n) → M (ad i) = some (100 + i, .inl (ty, n, .inl (fun j => nI (N i j))))) ∧ ∀ i j, N i j < 65536
/-- what isn't the reference's stays -/
def md_fr (M0 M : sg_M) : Prop := ∀ (a t : Nat) (e : sg_E), M0 a = some (t, e) → (t < 100 ∨ 130 ≤ t) → M a = some (t, e)
def md_I (M0 M : sg_M) (x : Nat) (ad : Nat → Nat) (N : Nat → Nat → Nat) : Prop := md_Rep M x ad N ∧ md_fr M0 M
def md_set (N : Nat → Nat → Nat) (i j v : Nat) : Nat → Nat → Nat := va_up N i (va_up (N i) j v)
theorem md_I.x {M0 M : sg_M} {x : Nat} {ad : Nat → Nat} {N : Nat → Nat → Nat} (h : md_I M0 M x ad N) : M x = some (100, .inr (10, md_fs ad N)) := h.1.1
theorem md_I.a {M0 M : sg_M} {x : Nat} {ad : Nat → Nat} {N : Nat → Nat → Nat} (h : md_I M0 M x ad N) (i : Nat) {ty : FieldType} {n : Nat} (hi : md_arr i = some (ty, n)) : M (ad i) = some (100 + i, .inl (ty, n, .inl (fun j => nI (N i j)))) := h.1.2.1 i ty n hi
theorem md_I.lt {M0 M : sg_M} {x : Nat} {ad : Nat → Nat} {N : Nat → Nat → Nat} (h : md_I M0 M x ad N) (i j : Nat) : N i j < 65536 := h.1.2.2 i j
theorem md_I.rf {M : sg_M} {x : Nat} {ad : Nat → Nat} {N : Nat → Nat → Nat} (h : md_Rep M x ad N) : md_I M M x ad N := ⟨h, fun _ _ _ h _ => h⟩
theorem md_set_lt {N : Nat → Nat → Nat} (h : ∀ i j, N i j < 65536) {i j v : Nat} (hv : v < 65536) : ∀ a b, md_set N i j v a b < 65536 := by
  intro a b
  unfold md_set
  by_cases ha : a = i
  · subst ha
    rw [va_up_self]
    by_cases hb : b = j
    · subst hb
      rw [va_up_self]; exact hv
    · rw [va_up_ne _ _ hb]; exact h _ _
  · rw [va_up_ne _ _ ha]; exact h _ _
theorem md_set_ne {N : Nat → Nat → Nat} {i j v a : Nat} (ha : a ≠ i) : md_set N i j v a = N a := va_up_ne _ _ ha
theorem md_set_eq {N : Nat → Nat → Nat} {i j v : Nat} : md_set N i j v i = va_up (N i) j v := va_up_self _ _ _
theorem md_fr.up {M0 M : sg_M} (h : md_fr M0 M) {a t : Nat} {e e' : sg_E} (hM : M a = some (t, e)) (h1 : 100 ≤ t) (h2 : t < 130) : md_fr M0 (sg_up M a (t, e')) := by
  intro b u x hb hu
  have h3 := h b u x hb hu
  rw [sg_up_n (sg_net h3 hM (by omega))]
  exact h3
/-- a place of an array changes -/
theorem md_I.s {M0 M : sg_M} {x : Nat} {ad : Nat → Nat} {N : Nat → Nat → Nat} (h : md_I M0 M x ad N) (i : Nat) {ty : FieldType} {n : Nat} (hi : md_arr i = some (ty, n)) (j v : Nat) (hv : v < 65536) :
    md_I M0 (sg_up M (ad i) (100 + i, .inl (ty, n, .inl (fun k => nI (va_up (N i) j v k))))) x ad (md_set N i j v) := by
  have hlt : i < 23 ∧ i ≠ 0 ∧ i ≠ 1 ∧ i ≠ 10 ∧ i ≠ 21 := by
    refine ⟨?_, ?_, ?_, ?_, ?_⟩
    · rcases Nat.lt_or_ge i 23 with c | c
      · exact c
      · exfalso
        obtain ⟨k, rfl⟩ := Nat.exists_eq_add_of_le c
        rw [Nat.add_comm] at hi
        cases hi
    all_goals (rintro rfl; cases hi)
  have hMi := h.a i hi
  refine ⟨⟨?_, fun k ty' n' hk => ?_, md_set_lt h.1.2.2 hv⟩, h.2.up hMi (by omega) (by omega)⟩
  · rw [sg_up_n (sg_net h.x hMi (by omega)), h.x]
    unfold md_fs
    rw [md_set_ne (a := 0) (by omega), md_set_ne (a := 1) (by omega), md_set_ne (a := 10) (by omega), md_set_ne (a := 21) (by omega)]
  · by_cases hki : k = i
    · subst hki
      rw [hi] at hk
      cases hk
      rw [sg_up_s, md_set_eq]
    · rw [sg_up_n (sg_net (h.a k hk) hMi (by omega)), md_set_ne hki]
      exact h.a k hk

theorem md_I.p0 {M0 M : sg_M} {x : Nat} {ad : Nat → Nat} {N : Nat → Nat → Nat} (h : md_I M0 M x ad N) (v : Nat) (hv : v < 65536) : md_I M0 (sg_up M x (100, .inr (10, (md_fs ad N).set 0 (.int (nI v))))) x ad (md_set N 0 0 v) := by
  refine ⟨⟨?_, fun k ty' n' hk => ?_, md_set_lt h.1.2.2 hv⟩, h.2.up h.x (by omega) (by omega)⟩
  · rw [sg_up_s]
    simp [md_fs, md_set, va_up]
  · have hki : k ≠ 0 := by rintro rfl; cases hk
    have hk0 : k ≠ 0 := by rintro rfl; cases hk
    rw [sg_up_n (sg_net (h.a k hk) h.x (by omega)), md_set_ne hki]
    exact h.a k hk

theorem md_I.p1 {M0 M : sg_M} {x : Nat} {ad : Nat → Nat} {N : Nat → Nat → Nat} (h : md_I M0 M x ad N) (v : Nat) (hv : v < 65536) : md_I M0 (sg_up M x (100, .inr (10, (md_fs ad N).set 1 (.int (nI v))))) x ad (md_set N 1 0 v) := by
  refine ⟨⟨?_, fun k ty' n' hk => ?_, md_set_lt h.1.2.2 hv⟩, h.2.up h.x (by omega) (by omega)⟩
  · rw [sg_up_s]
    simp [md_fs, md_set, va_up]
  · have hki : k ≠ 1 := by rintro rfl; cases hk
    have hk0 : k ≠ 0 := by rintro rfl; cases hk
    rw [sg_up_n (sg_net (h.a k hk) h.x (by omega)), md_set_ne hki]
    exact h.a k hk

theorem md_I.p10 {M0 M : sg_M} {x : Nat} {ad : Nat → Nat} {N : Nat → Nat → Nat} (h : md_I M0 M x ad N) (v : Nat) (hv : v < 65536) : md_I M0 (sg_up M x (100, .inr (10, (md_fs ad N).set 10 (.int (nI v))))) x ad (md_set N 10 0 v) := by
  refine ⟨⟨?_, fun k ty' n' hk => ?_, md_set_lt h.1.2.2 hv⟩, h.2.up h.x (by omega) (by omega)⟩
  · rw [sg_up_s]
    simp [md_fs, md_set, va_up]
  · have hki : k ≠ 10 := by rintro rfl; cases hk
    have hk0 : k ≠ 0 := by rintro rfl; cases hk
    rw [sg_up_n (sg_net (h.a k hk) h.x (by omega)), md_set_ne hki]
    exact h.a k hk

theorem md_I.p21 {M0 M : sg_M} {x : Nat} {ad : Nat → Nat} {N : Nat → Nat → Nat} (h : md_I M0 M x ad N) (v : Nat) (hv : v < 65536) : md_I M0 (sg_up M x (100, .inr (10, (md_fs ad N).set 21 (.int (nI v))))) x ad (md_set N 21 0 v) := by
  refine ⟨⟨?_, fun k ty' n' hk => ?_, md_set_lt h.1.2.2 hv⟩, h.2.up h.x (by omega) (by omega)⟩
  · rw [sg_up_s]
    simp [md_fs, md_set, va_up]
  · have hki : k ≠ 21 := by rintro rfl; cases hk
    have hk0 : k ≠ 0 := by rintro rfl; cases hk
    rw [sg_up_n (sg_net (h.a k hk) h.x (by omega)), md_set_ne hki]
    exact h.a k hk
