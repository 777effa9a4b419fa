/-! ===== Reading: its state ===== -/
abbrev RS : Type := Nat × List Nat × Nat × Nat × Nat × Nat
def rd_fs (ta b kd : Nat) (s : RS) : List Value := [.ref ta, .int (nI s.1), .int (nI kd), .ref b, .int (nI s.2.2.1), .int (nI s.2.2.2.1), .int (nI s.2.2.2.2.1), .int (nI s.2.2.2.2.2)]
def rd_r (M : sg_M) (x ta b kd : Nat) (tx : List Nat) (s : RS) : Prop := M x = some (74, .inr (7, rd_fs ta b kd s)) ∧ st_r 71 72 M ta tx ∧ sb_r 75 76 M b s.2.1 ∧ s.1 ≤ tx.length ∧ tx.length ≤ 16
/-- the state, with the letters' string; what else was there stays -/
def rd_I (G : sg_G) (M0 M : sg_M) (x ta b kd : Nat) (tx : List Nat) (s : RS) : Prop := rd_r M x ta b kd tx s ∧ sf (pk [74, 75, 76]) M0 M ∧ st_r 0 0 M (G.2.2.2 1) [114, 119, 120, 100]
section RDR
variable {X : sg_X} {l : Launch} {G : sg_G} {cc : ByteArray} {own : String} {nL d : Nat} {M0 M : sg_M} {cb sb pc : Nat} {L : List (Option Value)} {st : List Value} {x ta b kd : Nat} {tx : List Nat} {s : RS}
theorem rd_I.hx (h : rd_I G M0 M x ta b kd tx s) : M x = some (74, .inr (7, rd_fs ta b kd s)) := h.1.1
theorem rd_I.ht (h : rd_I G M0 M x ta b kd tx s) : st_r 71 72 M ta tx := h.1.2.1
theorem rd_I.hb (h : rd_I G M0 M x ta b kd tx s) : sb_r 75 76 M b s.2.1 := h.1.2.2.1
theorem rd_I.hl (h : rd_I G M0 M x ta b kd tx s) : st_r 0 0 M (G.2.2.2 1) [114, 119, 120, 100] := h.2.2
theorem rd_I.hn (h : rd_I G M0 M x ta b kd tx s) : s.1 ≤ tx.length ∧ tx.length ≤ 16 := h.1.2.2.2
theorem rd_I.hc (h : rd_I G M0 M x ta b kd tx s) : ∀ j, j < tx.length → tx.getD j 0 < 128 := by
  obtain ⟨_, _, _, _, -, -, -, h9⟩ := h.ht
  exact fun j hj => (h9 j hj).2
theorem rd_I.wr {s' : RS} {kd' : Nat} {M' : sg_M} {e : sg_E} (h : rd_I G M0 M x ta b kd tx s) (hw : sw M x (74, .inr (7, rd_fs ta b kd' s')) M') (h1 : s'.2.1 = s.2.1) (h2 : s'.1 ≤ tx.length) : rd_I G M0 M' x ta b kd' tx s' := by
  refine ⟨⟨hw.1, h.ht.st hw h.hx (by decide) (by decide), ?_, h2, h.hn.2⟩, h.2.1.st hw h.hx (by simp [pk]), h.hl.st hw h.hx (by decide) (by decide)⟩
  rw [h1]
  exact h.hb.st hw h.hx (by decide) (by decide)
/-- the labels changed -/
theorem rd_I.bld {lb : List Nat} {M' : sg_M} (h : rd_I G M0 M x ta b kd tx s) (hS : sb_r 75 76 M' b lb) (hf : sf (pk [75, 76]) M M') : rd_I G M0 M' x ta b kd tx (s.1, lb, s.2.2) :=
  ⟨⟨hf.p h.hx (by decide), h.ht.p hf (by decide) (by decide), hS, h.hn⟩, h.2.1.tr hf (fun a t h => by simp [pk] at h ⊢; omega), h.hl.p hf (by decide) (by decide)⟩
theorem rd_get {i index : Nat} {v : Value} (hC : sg_C X l G cc RX4 nL d) (hi : i < 8) (hw : Cond.fieldLink RX4 index (TX4 i).1 (TX4 i).2.1 (TX4 i).2.2.1 ∈ sg_tb) (hd : decode cc pc = .ok (.getfield index, 3)) (hI : rd_I G M0 M x ta b kd tx s) (hv : (rd_fs ta b kd s)[i]? = some v) (k : sg_W X M cb sb (pc + 3) L (v :: st)) : sg_W X M cb sb pc L (.ref x :: st) :=
  sg_get i hC rfl inw_X4 hi hw hd hI.hx hv k

theorem rd_put1 {index v : Nat} (hC : sg_C X l G cc RX4 nL d) (hw : Cond.fieldLink RX4 index (TX4 1).1 (TX4 1).2.1 (TX4 1).2.2.1 ∈ sg_tb) (hd : decode cc pc = .ok (.putfield index, 3)) (hI : rd_I G M0 M x ta b kd tx s) (hv : v ≤ tx.length) (k : ∀ M', rd_I G M0 M' x ta b kd tx (v, s.2) → sg_W X M' cb sb (pc + 3) L st) : sg_W X M cb sb pc L (.int (nI v) :: .ref x :: st) :=
  sg_put 1 hC rfl inw_X4 tyX4 tyX4_ok nmX4 (by decide) hw rfl rfl rfl rfl hd hI.hx (by decide) (Nat.le_of_ble_eq_true rfl) (sg_nm (fun M' hw => k M' (hI.wr (e := .inr (7, [])) (s' := (v, s.2)) hw rfl hv)))

theorem rd_put4 {index v : Nat} (hC : sg_C X l G cc RX4 nL d) (hw : Cond.fieldLink RX4 index (TX4 4).1 (TX4 4).2.1 (TX4 4).2.2.1 ∈ sg_tb) (hd : decode cc pc = .ok (.putfield index, 3)) (hI : rd_I G M0 M x ta b kd tx s) (k : ∀ M', rd_I G M0 M' x ta b kd tx (s.1, s.2.1, v, s.2.2.2) → sg_W X M' cb sb (pc + 3) L st) : sg_W X M cb sb pc L (.int (nI v) :: .ref x :: st) :=
  sg_put 4 hC rfl inw_X4 tyX4 tyX4_ok nmX4 (by decide) hw rfl rfl rfl rfl hd hI.hx (by decide) (Nat.le_of_ble_eq_true rfl) (sg_nm (fun M' hw => k M' (hI.wr (e := .inr (7, [])) (s' := (s.1, s.2.1, v, s.2.2.2)) hw rfl hI.hn.1)))

theorem rd_put5 {index v : Nat} (hC : sg_C X l G cc RX4 nL d) (hw : Cond.fieldLink RX4 index (TX4 5).1 (TX4 5).2.1 (TX4 5).2.2.1 ∈ sg_tb) (hd : decode cc pc = .ok (.putfield index, 3)) (hI : rd_I G M0 M x ta b kd tx s) (k : ∀ M', rd_I G M0 M' x ta b kd tx (s.1, s.2.1, s.2.2.1, v, s.2.2.2.2) → sg_W X M' cb sb (pc + 3) L st) : sg_W X M cb sb pc L (.int (nI v) :: .ref x :: st) :=
  sg_put 5 hC rfl inw_X4 tyX4 tyX4_ok nmX4 (by decide) hw rfl rfl rfl rfl hd hI.hx (by decide) (Nat.le_of_ble_eq_true rfl) (sg_nm (fun M' hw => k M' (hI.wr (e := .inr (7, [])) (s' := (s.1, s.2.1, s.2.2.1, v, s.2.2.2.2)) hw rfl hI.hn.1)))

theorem rd_put6 {index v : Nat} (hC : sg_C X l G cc RX4 nL d) (hw : Cond.fieldLink RX4 index (TX4 6).1 (TX4 6).2.1 (TX4 6).2.2.1 ∈ sg_tb) (hd : decode cc pc = .ok (.putfield index, 3)) (hI : rd_I G M0 M x ta b kd tx s) (k : ∀ M', rd_I G M0 M' x ta b kd tx (s.1, s.2.1, s.2.2.1, s.2.2.2.1, v, s.2.2.2.2.2) → sg_W X M' cb sb (pc + 3) L st) : sg_W X M cb sb pc L (.int (nI v) :: .ref x :: st) :=
  sg_put 6 hC rfl inw_X4 tyX4 tyX4_ok nmX4 (by decide) hw rfl rfl rfl rfl hd hI.hx (by decide) (Nat.le_of_ble_eq_true rfl) (sg_nm (fun M' hw => k M' (hI.wr (e := .inr (7, [])) (s' := (s.1, s.2.1, s.2.2.1, s.2.2.2.1, v, s.2.2.2.2.2)) hw rfl hI.hn.1)))

theorem rd_put7 {index v : Nat} (hC : sg_C X l G cc RX4 nL d) (hw : Cond.fieldLink RX4 index (TX4 7).1 (TX4 7).2.1 (TX4 7).2.2.1 ∈ sg_tb) (hd : decode cc pc = .ok (.putfield index, 3)) (hI : rd_I G M0 M x ta b kd tx s) (k : ∀ M', rd_I G M0 M' x ta b kd tx (s.1, s.2.1, s.2.2.1, s.2.2.2.1, s.2.2.2.2.1, v) → sg_W X M' cb sb (pc + 3) L st) : sg_W X M cb sb pc L (.int (nI v) :: .ref x :: st) :=
  sg_put 7 hC rfl inw_X4 tyX4 tyX4_ok nmX4 (by decide) hw rfl rfl rfl rfl hd hI.hx (by decide) (Nat.le_of_ble_eq_true rfl) (sg_nm (fun M' hw => k M' (hI.wr (e := .inr (7, [])) (s' := (s.1, s.2.1, s.2.2.1, s.2.2.2.1, s.2.2.2.2.1, v)) hw rfl hI.hn.1)))

theorem rd_put2 {index v : Nat} (hC : sg_C X l G cc RX4 nL d) (hw : Cond.fieldLink RX4 index (TX4 2).1 (TX4 2).2.1 (TX4 2).2.2.1 ∈ sg_tb) (hd : decode cc pc = .ok (.putfield index, 3)) (hI : rd_I G M0 M x ta b kd tx s) (hv : v < 128) (k : ∀ M', rd_I G M0 M' x ta b v tx s → sg_W X M' cb sb (pc + 3) L st) : sg_W X M cb sb pc L (.int (nI v) :: .ref x :: st) :=
  sg_put 2 hC rfl inw_X4 tyX4 tyX4_ok nmX4 (by decide) hw rfl rfl (jp_c (by omega)) (pk_charN (by omega)).2 hd hI.hx (by decide) (Nat.le_of_ble_eq_true rfl) (sg_nm (fun M' hw => k M' (hI.wr (e := .inr (7, [])) (s' := s) hw rfl hI.hn.1)))

end RDR
