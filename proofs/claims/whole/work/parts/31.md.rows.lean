/-! ===== rows over the reference's state ===== -/
section MDR
variable {X : sg_X} {l : Launch} {G : sg_G} {cc : ByteArray} {own : String} {nL d : Nat} {M0 M : sg_M} {cb sb pc : Nat} {L : List (Option Value)} {st : List Value} {x : Nat} {ad : Nat → Nat} {N : Nat → Nat → Nat}
theorem md_iast {i n j v : Nat} (hC : sg_C X l G cc own nL d) (hd : decode cc pc = .ok (.iastore, 1)) (hI : md_I M0 M x ad N) (hi : md_arr i = some (.int, n)) (hj : j < n) (hn : n < 2 ^ 31) (hv : v < 65536) (k : ∀ M', md_I M0 M' x ad (md_set N i j v) → sg_W X M' cb sb (pc + 1) L st) : sg_W X M cb sb pc L (.int (nI v) :: .int (nI j) :: .ref (ad i) :: st) :=
  sg_iastN hC hd (hI.a i hi) (by omega) hj hn (k _ (hI.s i hi j v hv))
theorem md_cast {i n j v : Nat} (hC : sg_C X l G cc own nL d) (hd : decode cc pc = .ok (.castore, 1)) (hI : md_I M0 M x ad N) (hi : md_arr i = some (.char, n)) (hj : j < n) (hn : n < 2 ^ 31) (hv : v < 65536) (k : ∀ M', md_I M0 M' x ad (md_set N i j v) → sg_W X M' cb sb (pc + 1) L st) : sg_W X M cb sb pc L (.int (nI v) :: .int (nI j) :: .ref (ad i) :: st) :=
  sg_castN hC hd (hI.a i hi) (by omega) hj hn hv (k _ (hI.s i hi j v hv))
theorem md_zast {i n j v : Nat} (hC : sg_C X l G cc own nL d) (hd : decode cc pc = .ok (.bastore, 1)) (hI : md_I M0 M x ad N) (hi : md_arr i = some (.boolean, n)) (hj : j < n) (hn : n < 2 ^ 31) (hv : v < 2) (k : ∀ M', md_I M0 M' x ad (md_set N i j v) → sg_W X M' cb sb (pc + 1) L st) : sg_W X M cb sb pc L (.int (nI v) :: .int (nI j) :: .ref (ad i) :: st) :=
  sg_zastN hC hd (hI.a i hi) (by omega) hj hn hv (k _ (hI.s i hi j v (by omega)))
theorem md_iald {i n j : Nat} (hC : sg_C X l G cc own nL d) (hd : decode cc pc = .ok (.iaload, 1)) (hI : md_I M0 M x ad N) (hi : md_arr i = some (.int, n)) (hj : j < n) (hn : n < 2 ^ 31) (k : N i j < 65536 → sg_W X M cb sb (pc + 1) L (.int (nI (N i j)) :: st)) : sg_W X M cb sb pc L (.int (nI j) :: .ref (ad i) :: st) :=
  sg_ialdN hC hd (hI.a i hi) hj hn (k (hI.lt i j))
theorem md_cald {i n j : Nat} (hC : sg_C X l G cc own nL d) (hd : decode cc pc = .ok (.caload, 1)) (hI : md_I M0 M x ad N) (hi : md_arr i = some (.char, n)) (hj : j < n) (hn : n < 2 ^ 31) (k : N i j < 65536 → sg_W X M cb sb (pc + 1) L (.int (nI (N i j)) :: st)) : sg_W X M cb sb pc L (.int (nI j) :: .ref (ad i) :: st) :=
  sg_caldN hC hd (hI.a i hi) hj hn (k (hI.lt i j))
theorem md_zald {i n j : Nat} (hC : sg_C X l G cc own nL d) (hd : decode cc pc = .ok (.baload, 1)) (hI : md_I M0 M x ad N) (hi : md_arr i = some (.boolean, n)) (hj : j < n) (hn : n < 2 ^ 31) (k : N i j < 65536 → sg_W X M cb sb (pc + 1) L (.int (nI (N i j)) :: st)) : sg_W X M cb sb pc L (.int (nI j) :: .ref (ad i) :: st) :=
  sg_zaldN hC hd (hI.a i hi) hj hn (k (hI.lt i j))
theorem md_get {i index : Nat} {v : Value} (hC : sg_C X l G cc RX7 nL d) (hi : i < 23) (hw : Cond.fieldLink RX7 index (TX7 i).1 (TX7 i).2.1 (TX7 i).2.2.1 ∈ sg_tb) (hd : decode cc pc = .ok (.getfield index, 3)) (hI : md_I M0 M x ad N) (hv : (md_fs ad N)[i]? = some v) (k : sg_W X M cb sb (pc + 3) L (v :: st)) : sg_W X M cb sb pc L (.ref x :: st) :=
  sg_get i hC rfl inw_X7 hi hw hd hI.x hv k

theorem md_put0 {index v : Nat} (hC : sg_C X l G cc RX7 nL d) (hw : Cond.fieldLink RX7 index (TX7 0).1 (TX7 0).2.1 (TX7 0).2.2.1 ∈ sg_tb) (hd : decode cc pc = .ok (.putfield index, 3)) (hI : md_I M0 M x ad N) (hv : v < 65536) (k : ∀ M', md_I M0 M' x ad (md_set N 0 0 v) → sg_W X M' cb sb (pc + 3) L st) : sg_W X M cb sb pc L (.int (nI v) :: .ref x :: st) :=
  sg_put 0 hC rfl inw_X7 tyX7 tyX7_ok nmX7 (by decide) hw rfl rfl rfl rfl hd hI.x (by decide) (Nat.le_of_ble_eq_true rfl) (k _ (hI.p0 v hv))

theorem md_put1 {index v : Nat} (hC : sg_C X l G cc RX7 nL d) (hw : Cond.fieldLink RX7 index (TX7 1).1 (TX7 1).2.1 (TX7 1).2.2.1 ∈ sg_tb) (hd : decode cc pc = .ok (.putfield index, 3)) (hI : md_I M0 M x ad N) (hv : v < 65536) (k : ∀ M', md_I M0 M' x ad (md_set N 1 0 v) → sg_W X M' cb sb (pc + 3) L st) : sg_W X M cb sb pc L (.int (nI v) :: .ref x :: st) :=
  sg_put 1 hC rfl inw_X7 tyX7 tyX7_ok nmX7 (by decide) hw rfl rfl rfl rfl hd hI.x (by decide) (Nat.le_of_ble_eq_true rfl) (k _ (hI.p1 v hv))

theorem md_put10 {index v : Nat} (hC : sg_C X l G cc RX7 nL d) (hw : Cond.fieldLink RX7 index (TX7 10).1 (TX7 10).2.1 (TX7 10).2.2.1 ∈ sg_tb) (hd : decode cc pc = .ok (.putfield index, 3)) (hI : md_I M0 M x ad N) (hv : v < 65536) (k : ∀ M', md_I M0 M' x ad (md_set N 10 0 v) → sg_W X M' cb sb (pc + 3) L st) : sg_W X M cb sb pc L (.int (nI v) :: .ref x :: st) :=
  sg_put 10 hC rfl inw_X7 tyX7 tyX7_ok nmX7 (by decide) hw rfl rfl rfl rfl hd hI.x (by decide) (Nat.le_of_ble_eq_true rfl) (k _ (hI.p10 v hv))

theorem md_put21 {index v : Nat} (hC : sg_C X l G cc RX7 nL d) (hw : Cond.fieldLink RX7 index (TX7 21).1 (TX7 21).2.1 (TX7 21).2.2.1 ∈ sg_tb) (hd : decode cc pc = .ok (.putfield index, 3)) (hI : md_I M0 M x ad N) (hv : v < 65536) (k : ∀ M', md_I M0 M' x ad (md_set N 21 0 v) → sg_W X M' cb sb (pc + 3) L st) : sg_W X M cb sb pc L (.int (nI v) :: .ref x :: st) :=
  sg_put 21 hC rfl inw_X7 tyX7 tyX7_ok nmX7 (by decide) hw rfl rfl rfl rfl hd hI.x (by decide) (Nat.le_of_ble_eq_true rfl) (k _ (hI.p21 v hv))

theorem md_narb (b : Bool) : narrow .boolean (.int (md_b b)) = .int (md_b b) := by cases b <;> rfl
end MDR
