theorem sg_iconst {X : sg_X} {l : Launch} {G : sg_G} {cc : ByteArray} {own : String} {nL d : Nat} {M : sg_M} {cb sb pc : Nat} {L : List (Option Value)} {st : List Value} {n : Int} (v : Int32) (hC : sg_C X l G cc own nL d) (hd : decode cc pc = .ok (.iconst n, 1)) (hv : Int32.ofInt n = v) (k : sg_W X M cb sb (pc + 1) L (.int v :: st)) : sg_W X M cb sb pc L (st) := by
  obtain ⟨p, l', e, R, s, m, args, below, meth, c, G', Q, nL'⟩ := X
  obtain ⟨⟨rfl, rfl, rfl⟩, hx, hb, hml, hown, hts, hE, hlk, hG, htr, hdf, hdl⟩ := hC
  intro H locs cells slots ls hl hH hS hc hs
  exact lv_iconst hx hb hd hv (k H locs cells slots ls hl hH hS hc hs)

theorem sg_bipush {X : sg_X} {l : Launch} {G : sg_G} {cc : ByteArray} {own : String} {nL d : Nat} {M : sg_M} {cb sb pc : Nat} {L : List (Option Value)} {st : List Value} {n : Int} (v : Int32) (hC : sg_C X l G cc own nL d) (hd : decode cc pc = .ok (.bipush n, 2)) (hv : (Int8.ofInt n).toInt32 = v) (k : sg_W X M cb sb (pc + 2) L (.int v :: st)) : sg_W X M cb sb pc L (st) := by
  obtain ⟨p, l', e, R, s, m, args, below, meth, c, G', Q, nL'⟩ := X
  obtain ⟨⟨rfl, rfl, rfl⟩, hx, hb, hml, hown, hts, hE, hlk, hG, htr, hdf, hdl⟩ := hC
  intro H locs cells slots ls hl hH hS hc hs
  exact lv_bipush hx hb hd hv (k H locs cells slots ls hl hH hS hc hs)

theorem sg_sipush {X : sg_X} {l : Launch} {G : sg_G} {cc : ByteArray} {own : String} {nL d : Nat} {M : sg_M} {cb sb pc : Nat} {L : List (Option Value)} {st : List Value} {n : Int} (v : Int32) (hC : sg_C X l G cc own nL d) (hd : decode cc pc = .ok (.sipush n, 3)) (hv : (Int16.ofInt n).toInt32 = v) (k : sg_W X M cb sb (pc + 3) L (.int v :: st)) : sg_W X M cb sb pc L (st) := by
  obtain ⟨p, l', e, R, s, m, args, below, meth, c, G', Q, nL'⟩ := X
  obtain ⟨⟨rfl, rfl, rfl⟩, hx, hb, hml, hown, hts, hE, hlk, hG, htr, hdf, hdl⟩ := hC
  intro H locs cells slots ls hl hH hS hc hs
  exact lv_sipush hx hb hd hv (k H locs cells slots ls hl hH hS hc hs)

theorem sg_lconst {X : sg_X} {l : Launch} {G : sg_G} {cc : ByteArray} {own : String} {nL d : Nat} {M : sg_M} {cb sb pc : Nat} {L : List (Option Value)} {st : List Value} {n : Fin 2} (v : Int64) (hC : sg_C X l G cc own nL d) (hd : decode cc pc = .ok (.lconst n, 1)) (hv : Int64.ofNat (n : Nat) = v) (k : sg_W X M cb sb (pc + 1) L (.long v :: st)) : sg_W X M cb sb pc L (st) := by
  obtain ⟨p, l', e, R, s, m, args, below, meth, c, G', Q, nL'⟩ := X
  obtain ⟨⟨rfl, rfl, rfl⟩, hx, hb, hml, hown, hts, hE, hlk, hG, htr, hdf, hdl⟩ := hC
  intro H locs cells slots ls hl hH hS hc hs
  exact lv_lconst hx hb hd hv (k H locs cells slots ls hl hH hS hc hs)

theorem sg_fconst0 {X : sg_X} {l : Launch} {G : sg_G} {cc : ByteArray} {own : String} {nL d : Nat} {M : sg_M} {cb sb pc : Nat} {L : List (Option Value)} {st : List Value}  (hC : sg_C X l G cc own nL d) (hd : decode cc pc = .ok (.fconst 0, 1))  (k : sg_W X M cb sb (pc + 1) L (.float 0 :: st)) : sg_W X M cb sb pc L (st) := by
  obtain ⟨p, l', e, R, s, m, args, below, meth, c, G', Q, nL'⟩ := X
  obtain ⟨⟨rfl, rfl, rfl⟩, hx, hb, hml, hown, hts, hE, hlk, hG, htr, hdf, hdl⟩ := hC
  intro H locs cells slots ls hl hH hS hc hs
  exact lv_fconst0 hx hb hd (k H locs cells slots ls hl hH hS hc hs)

theorem sg_null {X : sg_X} {l : Launch} {G : sg_G} {cc : ByteArray} {own : String} {nL d : Nat} {M : sg_M} {cb sb pc : Nat} {L : List (Option Value)} {st : List Value}  (hC : sg_C X l G cc own nL d) (hd : decode cc pc = .ok (.aconst_null, 1))  (k : sg_W X M cb sb (pc + 1) L (.null :: st)) : sg_W X M cb sb pc L (st) := by
  obtain ⟨p, l', e, R, s, m, args, below, meth, c, G', Q, nL'⟩ := X
  obtain ⟨⟨rfl, rfl, rfl⟩, hx, hb, hml, hown, hts, hE, hlk, hG, htr, hdf, hdl⟩ := hC
  intro H locs cells slots ls hl hH hS hc hs
  exact lv_null hx hb hd (k H locs cells slots ls hl hH hS hc hs)

theorem sg_ldc {X : sg_X} {l : Launch} {G : sg_G} {cc : ByteArray} {own : String} {nL d : Nat} {M : sg_M} {cb sb pc : Nat} {L : List (Option Value)} {st : List Value} {index : Nat} (v : Int32) (hC : sg_C X l G cc own nL d) (hd : decode cc pc = .ok (.ldc index, 2)) (hw : Cond.constant own index v ∈ sg_tb) (k : sg_W X M cb sb (pc + 2) L (.int v :: st)) : sg_W X M cb sb pc L (st) := by
  obtain ⟨p, l', e, R, s, m, args, below, meth, c, G', Q, nL'⟩ := X
  obtain ⟨⟨rfl, rfl, rfl⟩, hx, hb, hml, hown, hts, hE, hlk, hG, htr, hdf, hdl⟩ := hC
  intro H locs cells slots ls hl hH hS hc hs
  exact lv_ldc hx hb hown (hts _ hw) hd (k H locs cells slots ls hl hH hS hc hs)

theorem sg_iload_n {X : sg_X} {l : Launch} {G : sg_G} {cc : ByteArray} {own : String} {nL d : Nat} {M : sg_M} {cb sb pc : Nat} {L : List (Option Value)} {st : List Value} {i : Fin 4} {x : Int32} (hC : sg_C X l G cc own nL d) (hd : decode cc pc = .ok (.iload_n i, 1)) (hL : L[(i : Nat)]? = some (some (.int x))) (k : sg_W X M cb sb (pc + 1) L (.int x :: st)) : sg_W X M cb sb pc L (st) := by
  obtain ⟨p, l', e, R, s, m, args, below, meth, c, G', Q, nL'⟩ := X
  obtain ⟨⟨rfl, rfl, rfl⟩, hx, hb, hml, hown, hts, hE, hlk, hG, htr, hdf, hdl⟩ := hC
  intro H locs cells slots ls hl hH hS hc hs
  exact lv_iload_n hx hb hd rfl (sg_lv_get hl hL rfl) (k H locs cells slots ls hl hH hS hc hs)

theorem sg_iload {X : sg_X} {l : Launch} {G : sg_G} {cc : ByteArray} {own : String} {nL d : Nat} {M : sg_M} {cb sb pc : Nat} {L : List (Option Value)} {st : List Value} {i : Nat} {x : Int32} (hC : sg_C X l G cc own nL d) (hd : decode cc pc = .ok (.iload i, 2)) (hL : L[i]? = some (some (.int x))) (k : sg_W X M cb sb (pc + 2) L (.int x :: st)) : sg_W X M cb sb pc L (st) := by
  obtain ⟨p, l', e, R, s, m, args, below, meth, c, G', Q, nL'⟩ := X
  obtain ⟨⟨rfl, rfl, rfl⟩, hx, hb, hml, hown, hts, hE, hlk, hG, htr, hdf, hdl⟩ := hC
  intro H locs cells slots ls hl hH hS hc hs
  exact lv_iload hx hb hd (sg_lv_get hl hL rfl) (k H locs cells slots ls hl hH hS hc hs)

theorem sg_fload_n {X : sg_X} {l : Launch} {G : sg_G} {cc : ByteArray} {own : String} {nL d : Nat} {M : sg_M} {cb sb pc : Nat} {L : List (Option Value)} {st : List Value} {i : Fin 4} {x : UInt32} (hC : sg_C X l G cc own nL d) (hd : decode cc pc = .ok (.fload_n i, 1)) (hL : L[(i : Nat)]? = some (some (.float x))) (k : sg_W X M cb sb (pc + 1) L (.float x :: st)) : sg_W X M cb sb pc L (st) := by
  obtain ⟨p, l', e, R, s, m, args, below, meth, c, G', Q, nL'⟩ := X
  obtain ⟨⟨rfl, rfl, rfl⟩, hx, hb, hml, hown, hts, hE, hlk, hG, htr, hdf, hdl⟩ := hC
  intro H locs cells slots ls hl hH hS hc hs
  exact lv_fload_n hx hb hd rfl (sg_lv_get hl hL rfl) (k H locs cells slots ls hl hH hS hc hs)

theorem sg_fload {X : sg_X} {l : Launch} {G : sg_G} {cc : ByteArray} {own : String} {nL d : Nat} {M : sg_M} {cb sb pc : Nat} {L : List (Option Value)} {st : List Value} {i : Nat} {x : UInt32} (hC : sg_C X l G cc own nL d) (hd : decode cc pc = .ok (.fload i, 2)) (hL : L[i]? = some (some (.float x))) (k : sg_W X M cb sb (pc + 2) L (.float x :: st)) : sg_W X M cb sb pc L (st) := by
  obtain ⟨p, l', e, R, s, m, args, below, meth, c, G', Q, nL'⟩ := X
  obtain ⟨⟨rfl, rfl, rfl⟩, hx, hb, hml, hown, hts, hE, hlk, hG, htr, hdf, hdl⟩ := hC
  intro H locs cells slots ls hl hH hS hc hs
  exact lv_fload hx hb hd (sg_lv_get hl hL rfl) (k H locs cells slots ls hl hH hS hc hs)

theorem sg_aload_n {X : sg_X} {l : Launch} {G : sg_G} {cc : ByteArray} {own : String} {nL d : Nat} {M : sg_M} {cb sb pc : Nat} {L : List (Option Value)} {st : List Value} {i : Fin 4} {v : Value} (hC : sg_C X l G cc own nL d) (hd : decode cc pc = .ok (.aload_n i, 1)) (hL : L[(i : Nat)]? = some (some v)) (hv : v.isRef = true) (k : sg_W X M cb sb (pc + 1) L (v :: st)) : sg_W X M cb sb pc L (st) := by
  obtain ⟨p, l', e, R, s, m, args, below, meth, c, G', Q, nL'⟩ := X
  obtain ⟨⟨rfl, rfl, rfl⟩, hx, hb, hml, hown, hts, hE, hlk, hG, htr, hdf, hdl⟩ := hC
  intro H locs cells slots ls hl hH hS hc hs
  cases v with
  | ref a => exact lv_aload_n hx hb hd rfl (sg_lv_get hl hL rfl) (k H locs cells slots ls hl hH hS hc hs)
  | null => exact lv_aload_nN hx hb hd rfl (sg_lv_get hl hL rfl) (k H locs cells slots ls hl hH hS hc hs)
  | int _ => cases hv
  | long _ => cases hv
  | float _ => cases hv
  | double _ => cases hv
  | retAddr _ => cases hv

theorem sg_aload {X : sg_X} {l : Launch} {G : sg_G} {cc : ByteArray} {own : String} {nL d : Nat} {M : sg_M} {cb sb pc : Nat} {L : List (Option Value)} {st : List Value} {i : Nat} {v : Value} (hC : sg_C X l G cc own nL d) (hd : decode cc pc = .ok (.aload i, 2)) (hL : L[i]? = some (some v)) (hv : v.isRef = true) (k : sg_W X M cb sb (pc + 2) L (v :: st)) : sg_W X M cb sb pc L (st) := by
  obtain ⟨p, l', e, R, s, m, args, below, meth, c, G', Q, nL'⟩ := X
  obtain ⟨⟨rfl, rfl, rfl⟩, hx, hb, hml, hown, hts, hE, hlk, hG, htr, hdf, hdl⟩ := hC
  intro H locs cells slots ls hl hH hS hc hs
  cases v with
  | ref a => exact lv_aload hx hb hd (sg_lv_get hl hL rfl) (k H locs cells slots ls hl hH hS hc hs)
  | null => exact lv_aloadN hx hb hd (sg_lv_get hl hL rfl) (k H locs cells slots ls hl hH hS hc hs)
  | int _ => cases hv
  | long _ => cases hv
  | float _ => cases hv
  | double _ => cases hv
  | retAddr _ => cases hv

theorem sg_istore_n {X : sg_X} {l : Launch} {G : sg_G} {cc : ByteArray} {own : String} {nL d : Nat} {M : sg_M} {cb sb pc : Nat} {L : List (Option Value)} {st : List Value} {i : Fin 4} {x : Int32} (hC : sg_C X l G cc own nL d) (hd : decode cc pc = .ok (.istore_n i, 1)) (hn : (i : Nat) < nL) (k : sg_W X M cb sb (pc + 1) (L.set (i : Nat) (some (.int x))) st) : sg_W X M cb sb pc L (.int x :: st) := by
  obtain ⟨p, l', e, R, s, m, args, below, meth, c, G', Q, nL'⟩ := X
  obtain ⟨⟨rfl, rfl, rfl⟩, hx, hb, hml, hown, hts, hE, hlk, hG, htr, hdf, hdl⟩ := hC
  intro H locs cells slots ls hl hH hS hc hs
  exact lv_istore_n hx hb hd rfl hl hn rfl (fun ls' hl' => k H locs cells slots ls' (sg_lv_set hl') hH hS hc hs)

theorem sg_istore {X : sg_X} {l : Launch} {G : sg_G} {cc : ByteArray} {own : String} {nL d : Nat} {M : sg_M} {cb sb pc : Nat} {L : List (Option Value)} {st : List Value} {i : Nat} {x : Int32} (hC : sg_C X l G cc own nL d) (hd : decode cc pc = .ok (.istore i, 2)) (hn : i < nL) (k : sg_W X M cb sb (pc + 2) (L.set i (some (.int x))) st) : sg_W X M cb sb pc L (.int x :: st) := by
  obtain ⟨p, l', e, R, s, m, args, below, meth, c, G', Q, nL'⟩ := X
  obtain ⟨⟨rfl, rfl, rfl⟩, hx, hb, hml, hown, hts, hE, hlk, hG, htr, hdf, hdl⟩ := hC
  intro H locs cells slots ls hl hH hS hc hs
  exact lv_istore hx hb hd hl hn rfl (fun ls' hl' => k H locs cells slots ls' (sg_lv_set hl') hH hS hc hs)

theorem sg_fstore_n {X : sg_X} {l : Launch} {G : sg_G} {cc : ByteArray} {own : String} {nL d : Nat} {M : sg_M} {cb sb pc : Nat} {L : List (Option Value)} {st : List Value} {i : Fin 4} {x : UInt32} (hC : sg_C X l G cc own nL d) (hd : decode cc pc = .ok (.fstore_n i, 1)) (hn : (i : Nat) < nL) (k : sg_W X M cb sb (pc + 1) (L.set (i : Nat) (some (.float x))) st) : sg_W X M cb sb pc L (.float x :: st) := by
  obtain ⟨p, l', e, R, s, m, args, below, meth, c, G', Q, nL'⟩ := X
  obtain ⟨⟨rfl, rfl, rfl⟩, hx, hb, hml, hown, hts, hE, hlk, hG, htr, hdf, hdl⟩ := hC
  intro H locs cells slots ls hl hH hS hc hs
  exact lv_fstore_n hx hb hd rfl hl hn rfl (fun ls' hl' => k H locs cells slots ls' (sg_lv_set hl') hH hS hc hs)

theorem sg_fstore {X : sg_X} {l : Launch} {G : sg_G} {cc : ByteArray} {own : String} {nL d : Nat} {M : sg_M} {cb sb pc : Nat} {L : List (Option Value)} {st : List Value} {i : Nat} {x : UInt32} (hC : sg_C X l G cc own nL d) (hd : decode cc pc = .ok (.fstore i, 2)) (hn : i < nL) (k : sg_W X M cb sb (pc + 2) (L.set i (some (.float x))) st) : sg_W X M cb sb pc L (.float x :: st) := by
  obtain ⟨p, l', e, R, s, m, args, below, meth, c, G', Q, nL'⟩ := X
  obtain ⟨⟨rfl, rfl, rfl⟩, hx, hb, hml, hown, hts, hE, hlk, hG, htr, hdf, hdl⟩ := hC
  intro H locs cells slots ls hl hH hS hc hs
  exact lv_fstore hx hb hd hl hn rfl (fun ls' hl' => k H locs cells slots ls' (sg_lv_set hl') hH hS hc hs)

theorem sg_astore_n {X : sg_X} {l : Launch} {G : sg_G} {cc : ByteArray} {own : String} {nL d : Nat} {M : sg_M} {cb sb pc : Nat} {L : List (Option Value)} {st : List Value} {i : Fin 4} {v : Value} (hC : sg_C X l G cc own nL d) (hd : decode cc pc = .ok (.astore_n i, 1)) (hn : (i : Nat) < nL) (hv : v.isRef = true) (k : sg_W X M cb sb (pc + 1) (L.set (i : Nat) (some v)) st) : sg_W X M cb sb pc L (v :: st) := by
  obtain ⟨p, l', e, R, s, m, args, below, meth, c, G', Q, nL'⟩ := X
  obtain ⟨⟨rfl, rfl, rfl⟩, hx, hb, hml, hown, hts, hE, hlk, hG, htr, hdf, hdl⟩ := hC
  intro H locs cells slots ls hl hH hS hc hs
  cases v with
  | ref a => exact lv_astore_n hx hb hd rfl hl hn rfl (fun ls' hl' => k H locs cells slots ls' (sg_lv_set hl') hH hS hc hs)
  | null => exact lv_astore_nN hx hb hd rfl hl hn rfl (fun ls' hl' => k H locs cells slots ls' (sg_lv_set hl') hH hS hc hs)
  | int _ => cases hv
  | long _ => cases hv
  | float _ => cases hv
  | double _ => cases hv
  | retAddr _ => cases hv

theorem sg_astore {X : sg_X} {l : Launch} {G : sg_G} {cc : ByteArray} {own : String} {nL d : Nat} {M : sg_M} {cb sb pc : Nat} {L : List (Option Value)} {st : List Value} {i : Nat} {v : Value} (hC : sg_C X l G cc own nL d) (hd : decode cc pc = .ok (.astore i, 2)) (hn : i < nL) (hv : v.isRef = true) (k : sg_W X M cb sb (pc + 2) (L.set i (some v)) st) : sg_W X M cb sb pc L (v :: st) := by
  obtain ⟨p, l', e, R, s, m, args, below, meth, c, G', Q, nL'⟩ := X
  obtain ⟨⟨rfl, rfl, rfl⟩, hx, hb, hml, hown, hts, hE, hlk, hG, htr, hdf, hdl⟩ := hC
  intro H locs cells slots ls hl hH hS hc hs
  cases v with
  | ref a => exact lv_astore hx hb hd hl hn rfl (fun ls' hl' => k H locs cells slots ls' (sg_lv_set hl') hH hS hc hs)
  | null => exact lv_astoreN hx hb hd hl hn rfl (fun ls' hl' => k H locs cells slots ls' (sg_lv_set hl') hH hS hc hs)
  | int _ => cases hv
  | long _ => cases hv
  | float _ => cases hv
  | double _ => cases hv
  | retAddr _ => cases hv

theorem sg_iinc {X : sg_X} {l : Launch} {G : sg_G} {cc : ByteArray} {own : String} {nL d : Nat} {M : sg_M} {cb sb pc : Nat} {L : List (Option Value)} {st : List Value} {i : Nat} {n : Int} {x : Int32} (v : Int32) (hC : sg_C X l G cc own nL d) (hd : decode cc pc = .ok (.iinc i n, 3)) (hL : L[i]? = some (some (.int x))) (hv : x + Int32.ofInt n = v) (hn : i < nL) (k : sg_W X M cb sb (pc + 3) (L.set i (some (.int v))) st) : sg_W X M cb sb pc L st := by
  obtain ⟨p, l', e, R, s, m, args, below, meth, c, G', Q, nL'⟩ := X
  obtain ⟨⟨rfl, rfl, rfl⟩, hx, hb, hml, hown, hts, hE, hlk, hG, htr, hdf, hdl⟩ := hC
  intro H locs cells slots ls hl hH hS hc hs
  obtain ⟨j, hj⟩ := List.mem_iff_getElem?.mp ((sg_lv_mem L 0 i (.int x)).mpr ⟨i, by omega, hL, rfl⟩)
  exact lv_iinc (v := v) hx hb hd hl (k := j) hj hv hn rfl (fun ls' hl' => k H locs cells slots ls' (sg_lv_set hl') hH hS hc hs)

theorem sg_iadd {X : sg_X} {l : Launch} {G : sg_G} {cc : ByteArray} {own : String} {nL d : Nat} {M : sg_M} {cb sb pc : Nat} {L : List (Option Value)} {st : List Value} {x y : Int32} (hC : sg_C X l G cc own nL d) (hd : decode cc pc = .ok (.iadd, 1))  (k : sg_W X M cb sb (pc + 1) L (.int (x + y) :: st)) : sg_W X M cb sb pc L (.int y :: .int x :: st) := by
  obtain ⟨p, l', e, R, s, m, args, below, meth, c, G', Q, nL'⟩ := X
  obtain ⟨⟨rfl, rfl, rfl⟩, hx, hb, hml, hown, hts, hE, hlk, hG, htr, hdf, hdl⟩ := hC
  intro H locs cells slots ls hl hH hS hc hs
  exact lv_iadd hx hb hd (k H locs cells slots ls hl hH hS hc hs)

theorem sg_isub {X : sg_X} {l : Launch} {G : sg_G} {cc : ByteArray} {own : String} {nL d : Nat} {M : sg_M} {cb sb pc : Nat} {L : List (Option Value)} {st : List Value} {x y : Int32} (hC : sg_C X l G cc own nL d) (hd : decode cc pc = .ok (.isub, 1))  (k : sg_W X M cb sb (pc + 1) L (.int (x - y) :: st)) : sg_W X M cb sb pc L (.int y :: .int x :: st) := by
  obtain ⟨p, l', e, R, s, m, args, below, meth, c, G', Q, nL'⟩ := X
  obtain ⟨⟨rfl, rfl, rfl⟩, hx, hb, hml, hown, hts, hE, hlk, hG, htr, hdf, hdl⟩ := hC
  intro H locs cells slots ls hl hH hS hc hs
  exact lv_isub hx hb hd (k H locs cells slots ls hl hH hS hc hs)

theorem sg_imul {X : sg_X} {l : Launch} {G : sg_G} {cc : ByteArray} {own : String} {nL d : Nat} {M : sg_M} {cb sb pc : Nat} {L : List (Option Value)} {st : List Value} {x y : Int32} (hC : sg_C X l G cc own nL d) (hd : decode cc pc = .ok (.imul, 1))  (k : sg_W X M cb sb (pc + 1) L (.int (x * y) :: st)) : sg_W X M cb sb pc L (.int y :: .int x :: st) := by
  obtain ⟨p, l', e, R, s, m, args, below, meth, c, G', Q, nL'⟩ := X
  obtain ⟨⟨rfl, rfl, rfl⟩, hx, hb, hml, hown, hts, hE, hlk, hG, htr, hdf, hdl⟩ := hC
  intro H locs cells slots ls hl hH hS hc hs
  exact lv_imul hx hb hd (k H locs cells slots ls hl hH hS hc hs)

theorem sg_iand {X : sg_X} {l : Launch} {G : sg_G} {cc : ByteArray} {own : String} {nL d : Nat} {M : sg_M} {cb sb pc : Nat} {L : List (Option Value)} {st : List Value} {x y : Int32} (hC : sg_C X l G cc own nL d) (hd : decode cc pc = .ok (.iand, 1))  (k : sg_W X M cb sb (pc + 1) L (.int (x &&& y) :: st)) : sg_W X M cb sb pc L (.int y :: .int x :: st) := by
  obtain ⟨p, l', e, R, s, m, args, below, meth, c, G', Q, nL'⟩ := X
  obtain ⟨⟨rfl, rfl, rfl⟩, hx, hb, hml, hown, hts, hE, hlk, hG, htr, hdf, hdl⟩ := hC
  intro H locs cells slots ls hl hH hS hc hs
  exact lv_iand hx hb hd (k H locs cells slots ls hl hH hS hc hs)

theorem sg_ior {X : sg_X} {l : Launch} {G : sg_G} {cc : ByteArray} {own : String} {nL d : Nat} {M : sg_M} {cb sb pc : Nat} {L : List (Option Value)} {st : List Value} {x y : Int32} (hC : sg_C X l G cc own nL d) (hd : decode cc pc = .ok (.ior, 1))  (k : sg_W X M cb sb (pc + 1) L (.int (x ||| y) :: st)) : sg_W X M cb sb pc L (.int y :: .int x :: st) := by
  obtain ⟨p, l', e, R, s, m, args, below, meth, c, G', Q, nL'⟩ := X
  obtain ⟨⟨rfl, rfl, rfl⟩, hx, hb, hml, hown, hts, hE, hlk, hG, htr, hdf, hdl⟩ := hC
  intro H locs cells slots ls hl hH hS hc hs
  exact lv_ior hx hb hd (k H locs cells slots ls hl hH hS hc hs)

theorem sg_ixor {X : sg_X} {l : Launch} {G : sg_G} {cc : ByteArray} {own : String} {nL d : Nat} {M : sg_M} {cb sb pc : Nat} {L : List (Option Value)} {st : List Value} {x y : Int32} (hC : sg_C X l G cc own nL d) (hd : decode cc pc = .ok (.ixor, 1))  (k : sg_W X M cb sb (pc + 1) L (.int (x ^^^ y) :: st)) : sg_W X M cb sb pc L (.int y :: .int x :: st) := by
  obtain ⟨p, l', e, R, s, m, args, below, meth, c, G', Q, nL'⟩ := X
  obtain ⟨⟨rfl, rfl, rfl⟩, hx, hb, hml, hown, hts, hE, hlk, hG, htr, hdf, hdl⟩ := hC
  intro H locs cells slots ls hl hH hS hc hs
  exact lv_ixor hx hb hd (k H locs cells slots ls hl hH hS hc hs)

theorem sg_ishl {X : sg_X} {l : Launch} {G : sg_G} {cc : ByteArray} {own : String} {nL d : Nat} {M : sg_M} {cb sb pc : Nat} {L : List (Option Value)} {st : List Value} {x y : Int32} (hC : sg_C X l G cc own nL d) (hd : decode cc pc = .ok (.ishl, 1))  (k : sg_W X M cb sb (pc + 1) L (.int (x <<< (y &&& 31)) :: st)) : sg_W X M cb sb pc L (.int y :: .int x :: st) := by
  obtain ⟨p, l', e, R, s, m, args, below, meth, c, G', Q, nL'⟩ := X
  obtain ⟨⟨rfl, rfl, rfl⟩, hx, hb, hml, hown, hts, hE, hlk, hG, htr, hdf, hdl⟩ := hC
  intro H locs cells slots ls hl hH hS hc hs
  exact lv_ishl hx hb hd (k H locs cells slots ls hl hH hS hc hs)

theorem sg_ishr {X : sg_X} {l : Launch} {G : sg_G} {cc : ByteArray} {own : String} {nL d : Nat} {M : sg_M} {cb sb pc : Nat} {L : List (Option Value)} {st : List Value} {x y : Int32} (hC : sg_C X l G cc own nL d) (hd : decode cc pc = .ok (.ishr, 1))  (k : sg_W X M cb sb (pc + 1) L (.int (x >>> (y &&& 31)) :: st)) : sg_W X M cb sb pc L (.int y :: .int x :: st) := by
  obtain ⟨p, l', e, R, s, m, args, below, meth, c, G', Q, nL'⟩ := X
  obtain ⟨⟨rfl, rfl, rfl⟩, hx, hb, hml, hown, hts, hE, hlk, hG, htr, hdf, hdl⟩ := hC
  intro H locs cells slots ls hl hH hS hc hs
  exact lv_ishr hx hb hd (k H locs cells slots ls hl hH hS hc hs)

theorem sg_iushr {X : sg_X} {l : Launch} {G : sg_G} {cc : ByteArray} {own : String} {nL d : Nat} {M : sg_M} {cb sb pc : Nat} {L : List (Option Value)} {st : List Value} {x y : Int32} (v : Int32) (hC : sg_C X l G cc own nL d) (hd : decode cc pc = .ok (.iushr, 1)) (hv : (x.toUInt32 >>> (y.toUInt32 &&& Int32.toUInt32 31)).toInt32 = v) (k : sg_W X M cb sb (pc + 1) L (.int v :: st)) : sg_W X M cb sb pc L (.int y :: .int x :: st) := by
  obtain ⟨p, l', e, R, s, m, args, below, meth, c, G', Q, nL'⟩ := X
  obtain ⟨⟨rfl, rfl, rfl⟩, hx, hb, hml, hown, hts, hE, hlk, hG, htr, hdf, hdl⟩ := hC
  intro H locs cells slots ls hl hH hS hc hs
  exact lv_iushr hx hb hd hv (k H locs cells slots ls hl hH hS hc hs)

theorem sg_ineg {X : sg_X} {l : Launch} {G : sg_G} {cc : ByteArray} {own : String} {nL d : Nat} {M : sg_M} {cb sb pc : Nat} {L : List (Option Value)} {st : List Value} {x : Int32} (hC : sg_C X l G cc own nL d) (hd : decode cc pc = .ok (.ineg, 1))  (k : sg_W X M cb sb (pc + 1) L (.int (-x) :: st)) : sg_W X M cb sb pc L (.int x :: st) := by
  obtain ⟨p, l', e, R, s, m, args, below, meth, c, G', Q, nL'⟩ := X
  obtain ⟨⟨rfl, rfl, rfl⟩, hx, hb, hml, hown, hts, hE, hlk, hG, htr, hdf, hdl⟩ := hC
  intro H locs cells slots ls hl hH hS hc hs
  exact lv_ineg hx hb hd (k H locs cells slots ls hl hH hS hc hs)

theorem sg_i2c {X : sg_X} {l : Launch} {G : sg_G} {cc : ByteArray} {own : String} {nL d : Nat} {M : sg_M} {cb sb pc : Nat} {L : List (Option Value)} {st : List Value} {x : Int32} (v : Int32) (hC : sg_C X l G cc own nL d) (hd : decode cc pc = .ok (.i2c, 1)) (hv : (x.toUInt32 % 65536).toInt32 = v) (k : sg_W X M cb sb (pc + 1) L (.int v :: st)) : sg_W X M cb sb pc L (.int x :: st) := by
  obtain ⟨p, l', e, R, s, m, args, below, meth, c, G', Q, nL'⟩ := X
  obtain ⟨⟨rfl, rfl, rfl⟩, hx, hb, hml, hown, hts, hE, hlk, hG, htr, hdf, hdl⟩ := hC
  intro H locs cells slots ls hl hH hS hc hs
  exact lv_i2c hx hb hd hv (k H locs cells slots ls hl hH hS hc hs)

theorem sg_i2b {X : sg_X} {l : Launch} {G : sg_G} {cc : ByteArray} {own : String} {nL d : Nat} {M : sg_M} {cb sb pc : Nat} {L : List (Option Value)} {st : List Value} {x : Int32} (v : Int32) (hC : sg_C X l G cc own nL d) (hd : decode cc pc = .ok (.i2b, 1)) (hv : x.toInt8.toInt32 = v) (k : sg_W X M cb sb (pc + 1) L (.int v :: st)) : sg_W X M cb sb pc L (.int x :: st) := by
  obtain ⟨p, l', e, R, s, m, args, below, meth, c, G', Q, nL'⟩ := X
  obtain ⟨⟨rfl, rfl, rfl⟩, hx, hb, hml, hown, hts, hE, hlk, hG, htr, hdf, hdl⟩ := hC
  intro H locs cells slots ls hl hH hS hc hs
  exact lv_i2b hx hb hd hv (k H locs cells slots ls hl hH hS hc hs)

theorem sg_i2l {X : sg_X} {l : Launch} {G : sg_G} {cc : ByteArray} {own : String} {nL d : Nat} {M : sg_M} {cb sb pc : Nat} {L : List (Option Value)} {st : List Value} {x : Int32} (v : Int64) (hC : sg_C X l G cc own nL d) (hd : decode cc pc = .ok (.i2l, 1)) (hv : x.toInt64 = v) (k : sg_W X M cb sb (pc + 1) L (.long v :: st)) : sg_W X M cb sb pc L (.int x :: st) := by
  obtain ⟨p, l', e, R, s, m, args, below, meth, c, G', Q, nL'⟩ := X
  obtain ⟨⟨rfl, rfl, rfl⟩, hx, hb, hml, hown, hts, hE, hlk, hG, htr, hdf, hdl⟩ := hC
  intro H locs cells slots ls hl hH hS hc hs
  exact lv_i2l hx hb hd hv (k H locs cells slots ls hl hH hS hc hs)

theorem sg_i2f {X : sg_X} {l : Launch} {G : sg_G} {cc : ByteArray} {own : String} {nL d : Nat} {M : sg_M} {cb sb pc : Nat} {L : List (Option Value)} {st : List Value} {x : Int32} (hC : sg_C X l G cc own nL d) (hd : decode cc pc = .ok (.i2f, 1))  (k : sg_W X M cb sb (pc + 1) L (.float (FP.i2f x) :: st)) : sg_W X M cb sb pc L (.int x :: st) := by
  obtain ⟨p, l', e, R, s, m, args, below, meth, c, G', Q, nL'⟩ := X
  obtain ⟨⟨rfl, rfl, rfl⟩, hx, hb, hml, hown, hts, hE, hlk, hG, htr, hdf, hdl⟩ := hC
  intro H locs cells slots ls hl hH hS hc hs
  exact lv_i2f hx hb hd (k H locs cells slots ls hl hH hS hc hs)

theorem sg_fdiv {X : sg_X} {l : Launch} {G : sg_G} {cc : ByteArray} {own : String} {nL d : Nat} {M : sg_M} {cb sb pc : Nat} {L : List (Option Value)} {st : List Value} {x y : UInt32} (hC : sg_C X l G cc own nL d) (hd : decode cc pc = .ok (.fdiv, 1)) (hv : vf_n32 (FP.fdiv x y)) (k : sg_W X M cb sb (pc + 1) L (.float (FP.fdiv x y) :: st)) : sg_W X M cb sb pc L (.float y :: .float x :: st) := by
  obtain ⟨p, l', e, R, s, m, args, below, meth, c, G', Q, nL'⟩ := X
  obtain ⟨⟨rfl, rfl, rfl⟩, hx, hb, hml, hown, hts, hE, hlk, hG, htr, hdf, hdl⟩ := hC
  intro H locs cells slots ls hl hH hS hc hs
  exact lv_fdiv hx hb hd hv (k H locs cells slots ls hl hH hS hc hs)

theorem sg_f2d {X : sg_X} {l : Launch} {G : sg_G} {cc : ByteArray} {own : String} {nL d : Nat} {M : sg_M} {cb sb pc : Nat} {L : List (Option Value)} {st : List Value} {x : UInt32} (hC : sg_C X l G cc own nL d) (hd : decode cc pc = .ok (.f2d, 1)) (hv : vf_n64 (FP.f2d x)) (k : sg_W X M cb sb (pc + 1) L (.double (FP.f2d x) :: st)) : sg_W X M cb sb pc L (.float x :: st) := by
  obtain ⟨p, l', e, R, s, m, args, below, meth, c, G', Q, nL'⟩ := X
  obtain ⟨⟨rfl, rfl, rfl⟩, hx, hb, hml, hown, hts, hE, hlk, hG, htr, hdf, hdl⟩ := hC
  intro H locs cells slots ls hl hH hS hc hs
  exact lv_f2d hx hb hd hv (k H locs cells slots ls hl hH hS hc hs)

theorem sg_dup {X : sg_X} {l : Launch} {G : sg_G} {cc : ByteArray} {own : String} {nL d : Nat} {M : sg_M} {cb sb pc : Nat} {L : List (Option Value)} {st : List Value} {v : Value} (hC : sg_C X l G cc own nL d) (hd : decode cc pc = .ok (.dup, 1)) (hv : v.category = 1) (k : sg_W X M cb sb (pc + 1) L (v :: v :: st)) : sg_W X M cb sb pc L (v :: st) := by
  obtain ⟨p, l', e, R, s, m, args, below, meth, c, G', Q, nL'⟩ := X
  obtain ⟨⟨rfl, rfl, rfl⟩, hx, hb, hml, hown, hts, hE, hlk, hG, htr, hdf, hdl⟩ := hC
  intro H locs cells slots ls hl hH hS hc hs
  exact lv_dup hx hb hd hv (k H locs cells slots ls hl hH hS hc hs)

theorem sg_pop {X : sg_X} {l : Launch} {G : sg_G} {cc : ByteArray} {own : String} {nL d : Nat} {M : sg_M} {cb sb pc : Nat} {L : List (Option Value)} {st : List Value} {v : Value} (hC : sg_C X l G cc own nL d) (hd : decode cc pc = .ok (.pop, 1)) (hv : v.category = 1) (k : sg_W X M cb sb (pc + 1) L (st)) : sg_W X M cb sb pc L (v :: st) := by
  obtain ⟨p, l', e, R, s, m, args, below, meth, c, G', Q, nL'⟩ := X
  obtain ⟨⟨rfl, rfl, rfl⟩, hx, hb, hml, hown, hts, hE, hlk, hG, htr, hdf, hdl⟩ := hC
  intro H locs cells slots ls hl hH hS hc hs
  exact lv_pop hx hb hd hv (k H locs cells slots ls hl hH hS hc hs)

theorem sg_dup_x1 {X : sg_X} {l : Launch} {G : sg_G} {cc : ByteArray} {own : String} {nL d : Nat} {M : sg_M} {cb sb pc : Nat} {L : List (Option Value)} {st : List Value} {v w : Value} (hC : sg_C X l G cc own nL d) (hd : decode cc pc = .ok (.dup_x1, 1)) (hv : v.category = 1) (hw : w.category = 1) (k : sg_W X M cb sb (pc + 1) L (v :: w :: v :: st)) : sg_W X M cb sb pc L (v :: w :: st) := by
  obtain ⟨p, l', e, R, s, m, args, below, meth, c, G', Q, nL'⟩ := X
  obtain ⟨⟨rfl, rfl, rfl⟩, hx, hb, hml, hown, hts, hE, hlk, hG, htr, hdf, hdl⟩ := hC
  intro H locs cells slots ls hl hH hS hc hs
  exact lv_dup_x1 hx hb hd hv hw (k H locs cells slots ls hl hH hS hc hs)

theorem sg_dup2 {X : sg_X} {l : Launch} {G : sg_G} {cc : ByteArray} {own : String} {nL d : Nat} {M : sg_M} {cb sb pc : Nat} {L : List (Option Value)} {st : List Value} {v w : Value} (hC : sg_C X l G cc own nL d) (hd : decode cc pc = .ok (.dup2, 1)) (hv : v.category = 1) (hw : w.category = 1) (k : sg_W X M cb sb (pc + 1) L (v :: w :: v :: w :: st)) : sg_W X M cb sb pc L (v :: w :: st) := by
  obtain ⟨p, l', e, R, s, m, args, below, meth, c, G', Q, nL'⟩ := X
  obtain ⟨⟨rfl, rfl, rfl⟩, hx, hb, hml, hown, hts, hE, hlk, hG, htr, hdf, hdl⟩ := hC
  intro H locs cells slots ls hl hH hS hc hs
  exact lv_dup2_11 hx hb hd hv hw (k H locs cells slots ls hl hH hS hc hs)

theorem sg_if_eq {X : sg_X} {l : Launch} {G : sg_G} {cc : ByteArray} {own : String} {nL d : Nat} {M : sg_M} {cb sb pc : Nat} {L : List (Option Value)} {st : List Value} {x : Int32} {off : Int} (tgt : Nat) (hC : sg_C X l G cc own nL d) (hd : decode cc pc = .ok (.ifCond .eq off, 3)) (ht : (pc : Int) + off = (tgt : Int)) (kt : x = 0 → sg_W X M cb sb tgt L st) (kf : ¬ x = 0 → sg_W X M cb sb (pc + 3) L st) : sg_W X M cb sb pc L (.int x :: st) := by
  obtain ⟨p, l', e, R, s, m, args, below, meth, c, G', Q, nL'⟩ := X
  obtain ⟨⟨rfl, rfl, rfl⟩, hx, hb, hml, hown, hts, hE, hlk, hG, htr, hdf, hdl⟩ := hC
  intro H locs cells slots ls hl hH hS hc hs
  exact lv_if_eq hx hb hd ht (fun h => kt h H locs cells slots ls hl hH hS hc hs) (fun h => kf h H locs cells slots ls hl hH hS hc hs)
theorem sg_icmp_eq {X : sg_X} {l : Launch} {G : sg_G} {cc : ByteArray} {own : String} {nL d : Nat} {M : sg_M} {cb sb pc : Nat} {L : List (Option Value)} {st : List Value} {x y : Int32} {off : Int} (tgt : Nat) (hC : sg_C X l G cc own nL d) (hd : decode cc pc = .ok (.if_icmp .eq off, 3)) (ht : (pc : Int) + off = (tgt : Int)) (kt : x = y → sg_W X M cb sb tgt L st) (kf : ¬ x = y → sg_W X M cb sb (pc + 3) L st) : sg_W X M cb sb pc L (.int y :: .int x :: st) := by
  obtain ⟨p, l', e, R, s, m, args, below, meth, c, G', Q, nL'⟩ := X
  obtain ⟨⟨rfl, rfl, rfl⟩, hx, hb, hml, hown, hts, hE, hlk, hG, htr, hdf, hdl⟩ := hC
  intro H locs cells slots ls hl hH hS hc hs
  exact lv_icmp_eq hx hb hd ht (fun h => kt h H locs cells slots ls hl hH hS hc hs) (fun h => kf h H locs cells slots ls hl hH hS hc hs)

theorem sg_if_ne {X : sg_X} {l : Launch} {G : sg_G} {cc : ByteArray} {own : String} {nL d : Nat} {M : sg_M} {cb sb pc : Nat} {L : List (Option Value)} {st : List Value} {x : Int32} {off : Int} (tgt : Nat) (hC : sg_C X l G cc own nL d) (hd : decode cc pc = .ok (.ifCond .ne off, 3)) (ht : (pc : Int) + off = (tgt : Int)) (kt : ¬ x = 0 → sg_W X M cb sb tgt L st) (kf : x = 0 → sg_W X M cb sb (pc + 3) L st) : sg_W X M cb sb pc L (.int x :: st) := by
  obtain ⟨p, l', e, R, s, m, args, below, meth, c, G', Q, nL'⟩ := X
  obtain ⟨⟨rfl, rfl, rfl⟩, hx, hb, hml, hown, hts, hE, hlk, hG, htr, hdf, hdl⟩ := hC
  intro H locs cells slots ls hl hH hS hc hs
  exact lv_if_ne hx hb hd ht (fun h => kt h H locs cells slots ls hl hH hS hc hs) (fun h => kf h H locs cells slots ls hl hH hS hc hs)
theorem sg_icmp_ne {X : sg_X} {l : Launch} {G : sg_G} {cc : ByteArray} {own : String} {nL d : Nat} {M : sg_M} {cb sb pc : Nat} {L : List (Option Value)} {st : List Value} {x y : Int32} {off : Int} (tgt : Nat) (hC : sg_C X l G cc own nL d) (hd : decode cc pc = .ok (.if_icmp .ne off, 3)) (ht : (pc : Int) + off = (tgt : Int)) (kt : ¬ x = y → sg_W X M cb sb tgt L st) (kf : x = y → sg_W X M cb sb (pc + 3) L st) : sg_W X M cb sb pc L (.int y :: .int x :: st) := by
  obtain ⟨p, l', e, R, s, m, args, below, meth, c, G', Q, nL'⟩ := X
  obtain ⟨⟨rfl, rfl, rfl⟩, hx, hb, hml, hown, hts, hE, hlk, hG, htr, hdf, hdl⟩ := hC
  intro H locs cells slots ls hl hH hS hc hs
  exact lv_icmp_ne hx hb hd ht (fun h => kt h H locs cells slots ls hl hH hS hc hs) (fun h => kf h H locs cells slots ls hl hH hS hc hs)

theorem sg_if_lt {X : sg_X} {l : Launch} {G : sg_G} {cc : ByteArray} {own : String} {nL d : Nat} {M : sg_M} {cb sb pc : Nat} {L : List (Option Value)} {st : List Value} {x : Int32} {off : Int} (tgt : Nat) (hC : sg_C X l G cc own nL d) (hd : decode cc pc = .ok (.ifCond .lt off, 3)) (ht : (pc : Int) + off = (tgt : Int)) (kt : x < 0 → sg_W X M cb sb tgt L st) (kf : ¬ x < 0 → sg_W X M cb sb (pc + 3) L st) : sg_W X M cb sb pc L (.int x :: st) := by
  obtain ⟨p, l', e, R, s, m, args, below, meth, c, G', Q, nL'⟩ := X
  obtain ⟨⟨rfl, rfl, rfl⟩, hx, hb, hml, hown, hts, hE, hlk, hG, htr, hdf, hdl⟩ := hC
  intro H locs cells slots ls hl hH hS hc hs
  exact lv_if_lt hx hb hd ht (fun h => kt h H locs cells slots ls hl hH hS hc hs) (fun h => kf h H locs cells slots ls hl hH hS hc hs)
theorem sg_icmp_lt {X : sg_X} {l : Launch} {G : sg_G} {cc : ByteArray} {own : String} {nL d : Nat} {M : sg_M} {cb sb pc : Nat} {L : List (Option Value)} {st : List Value} {x y : Int32} {off : Int} (tgt : Nat) (hC : sg_C X l G cc own nL d) (hd : decode cc pc = .ok (.if_icmp .lt off, 3)) (ht : (pc : Int) + off = (tgt : Int)) (kt : x < y → sg_W X M cb sb tgt L st) (kf : ¬ x < y → sg_W X M cb sb (pc + 3) L st) : sg_W X M cb sb pc L (.int y :: .int x :: st) := by
  obtain ⟨p, l', e, R, s, m, args, below, meth, c, G', Q, nL'⟩ := X
  obtain ⟨⟨rfl, rfl, rfl⟩, hx, hb, hml, hown, hts, hE, hlk, hG, htr, hdf, hdl⟩ := hC
  intro H locs cells slots ls hl hH hS hc hs
  exact lv_icmp_lt hx hb hd ht (fun h => kt h H locs cells slots ls hl hH hS hc hs) (fun h => kf h H locs cells slots ls hl hH hS hc hs)

theorem sg_if_ge {X : sg_X} {l : Launch} {G : sg_G} {cc : ByteArray} {own : String} {nL d : Nat} {M : sg_M} {cb sb pc : Nat} {L : List (Option Value)} {st : List Value} {x : Int32} {off : Int} (tgt : Nat) (hC : sg_C X l G cc own nL d) (hd : decode cc pc = .ok (.ifCond .ge off, 3)) (ht : (pc : Int) + off = (tgt : Int)) (kt : 0 ≤ x → sg_W X M cb sb tgt L st) (kf : ¬ 0 ≤ x → sg_W X M cb sb (pc + 3) L st) : sg_W X M cb sb pc L (.int x :: st) := by
  obtain ⟨p, l', e, R, s, m, args, below, meth, c, G', Q, nL'⟩ := X
  obtain ⟨⟨rfl, rfl, rfl⟩, hx, hb, hml, hown, hts, hE, hlk, hG, htr, hdf, hdl⟩ := hC
  intro H locs cells slots ls hl hH hS hc hs
  exact lv_if_ge hx hb hd ht (fun h => kt h H locs cells slots ls hl hH hS hc hs) (fun h => kf h H locs cells slots ls hl hH hS hc hs)
theorem sg_icmp_ge {X : sg_X} {l : Launch} {G : sg_G} {cc : ByteArray} {own : String} {nL d : Nat} {M : sg_M} {cb sb pc : Nat} {L : List (Option Value)} {st : List Value} {x y : Int32} {off : Int} (tgt : Nat) (hC : sg_C X l G cc own nL d) (hd : decode cc pc = .ok (.if_icmp .ge off, 3)) (ht : (pc : Int) + off = (tgt : Int)) (kt : y ≤ x → sg_W X M cb sb tgt L st) (kf : ¬ y ≤ x → sg_W X M cb sb (pc + 3) L st) : sg_W X M cb sb pc L (.int y :: .int x :: st) := by
  obtain ⟨p, l', e, R, s, m, args, below, meth, c, G', Q, nL'⟩ := X
  obtain ⟨⟨rfl, rfl, rfl⟩, hx, hb, hml, hown, hts, hE, hlk, hG, htr, hdf, hdl⟩ := hC
  intro H locs cells slots ls hl hH hS hc hs
  exact lv_icmp_ge hx hb hd ht (fun h => kt h H locs cells slots ls hl hH hS hc hs) (fun h => kf h H locs cells slots ls hl hH hS hc hs)

theorem sg_if_gt {X : sg_X} {l : Launch} {G : sg_G} {cc : ByteArray} {own : String} {nL d : Nat} {M : sg_M} {cb sb pc : Nat} {L : List (Option Value)} {st : List Value} {x : Int32} {off : Int} (tgt : Nat) (hC : sg_C X l G cc own nL d) (hd : decode cc pc = .ok (.ifCond .gt off, 3)) (ht : (pc : Int) + off = (tgt : Int)) (kt : 0 < x → sg_W X M cb sb tgt L st) (kf : ¬ 0 < x → sg_W X M cb sb (pc + 3) L st) : sg_W X M cb sb pc L (.int x :: st) := by
  obtain ⟨p, l', e, R, s, m, args, below, meth, c, G', Q, nL'⟩ := X
  obtain ⟨⟨rfl, rfl, rfl⟩, hx, hb, hml, hown, hts, hE, hlk, hG, htr, hdf, hdl⟩ := hC
  intro H locs cells slots ls hl hH hS hc hs
  exact lv_if_gt hx hb hd ht (fun h => kt h H locs cells slots ls hl hH hS hc hs) (fun h => kf h H locs cells slots ls hl hH hS hc hs)
theorem sg_icmp_gt {X : sg_X} {l : Launch} {G : sg_G} {cc : ByteArray} {own : String} {nL d : Nat} {M : sg_M} {cb sb pc : Nat} {L : List (Option Value)} {st : List Value} {x y : Int32} {off : Int} (tgt : Nat) (hC : sg_C X l G cc own nL d) (hd : decode cc pc = .ok (.if_icmp .gt off, 3)) (ht : (pc : Int) + off = (tgt : Int)) (kt : y < x → sg_W X M cb sb tgt L st) (kf : ¬ y < x → sg_W X M cb sb (pc + 3) L st) : sg_W X M cb sb pc L (.int y :: .int x :: st) := by
  obtain ⟨p, l', e, R, s, m, args, below, meth, c, G', Q, nL'⟩ := X
  obtain ⟨⟨rfl, rfl, rfl⟩, hx, hb, hml, hown, hts, hE, hlk, hG, htr, hdf, hdl⟩ := hC
  intro H locs cells slots ls hl hH hS hc hs
  exact lv_icmp_gt hx hb hd ht (fun h => kt h H locs cells slots ls hl hH hS hc hs) (fun h => kf h H locs cells slots ls hl hH hS hc hs)

theorem sg_if_le {X : sg_X} {l : Launch} {G : sg_G} {cc : ByteArray} {own : String} {nL d : Nat} {M : sg_M} {cb sb pc : Nat} {L : List (Option Value)} {st : List Value} {x : Int32} {off : Int} (tgt : Nat) (hC : sg_C X l G cc own nL d) (hd : decode cc pc = .ok (.ifCond .le off, 3)) (ht : (pc : Int) + off = (tgt : Int)) (kt : x ≤ 0 → sg_W X M cb sb tgt L st) (kf : ¬ x ≤ 0 → sg_W X M cb sb (pc + 3) L st) : sg_W X M cb sb pc L (.int x :: st) := by
  obtain ⟨p, l', e, R, s, m, args, below, meth, c, G', Q, nL'⟩ := X
  obtain ⟨⟨rfl, rfl, rfl⟩, hx, hb, hml, hown, hts, hE, hlk, hG, htr, hdf, hdl⟩ := hC
  intro H locs cells slots ls hl hH hS hc hs
  exact lv_if_le hx hb hd ht (fun h => kt h H locs cells slots ls hl hH hS hc hs) (fun h => kf h H locs cells slots ls hl hH hS hc hs)
theorem sg_icmp_le {X : sg_X} {l : Launch} {G : sg_G} {cc : ByteArray} {own : String} {nL d : Nat} {M : sg_M} {cb sb pc : Nat} {L : List (Option Value)} {st : List Value} {x y : Int32} {off : Int} (tgt : Nat) (hC : sg_C X l G cc own nL d) (hd : decode cc pc = .ok (.if_icmp .le off, 3)) (ht : (pc : Int) + off = (tgt : Int)) (kt : x ≤ y → sg_W X M cb sb tgt L st) (kf : ¬ x ≤ y → sg_W X M cb sb (pc + 3) L st) : sg_W X M cb sb pc L (.int y :: .int x :: st) := by
  obtain ⟨p, l', e, R, s, m, args, below, meth, c, G', Q, nL'⟩ := X
  obtain ⟨⟨rfl, rfl, rfl⟩, hx, hb, hml, hown, hts, hE, hlk, hG, htr, hdf, hdl⟩ := hC
  intro H locs cells slots ls hl hH hS hc hs
  exact lv_icmp_le hx hb hd ht (fun h => kt h H locs cells slots ls hl hH hS hc hs) (fun h => kf h H locs cells slots ls hl hH hS hc hs)

theorem sg_goto {X : sg_X} {l : Launch} {G : sg_G} {cc : ByteArray} {own : String} {nL d : Nat} {M : sg_M} {cb sb pc : Nat} {L : List (Option Value)} {st : List Value} {off : Int} (tgt : Nat) (hC : sg_C X l G cc own nL d) (hd : decode cc pc = .ok (.goto off, 3)) (ht : (pc : Int) + off = (tgt : Int)) (k : sg_W X M cb sb tgt L st) : sg_W X M cb sb pc L st := by
  obtain ⟨p, l', e, R, s, m, args, below, meth, c, G', Q, nL'⟩ := X
  obtain ⟨⟨rfl, rfl, rfl⟩, hx, hb, hml, hown, hts, hE, hlk, hG, htr, hdf, hdl⟩ := hC
  intro H locs cells slots ls hl hH hS hc hs
  exact lv_goto hx hb hd ht (k H locs cells slots ls hl hH hS hc hs)
theorem sg_ifnull {X : sg_X} {l : Launch} {G : sg_G} {cc : ByteArray} {own : String} {nL d : Nat} {M : sg_M} {cb sb pc : Nat} {L : List (Option Value)} {st : List Value} {r : Option Nat} {off : Int} (tgt : Nat) (hC : sg_C X l G cc own nL d) (hd : decode cc pc = .ok (.ifnull off, 3)) (ht : (pc : Int) + off = (tgt : Int)) (kt : r = none → sg_W X M cb sb tgt L st) (kf : ∀ a, r = some a → sg_W X M cb sb (pc + 3) L st) : sg_W X M cb sb pc L (va_rf r :: st) := by
  obtain ⟨p, l', e, R, s, m, args, below, meth, c, G', Q, nL'⟩ := X
  obtain ⟨⟨rfl, rfl, rfl⟩, hx, hb, hml, hown, hts, hE, hlk, hG, htr, hdf, hdl⟩ := hC
  intro H locs cells slots ls hl hH hS hc hs
  cases r with
  | none => exact lv_ifnullN hx hb hd ht (kt rfl H locs cells slots ls hl hH hS hc hs)
  | some a => exact lv_ifnull hx hb hd (kf a rfl H locs cells slots ls hl hH hS hc hs)
theorem sg_ifnonnull {X : sg_X} {l : Launch} {G : sg_G} {cc : ByteArray} {own : String} {nL d : Nat} {M : sg_M} {cb sb pc : Nat} {L : List (Option Value)} {st : List Value} {r : Option Nat} {off : Int} (tgt : Nat) (hC : sg_C X l G cc own nL d) (hd : decode cc pc = .ok (.ifnonnull off, 3)) (ht : (pc : Int) + off = (tgt : Int)) (kt : ∀ a, r = some a → sg_W X M cb sb tgt L st) (kf : r = none → sg_W X M cb sb (pc + 3) L st) : sg_W X M cb sb pc L (va_rf r :: st) := by
  obtain ⟨p, l', e, R, s, m, args, below, meth, c, G', Q, nL'⟩ := X
  obtain ⟨⟨rfl, rfl, rfl⟩, hx, hb, hml, hown, hts, hE, hlk, hG, htr, hdf, hdl⟩ := hC
  intro H locs cells slots ls hl hH hS hc hs
  cases r with
  | none => exact lv_ifnonnullN hx hb hd (kf rfl H locs cells slots ls hl hH hS hc hs)
  | some a => exact lv_ifnonnull hx hb hd ht (kt a rfl H locs cells slots ls hl hH hS hc hs)
theorem sg_tableIn {X : sg_X} {l : Launch} {G : sg_G} {cc : ByteArray} {own : String} {nL d : Nat} {M : sg_M} {cb sb pc : Nat} {L : List (Option Value)} {st : List Value} {x : Int32} {dflt lo hi off : Int} {offs : Array Int} {len : Nat} (tgt : Nat) (hC : sg_C X l G cc own nL d) (hd : decode cc pc = .ok (.tableswitch dflt lo hi offs, len)) (h1 : ¬ x.toInt < lo) (h2 : ¬ hi < x.toInt) (ho : offs[(x.toInt - lo).toNat]? = some off) (ht : (pc : Int) + off = (tgt : Int)) (k : sg_W X M cb sb tgt L st) : sg_W X M cb sb pc L (.int x :: st) := by
  obtain ⟨p, l', e, R, s, m, args, below, meth, c, G', Q, nL'⟩ := X
  obtain ⟨⟨rfl, rfl, rfl⟩, hx, hb, hml, hown, hts, hE, hlk, hG, htr, hdf, hdl⟩ := hC
  intro H locs cells slots ls hl hH hS hc hs
  exact lv_tableIn hx hb hd h1 h2 ho ht (k H locs cells slots ls hl hH hS hc hs)
theorem sg_tableOut {X : sg_X} {l : Launch} {G : sg_G} {cc : ByteArray} {own : String} {nL d : Nat} {M : sg_M} {cb sb pc : Nat} {L : List (Option Value)} {st : List Value} {x : Int32} {dflt lo hi : Int} {offs : Array Int} {len : Nat} (tgt : Nat) (hC : sg_C X l G cc own nL d) (hd : decode cc pc = .ok (.tableswitch dflt lo hi offs, len)) (h : x.toInt < lo ∨ hi < x.toInt) (ht : (pc : Int) + dflt = (tgt : Int)) (k : sg_W X M cb sb tgt L st) : sg_W X M cb sb pc L (.int x :: st) := by
  obtain ⟨p, l', e, R, s, m, args, below, meth, c, G', Q, nL'⟩ := X
  obtain ⟨⟨rfl, rfl, rfl⟩, hx, hb, hml, hown, hts, hE, hlk, hG, htr, hdf, hdl⟩ := hC
  intro H locs cells slots ls hl hH hS hc hs
  exact lv_tableOut hx hb hd h ht (k H locs cells slots ls hl hH hS hc hs)
theorem sg_loc {X : sg_X} {M : sg_M} {cb sb pc : Nat} {L L' : List (Option Value)} {st : List Value} (h : sg_le L' L) (k : sg_W X M cb sb pc L' st) : sg_W X M cb sb pc L st := by
  obtain ⟨p, l', e, R, s, m, args, below, meth, c, G', Q, nL'⟩ := X
  intro H locs cells slots ls hl hH hS hc hs
  exact k H locs cells slots ls (sg_lv_le hl h) hH hS hc hs
/-- forget of the budget -/
theorem sg_less {X : sg_X} {M : sg_M} {cb sb cb' sb' pc : Nat} {L : List (Option Value)} {st : List Value} (h1 : cb' ≤ cb) (h2 : sb' ≤ sb) (k : sg_W X M cb' sb' pc L st) : sg_W X M cb sb pc L st := by
  obtain ⟨p, l', e, R, s, m, args, below, meth, c, G', Q, nL'⟩ := X
  intro H locs cells slots ls hl hH hS hc hs
  exact k H locs cells slots ls hl hH hS (by omega) (by omega)

/-- getfield -/
theorem sg_get {X : sg_X} {l : Launch} {G : sg_G} {cc : ByteArray} {own : String} {nL d : Nat} {M : sg_M} {cb sb pc : Nat} {L : List (Option Value)} {st : List Value} {C : String} {T : u_T} {N ci index a t : Nat} {fs : List Value} {v : Value} (i : Nat) (hC : sg_C X l G cc own nL d) (hc : vwCl[ci]? = some (C, T, N)) (hin : ∀ w ∈ u_ws C T N, w ∈ sg_tb) (hi : i < N) (hw : Cond.fieldLink own index (T i).1 (T i).2.1 (T i).2.2.1 ∈ sg_tb) (hd : decode cc pc = .ok (.getfield index, 3)) (hM : M a = some (t, .inr (ci, fs))) (hv : fs[i]? = some v) (k : sg_W X M cb sb (pc + 3) L (v :: st)) : sg_W X M cb sb pc L (.ref a :: st) := by
  have hcl := hc
  obtain ⟨p, l', e, R, s, m, args, below, meth, c, G', Q, nL'⟩ := X
  obtain ⟨⟨rfl, rfl, rfl⟩, hx, hb, hml, hown, hts, hE, hlk, hG, htr, hdf, hdl⟩ := hC
  intro H locs cells slots ls hl hH hS hc hs
  exact sg_getW hx hb hts hin hown hE.1 hH hM hcl i hi (hts _ hw) (fun _ h9 => h9) hv hd (k H locs cells slots ls hl hH hS hc hs)
/-- putfield -/
theorem sg_put {X : sg_X} {l : Launch} {G : sg_G} {cc : ByteArray} {own : String} {nL d : Nat} {M : sg_M} {cb sb pc : Nat} {L : List (Option Value)} {st : List Value} {C : String} {T : u_T} {N ci index a t : Nat} {fs : List Value} {v : Value} (i : Nat) {ty : FieldType} (hC : sg_C X l G cc own nL d) (hc : vwCl[ci]? = some (C, T, N)) (hin : ∀ w ∈ u_ws C T N, w ∈ sg_tb) (ty0 : Nat → FieldType) (hty : ∀ k, k < N → parseFieldDescriptor (T k).2.2.1 = some (ty0 k)) (hnm : ∀ a, a < N → ∀ b, b < N → a ≠ b → (T a).2.1 ≠ (T b).2.1) (hi : i < N) (hw : Cond.fieldLink own index (T i).1 (T i).2.1 (T i).2.2.1 ∈ sg_tb) (hfin : (T i).2.2.2 = false) (hdt : parseFieldDescriptor (T i).2.2.1 = some ty) (hn : narrow ty v = v) (hfit : fits ty v = true) (hd : decode cc pc = .ok (.putfield index, 3)) (hM : M a = some (t, .inr (ci, fs))) (ht : t ≠ 0) (hlen : i < fs.length) (k : sg_W X (sg_up M a (t, .inr (ci, fs.set i v))) cb sb (pc + 3) L st) : sg_W X M cb sb pc L (v :: .ref a :: st) := by
  have hcl := hc
  obtain ⟨p, l', e, R, s, m, args, below, meth, c, G', Q, nL'⟩ := X
  obtain ⟨⟨rfl, rfl, rfl⟩, hx, hb, hml, hown, hts, hE, hlk, hG, htr, hdf, hdl⟩ := hC
  intro H locs cells slots ls hl hH hS hc hs
  obtain ⟨hP, hD⟩ := sg_out hH
  obtain ⟨j, hj⟩ := sg_ws_in hM (sg_ge hH hM ht) ((hH.2 _ _ _ hM).1.lt)
  exact va_put hx hb hts hin ty0 hty hnm hown hE.1 hP hD hS j hj hcl i hi (hts _ hw) (fun _ h9 => h9) hfin hdt hn hfit hlen hd (fun H1 locs1 hP1 hD1 hS1 => k H1 locs1 cells slots ls hl (sg_set hH hj hM hG hS hS1 (e' := .inr (ci, fs.set i v)) hP1) hS1 hc hs)
/-- putfield of a final field in a constructor -/
theorem sg_putF {X : sg_X} {l : Launch} {G : sg_G} {cc : ByteArray} {own : String} {nL d : Nat} {M : sg_M} {cb sb pc : Nat} {L : List (Option Value)} {st : List Value} {C : String} {T : u_T} {N ci index a t : Nat} {fs : List Value} {v : Value} (i : Nat) {ty : FieldType} {y : MethodName} {kr : Option Value → sg_M → Prop} {kx : String → sg_M → Prop} {ret : Option FieldType} (hC : sg_C X l G cc own nL d) (hR : sg_R X y kr kx ret) (hy : y.name = "<init>") (hc : vwCl[ci]? = some (C, T, N)) (hin : ∀ w ∈ u_ws C T N, w ∈ sg_tb) (ty0 : Nat → FieldType) (hty : ∀ k, k < N → parseFieldDescriptor (T k).2.2.1 = some (ty0 k)) (hnm : ∀ a, a < N → ∀ b, b < N → a ≠ b → (T a).2.1 ≠ (T b).2.1) (hi : i < N) (hw : Cond.fieldLink own index (T i).1 (T i).2.1 (T i).2.2.1 ∈ sg_tb) (hfin : (T i).2.2.2 = true) (hdecl : (T i).1 = own) (hdt : parseFieldDescriptor (T i).2.2.1 = some ty) (hn : narrow ty v = v) (hfit : fits ty v = true) (hd : decode cc pc = .ok (.putfield index, 3)) (hM : M a = some (t, .inr (ci, fs))) (ht : t ≠ 0) (hlen : i < fs.length) (k : sg_W X (sg_up M a (t, .inr (ci, fs.set i v))) cb sb (pc + 3) L st) : sg_W X M cb sb pc L (v :: .ref a :: st) := by
  have hcl := hc
  obtain ⟨p, l', e, R, s, m, args, below, meth, c, G', Q, nL'⟩ := X
  obtain ⟨⟨rfl, rfl, rfl⟩, hx, hb, hml, hown, hts, hE, hlk, hG, htr, hdf, hdl⟩ := hC
  intro H locs cells slots ls hl hH hS hc hs
  obtain ⟨hP, hD⟩ := sg_out hH
  obtain ⟨j, hj⟩ := sg_ws_in hM (sg_ge hH hM ht) ((hH.2 _ _ _ hM).1.lt)
  exact va_putF hx hb hts hin ty0 hty hnm hown hE.1 hP hD hS j hj hcl i hi (hts _ hw) (fun _ h9 => h9) hfin (hR.2.2.1.trans hy) hdecl hdt hn hfit hlen hd (fun H1 locs1 hP1 hD1 hS1 => k H1 locs1 cells slots ls hl (sg_set hH hj hM hG hS hS1 (e' := .inr (ci, fs.set i v)) hP1) hS1 hc hs)

theorem sg_iald {X : sg_X} {l : Launch} {G : sg_G} {cc : ByteArray} {own : String} {nL d : Nat} {M : sg_M} {cb sb pc : Nat} {L : List (Option Value)} {st : List Value} {a t n : Nat} {f : Nat → Int32} {i : Int32} (hC : sg_C X l G cc own nL d) (hd : decode cc pc = .ok (.iaload, 1)) (hM : M a = some (t, .inl (.int, n, .inl f))) (hi : vp_in i n) (k : sg_W X M cb sb (pc + 1) L (.int (f i.toNatClampNeg) :: st)) : sg_W X M cb sb pc L (.int i :: .ref a :: st) := by
  obtain ⟨p, l', e, R, s, m, args, below, meth, c, G', Q, nL'⟩ := X
  obtain ⟨⟨rfl, rfl, rfl⟩, hx, hb, hml, hown, hts, hE, hlk, hG, htr, hdf, hdl⟩ := hC
  intro H locs cells slots ls hl hH hS hc hs
  obtain ⟨cell, q1, q2, q3, q4, q5, -, q6⟩ := sg_oldA hH hM
  have hlt : i.toNatClampNeg < n := Nat.not_le.mp fun q => hi (Or.inr q)
  exact W.iald (v := .int (f i.toNatClampNeg)) hx hb q1 (sg_isArrG (t0 := 0) hE rfl q4 q2) q3 (sg_bnd q5 hi) (by rw [q6 _ hlt]; show (arrV _ _ _).slots[_]? = _; rw [arrV_read _ _ hlt]) rfl rfl hd (k H locs cells slots ls hl hH hS hc hs)

theorem sg_bald {X : sg_X} {l : Launch} {G : sg_G} {cc : ByteArray} {own : String} {nL d : Nat} {M : sg_M} {cb sb pc : Nat} {L : List (Option Value)} {st : List Value} {a t n : Nat} {f : Nat → Int32} {i : Int32} (hC : sg_C X l G cc own nL d) (hd : decode cc pc = .ok (.baload, 1)) (hM : M a = some (t, .inl (.byte, n, .inl f))) (hi : vp_in i n) (k : sg_W X M cb sb (pc + 1) L (.int (f i.toNatClampNeg) :: st)) : sg_W X M cb sb pc L (.int i :: .ref a :: st) := by
  obtain ⟨p, l', e, R, s, m, args, below, meth, c, G', Q, nL'⟩ := X
  obtain ⟨⟨rfl, rfl, rfl⟩, hx, hb, hml, hown, hts, hE, hlk, hG, htr, hdf, hdl⟩ := hC
  intro H locs cells slots ls hl hH hS hc hs
  obtain ⟨cell, q1, q2, q3, q4, q5, -, q6⟩ := sg_oldA hH hM
  have hlt : i.toNatClampNeg < n := Nat.not_le.mp fun q => hi (Or.inr q)
  exact W.bald (v := .int (f i.toNatClampNeg)) hx hb q1 (sg_isArrG (t0 := 1) hE rfl q4 q2) q3 (sg_bnd q5 hi) (by rw [q6 _ hlt]; show (arrV _ _ _).slots[_]? = _; rw [arrV_read _ _ hlt]) rfl rfl hd (k H locs cells slots ls hl hH hS hc hs)

theorem sg_zald {X : sg_X} {l : Launch} {G : sg_G} {cc : ByteArray} {own : String} {nL d : Nat} {M : sg_M} {cb sb pc : Nat} {L : List (Option Value)} {st : List Value} {a t n : Nat} {f : Nat → Int32} {i : Int32} (hC : sg_C X l G cc own nL d) (hd : decode cc pc = .ok (.baload, 1)) (hM : M a = some (t, .inl (.boolean, n, .inl f))) (hi : vp_in i n) (k : sg_W X M cb sb (pc + 1) L (.int (f i.toNatClampNeg) :: st)) : sg_W X M cb sb pc L (.int i :: .ref a :: st) := by
  obtain ⟨p, l', e, R, s, m, args, below, meth, c, G', Q, nL'⟩ := X
  obtain ⟨⟨rfl, rfl, rfl⟩, hx, hb, hml, hown, hts, hE, hlk, hG, htr, hdf, hdl⟩ := hC
  intro H locs cells slots ls hl hH hS hc hs
  obtain ⟨cell, q1, q2, q3, q4, q5, -, q6⟩ := sg_oldA hH hM
  have hlt : i.toNatClampNeg < n := Nat.not_le.mp fun q => hi (Or.inr q)
  exact W.zald (v := .int (f i.toNatClampNeg)) hx hb q1 (sg_isArrG (t0 := 2) hE rfl q4 q2) q3 (sg_bnd q5 hi) (by rw [q6 _ hlt]; show (arrV _ _ _).slots[_]? = _; rw [arrV_read _ _ hlt]) rfl rfl hd (k H locs cells slots ls hl hH hS hc hs)

theorem sg_cald {X : sg_X} {l : Launch} {G : sg_G} {cc : ByteArray} {own : String} {nL d : Nat} {M : sg_M} {cb sb pc : Nat} {L : List (Option Value)} {st : List Value} {a t n : Nat} {f : Nat → Int32} {i : Int32} (hC : sg_C X l G cc own nL d) (hd : decode cc pc = .ok (.caload, 1)) (hM : M a = some (t, .inl (.char, n, .inl f))) (hi : vp_in i n) (k : sg_W X M cb sb (pc + 1) L (.int (f i.toNatClampNeg) :: st)) : sg_W X M cb sb pc L (.int i :: .ref a :: st) := by
  obtain ⟨p, l', e, R, s, m, args, below, meth, c, G', Q, nL'⟩ := X
  obtain ⟨⟨rfl, rfl, rfl⟩, hx, hb, hml, hown, hts, hE, hlk, hG, htr, hdf, hdl⟩ := hC
  intro H locs cells slots ls hl hH hS hc hs
  obtain ⟨cell, q1, q2, q3, q4, q5, -, q6⟩ := sg_oldA hH hM
  have hlt : i.toNatClampNeg < n := Nat.not_le.mp fun q => hi (Or.inr q)
  exact W.cald (v := .int (f i.toNatClampNeg)) hx hb q1 (sg_isArrG (t0 := 3) hE rfl q4 q2) q3 (sg_bnd q5 hi) (by rw [q6 _ hlt]; show (arrV _ _ _).slots[_]? = _; rw [arrV_read _ _ hlt]) rfl rfl hd (k H locs cells slots ls hl hH hS hc hs)

theorem sg_lald {X : sg_X} {l : Launch} {G : sg_G} {cc : ByteArray} {own : String} {nL d : Nat} {M : sg_M} {cb sb pc : Nat} {L : List (Option Value)} {st : List Value} {a t n : Nat} {f : Nat → Int64} {i : Int32} (hC : sg_C X l G cc own nL d) (hd : decode cc pc = .ok (.laload, 1)) (hM : M a = some (t, .inl (.long, n, .inr (.inl f)))) (hi : vp_in i n) (k : sg_W X M cb sb (pc + 1) L (.long (f i.toNatClampNeg) :: st)) : sg_W X M cb sb pc L (.int i :: .ref a :: st) := by
  obtain ⟨p, l', e, R, s, m, args, below, meth, c, G', Q, nL'⟩ := X
  obtain ⟨⟨rfl, rfl, rfl⟩, hx, hb, hml, hown, hts, hE, hlk, hG, htr, hdf, hdl⟩ := hC
  intro H locs cells slots ls hl hH hS hc hs
  obtain ⟨cell, q1, q2, q3, q4, q5, -, q6⟩ := sg_oldA hH hM
  have hlt : i.toNatClampNeg < n := Nat.not_le.mp fun q => hi (Or.inr q)
  exact W.lald (v := .long (f i.toNatClampNeg)) hx hb q1 (sg_isArrG (t0 := 4) hE rfl q4 q2) q3 (sg_bnd q5 hi) (by rw [q6 _ hlt]; show (arrV _ _ _).slots[_]? = _; rw [arrV_read _ _ hlt]) rfl rfl hd (k H locs cells slots ls hl hH hS hc hs)

theorem sg_dald {X : sg_X} {l : Launch} {G : sg_G} {cc : ByteArray} {own : String} {nL d : Nat} {M : sg_M} {cb sb pc : Nat} {L : List (Option Value)} {st : List Value} {a t n : Nat} {f : Nat → UInt64} {i : Int32} (hC : sg_C X l G cc own nL d) (hd : decode cc pc = .ok (.daload, 1)) (hM : M a = some (t, .inl (.double, n, .inr (.inr (.inr (.inl f)))))) (hi : vp_in i n) (k : sg_W X M cb sb (pc + 1) L (.double (f i.toNatClampNeg) :: st)) : sg_W X M cb sb pc L (.int i :: .ref a :: st) := by
  obtain ⟨p, l', e, R, s, m, args, below, meth, c, G', Q, nL'⟩ := X
  obtain ⟨⟨rfl, rfl, rfl⟩, hx, hb, hml, hown, hts, hE, hlk, hG, htr, hdf, hdl⟩ := hC
  intro H locs cells slots ls hl hH hS hc hs
  obtain ⟨cell, q1, q2, q3, q4, q5, -, q6⟩ := sg_oldA hH hM
  have hlt : i.toNatClampNeg < n := Nat.not_le.mp fun q => hi (Or.inr q)
  exact W.dald (v := .double (f i.toNatClampNeg)) hx hb q1 (sg_isArrG (t0 := 5) hE rfl q4 q2) q3 (sg_bnd q5 hi) (by rw [q6 _ hlt]; show (arrV _ _ _).slots[_]? = _; rw [arrV_read _ _ hlt]) rfl rfl hd (k H locs cells slots ls hl hH hS hc hs)

theorem sg_aald6 {X : sg_X} {l : Launch} {G : sg_G} {cc : ByteArray} {own : String} {nL d : Nat} {M : sg_M} {cb sb pc : Nat} {L : List (Option Value)} {st : List Value} {a t n : Nat} {f : Nat → Option Nat} {i : Int32} (hC : sg_C X l G cc own nL d) (hd : decode cc pc = .ok (.aaload, 1)) (hM : M a = some (t, .inl (.object "java/lang/Object", n, .inr (.inr (.inr (.inr f)))))) (hi : vp_in i n) (k : sg_W X M cb sb (pc + 1) L (va_rf (f i.toNatClampNeg) :: st)) : sg_W X M cb sb pc L (.int i :: .ref a :: st) := by
  obtain ⟨p, l', e, R, s, m, args, below, meth, c, G', Q, nL'⟩ := X
  obtain ⟨⟨rfl, rfl, rfl⟩, hx, hb, hml, hown, hts, hE, hlk, hG, htr, hdf, hdl⟩ := hC
  intro H locs cells slots ls hl hH hS hc hs
  obtain ⟨cell, q1, q2, q3, q4, q5, -, q6⟩ := sg_oldA hH hM
  have hlt : i.toNatClampNeg < n := Nat.not_le.mp fun q => hi (Or.inr q)
  exact W.aald (v := va_rf (f i.toNatClampNeg)) (ty := .object "java/lang/Object") hx hb q1 (sg_isArrG (t0 := 6) hE rfl q4 q2) rfl q3 (sg_bnd q5 hi) (by rw [q6 _ hlt]; show (arrV _ _ _).slots[_]? = _; rw [arrV_read _ _ hlt]) rfl rfl hd (k H locs cells slots ls hl hH hS hc hs)

theorem sg_aald7 {X : sg_X} {l : Launch} {G : sg_G} {cc : ByteArray} {own : String} {nL d : Nat} {M : sg_M} {cb sb pc : Nat} {L : List (Option Value)} {st : List Value} {a t n : Nat} {f : Nat → Option Nat} {i : Int32} (hC : sg_C X l G cc own nL d) (hd : decode cc pc = .ok (.aaload, 1)) (hM : M a = some (t, .inl (.object RX3, n, .inr (.inr (.inr (.inr f)))))) (hi : vp_in i n) (k : sg_W X M cb sb (pc + 1) L (va_rf (f i.toNatClampNeg) :: st)) : sg_W X M cb sb pc L (.int i :: .ref a :: st) := by
  obtain ⟨p, l', e, R, s, m, args, below, meth, c, G', Q, nL'⟩ := X
  obtain ⟨⟨rfl, rfl, rfl⟩, hx, hb, hml, hown, hts, hE, hlk, hG, htr, hdf, hdl⟩ := hC
  intro H locs cells slots ls hl hH hS hc hs
  obtain ⟨cell, q1, q2, q3, q4, q5, -, q6⟩ := sg_oldA hH hM
  have hlt : i.toNatClampNeg < n := Nat.not_le.mp fun q => hi (Or.inr q)
  exact W.aald (v := va_rf (f i.toNatClampNeg)) (ty := .object RX3) hx hb q1 (sg_isArrG (t0 := 7) hE rfl q4 q2) rfl q3 (sg_bnd q5 hi) (by rw [q6 _ hlt]; show (arrV _ _ _).slots[_]? = _; rw [arrV_read _ _ hlt]) rfl rfl hd (k H locs cells slots ls hl hH hS hc hs)

theorem sg_aald8 {X : sg_X} {l : Launch} {G : sg_G} {cc : ByteArray} {own : String} {nL d : Nat} {M : sg_M} {cb sb pc : Nat} {L : List (Option Value)} {st : List Value} {a t n : Nat} {f : Nat → Option Nat} {i : Int32} (hC : sg_C X l G cc own nL d) (hd : decode cc pc = .ok (.aaload, 1)) (hM : M a = some (t, .inl (.object RX5, n, .inr (.inr (.inr (.inr f)))))) (hi : vp_in i n) (k : sg_W X M cb sb (pc + 1) L (va_rf (f i.toNatClampNeg) :: st)) : sg_W X M cb sb pc L (.int i :: .ref a :: st) := by
  obtain ⟨p, l', e, R, s, m, args, below, meth, c, G', Q, nL'⟩ := X
  obtain ⟨⟨rfl, rfl, rfl⟩, hx, hb, hml, hown, hts, hE, hlk, hG, htr, hdf, hdl⟩ := hC
  intro H locs cells slots ls hl hH hS hc hs
  obtain ⟨cell, q1, q2, q3, q4, q5, -, q6⟩ := sg_oldA hH hM
  have hlt : i.toNatClampNeg < n := Nat.not_le.mp fun q => hi (Or.inr q)
  exact W.aald (v := va_rf (f i.toNatClampNeg)) (ty := .object RX5) hx hb q1 (sg_isArrG (t0 := 8) hE rfl q4 q2) rfl q3 (sg_bnd q5 hi) (by rw [q6 _ hlt]; show (arrV _ _ _).slots[_]? = _; rw [arrV_read _ _ hlt]) rfl rfl hd (k H locs cells slots ls hl hH hS hc hs)

theorem sg_aald9 {X : sg_X} {l : Launch} {G : sg_G} {cc : ByteArray} {own : String} {nL d : Nat} {M : sg_M} {cb sb pc : Nat} {L : List (Option Value)} {st : List Value} {a t n : Nat} {f : Nat → Option Nat} {i : Int32} (hC : sg_C X l G cc own nL d) (hd : decode cc pc = .ok (.aaload, 1)) (hM : M a = some (t, .inl (.object RX0, n, .inr (.inr (.inr (.inr f)))))) (hi : vp_in i n) (k : sg_W X M cb sb (pc + 1) L (va_rf (f i.toNatClampNeg) :: st)) : sg_W X M cb sb pc L (.int i :: .ref a :: st) := by
  obtain ⟨p, l', e, R, s, m, args, below, meth, c, G', Q, nL'⟩ := X
  obtain ⟨⟨rfl, rfl, rfl⟩, hx, hb, hml, hown, hts, hE, hlk, hG, htr, hdf, hdl⟩ := hC
  intro H locs cells slots ls hl hH hS hc hs
  obtain ⟨cell, q1, q2, q3, q4, q5, -, q6⟩ := sg_oldA hH hM
  have hlt : i.toNatClampNeg < n := Nat.not_le.mp fun q => hi (Or.inr q)
  exact W.aald (v := va_rf (f i.toNatClampNeg)) (ty := .object RX0) hx hb q1 (sg_isArrG (t0 := 9) hE rfl q4 q2) rfl q3 (sg_bnd q5 hi) (by rw [q6 _ hlt]; show (arrV _ _ _).slots[_]? = _; rw [arrV_read _ _ hlt]) rfl rfl hd (k H locs cells slots ls hl hH hS hc hs)

theorem sg_alen {X : sg_X} {l : Launch} {G : sg_G} {cc : ByteArray} {own : String} {nL d : Nat} {M : sg_M} {cb sb pc : Nat} {L : List (Option Value)} {st : List Value} {a t : Nat} {ty : FieldType} {x : vp_A} (t0 : Nat) (hC : sg_C X l G cc own nL d) (hd : decode cc pc = .ok (.arraylength, 1)) (hM : M a = some (t, .inl (ty, x))) (ht : (sg_tys G)[t0]? = some (G.2.2.1 ty, ty)) (k : sg_W X M cb sb (pc + 1) L (.int (nI x.1) :: st)) : sg_W X M cb sb pc L (.ref a :: st) := by
  obtain ⟨p, l', e, R, s, m, args, below, meth, c, G', Q, nL'⟩ := X
  obtain ⟨⟨rfl, rfl, rfl⟩, hx, hb, hml, hown, hts, hE, hlk, hG, htr, hdf, hdl⟩ := hC
  intro H locs cells slots ls hl hH hS hc hs
  obtain ⟨cell, q1, q2, q3, q4, q5, q6, -⟩ := sg_oldA hH hM
  exact W.alen (n := nI x.1) hx hb q1 (sg_isArrG hE ht q4 q2) q6 rfl rfl hd (k H locs cells slots ls hl hH hS hc hs)

theorem sg_iast {X : sg_X} {l : Launch} {G : sg_G} {cc : ByteArray} {own : String} {nL d : Nat} {M : sg_M} {cb sb pc : Nat} {L : List (Option Value)} {st : List Value} {a t n : Nat} {f : Nat → Int32} {i : Int32} {x : Int32} (hC : sg_C X l G cc own nL d) (hd : decode cc pc = .ok (.iastore, 1)) (hM : M a = some (t, .inl (.int, n, .inl f))) (ht : t ≠ 0) (hi : vp_in i n) (k : sg_W X (sg_up M a (t, .inl (.int, n, .inl (upd f i.toNatClampNeg x)))) cb sb (pc + 1) L st) : sg_W X M cb sb pc L (.int x :: .int i :: .ref a :: st) := by
  obtain ⟨p, l', e, R, s, m, args, below, meth, c, G', Q, nL'⟩ := X
  obtain ⟨⟨rfl, rfl, rfl⟩, hx, hb, hml, hown, hts, hE, hlk, hG, htr, hdf, hdl⟩ := hC
  intro H locs cells slots ls hl hH hS hc hs
  obtain ⟨hP, hD⟩ := sg_out hH
  obtain ⟨j, hj⟩ := sg_ws_in hM (sg_ge hH hM ht) ((hH.2 _ _ _ hM).1.lt)
  exact va_iast hx hb hE.1 hP hD hS j 0 hj rfl hi hd (fun H1 locs1 hP1 hD1 hS1 => k H1 locs1 cells slots ls hl (sg_set hH hj hM hG hS hS1 (e' := .inl (.int, n, .inl (upd f i.toNatClampNeg x))) hP1) hS1 hc hs)

theorem sg_bast {X : sg_X} {l : Launch} {G : sg_G} {cc : ByteArray} {own : String} {nL d : Nat} {M : sg_M} {cb sb pc : Nat} {L : List (Option Value)} {st : List Value} {a t n : Nat} {f : Nat → Int32} {i : Int32} {x : Int32} (hC : sg_C X l G cc own nL d) (hd : decode cc pc = .ok (.bastore, 1)) (hM : M a = some (t, .inl (.byte, n, .inl f))) (ht : t ≠ 0) (hi : vp_in i n) (k : sg_W X (sg_up M a (t, .inl (.byte, n, .inl (upd f i.toNatClampNeg (vp_nar .byte x))))) cb sb (pc + 1) L st) : sg_W X M cb sb pc L (.int x :: .int i :: .ref a :: st) := by
  obtain ⟨p, l', e, R, s, m, args, below, meth, c, G', Q, nL'⟩ := X
  obtain ⟨⟨rfl, rfl, rfl⟩, hx, hb, hml, hown, hts, hE, hlk, hG, htr, hdf, hdl⟩ := hC
  intro H locs cells slots ls hl hH hS hc hs
  obtain ⟨hP, hD⟩ := sg_out hH
  obtain ⟨j, hj⟩ := sg_ws_in hM (sg_ge hH hM ht) ((hH.2 _ _ _ hM).1.lt)
  exact va_bast hx hb hE.1 hP hD hS j 1 hj rfl hi hd (fun H1 locs1 hP1 hD1 hS1 => k H1 locs1 cells slots ls hl (sg_set hH hj hM hG hS hS1 (e' := .inl (.byte, n, .inl (upd f i.toNatClampNeg (vp_nar .byte x)))) hP1) hS1 hc hs)

theorem sg_zast {X : sg_X} {l : Launch} {G : sg_G} {cc : ByteArray} {own : String} {nL d : Nat} {M : sg_M} {cb sb pc : Nat} {L : List (Option Value)} {st : List Value} {a t n : Nat} {f : Nat → Int32} {i : Int32} {x : Int32} (hC : sg_C X l G cc own nL d) (hd : decode cc pc = .ok (.bastore, 1)) (hM : M a = some (t, .inl (.boolean, n, .inl f))) (ht : t ≠ 0) (hi : vp_in i n) (k : sg_W X (sg_up M a (t, .inl (.boolean, n, .inl (upd f i.toNatClampNeg (vp_nar .boolean x))))) cb sb (pc + 1) L st) : sg_W X M cb sb pc L (.int x :: .int i :: .ref a :: st) := by
  obtain ⟨p, l', e, R, s, m, args, below, meth, c, G', Q, nL'⟩ := X
  obtain ⟨⟨rfl, rfl, rfl⟩, hx, hb, hml, hown, hts, hE, hlk, hG, htr, hdf, hdl⟩ := hC
  intro H locs cells slots ls hl hH hS hc hs
  obtain ⟨hP, hD⟩ := sg_out hH
  obtain ⟨j, hj⟩ := sg_ws_in hM (sg_ge hH hM ht) ((hH.2 _ _ _ hM).1.lt)
  exact va_zast hx hb hE.1 hP hD hS j 2 hj rfl hi hd (fun H1 locs1 hP1 hD1 hS1 => k H1 locs1 cells slots ls hl (sg_set hH hj hM hG hS hS1 (e' := .inl (.boolean, n, .inl (upd f i.toNatClampNeg (vp_nar .boolean x)))) hP1) hS1 hc hs)

theorem sg_cast {X : sg_X} {l : Launch} {G : sg_G} {cc : ByteArray} {own : String} {nL d : Nat} {M : sg_M} {cb sb pc : Nat} {L : List (Option Value)} {st : List Value} {a t n : Nat} {f : Nat → Int32} {i : Int32} {x : Int32} (hC : sg_C X l G cc own nL d) (hd : decode cc pc = .ok (.castore, 1)) (hM : M a = some (t, .inl (.char, n, .inl f))) (ht : t ≠ 0) (hi : vp_in i n) (k : sg_W X (sg_up M a (t, .inl (.char, n, .inl (upd f i.toNatClampNeg (vp_nar .char x))))) cb sb (pc + 1) L st) : sg_W X M cb sb pc L (.int x :: .int i :: .ref a :: st) := by
  obtain ⟨p, l', e, R, s, m, args, below, meth, c, G', Q, nL'⟩ := X
  obtain ⟨⟨rfl, rfl, rfl⟩, hx, hb, hml, hown, hts, hE, hlk, hG, htr, hdf, hdl⟩ := hC
  intro H locs cells slots ls hl hH hS hc hs
  obtain ⟨hP, hD⟩ := sg_out hH
  obtain ⟨j, hj⟩ := sg_ws_in hM (sg_ge hH hM ht) ((hH.2 _ _ _ hM).1.lt)
  exact va_cast hx hb hE.1 hP hD hS j 3 hj rfl hi hd (fun H1 locs1 hP1 hD1 hS1 => k H1 locs1 cells slots ls hl (sg_set hH hj hM hG hS hS1 (e' := .inl (.char, n, .inl (upd f i.toNatClampNeg (vp_nar .char x)))) hP1) hS1 hc hs)

theorem sg_last {X : sg_X} {l : Launch} {G : sg_G} {cc : ByteArray} {own : String} {nL d : Nat} {M : sg_M} {cb sb pc : Nat} {L : List (Option Value)} {st : List Value} {a t n : Nat} {f : Nat → Int64} {i : Int32} {x : Int64} (hC : sg_C X l G cc own nL d) (hd : decode cc pc = .ok (.lastore, 1)) (hM : M a = some (t, .inl (.long, n, .inr (.inl f)))) (ht : t ≠ 0) (hi : vp_in i n) (k : sg_W X (sg_up M a (t, .inl (.long, n, .inr (.inl (vp_updL f i.toNatClampNeg x))))) cb sb (pc + 1) L st) : sg_W X M cb sb pc L (.long x :: .int i :: .ref a :: st) := by
  obtain ⟨p, l', e, R, s, m, args, below, meth, c, G', Q, nL'⟩ := X
  obtain ⟨⟨rfl, rfl, rfl⟩, hx, hb, hml, hown, hts, hE, hlk, hG, htr, hdf, hdl⟩ := hC
  intro H locs cells slots ls hl hH hS hc hs
  obtain ⟨hP, hD⟩ := sg_out hH
  obtain ⟨j, hj⟩ := sg_ws_in hM (sg_ge hH hM ht) ((hH.2 _ _ _ hM).1.lt)
  exact va_last hx hb hE.1 hP hD hS j 4 hj rfl hi hd (fun H1 locs1 hP1 hD1 hS1 => k H1 locs1 cells slots ls hl (sg_set hH hj hM hG hS hS1 (e' := .inl (.long, n, .inr (.inl (vp_updL f i.toNatClampNeg x)))) hP1) hS1 hc hs)

theorem sg_dast {X : sg_X} {l : Launch} {G : sg_G} {cc : ByteArray} {own : String} {nL d : Nat} {M : sg_M} {cb sb pc : Nat} {L : List (Option Value)} {st : List Value} {a t n : Nat} {f : Nat → UInt64} {i : Int32} {x : UInt64} (hC : sg_C X l G cc own nL d) (hd : decode cc pc = .ok (.dastore, 1)) (hM : M a = some (t, .inl (.double, n, .inr (.inr (.inr (.inl f)))))) (ht : t ≠ 0) (hi : vp_in i n) (k : sg_W X (sg_up M a (t, .inl (.double, n, .inr (.inr (.inr (.inl (vf_upd f i.toNatClampNeg x))))))) cb sb (pc + 1) L st) : sg_W X M cb sb pc L (.double x :: .int i :: .ref a :: st) := by
  obtain ⟨p, l', e, R, s, m, args, below, meth, c, G', Q, nL'⟩ := X
  obtain ⟨⟨rfl, rfl, rfl⟩, hx, hb, hml, hown, hts, hE, hlk, hG, htr, hdf, hdl⟩ := hC
  intro H locs cells slots ls hl hH hS hc hs
  obtain ⟨hP, hD⟩ := sg_out hH
  obtain ⟨j, hj⟩ := sg_ws_in hM (sg_ge hH hM ht) ((hH.2 _ _ _ hM).1.lt)
  exact va_dast hx hb hE.1 hP hD hS j 5 hj rfl hi hd (fun H1 locs1 hP1 hD1 hS1 => k H1 locs1 cells slots ls hl (sg_set hH hj hM hG hS hS1 (e' := .inl (.double, n, .inr (.inr (.inr (.inl (vf_upd f i.toNatClampNeg x)))))) hP1) hS1 hc hs)

theorem sg_ireturn {X : sg_X} {l : Launch} {G : sg_G} {cc : ByteArray} {own : String} {nL d : Nat} {M : sg_M} {cb sb pc : Nat} {L : List (Option Value)} {st : List Value} {v : Int32} {y : MethodName} {kr : Option Value → sg_M → Prop} {kx : String → sg_M → Prop} (hC : sg_C X l G cc own nL d) (hR : sg_R X y kr kx (some .int)) (hd : decode cc pc = .ok (.ireturn, 1)) (hk : kr (some (.int v)) M) : sg_W X M cb sb pc L [.int v] := by
  obtain ⟨p, l', e, R, s, m, args, below, meth, c, G', Q, nL'⟩ := X
  obtain ⟨⟨rfl, rfl, rfl⟩, hx, hb, hml, hown, hts, hE, hlk, hG, htr, hdf, hdl⟩ := hC
  intro H locs cells slots ls hl hH hS hc hs
  obtain ⟨rfl, hr, -, -⟩ := hR
  refine vx_ret ?_
  refine W.widen (k := R.cells) (n := R.slots) (by omega) (by omega) ?_
  exact W.iret hx hb hr (fun t ht hW => ⟨_, M, rfl, hk, by rw [ht]; exact hH, hS.F ht⟩) hS.2.2 hd hlk

theorem sg_freturn {X : sg_X} {l : Launch} {G : sg_G} {cc : ByteArray} {own : String} {nL d : Nat} {M : sg_M} {cb sb pc : Nat} {L : List (Option Value)} {st : List Value} {v : UInt32} {y : MethodName} {kr : Option Value → sg_M → Prop} {kx : String → sg_M → Prop} (hC : sg_C X l G cc own nL d) (hR : sg_R X y kr kx (some .float)) (hd : decode cc pc = .ok (.freturn, 1)) (hk : kr (some (.float v)) M) : sg_W X M cb sb pc L [.float v] := by
  obtain ⟨p, l', e, R, s, m, args, below, meth, c, G', Q, nL'⟩ := X
  obtain ⟨⟨rfl, rfl, rfl⟩, hx, hb, hml, hown, hts, hE, hlk, hG, htr, hdf, hdl⟩ := hC
  intro H locs cells slots ls hl hH hS hc hs
  obtain ⟨rfl, hr, -, -⟩ := hR
  refine vx_ret ?_
  refine W.widen (k := R.cells) (n := R.slots) (by omega) (by omega) ?_
  exact W.fret hx hb hr (fun t ht hW => ⟨_, M, rfl, hk, by rw [ht]; exact hH, hS.F ht⟩) hS.2.2 hd hlk

theorem sg_zreturn {X : sg_X} {l : Launch} {G : sg_G} {cc : ByteArray} {own : String} {nL d : Nat} {M : sg_M} {cb sb pc : Nat} {L : List (Option Value)} {st : List Value} {v : Int32} {ty : FieldType} {y : MethodName} {kr : Option Value → sg_M → Prop} {kx : String → sg_M → Prop} (hC : sg_C X l G cc own nL d) (hR : sg_R X y kr kx (some ty)) (hn : narrow ty (.int v) = .int v) (hd : decode cc pc = .ok (.ireturn, 1)) (hk : kr (some (.int v)) M) : sg_W X M cb sb pc L [.int v] := by
  obtain ⟨p, l', e, R, s, m, args, below, meth, c, G', Q, nL'⟩ := X
  obtain ⟨⟨rfl, rfl, rfl⟩, hx, hb, hml, hown, hts, hE, hlk, hG, htr, hdf, hdl⟩ := hC
  intro H locs cells slots ls hl hH hS hc hs
  obtain ⟨rfl, hr, -, -⟩ := hR
  refine vx_ret ?_
  refine W.widen (k := R.cells) (n := R.slots) (by omega) (by omega) ?_
  exact W.zret hx hb hr hn (fun t ht hW => ⟨_, M, rfl, hk, by rw [ht]; exact hH, hS.F ht⟩) hS.2.2 hd hlk
theorem sg_areturn {X : sg_X} {l : Launch} {G : sg_G} {cc : ByteArray} {own : String} {nL d : Nat} {M : sg_M} {cb sb pc : Nat} {L : List (Option Value)} {st : List Value} {v : Value} {ty : FieldType} {y : MethodName} {kr : Option Value → sg_M → Prop} {kx : String → sg_M → Prop} (hC : sg_C X l G cc own nL d) (hR : sg_R X y kr kx (some ty)) (hn : (∃ n, ty = .object n) ∨ ∃ t, ty = .array t) (hv : v = .null ∨ ∃ a, v = .ref a) (hd : decode cc pc = .ok (.areturn, 1)) (hk : kr (some v) M) : sg_W X M cb sb pc L [v] := by
  obtain ⟨p, l', e, R, s, m, args, below, meth, c, G', Q, nL'⟩ := X
  obtain ⟨⟨rfl, rfl, rfl⟩, hx, hb, hml, hown, hts, hE, hlk, hG, htr, hdf, hdl⟩ := hC
  intro H locs cells slots ls hl hH hS hc hs
  obtain ⟨rfl, hr, -, -⟩ := hR
  refine vx_ret ?_
  refine W.widen (k := R.cells) (n := R.slots) (by omega) (by omega) ?_
  exact W.aret hx hb hr hn hv (fun t ht hW => ⟨_, M, rfl, hk, by rw [ht]; exact hH, hS.F ht⟩) hS.2.2 hd hlk
theorem sg_vreturn {X : sg_X} {l : Launch} {G : sg_G} {cc : ByteArray} {own : String} {nL d : Nat} {M : sg_M} {cb sb pc : Nat} {L : List (Option Value)} {st : List Value} {y : MethodName} {kr : Option Value → sg_M → Prop} {kx : String → sg_M → Prop} (hC : sg_C X l G cc own nL d) (hR : sg_R X y kr kx none) (hd : decode cc pc = .ok (.return_, 1)) (hk : kr none M) : sg_W X M cb sb pc L [] := by
  obtain ⟨p, l', e, R, s, m, args, below, meth, c, G', Q, nL'⟩ := X
  obtain ⟨⟨rfl, rfl, rfl⟩, hx, hb, hml, hown, hts, hE, hlk, hG, htr, hdf, hdl⟩ := hC
  intro H locs cells slots ls hl hH hS hc hs
  obtain ⟨rfl, hr, -, -⟩ := hR
  refine vx_ret ?_
  refine W.widen (k := R.cells) (n := R.slots) (by omega) (by omega) ?_
  exact W.vret hx hb hr (fun t ht hW => ⟨_, M, rfl, hk, by rw [ht]; exact hH, hS.F ht⟩) hS.2.2 hd hlk
