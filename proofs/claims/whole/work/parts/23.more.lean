section SGM
variable {X : sg_X} {l : Launch} {G : sg_G} {cc : ByteArray} {own : String} {nL d : Nat} {M : sg_M} {cb sb pc : Nat} {L : List (Option Value)} {st : List Value}

/-- Object's constructor -/
theorem sg_objInit {index a : Nat} (hC : sg_C X l G cc own nL (d + 1)) (w1 : Cond.methodLink own index Lib.objectInit ∈ sg_tb) (w2 : Cond.instanceMethod Lib.objectInit ∈ sg_tb) (w3 : Cond.code Lib.objectInit ⟨#[0xb1]⟩ 1 none ∈ sg_tb) (hd : decode cc pc = .ok (.invokespecial index, 3)) (hr : (st.map fun v => v.category).sum ≤ 8) (k : sg_W X M cb sb (pc + 3) L st) : sg_W X M cb sb pc L (.ref a :: st) := by
  obtain ⟨p, l', e, R, s, m, args, below, meth, c, G', Q, nL'⟩ := X
  obtain ⟨⟨rfl, rfl, rfl⟩, hx, hb, hml, hown, hts, hE, hlk, hG, htr, hdf, hdl⟩ := hC
  intro H locs cells slots ls hl hH hS hc hs
  exact W.objInit hx hb hown (hts _ w1) (hts _ w2) (hts _ w3) rfl (by rw [hml]; exact hl.1) rfl hd (by omega) (by show 2 * 0 + (st.map fun v => v.category).sum + 12 ≤ R.locals; omega) (k H locs cells slots ls hl hH hS hc hs)
/-- a class has one number -/
theorem sg_one_cls {s : State} {nm : String} {a b : ClassId} (h1 : s.vm.findClass nm = some a) (h2 : s.vm.findClass nm = some b) : a = b := Option.some.inj (h1.symm.trans h2)

theorem sg_new_int {n : Int32} {N : Nat} (t : Nat) (hC : sg_C X l G cc own nL d) (w1 : Cond.arrayClass .int ∈ sg_tb) (hd : decode cc pc = .ok (.newarray .int, 2)) (hn : n = nI N) (hN : N ≤ 65536) (ht : t ≠ 0) (h1 : 1 ≤ cb) (h2 : N ≤ sb) (k : ∀ q : Nat, M q = none → sg_W X (sg_up M q (t, .inl (.int, N, .inl (fun _ => 0)))) (cb - 1) (sb - N) (pc + 2) L (.ref q :: st)) : sg_W X M cb sb pc L (.int n :: st) := by
  obtain ⟨p, l', e, R, s, m, args, below, meth, c, G', Q, nL'⟩ := X
  obtain ⟨⟨rfl, rfl, rfl⟩, hx, hb, hml, hown, hts, hE, hlk, hG, htr, hdf, hdl⟩ := hC
  intro H locs cells slots ls hl hH hS hc hs
  obtain ⟨hP, hD⟩ := sg_out hH
  subst hn
  refine va_newa (atype := .int) (ty := .int) (N' := N) (a0 := (N, .inl (fun _ => 0))) hx hb (hts _ w1) rfl hE.1 hP hD hS (fun q hq => Nat.le_trans hG hq) (fun _ => rfl) (nI_pos (by omega)) (nI_clamp (by omega)) (by show N * _ ≤ 536870912; have : componentBytes .int ≤ 8 := (by decide); exact Nat.le_trans (Nat.mul_le_mul hN this) (by decide)) (by omega) (by omega) hd (fun q cA H1 hK1 hP1 hD1 hS1 => ?_)
  have e1 : cA = G'.2.2.1 .int := sg_one_cls (va_nm_int (hK1.2 10 (cA, .int) rfl).2) (va_nm_int (hE.1.2 0 (G'.2.2.1 .int, .int) rfl).2)
  subst e1
  obtain ⟨hn, hk⟩ := sg_push hH (e' := .inl (.int, N, .inl (fun _ => 0))) hG hS hS1 hP1 hD1
  exact k q hn H1 locs (cells + 1) (slots + N) ls hl (hk t ht) hS1 (by omega) (by omega)

theorem sg_new_byte {n : Int32} {N : Nat} (t : Nat) (hC : sg_C X l G cc own nL d) (w1 : Cond.arrayClass .byte ∈ sg_tb) (hd : decode cc pc = .ok (.newarray .byte, 2)) (hn : n = nI N) (hN : N ≤ 65536) (ht : t ≠ 0) (h1 : 1 ≤ cb) (h2 : N ≤ sb) (k : ∀ q : Nat, M q = none → sg_W X (sg_up M q (t, .inl (.byte, N, .inl (fun _ => 0)))) (cb - 1) (sb - N) (pc + 2) L (.ref q :: st)) : sg_W X M cb sb pc L (.int n :: st) := by
  obtain ⟨p, l', e, R, s, m, args, below, meth, c, G', Q, nL'⟩ := X
  obtain ⟨⟨rfl, rfl, rfl⟩, hx, hb, hml, hown, hts, hE, hlk, hG, htr, hdf, hdl⟩ := hC
  intro H locs cells slots ls hl hH hS hc hs
  obtain ⟨hP, hD⟩ := sg_out hH
  subst hn
  refine va_newa (atype := .byte) (ty := .byte) (N' := N) (a0 := (N, .inl (fun _ => 0))) hx hb (hts _ w1) rfl hE.1 hP hD hS (fun q hq => Nat.le_trans hG hq) (fun _ => rfl) (nI_pos (by omega)) (nI_clamp (by omega)) (by show N * _ ≤ 536870912; have : componentBytes .byte ≤ 8 := (by decide); exact Nat.le_trans (Nat.mul_le_mul hN this) (by decide)) (by omega) (by omega) hd (fun q cA H1 hK1 hP1 hD1 hS1 => ?_)
  have e1 : cA = G'.2.2.1 .byte := sg_one_cls (va_nm_byte (hK1.2 10 (cA, .byte) rfl).2) (va_nm_byte (hE.1.2 1 (G'.2.2.1 .byte, .byte) rfl).2)
  subst e1
  obtain ⟨hn, hk⟩ := sg_push hH (e' := .inl (.byte, N, .inl (fun _ => 0))) hG hS hS1 hP1 hD1
  exact k q hn H1 locs (cells + 1) (slots + N) ls hl (hk t ht) hS1 (by omega) (by omega)

theorem sg_new_boolean {n : Int32} {N : Nat} (t : Nat) (hC : sg_C X l G cc own nL d) (w1 : Cond.arrayClass .boolean ∈ sg_tb) (hd : decode cc pc = .ok (.newarray .boolean, 2)) (hn : n = nI N) (hN : N ≤ 65536) (ht : t ≠ 0) (h1 : 1 ≤ cb) (h2 : N ≤ sb) (k : ∀ q : Nat, M q = none → sg_W X (sg_up M q (t, .inl (.boolean, N, .inl (fun _ => 0)))) (cb - 1) (sb - N) (pc + 2) L (.ref q :: st)) : sg_W X M cb sb pc L (.int n :: st) := by
  obtain ⟨p, l', e, R, s, m, args, below, meth, c, G', Q, nL'⟩ := X
  obtain ⟨⟨rfl, rfl, rfl⟩, hx, hb, hml, hown, hts, hE, hlk, hG, htr, hdf, hdl⟩ := hC
  intro H locs cells slots ls hl hH hS hc hs
  obtain ⟨hP, hD⟩ := sg_out hH
  subst hn
  refine va_newa (atype := .boolean) (ty := .boolean) (N' := N) (a0 := (N, .inl (fun _ => 0))) hx hb (hts _ w1) rfl hE.1 hP hD hS (fun q hq => Nat.le_trans hG hq) (fun _ => rfl) (nI_pos (by omega)) (nI_clamp (by omega)) (by show N * _ ≤ 536870912; have : componentBytes .boolean ≤ 8 := (by decide); exact Nat.le_trans (Nat.mul_le_mul hN this) (by decide)) (by omega) (by omega) hd (fun q cA H1 hK1 hP1 hD1 hS1 => ?_)
  have e1 : cA = G'.2.2.1 .boolean := sg_one_cls (va_nm_boolean (hK1.2 10 (cA, .boolean) rfl).2) (va_nm_boolean (hE.1.2 2 (G'.2.2.1 .boolean, .boolean) rfl).2)
  subst e1
  obtain ⟨hn, hk⟩ := sg_push hH (e' := .inl (.boolean, N, .inl (fun _ => 0))) hG hS hS1 hP1 hD1
  exact k q hn H1 locs (cells + 1) (slots + N) ls hl (hk t ht) hS1 (by omega) (by omega)

theorem sg_new_char {n : Int32} {N : Nat} (t : Nat) (hC : sg_C X l G cc own nL d) (w1 : Cond.arrayClass .char ∈ sg_tb) (hd : decode cc pc = .ok (.newarray .char, 2)) (hn : n = nI N) (hN : N ≤ 65536) (ht : t ≠ 0) (h1 : 1 ≤ cb) (h2 : N ≤ sb) (k : ∀ q : Nat, M q = none → sg_W X (sg_up M q (t, .inl (.char, N, .inl (fun _ => 0)))) (cb - 1) (sb - N) (pc + 2) L (.ref q :: st)) : sg_W X M cb sb pc L (.int n :: st) := by
  obtain ⟨p, l', e, R, s, m, args, below, meth, c, G', Q, nL'⟩ := X
  obtain ⟨⟨rfl, rfl, rfl⟩, hx, hb, hml, hown, hts, hE, hlk, hG, htr, hdf, hdl⟩ := hC
  intro H locs cells slots ls hl hH hS hc hs
  obtain ⟨hP, hD⟩ := sg_out hH
  subst hn
  refine va_newa (atype := .char) (ty := .char) (N' := N) (a0 := (N, .inl (fun _ => 0))) hx hb (hts _ w1) rfl hE.1 hP hD hS (fun q hq => Nat.le_trans hG hq) (fun _ => rfl) (nI_pos (by omega)) (nI_clamp (by omega)) (by show N * _ ≤ 536870912; have : componentBytes .char ≤ 8 := (by decide); exact Nat.le_trans (Nat.mul_le_mul hN this) (by decide)) (by omega) (by omega) hd (fun q cA H1 hK1 hP1 hD1 hS1 => ?_)
  have e1 : cA = G'.2.2.1 .char := sg_one_cls (va_nm_char (hK1.2 10 (cA, .char) rfl).2) (va_nm_char (hE.1.2 3 (G'.2.2.1 .char, .char) rfl).2)
  subst e1
  obtain ⟨hn, hk⟩ := sg_push hH (e' := .inl (.char, N, .inl (fun _ => 0))) hG hS hS1 hP1 hD1
  exact k q hn H1 locs (cells + 1) (slots + N) ls hl (hk t ht) hS1 (by omega) (by omega)

theorem sg_new_long {n : Int32} {N : Nat} (t : Nat) (hC : sg_C X l G cc own nL d) (w1 : Cond.arrayClass .long ∈ sg_tb) (hd : decode cc pc = .ok (.newarray .long, 2)) (hn : n = nI N) (hN : N ≤ 65536) (ht : t ≠ 0) (h1 : 1 ≤ cb) (h2 : N ≤ sb) (k : ∀ q : Nat, M q = none → sg_W X (sg_up M q (t, .inl (.long, N, .inr (.inl (fun _ => 0))))) (cb - 1) (sb - N) (pc + 2) L (.ref q :: st)) : sg_W X M cb sb pc L (.int n :: st) := by
  obtain ⟨p, l', e, R, s, m, args, below, meth, c, G', Q, nL'⟩ := X
  obtain ⟨⟨rfl, rfl, rfl⟩, hx, hb, hml, hown, hts, hE, hlk, hG, htr, hdf, hdl⟩ := hC
  intro H locs cells slots ls hl hH hS hc hs
  obtain ⟨hP, hD⟩ := sg_out hH
  subst hn
  refine va_newa (atype := .long) (ty := .long) (N' := N) (a0 := (N, .inr (.inl (fun _ => 0)))) hx hb (hts _ w1) rfl hE.1 hP hD hS (fun q hq => Nat.le_trans hG hq) (fun _ => rfl) (nI_pos (by omega)) (nI_clamp (by omega)) (by show N * _ ≤ 536870912; have : componentBytes .long ≤ 8 := (by decide); exact Nat.le_trans (Nat.mul_le_mul hN this) (by decide)) (by omega) (by omega) hd (fun q cA H1 hK1 hP1 hD1 hS1 => ?_)
  have e1 : cA = G'.2.2.1 .long := sg_one_cls (va_nm_long (hK1.2 10 (cA, .long) rfl).2) (va_nm_long (hE.1.2 4 (G'.2.2.1 .long, .long) rfl).2)
  subst e1
  obtain ⟨hn, hk⟩ := sg_push hH (e' := .inl (.long, N, .inr (.inl (fun _ => 0)))) hG hS hS1 hP1 hD1
  exact k q hn H1 locs (cells + 1) (slots + N) ls hl (hk t ht) hS1 (by omega) (by omega)

theorem sg_new_double {n : Int32} {N : Nat} (t : Nat) (hC : sg_C X l G cc own nL d) (w1 : Cond.arrayClass .double ∈ sg_tb) (hd : decode cc pc = .ok (.newarray .double, 2)) (hn : n = nI N) (hN : N ≤ 65536) (ht : t ≠ 0) (h1 : 1 ≤ cb) (h2 : N ≤ sb) (k : ∀ q : Nat, M q = none → sg_W X (sg_up M q (t, .inl (.double, N, .inr (.inr (.inr (.inl (fun _ => 0))))))) (cb - 1) (sb - N) (pc + 2) L (.ref q :: st)) : sg_W X M cb sb pc L (.int n :: st) := by
  obtain ⟨p, l', e, R, s, m, args, below, meth, c, G', Q, nL'⟩ := X
  obtain ⟨⟨rfl, rfl, rfl⟩, hx, hb, hml, hown, hts, hE, hlk, hG, htr, hdf, hdl⟩ := hC
  intro H locs cells slots ls hl hH hS hc hs
  obtain ⟨hP, hD⟩ := sg_out hH
  subst hn
  refine va_newa (atype := .double) (ty := .double) (N' := N) (a0 := (N, .inr (.inr (.inr (.inl (fun _ => 0)))))) hx hb (hts _ w1) rfl hE.1 hP hD hS (fun q hq => Nat.le_trans hG hq) (fun _ => rfl) (nI_pos (by omega)) (nI_clamp (by omega)) (by show N * _ ≤ 536870912; have : componentBytes .double ≤ 8 := (by decide); exact Nat.le_trans (Nat.mul_le_mul hN this) (by decide)) (by omega) (by omega) hd (fun q cA H1 hK1 hP1 hD1 hS1 => ?_)
  have e1 : cA = G'.2.2.1 .double := sg_one_cls (va_nm_double (hK1.2 10 (cA, .double) rfl).2) (va_nm_double (hE.1.2 5 (G'.2.2.1 .double, .double) rfl).2)
  subst e1
  obtain ⟨hn, hk⟩ := sg_push hH (e' := .inl (.double, N, .inr (.inr (.inr (.inl (fun _ => 0)))))) hG hS hS1 hP1 hD1
  exact k q hn H1 locs (cells + 1) (slots + N) ls hl (hk t ht) hS1 (by omega) (by omega)

/-- addresses of two marks are two -/
theorem sg_net {M : sg_M} {a b t u : Nat} {e e' : sg_E} (h1 : M a = some (t, e)) (h2 : M b = some (u, e')) (h : t ≠ u) : a ≠ b := by
  intro e9
  subst e9
  rw [h1] at h2
  cases h2
  exact h rfl
theorem sg_fresh {M : sg_M} {a q t : Nat} {e : sg_E} (h1 : M a = some (t, e)) (h2 : M q = none) : a ≠ q := by
  intro e9
  subst e9
  rw [h1] at h2
  cases h2
theorem sg_rd {M : sg_M} {a b : Nat} {x y : Nat × sg_E} (h : M b = some y) (hn : b ≠ a) : sg_up M a x b = some y := (sg_up_n hn).trans h
end SGM
