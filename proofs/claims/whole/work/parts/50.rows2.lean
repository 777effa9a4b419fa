/-! ===== memory steps and frames ===== -/
abbrev sRA (f : Nat → Option Nat) : Nat × (Nat → Option Nat) → vp_A := fun q => (q.1, .inr (.inr (.inr (.inr q.2))))
/-- M' is M but at a -/
def sw (M : sg_M) (a : Nat) (y : Nat × sg_E) (M' : sg_M) : Prop := M' a = some y ∧ ∀ b, b ≠ a → M' b = M b
theorem sw_mk (M : sg_M) (a : Nat) (y : Nat × sg_E) : sw M a y (sg_up M a y) := ⟨sg_up_s _ _ _, fun b h => sg_up_n h⟩
theorem sw.n {M M' : sg_M} {a b : Nat} {y z : Nat × sg_E} (h : sw M a y M') (hb : M b = some z) (hn : b ≠ a) : M' b = some z := (h.2 b hn).trans hb
theorem sg_nm {X : sg_X} {M : sg_M} {a : Nat} {y : Nat × sg_E} {cb sb pc : Nat} {L : List (Option Value)} {st : List Value} (k : ∀ M', sw M a y M' → sg_W X M' cb sb pc L st) : sg_W X (sg_up M a y) cb sb pc L st := k _ (sw_mk _ _ _)
/-- what M had stays, but (of the same mark) where P says -/
def sf (P : Nat → Nat → Prop) (M M' : sg_M) : Prop := ∀ (a t : Nat) (e : sg_E), M a = some (t, e) → M' a = some (t, e) ∨ (P a t ∧ ∃ e', M' a = some (t, e'))
theorem sf.rf {P : Nat → Nat → Prop} {M : sg_M} : sf P M M := fun _ _ _ h => Or.inl h
theorem sf.k {P : Nat → Nat → Prop} {M M' : sg_M} (h : sf P M M') {a t : Nat} {e : sg_E} (hM : M a = some (t, e)) (hn : ¬ P a t) : M' a = some (t, e) := (h a t e hM).elim id (fun q => absurd q.1 hn)
theorem sf.fr {P : Nat → Nat → Prop} {M M' : sg_M} (h : sf P M M') {q : Nat} (hq : M' q = none) : M q = none := by
  cases hm : M q with
  | none => rfl
  | some x =>
    obtain ⟨t, e⟩ := x
    rcases h q t e hm with h1 | ⟨-, e', h1⟩ <;> (rw [hq] at h1; cases h1)
theorem sf.st {P : Nat → Nat → Prop} {M0 M M' : sg_M} (h : sf P M0 M) {a t : Nat} {e e' : sg_E} (hw : sw M a (t, e') M') (ha : M a = some (t, e)) (hP : P a t) : sf P M0 M' := by
  intro b u x hb
  by_cases hba : b = a
  · subst hba
    rcases h b u x hb with h1 | ⟨h1, e2, h2⟩
    · rw [ha] at h1; cases h1
      exact Or.inr ⟨hP, e', hw.1⟩
    · rw [ha] at h2; cases h2
      exact Or.inr ⟨hP, e', hw.1⟩
  · rcases h b u x hb with h1 | ⟨h1, e2, h2⟩
    · exact Or.inl ((hw.2 b hba).trans h1)
    · exact Or.inr ⟨h1, e2, (hw.2 b hba).trans h2⟩
theorem sf.nw {P : Nat → Nat → Prop} {M0 M M' : sg_M} (h : sf P M0 M) {a : Nat} {y : Nat × sg_E} (hw : sw M a y M') (ha : M0 a = none) : sf P M0 M' := by
  intro b u x hb
  have hba : b ≠ a := fun e => by subst e; rw [ha] at hb; cases hb
  rcases h b u x hb with h1 | ⟨h1, e2, h2⟩
  · exact Or.inl ((hw.2 b hba).trans h1)
  · exact Or.inr ⟨h1, e2, (hw.2 b hba).trans h2⟩
theorem sf.tr {P Q : Nat → Nat → Prop} {M0 M M' : sg_M} (h : sf P M0 M) (h' : sf Q M M') (hQ : ∀ a t, Q a t → P a t) : sf P M0 M' := by
  intro b u x hb
  rcases h b u x hb with h1 | ⟨h1, e2, h2⟩
  · rcases h' b u x h1 with h3 | ⟨h3, e3, h4⟩
    · exact Or.inl h3
    · exact Or.inr ⟨hQ _ _ h3, e3, h4⟩
  · rcases h' b u e2 h2 with h3 | ⟨h3, e3, h4⟩
    · exact Or.inr ⟨h1, e2, h3⟩
    · exact Or.inr ⟨h1, e3, h4⟩
/-- a callee that wrote cells new since M0, too -/
theorem sf.trN {P Q : Nat → Nat → Prop} {M0 M M' : sg_M} (h : sf P M0 M) (h' : sf Q M M') (hQ : ∀ a t, Q a t → P a t ∨ M0 a = none) : sf P M0 M' := by
  intro b u x hb
  rcases h b u x hb with h1 | ⟨h1, e2, h2⟩
  · rcases h' b u x h1 with h3 | ⟨h3, e3, h4⟩
    · exact Or.inl h3
    · rcases hQ _ _ h3 with h5 | h5
      · exact Or.inr ⟨h5, e3, h4⟩
      · rw [h5] at hb; cases hb
  · rcases h' b u e2 h2 with h3 | ⟨h3, e3, h4⟩
    · exact Or.inr ⟨h1, e2, h3⟩
    · exact Or.inr ⟨h1, e3, h4⟩
theorem sf.mono {P Q : Nat → Nat → Prop} {M M' : sg_M} (h : sf Q M M') (hQ : ∀ a t, Q a t → P a t) : sf P M M' := sf.rf.tr h hQ
theorem sf.of_sw {M M' : sg_M} {a t : Nat} {e e' : sg_E} (hw : sw M a (t, e') M') (ha : M a = some (t, e)) : sf (fun b _ => b = a) M M' := sf.rf.st hw ha rfl
theorem sf.of_new {P : Nat → Nat → Prop} {M M' : sg_M} {a : Nat} {y : Nat × sg_E} (hw : sw M a y M') (ha : M a = none) : sf P M M' := sf.rf.nw hw ha
/-- marks -/
abbrev pk (l : List Nat) : Nat → Nat → Prop := fun _ t => t ∈ l
theorem sg_nfw : nativeFrameWords "java/lang/System" "arraycopy" 5 + 11 ≤ 56 := by decide
theorem sg_RAo {s : State} {cA : ClassId} {C : String} (h : va_RA s cA (.object C)) : s.vm.findClass ("[" ++ (FieldType.object C).toString) = some cA := by
  obtain ⟨_, _, _, _, _, h⟩ := h
  exact h
section SG2
variable {X : sg_X} {l : Launch} {G : sg_G} {cc : ByteArray} {own : String} {nL d : Nat} {M : sg_M} {cb sb pc : Nat} {L : List (Option Value)} {st : List Value}

theorem sg_aast3 {a v t u n : Nat} {vs : List Value} {f : Nat → Option Nat} {i : Int32} (hC : sg_C X l G cc own nL d) (hd : decode cc pc = .ok (.aastore, 1)) (hM : M a = some (t, .inl (.object RX3, n, .inr (.inr (.inr (.inr f)))))) (ht : t ≠ 0) (hV : M v = some (u, .inr (6, vs))) (hu : u ≠ 0) (hi : vp_in i n) (k : sg_W X (sg_up M a (t, .inl (.object RX3, n, .inr (.inr (.inr (.inr (va_up f i.toNatClampNeg (some v)))))))) cb sb (pc + 1) L st) : sg_W X M cb sb pc L (.ref v :: .int i :: .ref a :: st) := by
  obtain ⟨p, l', e, R, s, m, args, below, meth, c, G', Q, nL'⟩ := X
  obtain ⟨⟨rfl, rfl, rfl⟩, hx, hb, hml, hown, hts, hE, hlk, hG, htr, hdf, hdl⟩ := hC
  intro H locs cells slots ls hl hH hS hc hs
  obtain ⟨hP, hD⟩ := sg_out hH
  obtain ⟨j, hj⟩ := sg_ws_in hM (sg_ge hH hM ht) ((hH.2 _ _ _ hM).1.lt)
  obtain ⟨j2, hj2⟩ := sg_ws_in hV (sg_ge hH hV hu) ((hH.2 _ _ _ hV).1.lt)
  exact va_astq hx hb hE.1 hP hD hS j 7 j2 6 hj rfl hj2 rfl hi hd (fun H1 locs1 hP1 hD1 hS1 => k H1 locs1 cells slots ls hl (sg_set hH hj hM hG hS hS1 (e' := .inl (.object RX3, n, .inr (.inr (.inr (.inr (va_up f i.toNatClampNeg (some v))))))) hP1) hS1 hc hs)
theorem sg_aastN3 {a t n : Nat} {f : Nat → Option Nat} {i : Int32} (hC : sg_C X l G cc own nL d) (hd : decode cc pc = .ok (.aastore, 1)) (hM : M a = some (t, .inl (.object RX3, n, .inr (.inr (.inr (.inr f)))))) (ht : t ≠ 0) (hi : vp_in i n) (k : sg_W X (sg_up M a (t, .inl (.object RX3, n, .inr (.inr (.inr (.inr (va_up f i.toNatClampNeg none))))))) cb sb (pc + 1) L st) : sg_W X M cb sb pc L (.null :: .int i :: .ref a :: st) := by
  obtain ⟨p, l', e, R, s, m, args, below, meth, c, G', Q, nL'⟩ := X
  obtain ⟨⟨rfl, rfl, rfl⟩, hx, hb, hml, hown, hts, hE, hlk, hG, htr, hdf, hdl⟩ := hC
  intro H locs cells slots ls hl hH hS hc hs
  obtain ⟨hP, hD⟩ := sg_out hH
  obtain ⟨j, hj⟩ := sg_ws_in hM (sg_ge hH hM ht) ((hH.2 _ _ _ hM).1.lt)
  exact va_astqN hx hb hE.1 hP hD hS j 7 hj rfl hi hd (fun H1 locs1 hP1 hD1 hS1 => k H1 locs1 cells slots ls hl (sg_set hH hj hM hG hS hS1 (e' := .inl (.object RX3, n, .inr (.inr (.inr (.inr (va_up f i.toNatClampNeg none)))))) hP1) hS1 hc hs)

theorem sg_aast5 {a v t u n : Nat} {vs : List Value} {f : Nat → Option Nat} {i : Int32} (hC : sg_C X l G cc own nL d) (hd : decode cc pc = .ok (.aastore, 1)) (hM : M a = some (t, .inl (.object RX5, n, .inr (.inr (.inr (.inr f)))))) (ht : t ≠ 0) (hV : M v = some (u, .inr (8, vs))) (hu : u ≠ 0) (hi : vp_in i n) (k : sg_W X (sg_up M a (t, .inl (.object RX5, n, .inr (.inr (.inr (.inr (va_up f i.toNatClampNeg (some v)))))))) cb sb (pc + 1) L st) : sg_W X M cb sb pc L (.ref v :: .int i :: .ref a :: st) := by
  obtain ⟨p, l', e, R, s, m, args, below, meth, c, G', Q, nL'⟩ := X
  obtain ⟨⟨rfl, rfl, rfl⟩, hx, hb, hml, hown, hts, hE, hlk, hG, htr, hdf, hdl⟩ := hC
  intro H locs cells slots ls hl hH hS hc hs
  obtain ⟨hP, hD⟩ := sg_out hH
  obtain ⟨j, hj⟩ := sg_ws_in hM (sg_ge hH hM ht) ((hH.2 _ _ _ hM).1.lt)
  obtain ⟨j2, hj2⟩ := sg_ws_in hV (sg_ge hH hV hu) ((hH.2 _ _ _ hV).1.lt)
  exact va_astq hx hb hE.1 hP hD hS j 8 j2 8 hj rfl hj2 rfl hi hd (fun H1 locs1 hP1 hD1 hS1 => k H1 locs1 cells slots ls hl (sg_set hH hj hM hG hS hS1 (e' := .inl (.object RX5, n, .inr (.inr (.inr (.inr (va_up f i.toNatClampNeg (some v))))))) hP1) hS1 hc hs)
theorem sg_aastN5 {a t n : Nat} {f : Nat → Option Nat} {i : Int32} (hC : sg_C X l G cc own nL d) (hd : decode cc pc = .ok (.aastore, 1)) (hM : M a = some (t, .inl (.object RX5, n, .inr (.inr (.inr (.inr f)))))) (ht : t ≠ 0) (hi : vp_in i n) (k : sg_W X (sg_up M a (t, .inl (.object RX5, n, .inr (.inr (.inr (.inr (va_up f i.toNatClampNeg none))))))) cb sb (pc + 1) L st) : sg_W X M cb sb pc L (.null :: .int i :: .ref a :: st) := by
  obtain ⟨p, l', e, R, s, m, args, below, meth, c, G', Q, nL'⟩ := X
  obtain ⟨⟨rfl, rfl, rfl⟩, hx, hb, hml, hown, hts, hE, hlk, hG, htr, hdf, hdl⟩ := hC
  intro H locs cells slots ls hl hH hS hc hs
  obtain ⟨hP, hD⟩ := sg_out hH
  obtain ⟨j, hj⟩ := sg_ws_in hM (sg_ge hH hM ht) ((hH.2 _ _ _ hM).1.lt)
  exact va_astqN hx hb hE.1 hP hD hS j 8 hj rfl hi hd (fun H1 locs1 hP1 hD1 hS1 => k H1 locs1 cells slots ls hl (sg_set hH hj hM hG hS hS1 (e' := .inl (.object RX5, n, .inr (.inr (.inr (.inr (va_up f i.toNatClampNeg none)))))) hP1) hS1 hc hs)

theorem sg_aast0 {a v t u n : Nat} {vs : List Value} {f : Nat → Option Nat} {i : Int32} (hC : sg_C X l G cc own nL d) (hd : decode cc pc = .ok (.aastore, 1)) (hM : M a = some (t, .inl (.object RX0, n, .inr (.inr (.inr (.inr f)))))) (ht : t ≠ 0) (hV : M v = some (u, .inr (3, vs))) (hu : u ≠ 0) (hi : vp_in i n) (k : sg_W X (sg_up M a (t, .inl (.object RX0, n, .inr (.inr (.inr (.inr (va_up f i.toNatClampNeg (some v)))))))) cb sb (pc + 1) L st) : sg_W X M cb sb pc L (.ref v :: .int i :: .ref a :: st) := by
  obtain ⟨p, l', e, R, s, m, args, below, meth, c, G', Q, nL'⟩ := X
  obtain ⟨⟨rfl, rfl, rfl⟩, hx, hb, hml, hown, hts, hE, hlk, hG, htr, hdf, hdl⟩ := hC
  intro H locs cells slots ls hl hH hS hc hs
  obtain ⟨hP, hD⟩ := sg_out hH
  obtain ⟨j, hj⟩ := sg_ws_in hM (sg_ge hH hM ht) ((hH.2 _ _ _ hM).1.lt)
  obtain ⟨j2, hj2⟩ := sg_ws_in hV (sg_ge hH hV hu) ((hH.2 _ _ _ hV).1.lt)
  exact va_astq hx hb hE.1 hP hD hS j 9 j2 3 hj rfl hj2 rfl hi hd (fun H1 locs1 hP1 hD1 hS1 => k H1 locs1 cells slots ls hl (sg_set hH hj hM hG hS hS1 (e' := .inl (.object RX0, n, .inr (.inr (.inr (.inr (va_up f i.toNatClampNeg (some v))))))) hP1) hS1 hc hs)
theorem sg_aastN0 {a t n : Nat} {f : Nat → Option Nat} {i : Int32} (hC : sg_C X l G cc own nL d) (hd : decode cc pc = .ok (.aastore, 1)) (hM : M a = some (t, .inl (.object RX0, n, .inr (.inr (.inr (.inr f)))))) (ht : t ≠ 0) (hi : vp_in i n) (k : sg_W X (sg_up M a (t, .inl (.object RX0, n, .inr (.inr (.inr (.inr (va_up f i.toNatClampNeg none))))))) cb sb (pc + 1) L st) : sg_W X M cb sb pc L (.null :: .int i :: .ref a :: st) := by
  obtain ⟨p, l', e, R, s, m, args, below, meth, c, G', Q, nL'⟩ := X
  obtain ⟨⟨rfl, rfl, rfl⟩, hx, hb, hml, hown, hts, hE, hlk, hG, htr, hdf, hdl⟩ := hC
  intro H locs cells slots ls hl hH hS hc hs
  obtain ⟨hP, hD⟩ := sg_out hH
  obtain ⟨j, hj⟩ := sg_ws_in hM (sg_ge hH hM ht) ((hH.2 _ _ _ hM).1.lt)
  exact va_astqN hx hb hE.1 hP hD hS j 9 hj rfl hi hd (fun H1 locs1 hP1 hD1 hS1 => k H1 locs1 cells slots ls hl (sg_set hH hj hM hG hS hS1 (e' := .inl (.object RX0, n, .inr (.inr (.inr (.inr (va_up f i.toNatClampNeg none)))))) hP1) hS1 hc hs)

/-- what an element of a list is: an object of a class that is an Object -/
def sg_El (ci : Nat) : Prop := ∃ q : vw_C, vwCl[ci]? = some q ∧ Cond.castable q.1 "java/lang/Object" ∈ sg_wk
theorem sg_El4 : sg_El 4 := ⟨_, rfl, by simp [sg_wk]⟩
theorem sg_El5 : sg_El 5 := ⟨_, rfl, by simp [sg_wk]⟩
theorem sg_El6 : sg_El 6 := ⟨_, rfl, by simp [sg_wk]⟩
theorem sg_aastO {a v t u n ci : Nat} {vs : List Value} {f : Nat → Option Nat} {i : Int32} (hC : sg_C X l G cc own nL d) (hd : decode cc pc = .ok (.aastore, 1)) (hM : M a = some (t, .inl (.object "java/lang/Object", n, .inr (.inr (.inr (.inr f)))))) (ht : t ≠ 0) (hV : M v = some (u, .inr (ci, vs))) (hu : u ≠ 0) (hel : sg_El ci) (hi : vp_in i n) (k : sg_W X (sg_up M a (t, .inl (.object "java/lang/Object", n, .inr (.inr (.inr (.inr (va_up f i.toNatClampNeg (some v)))))))) cb sb (pc + 1) L st) : sg_W X M cb sb pc L (.ref v :: .int i :: .ref a :: st) := by
  obtain ⟨p, l', e, R, s, m, args, below, meth, c, G', Q, nL'⟩ := X
  obtain ⟨⟨rfl, rfl, rfl⟩, hx, hb, hml, hown, hts, hE, hlk, hG, htr, hdf, hdl⟩ := hC
  intro H locs cells slots ls hl hH hS hc hs
  obtain ⟨hP, hD⟩ := sg_out hH
  obtain ⟨j, hj⟩ := sg_ws_in hM (sg_ge hH hM ht) ((hH.2 _ _ _ hM).1.lt)
  obtain ⟨j2, hj2⟩ := sg_ws_in hV (sg_ge hH hV hu) ((hH.2 _ _ _ hV).1.lt)
  obtain ⟨q, hq1, hq2⟩ := hel
  exact va_astqO hx hb hE.1 hP hD hS j 6 j2 ci hj rfl (hE.2.2.1 _ hq2) hj2 hq1 hi hd (fun H1 locs1 hP1 hD1 hS1 => k H1 locs1 cells slots ls hl (sg_set hH hj hM hG hS hS1 (e' := .inl (.object "java/lang/Object", n, .inr (.inr (.inr (.inr (va_up f i.toNatClampNeg (some v))))))) hP1) hS1 hc hs)
theorem sg_aastNO {a t n : Nat} {f : Nat → Option Nat} {i : Int32} (hC : sg_C X l G cc own nL d) (hd : decode cc pc = .ok (.aastore, 1)) (hM : M a = some (t, .inl (.object "java/lang/Object", n, .inr (.inr (.inr (.inr f)))))) (ht : t ≠ 0) (hi : vp_in i n) (k : sg_W X (sg_up M a (t, .inl (.object "java/lang/Object", n, .inr (.inr (.inr (.inr (va_up f i.toNatClampNeg none))))))) cb sb (pc + 1) L st) : sg_W X M cb sb pc L (.null :: .int i :: .ref a :: st) := by
  obtain ⟨p, l', e, R, s, m, args, below, meth, c, G', Q, nL'⟩ := X
  obtain ⟨⟨rfl, rfl, rfl⟩, hx, hb, hml, hown, hts, hE, hlk, hG, htr, hdf, hdl⟩ := hC
  intro H locs cells slots ls hl hH hS hc hs
  obtain ⟨hP, hD⟩ := sg_out hH
  obtain ⟨j, hj⟩ := sg_ws_in hM (sg_ge hH hM ht) ((hH.2 _ _ _ hM).1.lt)
  exact va_astqN hx hb hE.1 hP hD hS j 6 hj rfl hi hd (fun H1 locs1 hP1 hD1 hS1 => k H1 locs1 cells slots ls hl (sg_set hH hj hM hG hS hS1 (e' := .inl (.object "java/lang/Object", n, .inr (.inr (.inr (.inr (va_up f i.toNatClampNeg none)))))) hP1) hS1 hc hs)

theorem sg_newqO {index N : Nat} {n : Int32} (t : Nat) (hC : sg_C X l G cc own nL d) (w1 : Cond.classLink own index "java/lang/Object" ∈ sg_tb) (hd : decode cc pc = .ok (.anewarray index, 3)) (hn : n = nI N) (hN : N ≤ 65536) (ht : t ≠ 0) (h1 : 1 ≤ cb) (h2 : N ≤ sb) (k : ∀ q : Nat, M q = none → sg_W X (sg_up M q (t, .inl (.object "java/lang/Object", N, .inr (.inr (.inr (.inr (fun _ => none))))))) (cb - 1) (sb - N) (pc + 3) L (.ref q :: st)) : sg_W X M cb sb pc L (.int n :: st) := by
  obtain ⟨p, l', e, R, s, m, args, below, meth, c, G', Q, nL'⟩ := X
  obtain ⟨⟨rfl, rfl, rfl⟩, hx, hb, hml, hown, hts, hE, hlk, hG, htr, hdf, hdl⟩ := hC
  intro H locs cells slots ls hl hH hS hc hs
  obtain ⟨hP, hD⟩ := sg_out hH
  subst hn
  refine va_newq (N' := N) hx hb hown (hts _ w1) hE.2.1.2.2.2.2.2.1 hE.1 hP hD hS (fun q hq => Nat.le_trans hG hq) (nI_pos (by omega)) (nI_clamp (by omega)) (by omega) (by omega) (by omega) hd (fun q cA H1 hK1 hP1 hD1 hS1 => ?_)
  have e1 : cA = G'.2.2.1 (.object "java/lang/Object") := sg_one_cls (sg_RAo (hK1.2 10 (cA, .object "java/lang/Object") rfl).2) (sg_RAo (hE.1.2 6 (G'.2.2.1 (.object "java/lang/Object"), .object "java/lang/Object") rfl).2)
  subst e1
  obtain ⟨hn, hk⟩ := sg_push hH (e' := .inl (.object "java/lang/Object", N, .inr (.inr (.inr (.inr (fun _ => none)))))) hG hS hS1 hP1 hD1
  exact k q hn H1 locs (cells + 1) (slots + N) ls hl (hk t ht) hS1 (by omega) (by omega)

theorem sg_newq3 {index N : Nat} {n : Int32} (t : Nat) (hC : sg_C X l G cc own nL d) (w1 : Cond.classLink own index RX3 ∈ sg_tb) (hd : decode cc pc = .ok (.anewarray index, 3)) (hn : n = nI N) (hN : N ≤ 65536) (ht : t ≠ 0) (h1 : 1 ≤ cb) (h2 : N ≤ sb) (k : ∀ q : Nat, M q = none → sg_W X (sg_up M q (t, .inl (.object RX3, N, .inr (.inr (.inr (.inr (fun _ => none))))))) (cb - 1) (sb - N) (pc + 3) L (.ref q :: st)) : sg_W X M cb sb pc L (.int n :: st) := by
  obtain ⟨p, l', e, R, s, m, args, below, meth, c, G', Q, nL'⟩ := X
  obtain ⟨⟨rfl, rfl, rfl⟩, hx, hb, hml, hown, hts, hE, hlk, hG, htr, hdf, hdl⟩ := hC
  intro H locs cells slots ls hl hH hS hc hs
  obtain ⟨hP, hD⟩ := sg_out hH
  subst hn
  refine va_newq (N' := N) hx hb hown (hts _ w1) hE.2.1.2.2.2.2.2.2.1 hE.1 hP hD hS (fun q hq => Nat.le_trans hG hq) (nI_pos (by omega)) (nI_clamp (by omega)) (by omega) (by omega) (by omega) hd (fun q cA H1 hK1 hP1 hD1 hS1 => ?_)
  have e1 : cA = G'.2.2.1 (.object RX3) := sg_one_cls (sg_RAo (hK1.2 10 (cA, .object RX3) rfl).2) (sg_RAo (hE.1.2 7 (G'.2.2.1 (.object RX3), .object RX3) rfl).2)
  subst e1
  obtain ⟨hn, hk⟩ := sg_push hH (e' := .inl (.object RX3, N, .inr (.inr (.inr (.inr (fun _ => none)))))) hG hS hS1 hP1 hD1
  exact k q hn H1 locs (cells + 1) (slots + N) ls hl (hk t ht) hS1 (by omega) (by omega)

theorem sg_newq5 {index N : Nat} {n : Int32} (t : Nat) (hC : sg_C X l G cc own nL d) (w1 : Cond.classLink own index RX5 ∈ sg_tb) (hd : decode cc pc = .ok (.anewarray index, 3)) (hn : n = nI N) (hN : N ≤ 65536) (ht : t ≠ 0) (h1 : 1 ≤ cb) (h2 : N ≤ sb) (k : ∀ q : Nat, M q = none → sg_W X (sg_up M q (t, .inl (.object RX5, N, .inr (.inr (.inr (.inr (fun _ => none))))))) (cb - 1) (sb - N) (pc + 3) L (.ref q :: st)) : sg_W X M cb sb pc L (.int n :: st) := by
  obtain ⟨p, l', e, R, s, m, args, below, meth, c, G', Q, nL'⟩ := X
  obtain ⟨⟨rfl, rfl, rfl⟩, hx, hb, hml, hown, hts, hE, hlk, hG, htr, hdf, hdl⟩ := hC
  intro H locs cells slots ls hl hH hS hc hs
  obtain ⟨hP, hD⟩ := sg_out hH
  subst hn
  refine va_newq (N' := N) hx hb hown (hts _ w1) hE.2.1.2.2.2.2.2.2.2.1 hE.1 hP hD hS (fun q hq => Nat.le_trans hG hq) (nI_pos (by omega)) (nI_clamp (by omega)) (by omega) (by omega) (by omega) hd (fun q cA H1 hK1 hP1 hD1 hS1 => ?_)
  have e1 : cA = G'.2.2.1 (.object RX5) := sg_one_cls (sg_RAo (hK1.2 10 (cA, .object RX5) rfl).2) (sg_RAo (hE.1.2 8 (G'.2.2.1 (.object RX5), .object RX5) rfl).2)
  subst e1
  obtain ⟨hn, hk⟩ := sg_push hH (e' := .inl (.object RX5, N, .inr (.inr (.inr (.inr (fun _ => none)))))) hG hS hS1 hP1 hD1
  exact k q hn H1 locs (cells + 1) (slots + N) ls hl (hk t ht) hS1 (by omega) (by omega)

theorem sg_newq0 {index N : Nat} {n : Int32} (t : Nat) (hC : sg_C X l G cc own nL d) (w1 : Cond.classLink own index RX0 ∈ sg_tb) (hd : decode cc pc = .ok (.anewarray index, 3)) (hn : n = nI N) (hN : N ≤ 65536) (ht : t ≠ 0) (h1 : 1 ≤ cb) (h2 : N ≤ sb) (k : ∀ q : Nat, M q = none → sg_W X (sg_up M q (t, .inl (.object RX0, N, .inr (.inr (.inr (.inr (fun _ => none))))))) (cb - 1) (sb - N) (pc + 3) L (.ref q :: st)) : sg_W X M cb sb pc L (.int n :: st) := by
  obtain ⟨p, l', e, R, s, m, args, below, meth, c, G', Q, nL'⟩ := X
  obtain ⟨⟨rfl, rfl, rfl⟩, hx, hb, hml, hown, hts, hE, hlk, hG, htr, hdf, hdl⟩ := hC
  intro H locs cells slots ls hl hH hS hc hs
  obtain ⟨hP, hD⟩ := sg_out hH
  subst hn
  refine va_newq (N' := N) hx hb hown (hts _ w1) hE.2.1.2.2.2.2.2.2.2.2.1 hE.1 hP hD hS (fun q hq => Nat.le_trans hG hq) (nI_pos (by omega)) (nI_clamp (by omega)) (by omega) (by omega) (by omega) hd (fun q cA H1 hK1 hP1 hD1 hS1 => ?_)
  have e1 : cA = G'.2.2.1 (.object RX0) := sg_one_cls (sg_RAo (hK1.2 10 (cA, .object RX0) rfl).2) (sg_RAo (hE.1.2 9 (G'.2.2.1 (.object RX0), .object RX0) rfl).2)
  subst e1
  obtain ⟨hn, hk⟩ := sg_push hH (e' := .inl (.object RX0, N, .inr (.inr (.inr (.inr (fun _ => none)))))) hG hS hS1 hP1 hD1
  exact k q hn H1 locs (cells + 1) (slots + N) ls hl (hk t ht) hS1 (by omega) (by omega)

/-- checkcast of an object of the class itself -/
theorem sg_castC {C : String} {T : u_T} {N ci index a t : Nat} {fs : List Value} (hC : sg_C X l G cc own nL d) (hc : vwCl[ci]? = some (C, T, N)) (hk : Cond.castable C C ∈ sg_wk) (w1 : Cond.classLink own index C ∈ sg_tb) (hd : decode cc pc = .ok (.checkcast index, 3)) (hM : M a = some (t, .inr (ci, fs))) (k : sg_W X M cb sb (pc + 3) L (.ref a :: st)) : sg_W X M cb sb pc L (.ref a :: st) := by
  have hcl := hc
  obtain ⟨p, l', e, R, s, m, args, below, meth, c, G', Q, nL'⟩ := X
  obtain ⟨⟨rfl, rfl, rfl⟩, hx, hb, hml, hown, hts, hE, hlk, hG, htr, hdf, hdl⟩ := hC
  intro H locs cells slots ls hl hH hS hc hs
  exact va_castY hx hb hown (hts _ w1) (hE.2.2.1 _ hk) (sg_recv hE.1 hH hM hcl) hd (k H locs cells slots ls hl hH hS hc hs)
theorem sg_gets {C n dd : String} {v : Value} {index : Nat} (hC : sg_C X l G cc own nL d) (hZ : ∀ s : State, sg_Env G s → va_Z C n dd v (sg_A G) s s.heap) (w1 : Cond.fieldLink own index C n dd ∈ sg_tb) (hd : decode cc pc = .ok (.getstatic index, 3)) (k : sg_W X M cb sb (pc + 3) L (v :: st)) : sg_W X M cb sb pc L st := by
  obtain ⟨p, l', e, R, s, m, args, below, meth, c, G', Q, nL'⟩ := X
  obtain ⟨⟨rfl, rfl, rfl⟩, hx, hb, hml, hown, hts, hE, hlk, hG, htr, hdf, hdl⟩ := hC
  intro H locs cells slots ls hl hH hS hc hs
  exact va_gets hx hb (hZ s hE) hS hown (hts _ w1) (fun _ h => h) hd (k H locs cells slots ls hl hH hS hc hs)
theorem sg_gets_cs {index : Nat} (hC : sg_C X l G cc own nL d) (w1 : Cond.fieldLink own index "java/lang/String" "COMPACT_STRINGS" "Z" ∈ sg_tb) (hd : decode cc pc = .ok (.getstatic index, 3)) (k : sg_W X M cb sb (pc + 3) L (.int (nI 1) :: st)) : sg_W X M cb sb pc L st :=
  sg_gets hC (fun s hE => hE.2.1.2.2.1) w1 hd k
theorem sg_gets_de {index : Nat} (hC : sg_C X l G cc own nL d) (w1 : Cond.fieldLink own index "java/util/ArrayList" "DEFAULTCAPACITY_EMPTY_ELEMENTDATA" "[Ljava/lang/Object;" ∈ sg_tb) (hd : decode cc pc = .ok (.getstatic index, 3)) (k : sg_W X M cb sb (pc + 3) L (.ref (G.2.2.2 0) :: st)) : sg_W X M cb sb pc L st :=
  sg_gets hC (fun s hE => hE.2.1.2.2.2.1) w1 hd k
theorem sg_gets_sf {index : Nat} (hC : sg_C X l G cc own nL d) (w1 : Cond.fieldLink own index "jdk/internal/util/Preconditions" "SIOOBE_FORMATTER" "Ljava/util/function/BiFunction;" ∈ sg_tb) (hd : decode cc pc = .ok (.getstatic index, 3)) (k : ∀ r : Option Nat, sg_W X M cb sb (pc + 3) L (va_rf r :: st)) : sg_W X M cb sb pc L st := by
  obtain ⟨p, l', e, R, s, m, args, below, meth, c, G', Q, nL'⟩ := X
  obtain ⟨⟨rfl, rfl, rfl⟩, hx, hb, hml, hown, hts, hE, hlk, hG, htr, hdf, hdl⟩ := hC
  intro H locs cells slots ls hl hH hS hc hs
  rcases hE.2.1.2.2.2.2.1 with hz | ⟨t, hz⟩
  · exact va_gets hx hb hz hS hown (hts _ w1) (fun _ h => h) hd (k none H locs cells slots ls hl hH hS hc hs)
  · exact va_gets hx hb hz hS hown (hts _ w1) (fun _ h => h) hd (k (some t) H locs cells slots ls hl hH hS hc hs)
theorem sg_ldc_rwxd (hC : sg_C X l G cc RX4 nL d) (hd : decode cc pc = .ok (.ldc 104, 2)) (k : sg_W X M cb sb (pc + 2) L (.ref (G.2.2.2 1) :: st)) : sg_W X M cb sb pc L st := by
  obtain ⟨p, l', e, R, s, m, args, below, meth, c, G', Q, nL'⟩ := X
  obtain ⟨⟨rfl, rfl, rfl⟩, hx, hb, hml, hown, hts, hE, hlk, hG, htr, hdf, hdl⟩ := hC
  intro H locs cells slots ls hl hH hS hc hs
  exact va_ldcS hx hb hown hE.2.2.2.2.2.1 hd (k H locs cells slots ls hl hH hS hc hs)
theorem sg_isRef (r : Option Nat) : (va_rf r).isRef = true := by cases r <;> rfl
theorem sg_acmp_eq {rx ry : Option Nat} {off : Int} (tgt : Nat) (hC : sg_C X l G cc own nL d) (hd : decode cc pc = .ok (.if_acmp .eq off, 3)) (ht : (pc : Int) + off = (tgt : Int)) (kt : rx = ry → sg_W X M cb sb tgt L st) (kf : rx ≠ ry → sg_W X M cb sb (pc + 3) L st) : sg_W X M cb sb pc L (va_rf ry :: va_rf rx :: st) := by
  obtain ⟨p, l', e, R, s, m, args, below, meth, c, G', Q, nL'⟩ := X
  obtain ⟨⟨rfl, rfl, rfl⟩, hx, hb, hml, hown, hts, hE, hlk, hG, htr, hdf, hdl⟩ := hC
  intro H locs cells slots ls hl hH hS hc hs
  exact lv_acmp_eq hx hb hd ht (fun h => kt h H locs cells slots ls hl hH hS hc hs) (fun h => kf h H locs cells slots ls hl hH hS hc hs)
/-- Math.max, Math.min -/
theorem sg_mmax {index : Nat} {x y : Int32} (hC : sg_C X l G cc own nL (d + 1)) (w1 : Cond.methodLink own index Lib.Math.max.name ∈ sg_tb) (w2 : Cond.static Lib.Math.max.name ∈ sg_tb) (w3 : Cond.initialized "java/lang/Math" ∈ sg_tb) (w4 : Cond.code Lib.Math.max.name Lib.Math.max.code 2 (some .int) ∈ sg_tb) (hd : decode cc pc = .ok (.invokestatic index, 3)) (hr : (st.map fun v => v.category).sum ≤ 8) (k : sg_W X M cb sb (pc + 3) L (.int (if x < y then y else x) :: st)) : sg_W X M cb sb pc L (.int y :: .int x :: st) := by
  obtain ⟨p, l', e, R, s, m, args, below, meth, c, G', Q, nL'⟩ := X
  obtain ⟨⟨rfl, rfl, rfl⟩, hx, hb, hml, hown, hts, hE, hlk, hG, htr, hdf, hdl⟩ := hC
  intro H locs cells slots ls hl hH hS hc hs
  exact va_mmax hx hb (hml.trans hl.1.symm) hown (hts _ w1) (hts _ w2) (hts _ w3) (hts _ w4) (by omega) (by omega) (by omega) (by omega) hd (k H locs cells slots ls hl hH hS hc hs)
theorem sg_mmin {index : Nat} {x y : Int32} (hC : sg_C X l G cc own nL (d + 1)) (w1 : Cond.methodLink own index Lib.Math.min.name ∈ sg_tb) (w2 : Cond.static Lib.Math.min.name ∈ sg_tb) (w3 : Cond.initialized "java/lang/Math" ∈ sg_tb) (w4 : Cond.code Lib.Math.min.name Lib.Math.min.code 2 (some .int) ∈ sg_tb) (hd : decode cc pc = .ok (.invokestatic index, 3)) (hr : (st.map fun v => v.category).sum ≤ 8) (k : sg_W X M cb sb (pc + 3) L (.int (if y < x then y else x) :: st)) : sg_W X M cb sb pc L (.int y :: .int x :: st) := by
  obtain ⟨p, l', e, R, s, m, args, below, meth, c, G', Q, nL'⟩ := X
  obtain ⟨⟨rfl, rfl, rfl⟩, hx, hb, hml, hown, hts, hE, hlk, hG, htr, hdf, hdl⟩ := hC
  intro H locs cells slots ls hl hH hS hc hs
  exact va_mmin hx hb (hml.trans hl.1.symm) hown (hts _ w1) (hts _ w2) (hts _ w3) (hts _ w4) (by omega) (by omega) (by omega) (by omega) hd (k H locs cells slots ls hl hH hS hc hs)
/-- arraycopy of bytes (the source may be an old cell) -/
theorem sg_copyb {index a0 a t0 t n0 n1 sp dp n : Nat} {f g : Nat → Int32} (hC : sg_C X l G cc own nL (d + 1)) (w1 : Cond.methodLink own index arraycopyName ∈ sg_tb) (w2 : Cond.native arraycopyName ∈ sg_tb) (w3 : Cond.static arraycopyName ∈ sg_tb) (w4 : Cond.initialized "java/lang/System" ∈ sg_tb) (hd : decode cc pc = .ok (.invokestatic index, 3)) (hM0 : M a0 = some (t0, .inl (.byte, n0, .inl f))) (h0 : t0 ≠ 0) (hM : M a = some (t, .inl (.byte, n1, .inl g))) (ht : t ≠ 0) (hb0 : n0 ≤ 65536) (hb1 : n1 ≤ 65536) (h4 : sp + n ≤ n0) (h5 : dp + n ≤ n1) (hfit : ∀ i, i < n → fits .byte (.int (f (sp + i))) = true) (hr : (st.map fun v => v.category).sum ≤ 8)
    (k : sg_W X (sg_up M a (t, .inl (.byte, n1, .inl (va_cpy f g sp dp n)))) cb sb (pc + 3) L st) : sg_W X M cb sb pc L (.int (nI n) :: .int (nI dp) :: .ref a :: .int (nI sp) :: .ref a0 :: st) := by
  obtain ⟨p, l', e, R, s, m, args, below, meth, c, G', Q, nL'⟩ := X
  obtain ⟨⟨rfl, rfl, rfl⟩, hx, hb, hml, hown, hts, hE, hlk, hG, htr, hdf, hdl⟩ := hC
  intro H locs cells slots ls hl hH hS hc hs
  obtain ⟨hP, hD⟩ := sg_out hH
  obtain ⟨j0, hj0⟩ := sg_ws_in hM0 (sg_ge hH hM0 h0) ((hH.2 _ _ _ hM0).1.lt)
  obtain ⟨j, hj⟩ := sg_ws_in hM (sg_ge hH hM ht) ((hH.2 _ _ _ hM).1.lt)
  have e1 : (nI sp).toNatClampNeg = sp := nI_clamp (by omega)
  have e2 : (nI dp).toNatClampNeg = dp := nI_clamp (by omega)
  have e3 : (nI n).toNatClampNeg = n := nI_clamp (by omega)
  refine va_copyi (ty := .byte) hx hb (hml.trans hl.1.symm) hown (hts _ w1) (hts _ w2) (hts _ w3) (hts _ w4) hE.1 hP hD hS j0 j 1 1 hj0 hj rfl rfl rfl (nI_pos (by omega)) (nI_pos (by omega)) (nI_pos (by omega)) (by rw [e1, e3]; exact h4) (by rw [e2, e3]; exact h5) (by rw [e1, e3]; exact hfit) (by omega) (by have := sg_nfw; omega) hd (fun H1 locs1 hP1 hD1 hS1 => ?_)
  rw [e1, e2, e3] at hP1 hD1
  exact k H1 locs1 cells slots ls hl (sg_set hH hj hM hG hS hS1 (e' := .inl (.byte, n1, .inl (va_cpy f g sp dp n))) hP1) hS1 hc hs
/-- arraycopy inside one array of references -/
theorem sg_copyq {index a t n1 sp dp n : Nat} {f : Nat → Option Nat} (hC : sg_C X l G cc own nL (d + 1)) (w1 : Cond.methodLink own index arraycopyName ∈ sg_tb) (w2 : Cond.native arraycopyName ∈ sg_tb) (w3 : Cond.static arraycopyName ∈ sg_tb) (w4 : Cond.initialized "java/lang/System" ∈ sg_tb) (hd : decode cc pc = .ok (.invokestatic index, 3)) (hM : M a = some (t, .inl (.object "java/lang/Object", n1, .inr (.inr (.inr (.inr f)))))) (ht : t ≠ 0) (hb1 : n1 ≤ 65536) (h4 : sp + n ≤ n1) (h5 : dp + n ≤ n1) (hel : ∀ i, i < n → ∀ y, f (sp + i) = some y → ∃ u ci vs, M y = some (u, .inr (ci, vs)) ∧ u ≠ 0 ∧ sg_El ci) (hr : (st.map fun v => v.category).sum ≤ 8)
    (k : sg_W X (sg_up M a (t, .inl (.object "java/lang/Object", n1, .inr (.inr (.inr (.inr (va_cpy f f sp dp n))))))) cb sb (pc + 3) L st) : sg_W X M cb sb pc L (.int (nI n) :: .int (nI dp) :: .ref a :: .int (nI sp) :: .ref a :: st) := by
  obtain ⟨p, l', e, R, s, m, args, below, meth, c, G', Q, nL'⟩ := X
  obtain ⟨⟨rfl, rfl, rfl⟩, hx, hb, hml, hown, hts, hE, hlk, hG, htr, hdf, hdl⟩ := hC
  intro H locs cells slots ls hl hH hS hc hs
  obtain ⟨hP, hD⟩ := sg_out hH
  obtain ⟨j, hj⟩ := sg_ws_in hM (sg_ge hH hM ht) ((hH.2 _ _ _ hM).1.lt)
  have e1 : (nI sp).toNatClampNeg = sp := nI_clamp (by omega)
  have e2 : (nI dp).toNatClampNeg = dp := nI_clamp (by omega)
  have e3 : (nI n).toNatClampNeg = n := nI_clamp (by omega)
  refine va_copyM (E0 := "java/lang/Object") (E1 := "java/lang/Object") hx hb (hml.trans hl.1.symm) hown (hts _ w1) (hts _ w2) (hts _ w3) (hts _ w4) hE.1 hP hD hS j j 6 6 hj hj rfl rfl (nI_pos (by omega)) (nI_pos (by omega)) (nI_pos (by omega)) (by rw [e1, e3]; exact h4) (by rw [e2, e3]; exact h5) ?_ (by omega) (by have := sg_nfw; omega) hd (fun H1 locs1 hP1 hD1 hS1 => ?_)
  · rw [e1, e3]
    intro i hi y hy
    obtain ⟨u, ci, vs, h1, h2, q, hq1, hq2⟩ := hel i hi y hy
    obtain ⟨cell, c1, c2, c3⟩ := sg_recv hE.1 hH h1 hq1
    obtain ⟨kC, hkC, -⟩ := Vm.findClass_spec c3
    exact ⟨cell, c1, c2, ⟨kC, hkC⟩, fun comp h => vb_asgC (hE.2.2.1 _ hq2) comp _ h c3⟩
  · rw [e1, e2, e3] at hP1 hD1
    exact k H1 locs1 cells slots ls hl (sg_set hH hj hM hG hS hS1 (e' := .inl (.object "java/lang/Object", n1, .inr (.inr (.inr (.inr (va_cpy f f sp dp n)))))) hP1) hS1 hc hs

end SG2
