section LWS
variable {args : Array Value} {s : State}
/-- a private method of a superclass: it selects itself -/
theorem ws_sel {C : String} {y z : MethodName} (hz : z.cls = y.cls) (hy : y.cls ≠ "java/lang/invoke/MethodHandle" ∧ y.cls ≠ "java/lang/invoke/VarHandle") (hs : (Cond.selects C z z).before args s = true) (hpriv : (Cond.privateMethod y).before args s = true) (hinst : (Cond.instanceMethod y).before args s = true) : (Cond.selects C y y).before args s = true := by
  obtain ⟨c, r, m, hc, -, hm, -, km, hkm, hni⟩ := Cond.selects_spec hs
  obtain ⟨mk, methM, hnamed, hmethM, -, -⟩ := Cond.instanceMethod_spec hinst
  have hfound : s.methodFound? y.cls y.name y.desc = some mk := State.methodFound?_of_named hnamed hy
  have hcls : mk.cls = m.cls := by
    have e1 := findClass_of_methodNamed hnamed
    have e2 := findClass_of_methodNamed hm
    rw [hz] at e2
    exact Option.some.inj (e1.symm.trans e2)
  have hsel : selectMethod {} s.vm c mk = .method mk := selectMethod_private hmethM (Cond.privateMethod_at hpriv mk methM hnamed hmethM)
  simp only [Cond.before, Cond.holds, Cond.value, hc, hfound, hnamed, hsel, hcls, hkm]
  simp
  exact hni
theorem ws_nc {a b : String} (h : (Cond.not (.castable a b)).before args s = true) : va_Nc a b s := by
  simp only [Cond.before, Cond.holds, Cond.value] at h
  unfold va_Nc
  cases h1 : s.vm.findClass a with
  | none => simp [h1] at h
  | some c =>
    cases h2 : s.vm.findClass b with
    | none => simp [h1, h2] at h
    | some t => exact ⟨c, t, rfl, rfl, by simpa [h1, h2] using h⟩
def ws_ac (s : State) (ty : FieldType) : ClassId := (s.vm.findClass ("[" ++ ty.toString)).getD 0
theorem ws_p {ty : FieldType} (h : (Cond.arrayClass ty).before args s = true) : ArrOfT s (ws_ac s ty) ty ∧ s.vm.findClass ("[" ++ ty.toString) = some (ws_ac s ty) := by
  obtain ⟨c, k, comp, h1, h2, h3⟩ := Cond.arrayClass_spec h
  have e : ws_ac s ty = c := by
    unfold ws_ac
    rw [h1]
    rfl
  rw [e]
  exact ⟨fun n z => ⟨(fun k9 e9 => by cases e9), k, h2, comp, h3⟩, h1⟩
theorem ws_o {n : String} (h : (Cond.arrayOver (.object n)).before args s = true) : ArrOfT s (ws_ac s (.object n)) (.object n) ∧ va_RA s (ws_ac s (.object n)) (.object n) := by
  obtain ⟨comp, c, k, h1, h2, h3, h4, h5⟩ := Cond.arrayOver_spec h
  have e : ws_ac s (.object n) = c := by
    unfold ws_ac
    rw [h5]
    rfl
  rw [e]
  exact ⟨fun n z => ⟨(fun k9 e9 => by cases e9), k, h3, comp, h4⟩, k, comp, h3, h4, h1, h5⟩
theorem ws_ar {c : Cell} {ty : FieldType} (h : s.isArrayOf c ty) : ArrOfT s c.cls ty := fun n z => ⟨(fun k9 e9 => by cases e9), h.2⟩
theorem ws_ns {v : VmData} (h : ∀ k, v ≠ .statics k) : v.isStatics = false := by
  cases v with
  | statics k => exact absurd rfl (h k)
  | _ => rfl
theorem ws_K (hts : ∀ w ∈ sg_tb, w.before args s = true) : ∃ D : va_G, ∀ (c : Nat) (q : vw_C), vwCl[c]? = some q → u_Kn s q.1 q.2.1 q.2.2 (D.1 c) (D.2 c) := by
  have h : ∀ c : Nat, ∃ p : ClassId × (Nat → Nat), ∀ q : vw_C, vwCl[c]? = some q → u_Kn s q.1 q.2.1 q.2.2 p.1 p.2 := by
    intro c
    match c with
    | 0 =>
      obtain ⟨cC, iS, h⟩ := u_known hts inw_J0 (hts _ tw_397)
      refine ⟨(cC, iS), fun q hq => ?_⟩
      obtain rfl : (RJ0, TJ0, 4) = q := Option.some.inj hq
      exact h
    | 1 =>
      obtain ⟨cC, iS, h⟩ := u_known hts inw_J4 (hts _ tw_101)
      refine ⟨(cC, iS), fun q hq => ?_⟩
      obtain rfl : (RJ4, TJ4, 4) = q := Option.some.inj hq
      exact h
    | 2 =>
      obtain ⟨cC, iS, h⟩ := u_known hts inw_Jx4a65c (hts _ tw_140)
      refine ⟨(cC, iS), fun q hq => ?_⟩
      obtain rfl : (RJx4a65c, TJx4a65c, 3) = q := Option.some.inj hq
      exact h
    | 3 =>
      obtain ⟨cC, iS, h⟩ := u_known hts inw_X0 (hts _ tw_178)
      refine ⟨(cC, iS), fun q hq => ?_⟩
      obtain rfl : (RX0, TX0, 2) = q := Option.some.inj hq
      exact h
    | 4 =>
      obtain ⟨cC, iS, h⟩ := u_known hts inw_X1 (hts _ tw_993)
      refine ⟨(cC, iS), fun q hq => ?_⟩
      obtain rfl : (RX1, TX1, 4) = q := Option.some.inj hq
      exact h
    | 5 =>
      obtain ⟨cC, iS, h⟩ := u_known hts inw_X2 (hts _ tw_1124)
      refine ⟨(cC, iS), fun q hq => ?_⟩
      obtain rfl : (RX2, TX2, 2) = q := Option.some.inj hq
      exact h
    | 6 =>
      obtain ⟨cC, iS, h⟩ := u_known hts inw_X3 (hts _ tw_756)
      refine ⟨(cC, iS), fun q hq => ?_⟩
      obtain rfl : (RX3, TX3, 5) = q := Option.some.inj hq
      exact h
    | 7 =>
      obtain ⟨cC, iS, h⟩ := u_known hts inw_X4 (hts _ tw_391)
      refine ⟨(cC, iS), fun q hq => ?_⟩
      obtain rfl : (RX4, TX4, 8) = q := Option.some.inj hq
      exact h
    | 8 =>
      obtain ⟨cC, iS, h⟩ := u_known hts inw_X5 (hts _ tw_166)
      refine ⟨(cC, iS), fun q hq => ?_⟩
      obtain rfl : (RX5, TX5, 1) = q := Option.some.inj hq
      exact h
    | 9 =>
      obtain ⟨cC, iS, h⟩ := u_known hts inw_X6 (hts _ tw_93)
      refine ⟨(cC, iS), fun q hq => ?_⟩
      obtain rfl : (RX6, TX6, 6) = q := Option.some.inj hq
      exact h
    | 10 =>
      obtain ⟨cC, iS, h⟩ := u_known hts inw_X7 (hts _ tw_1181)
      refine ⟨(cC, iS), fun q hq => ?_⟩
      obtain rfl : (RX7, TX7, 23) = q := Option.some.inj hq
      exact h
    | c + 11 => exact ⟨(0, fun _ => 0), fun q hq => absurd hq (by simp [vwCl])⟩
  obtain ⟨f, hf⟩ := Classical.axiomOfChoice h
  exact ⟨(fun c => (f c).1, fun c => (f c).2), hf⟩
theorem ws_T (D : va_G) (n : Nat) (f : Nat → Nat) (hts : ∀ w ∈ sg_tb, w.before args s = true) (o6 : (Cond.arrayOver (.object "java/lang/Object")).before args s = true) (o7 : (Cond.arrayOver (.object RX3)).before args s = true) (o8 : (Cond.arrayOver (.object RX5)).before args s = true) (o9 : (Cond.arrayOver (.object RX0)).before args s = true) :
    ∀ (k : Nat) (q : ClassId × FieldType), (sg_tys (n, D, ws_ac s, f))[k]? = some q → ArrOfT s q.1 q.2 ∧ va_RA s q.1 q.2 := by
  intro k q hq
  match k, hq with
  | 0, hq =>
    obtain rfl : (ws_ac s .int, FieldType.int) = q := Option.some.inj hq
    exact ws_p (hts _ tw_165)
  | 1, hq =>
    obtain rfl : (ws_ac s .byte, FieldType.byte) = q := Option.some.inj hq
    exact ws_p (hts _ tw_132)
  | 2, hq =>
    obtain rfl : (ws_ac s .boolean, FieldType.boolean) = q := Option.some.inj hq
    exact ws_p (hts _ tw_1257)
  | 3, hq =>
    obtain rfl : (ws_ac s .char, FieldType.char) = q := Option.some.inj hq
    exact ws_p (hts _ tw_1256)
  | 4, hq =>
    obtain rfl : (ws_ac s .long, FieldType.long) = q := Option.some.inj hq
    exact ws_p (hts _ tw_1468)
  | 5, hq =>
    obtain rfl : (ws_ac s .double, FieldType.double) = q := Option.some.inj hq
    exact ws_p (hts _ tw_1469)
  | 6, hq =>
    obtain rfl : (ws_ac s (.object "java/lang/Object"), FieldType.object "java/lang/Object") = q := Option.some.inj hq
    exact ws_o o6
  | 7, hq =>
    obtain rfl : (ws_ac s (.object RX3), FieldType.object RX3) = q := Option.some.inj hq
    exact ws_o o7
  | 8, hq =>
    obtain rfl : (ws_ac s (.object RX5), FieldType.object RX5) = q := Option.some.inj hq
    exact ws_o o8
  | 9, hq =>
    obtain rfl : (ws_ac s (.object RX0), FieldType.object RX0) = q := Option.some.inj hq
    exact ws_o o9
  | k + 10, hq => exact absurd hq (by simp [sg_tys])
/-- a String that lay there before: its fields -/
theorem ws_str {cC : ClassId} {iS : Nat → Nat} (hfit : s.Fit) (hts : ∀ w ∈ sg_tb, w.before args s = true) (hK : u_Kn s RJ0 TJ0 4 cC iS) {tm : Term} (hex : (Cond.exactly tm "java/lang/String").before args s = true) (hco : (Cond.eq (.field tm "java/lang/String" "coder" "B") (.int 0)).before args s = true) {bv : Nat} (hva : (Term.field tm "java/lang/String" "value" "[B").eval args s none [] s = some (.ref bv)) :
    ∃ (a : Nat) (cell : Cell) (h z : Int32), tm.eval args s none [] s = some (.ref a) ∧ s.heap[a]? = some cell ∧ cell.vm.isStatics = false ∧ cell.vm ≠ .unknown ∧ cell.cls = cC ∧ (∃ kC : Class, s.vm.classes[cell.cls]? = some kC ∧ kC.kind = .ordinary) ∧ ∀ k, k < 4 → cell.slots[iS k]? = some (vp_V [.ref bv, .int (nI 0), .int h, .int z] k) := by
  obtain ⟨a, c, cell, kA, q1, q2, q3, q4, q5, q6, q7⟩ := Cond.exactly_spec (args := args) (first := s) (o := none) (s := s) (idx := []) (t := tm) (cls := "java/lang/String") hex
  obtain ⟨hS, hfc, kC, hkC, hkind⟩ := hK
  have ec : c = cC := Option.some.inj (q2.symm.trans hfc)
  subst ec
  have ek : kA = kC := Option.some.inj (q4.symm.trans hkC)
  subst ek
  have hsz := q7 hkind
  have fld : ∀ (k : Nat) (v : Value), k < 4 → (Term.field tm (TJ0 k).1 (TJ0 k).2.1 (TJ0 k).2.2.1).eval args s none [] s = some v → cell.slots[iS k]? = some v := by
    intro k v hk hv
    obtain ⟨cf, kf, fi, f, hi, hsl⟩ := hS k hk
    obtain ⟨-, cell', g2, -, -, -, g6⟩ := Term.field_spec hi q1 hv
    cases q3.symm.trans g2
    rw [← hsl]
    exact g6
  have unk : cell.vm ≠ .unknown := by
    obtain ⟨cf, kf, fi, f, hi, hsl⟩ := hS 0 (by decide)
    obtain ⟨-, cell', g2, g3, -, -, -⟩ := Term.field_spec hi q1 hva
    cases q3.symm.trans g2
    exact g3
  have num : ∀ k, k < 4 → (tyJ0 k = .int ∨ tyJ0 k = .boolean) → ∃ h : Int32, cell.slots[iS k]? = some (.int h) := by
    intro k hk hty
    obtain ⟨cf, kf, fi, f, hi, hsl⟩ := hS k hk
    have h3 := (u_facts hfc hkC (u_lays hts inw_J0 hk) hi).2.2
    rw [(State.fieldFound?_type hi (tyJ0_ok k hk)).2, hsl] at h3
    have hlt : iS k < cell.slots.size := by
      rw [hsz]
      exact (Array.getElem?_eq_some_iff.mp h3).1
    obtain ⟨v, hv⟩ : ∃ v, cell.slots[iS k]? = some v := ⟨_, Array.getElem?_eq_getElem hlt⟩
    have hf := hfit a cell q3 (iS k) v hv
    have hst : s.slotType? cell.cls cell.vm (iS k) = some (tyJ0 k) := by
      simp only [State.slotType?, q6, hkC, Option.bind_eq_bind, Option.bind_some]
      cases hvm : cell.vm with
      | statics c9 =>
        rw [hvm] at q5
        cases q5
      | _ =>
        simp only [hkind]
        exact h3
    unfold State.fitsSlot at hf
    rw [hst] at hf
    have hf2 : fits (tyJ0 k) v = true := hf
    rw [hv]
    rcases hty with h | h
    · rw [h] at hf2
      cases v with
      | int x => exact ⟨x, rfl⟩
      | _ => simp [fits] at hf2
    · rw [h] at hf2
      cases v with
      | int x => exact ⟨x, rfl⟩
      | _ => simp [fits] at hf2
  obtain ⟨h, hh⟩ := num 2 (by decide) (Or.inl rfl)
  obtain ⟨z, hz⟩ := num 3 (by decide) (Or.inr rfl)
  refine ⟨a, cell, h, z, q1, q3, q5, unk, q6, ⟨kA, by rw [q6]; exact hkC, hkind⟩, fun k hk => ?_⟩
  match k, hk with
  | 0, _ => exact fld 0 _ (by decide) hva
  | 1, _ => exact fld 1 _ (by decide) (va_eqt hco)
  | 2, _ => exact hh
  | 3, _ => exact hz
  | k + 4, hk => exact absurd hk (by omega)
theorem ws_neA {a a' : Nat} {c c' : Cell} {t t' : FieldType} (h : s.heap[a]? = some c) (h' : s.heap[a']? = some c') (k : s.isArrayOf c t) (k' : s.isArrayOf c' t') (ht : t ≠ t') : a ≠ a' := by
  rintro rfl
  cases h.symm.trans h'
  obtain ⟨-, k1, q1, c1, e1⟩ := k
  obtain ⟨-, k2, q2, c2, e2⟩ := k'
  cases q1.symm.trans q2
  rw [e1] at e2
  cases e2
  exact ht rfl
theorem ws_neO {a a' : Nat} {c c' : Cell} {t' : FieldType} (h : s.heap[a]? = some c) (h' : s.heap[a']? = some c') (k : ∃ kC : Class, s.vm.classes[c.cls]? = some kC ∧ kC.kind = .ordinary) (k' : s.isArrayOf c' t') : a ≠ a' := by
  rintro rfl
  cases h.symm.trans h'
  obtain ⟨k1, q1, e1⟩ := k
  obtain ⟨-, k2, q2, c2, e2⟩ := k'
  cases q1.symm.trans q2
  rw [e1] at e2
  cases e2
end LWS
def ws_rw : List Nat := [114, 119, 120, 100]
/-- the memory at the start: the script, the empty array of lists, the text "rwxd", the digits -/
def ws_M (b L : Nat) (xs : Nat → Int32) (a0 a1 bv : Nat) (h z : Int32) (a2 : Nat) : sg_M := fun q =>
  if q = b then some (0, .inl (.int, L, .inl xs)) else if q = a0 then some (0, .inl (.object "java/lang/Object", 0, .inr (.inr (.inr (.inr (fun _ => none)))))) else if q = a1 then some (0, .inr (0, [.ref bv, .int (nI 0), .int h, .int z])) else if q = bv then some (0, .inl (.byte, 4, .inl (fun j => nI (ws_rw.getD j 0)))) else if q = a2 then some (0, .inl (.byte, 100, .inl (fun j => nI (48 + j % 10)))) else none
section LWM
variable {G : sg_G} {H : Heap} {b L : Nat} {xs : Nat → Int32} {a0 a1 bv : Nat} {h z : Int32} {a2 : Nat}
theorem ws_H (hG : G.1 = H.size) (o1 : sg_old G b (.inl (.int, L, .inl xs)) H) (o2 : sg_old G a0 (.inl (.object "java/lang/Object", 0, .inr (.inr (.inr (.inr (fun _ => none)))))) H) (o3 : sg_old G a1 (.inr (0, [.ref bv, .int (nI 0), .int h, .int z])) H) (o4 : sg_old G bv (.inl (.byte, 4, .inl (fun j => nI (ws_rw.getD j 0)))) H) (o5 : sg_old G a2 (.inl (.byte, 100, .inl (fun j => nI (48 + j % 10)))) H) : sg_H G (ws_M b L xs a0 a1 bv h z a2) H := by
  refine ⟨Nat.le_of_eq hG, fun a t e hM => ?_⟩
  have key : t = 0 ∧ sg_old G a e H := by
    unfold ws_M at hM
    by_cases c1 : a = b
    · rw [if_pos c1] at hM
      cases hM
      rw [c1]
      exact ⟨rfl, o1⟩
    · rw [if_neg c1] at hM
      by_cases c2 : a = a0
      · rw [if_pos c2] at hM
        cases hM
        rw [c2]
        exact ⟨rfl, o2⟩
      · rw [if_neg c2] at hM
        by_cases c3 : a = a1
        · rw [if_pos c3] at hM
          cases hM
          rw [c3]
          exact ⟨rfl, o3⟩
        · rw [if_neg c3] at hM
          by_cases c4 : a = bv
          · rw [if_pos c4] at hM
            cases hM
            rw [c4]
            exact ⟨rfl, o4⟩
          · rw [if_neg c4] at hM
            by_cases c5 : a = a2
            · rw [if_pos c5] at hM
              cases hM
              rw [c5]
              exact ⟨rfl, o5⟩
            · rw [if_neg c5] at hM
              cases hM
  obtain ⟨rfl, ho⟩ := key
  have hlt : a < H.size := by
    obtain ⟨cell, q1, -⟩ := ho
    exact (Array.getElem?_eq_some_iff.mp q1).1
  exact ⟨⟨fun h9 => absurd rfl h9, ho⟩, ⟨fun _ => by rw [hG]; exact hlt, fun _ => rfl⟩⟩
theorem ws_ev (e0 : G.2.2.2 0 = a0) (e1 : G.2.2.2 1 = a1) (e2 : G.2.2.2 2 = a2) (n1 : a0 ≠ b) (n2 : a1 ≠ b) (n3 : a1 ≠ a0) (n4 : bv ≠ b) (n5 : bv ≠ a0) (n6 : bv ≠ a1) (n7 : a2 ≠ b) (n8 : a2 ≠ a0) (n9 : a2 ≠ a1) (n10 : a2 ≠ bv) : ev G (ws_M b L xs a0 a1 bv h z a2) := by
  have hr : ∀ j, j < 4 → ws_rw.getD j 0 < 128 := by decide
  refine ⟨⟨bv, h, z, fun j => nI (ws_rw.getD j 0), ?_, ?_, by decide, fun j hj => ⟨rfl, hr j hj⟩⟩, ⟨fun j => nI (48 + j % 10), ?_, fun v hv => congrArg (fun q => nI (48 + q)) (Nat.mod_eq_of_lt hv)⟩, fun _ => none, ?_⟩
  · rw [e1]
    unfold ws_M
    rw [if_neg n2, if_neg n3, if_pos rfl]
  · unfold ws_M
    rw [if_neg n4, if_neg n5, if_neg n6, if_pos rfl]
    rfl
  · rw [e2]
    unfold ws_M
    rw [if_neg n7, if_neg n8, if_neg n9, if_neg n10, if_pos rfl]
  · rw [e0]
    unfold ws_M
    rw [if_neg n1, if_pos rfl]
end LWM
/-- a constant array -/
theorem ws_oldT {G : sg_G} {s : State} {ty : FieldType} {t N : Nat} {g : Nat → Int32} {cell : Cell} (h1 : s.heap[t]? = some cell) (h2 : s.isArrayOf cell ty) (h3 : cell.vm ≠ .unknown) (h4 : N ≤ cell.slots.size) (h5 : cell.slots.size.toInt32 = Int32.ofNat N) (h6 : ∀ j : Nat, j < N → cell.slots[j]? = some (.int (g j))) (hc : sg_okc G ty cell.cls) : sg_old G t (.inl (ty, N, .inl g)) s.heap :=
  ⟨cell, h1, ws_ns h2.1, h3, hc, h4, h5, fun j hj => by rw [h6 j hj]; exact (arrV_read (N := N) (G.2.2.1 ty) (fun j => .int (g j)) hj).symm⟩
def ws_nm (a0 a1 a2 c3 c4 c5 : Nat) : Nat → Nat
  | 0 => a0
  | 1 => a1
  | 2 => a2
  | 3 => c3
  | 4 => c4
  | _ => c5
theorem ws_dig : ∀ j, j < 100 → (flatC (Jvm.Cond.and given_1 narrow_1))[18 + j]? = some (Cond.eq (.elem (.static "java/lang/Integer" "DigitOnes" "[B") (.int (Int32.ofNat j))) (.int (nI (48 + j % 10)))) := by decide +kernel
theorem ws_rwx : ∀ j, j < 4 → (flatC (Jvm.Cond.and given_1 narrow_1))[313 + j]? = some (Cond.eq (.elem (.field (.string RX4 104) "java/lang/String" "value" "[B") (.int (Int32.ofNat j))) (.int (nI (ws_rw.getD j 0)))) := by decide +kernel
theorem ws_wk {b : Nat} {s : State} (hts : ∀ w ∈ lw_tbl, w.before #[Value.ref b] s = true) : ∀ w ∈ sg_wk, va_Nw w s := by
  intro w hw
  simp only [sg_wk, List.mem_cons, List.not_mem_nil, or_false] at hw
  rcases hw with rfl | rfl | rfl | rfl | rfl | rfl | rfl | rfl | rfl | rfl | rfl | rfl | rfl | rfl | rfl | rfl | rfl
  · exact va_Nw.of rfl (hts _ (List.mem_of_getElem? (i := 1484) (by decide +kernel)))
  · exact va_Nw.of rfl (hts _ (List.mem_of_getElem? (i := 1485) (by decide +kernel)))
  · exact va_Nw.of rfl (hts _ (List.mem_of_getElem? (i := 1486) (by decide +kernel)))
  · exact va_Nw.of rfl (hts _ (List.mem_of_getElem? (i := 1496) (by decide +kernel)))
  · exact va_Nw.of rfl (hts _ (List.mem_of_getElem? (i := 1497) (by decide +kernel)))
  · exact va_Nw.of rfl (hts _ (List.mem_of_getElem? (i := 1498) (by decide +kernel)))
  · exact va_Nw.of rfl (hts _ (List.mem_of_getElem? (i := 328) (by decide +kernel)))
  · exact va_Nw.of rfl (hts _ (List.mem_of_getElem? (i := 423) (by decide +kernel)))
  · exact va_Nw.of rfl (hts _ (List.mem_of_getElem? (i := 873) (by decide +kernel)))
  · exact va_Nw.of rfl (hts _ (List.mem_of_getElem? (i := 329) (by decide +kernel)))
  · exact va_Nw.of rfl (hts _ (List.mem_of_getElem? (i := 331) (by decide +kernel)))
  · exact va_Nw.of rfl (hts _ (List.mem_of_getElem? (i := 333) (by decide +kernel)))
  · exact va_Nw.of rfl (hts _ (List.mem_of_getElem? (i := 167) (by decide +kernel)))
  · exact va_Nw.of rfl (hts _ (List.mem_of_getElem? (i := 257) (by decide +kernel)))
  · exact va_Nw.of rfl (ws_sel (z := ⟨RJ5, "isLatin1", "()Z"⟩) rfl ⟨by decide, by decide⟩ (hts _ (List.mem_of_getElem? (i := 268) (by decide +kernel))) (hts _ (List.mem_of_getElem? (i := 231) (by decide +kernel))) (hts _ (List.mem_of_getElem? (i := 232) (by decide +kernel))))
  · exact va_Nw.of rfl (ws_sel (z := ⟨RJ5, "isLatin1", "()Z"⟩) rfl ⟨by decide, by decide⟩ (hts _ (List.mem_of_getElem? (i := 268) (by decide +kernel))) (hts _ (List.mem_of_getElem? (i := 491) (by decide +kernel))) (hts _ (List.mem_of_getElem? (i := 492) (by decide +kernel))))
  · exact va_Nw.of rfl (ws_sel (z := ⟨RJ5, "isLatin1", "()Z"⟩) rfl ⟨by decide, by decide⟩ (hts _ (List.mem_of_getElem? (i := 268) (by decide +kernel))) (hts _ (List.mem_of_getElem? (i := 495) (by decide +kernel))) (hts _ (List.mem_of_getElem? (i := 496) (by decide +kernel))))
set_option maxHeartbeats 1000000 in
/-- all that the law's entry gives -/
theorem ws_env {s : State} {b L : Nat} {xs : Nat → Int32} (hfit : s.Fit) (hts : ∀ w ∈ lw_tbl, w.before #[Value.ref b] s = true) (hX : va_X b L xs s s.heap) (hgv : (Jvm.Cond.and given_1 narrow_1).before #[Value.ref b] s = true) :
    ∃ (G : sg_G) (M : sg_M), G.1 = s.heap.size ∧ sg_Env G s ∧ sg_H G M s.heap ∧ ev G M ∧ M b = some (0, .inl (.int, L, .inl xs)) := by
  have hs := flat_of_before _ hgv
  have hts1 : ∀ w ∈ sg_tb, w.before #[Value.ref b] s = true := fun w hw => hts w (List.mem_filter.mp hw).1
  obtain ⟨D, hD⟩ := ws_K hts1
  have hA : ∀ a : Nat, a < s.heap.size → ¬ (fun q : Nat => s.heap.size ≤ q) a := fun a h => Nat.not_le.mpr h
  obtain ⟨a2, t2, cell2, d1, d2, d3, d4, d5, d6, -⟩ := va_Tof (args := #[Value.ref b]) (s := s) (tm := .static "java/lang/Integer" "DigitOnes" "[B") (ty := .byte) (N := 100) (f := fun j => .int (nI (48 + j % 10))) (A := fun q => s.heap.size ≤ q) (by decide) (hs _ (List.mem_of_getElem? (i := 16) (by decide +kernel))) (va_eqt (hs _ (List.mem_of_getElem? (i := 17) (by decide +kernel)))) (fun j hj => va_eqt (hs _ (List.mem_of_getElem? (ws_dig j hj)))) hA
  obtain ⟨bv, tv, cellv, v1, v2, v3, v4, v5, v6, -⟩ := va_Tof (args := #[Value.ref b]) (s := s) (tm := .field (.string RX4 104) "java/lang/String" "value" "[B") (ty := .byte) (N := 4) (f := fun j => .int (nI (ws_rw.getD j 0))) (A := fun q => s.heap.size ≤ q) (by decide) (hs _ (List.mem_of_getElem? (i := 311) (by decide +kernel))) (va_eqt (hs _ (List.mem_of_getElem? (i := 312) (by decide +kernel)))) (fun j hj => va_eqt (hs _ (List.mem_of_getElem? (ws_rwx j hj)))) hA
  obtain ⟨a1, cell1, hh, zz, s1, s2, s3, s4, s5, s6, s7⟩ := ws_str hfit hts1 (hD 0 _ rfl) (tm := .string RX4 104) (hs _ (List.mem_of_getElem? (i := 309) (by decide +kernel))) (hs _ (List.mem_of_getElem? (i := 310) (by decide +kernel))) tv
  obtain ⟨a0, t0, cell0, f1, f2, f3, f4, f5, -, -⟩ := va_Tof (args := #[Value.ref b]) (s := s) (tm := .static "java/util/ArrayList" "DEFAULTCAPACITY_EMPTY_ELEMENTDATA" "[Ljava/lang/Object;") (ty := .object "java/lang/Object") (N := 0) (f := fun _ => .null) (A := fun q => s.heap.size ≤ q) (by decide) (hs _ (List.mem_of_getElem? (i := 6) (by decide +kernel))) (va_eqt (hs _ (List.mem_of_getElem? (i := 8) (by decide +kernel)))) (fun j hj => absurd hj (Nat.not_lt_zero j)) hA
  obtain ⟨a0', c0', cell0', k0', p1, p2, p3, p4, p5, p6, -⟩ := Cond.exactly_spec (args := #[Value.ref b]) (first := s) (o := none) (s := s) (idx := []) (t := .static "java/util/ArrayList" "DEFAULTCAPACITY_EMPTY_ELEMENTDATA" "[Ljava/lang/Object;") (cls := "[Ljava/lang/Object;") (hs _ (List.mem_of_getElem? (i := 7) (by decide +kernel)))
  obtain rfl : a0 = a0' := Value.ref.inj (Option.some.inj (t0.symm.trans p1))
  obtain rfl : cell0 = cell0' := Option.some.inj (f1.symm.trans p3)
  have o6 : (Cond.arrayOver (.object "java/lang/Object")).before #[Value.ref b] s = true := hts _ (List.mem_of_getElem? (i := 928) (by decide +kernel))
  have o7 : (Cond.arrayOver (.object RX3)).before #[Value.ref b] s = true := hts _ (List.mem_of_getElem? (i := 134) (by decide +kernel))
  have o8 : (Cond.arrayOver (.object RX5)).before #[Value.ref b] s = true := hts _ (List.mem_of_getElem? (i := 136) (by decide +kernel))
  have o9 : (Cond.arrayOver (.object RX0)).before #[Value.ref b] s = true := hts _ (List.mem_of_getElem? (i := 138) (by decide +kernel))
  have hc0 : cell0.cls = ws_ac s (.object "java/lang/Object") := by
    have e9 : "[" ++ (FieldType.object "java/lang/Object").toString = "[Ljava/lang/Object;" := by decide +kernel
    unfold ws_ac
    rw [e9, p2, p6]
    rfl
  obtain ⟨scr, x1, x2, x3, x4, x5⟩ := hX
  refine ⟨(s.heap.size, D, ws_ac s, ws_nm a0 a1 a2 scr.cls cellv.cls cell2.cls), ws_M b L xs a0 a1 bv hh zz a2, rfl, ?_, ?_, ?_, ?_⟩
  · refine ⟨⟨hD, ws_T D _ _ hts1 o6 o7 o8 o9⟩, ?_, ?_⟩
    · have hA2 : ∀ a : Nat, a < s.heap.size → ¬ sg_A (s.heap.size, D, ws_ac s, ws_nm a0 a1 a2 scr.cls cellv.cls cell2.cls) a := fun a h => Nat.not_le.mpr h
      refine ⟨vx_Zqof (hts _ (List.mem_of_getElem? (i := 353) (by decide +kernel))) (hts1 _ tw_79) (hs _ (List.mem_of_getElem? (i := 13) (by decide +kernel))) hA2, vx_Zqof (hts _ (List.mem_of_getElem? (i := 355) (by decide +kernel))) (hts1 _ tw_79) (hs _ (List.mem_of_getElem? (i := 14) (by decide +kernel))) hA2, va_Zof (hts _ (List.mem_of_getElem? (i := 110) (by decide +kernel))) (hts1 _ tw_65) (va_eqi (hs _ (List.mem_of_getElem? (i := 4) (by decide +kernel)))) hA2, va_Zof (hts _ (List.mem_of_getElem? (i := 152) (by decide +kernel))) (hts1 _ tw_69) t0 hA2, va_Zqof (hts _ (List.mem_of_getElem? (i := 293) (by decide +kernel))) (hts1 _ tw_78) (hs _ (List.mem_of_getElem? (i := 9) (by decide +kernel))) hA2, va_AO.of o6, va_AO.of o7, va_AO.of o8, va_AO.of o9, va_Zof (hts _ (List.mem_of_getElem? (i := 446) (by decide +kernel))) (hts1 _ tw_85) t2 hA2⟩
    · exact ⟨ws_wk hts, ws_nc (hs _ (List.mem_of_getElem? (i := 231) (by decide +kernel))), ws_nc (hs _ (List.mem_of_getElem? (i := 229) (by decide +kernel))), vk_R.of (hts _ (List.mem_of_getElem? (i := 647) (by decide +kernel))) s1, ws_ar x2, ws_ar v2, ws_ar d2⟩
  · refine ws_H rfl (ws_oldT x1 x2 x3 (Nat.le_of_eq x4.symm) (congrArg Nat.toInt32 x4) x5 (Or.inr (Or.inl ⟨rfl, rfl⟩))) ?_ ?_ (ws_oldT v1 v2 v3 v4 v5 v6 (Or.inr (Or.inr ⟨rfl, Or.inl rfl⟩))) (ws_oldT d1 d2 d3 d4 d5 d6 (Or.inr (Or.inr ⟨rfl, Or.inr rfl⟩)))
    · exact ⟨cell0, f1, ws_ns f2.1, f3, Or.inl hc0, f4, f5, fun j hj => absurd hj (Nat.not_lt_zero j)⟩
    · exact ⟨cell1, s2, s3, s4, (RJ0, TJ0, 4), rfl, s5, s7⟩
  · have nv : a2 ≠ bv := by
      rintro rfl
      cases d1.symm.trans v1
      exact absurd (d5.symm.trans v5) (by decide)
    exact ws_ev rfl rfl rfl (ws_neA f1 x1 f2 x2 (by decide)) (ws_neO s2 x1 s6 x2) (ws_neO s2 f1 s6 f2) (ws_neA v1 x1 v2 x2 (by decide)) (ws_neA v1 f1 v2 f2 (by decide)) (ws_neO s2 v1 s6 v2).symm (ws_neA d1 x1 d2 x2 (by decide)) (ws_neA d1 f1 d2 f2 (by decide)) (ws_neO s2 d1 s6 d2).symm nv
  · unfold ws_M
    rw [if_pos rfl]
