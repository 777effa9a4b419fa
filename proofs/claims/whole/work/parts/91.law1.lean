/-! ===== methods with a table of handlers ===== -/
def sg_RH (X : sg_X) (k : Option Value → sg_M → Prop) (ret : Option FieldType) (hh : List (Nat × Nat × Nat × Nat)) : Prop := match X with
  | (p, l, e, R, s, m, args, below, meth, c, G, Q, nL) => Q = vx_MQ below (sg_Qc G k) (sg_XC G (fun _ _ => False)) args s R.cells R.slots (sg_A G) ∧ meth.sig.returnType = ret ∧ c.exceptionTable.toList.map lc_row4 = hh
def sg_MetH (l : Launch) (G : sg_G) (y : MethodName) (cc : ByteArray) (nL : Nat) (ret : Option FieldType) (hh : List (Nat × Nat × Nat × Nat)) (d mc ms : Nat) (vs : List Value) (M : sg_M) (k : Option Value → sg_M → Prop) : Prop :=
  vx_Met l y (Cond.codeWith y cc nL ret hh :: sg_tb) (sg_rm d mc ms) (sg_Pc G vs M) (sg_Qc G k) (sg_XC G (fun _ _ => False)) mc ms (sg_A G)
theorem sg_enterH {l : Launch} {G : sg_G} {y : MethodName} {cc : ByteArray} {nL : Nat} {ret : Option FieldType} {hh : List (Nat × Nat × Nat × Nat)} {d mc ms : Nat} {vs : List Value} {M : sg_M} {k : Option Value → sg_M → Prop} (L : List (Option Value))
    (hy : plainName y.cls = true) (htr : l.stackTraces = false) (hn : (lg_sl vs).length ≤ nL) (hL : lv_args 0 vs = sg_lv 0 L)
    (body : ∀ X : sg_X, sg_C X l G cc y.cls nL d → sg_RH X k ret hh → sg_W X M mc ms 0 L []) : sg_MetH l G y cc nL ret hh d mc ms vs M k := by
  refine vx_ofWH (cc := cc) (maxL := nL) (ret := ret) (hh := hh) hy rfl ?_
  intro p e s m args below meth c s₁ B hml hP
  obtain ⟨rfl, hG, hE, hH⟩ := hP
  have hall := fun w hw => atoms_spec (ws := Cond.codeWith y cc nL ret hh :: sg_tb) B.pre w hw
  have hts : ∀ w ∈ sg_tb, w.before vs.toArray s = true := fun w hw => hall w (List.mem_cons_of_mem _ hw)
  have hown : s.vm.findClass y.cls = some m.cls := findClass_of_methodNamed B.named
  have htab : c.exceptionTable.toList.map lc_row4 = hh := by
    obtain ⟨m9, meth9, c9, h1, h2, h3, -, -, h6, -⟩ := Cond.codeWith_spec (hall _ List.mem_cons_self)
    cases Option.some.inj (h1.symm.trans B.named)
    cases Option.some.inj (h2.symm.trans B.method)
    cases Option.some.inj (h3.symm.trans (Stand.of_body B).code)
    exact h6
  have hl := lv_entry vs (n := nL) hn
  rw [hL] at hl
  rw [lg_entry_eq]
  have hw := body (p, l, e, sg_rm d mc ms, s, m, vs.toArray, below, meth, c, G, vx_MQ below (sg_Qc G k) (sg_XC G (fun _ _ => False)) vs.toArray s mc ms (sg_A G), nL)
    ⟨⟨rfl, rfl, rfl⟩, B.exec, B.bytes, hml, hown, hts, hE, B.notSynchronized, hG, htr, Nat.le_refl _, Nat.le_refl _⟩ ⟨rfl, B.returns, htab⟩
  exact hw s.heap [] 0 0 _ hl hH va_S.rf (by show 0 + mc ≤ mc; omega) (by show 0 + ms ≤ ms; omega)
section LAWR
variable {X : sg_X} {l : Launch} {G : sg_G} {cc : ByteArray} {own : String} {nL d : Nat} {M : sg_M} {cb sb pc : Nat} {L : List (Option Value)} {st : List Value}
theorem sg_iretH {v : Int32} {kr : Option Value → sg_M → Prop} {hh : List (Nat × Nat × Nat × Nat)} (hC : sg_C X l G cc own nL d) (hR : sg_RH X kr (some .int) hh) (hd : decode cc pc = .ok (.ireturn, 1)) (hk : kr (some (.int v)) M) : sg_W X M cb sb pc L [.int v] := by
  obtain ⟨p, l', e, R, s, m, args, below, meth, c, G', Q, nL'⟩ := X
  obtain ⟨⟨rfl, rfl, rfl⟩, hx, hb, hml, hown, hts, hE, hlk, hG, htr, hdf, hdl⟩ := hC
  intro H locs cells slots ls hl hH hS hc hs
  obtain ⟨rfl, hr, -⟩ := hR
  refine vx_ret ?_
  refine W.widen (k := R.cells) (n := R.slots) (by omega) (by omega) ?_
  exact W.iret hx hb hr (fun t ht hW => ⟨_, M, rfl, hk, by rw [ht]; exact hH, hS.F ht⟩) hS.2.2 hd hlk
/-- caught here -/
theorem sg_catch {E : String} {h : Nat} {kr : Option Value → sg_M → Prop} {ret : Option FieldType} {hh : List (Nat × Nat × Nat × Nat)} (hC : sg_C X l G cc own nL d) (hR : sg_RH X kr ret hh)
    (hgo : ∀ (args : Array Value) (s : State), (∀ w ∈ sg_tb, w.before args s = true) → sg_Tx G s → lc_go own E args s pc hh h) (k : ∀ q : Nat, sg_W X M cb sb h L [.ref q]) : sg_WX X M cb sb pc L st E := by
  obtain ⟨p, l', e, R, s, m, args, below, meth, c, G', Q, nL'⟩ := X
  obtain ⟨⟨rfl, rfl, rfl⟩, hx, hb, hml, hown, hts, hE, hlk, hG, htr, hdf, hdl⟩ := hC
  obtain ⟨-, -, htab⟩ := hR
  intro H locs cells slots ls q ce hl hH hS hc hs hce hcv hcE
  exact lc_catch hown htab (hgo args s hts hE.2.2) hce hcv hcE (k q H locs cells slots ls hl hH hS hc hs)
theorem sg_callSH {index maxL mc ms : Nat} {y : MethodName} {bytes : ByteArray} {ret : Option FieldType} {hh : List (Nat × Nat × Nat × Nat)} {As rest : List Value} (hC : sg_C X l G cc own nL (d + 1)) (w1 : Cond.methodLink own index y ∈ sg_tb) (w2 : Cond.static y ∈ sg_tb) (w4 : Cond.initialized y.cls ∈ sg_tb) (w5 : Cond.codeWith y bytes maxL ret hh ∈ sg_tb)
    (hy : y.cls ≠ "java/lang/invoke/MethodHandle" ∧ y.cls ≠ "java/lang/invoke/VarHandle" ∧ (parseMethodDescriptor y.desc).map (fun d => d.parameters.length) = some As.length) (h45 : maxL ≤ 45) (hd : decode cc pc = .ok (.invokestatic index, 3))
    (hst : st = As.reverse ++ rest) (hr : (rest.map fun v => v.category).sum ≤ 8) (hmc : mc ≤ cb) (hms : ms ≤ sb)
    (hm : sg_MetH l G y bytes maxL ret hh d mc ms As M (fun v M' => sg_W X M' (cb - mc) (sb - ms) (pc + 3) L (v.toList ++ rest))) : sg_W X M cb sb pc L st := by
  obtain ⟨p, l', e, R, s, m, args, below, meth, c, G', Q, nL'⟩ := X
  obtain ⟨⟨rfl, rfl, rfl⟩, hx, hb, hml, hown, hts, hE, hlk, hG, htr, hdf, hdl⟩ := hC
  intro H locs cells slots ls hl hH hS hc hs
  have hgood : GoodIn sg_tb (va_wsS own index y (Cond.codeWith y bytes maxL ret hh :: sg_tb)) := by
    refine sg_goodIn (fun w hw => ?_)
    simp only [va_wsS, List.mem_append, List.mem_cons, List.not_mem_nil, or_false] at hw
    rcases hw with hw | hw | hw
    · rcases hw with rfl | rfl | rfl
      all_goals assumption
    · rw [hw]; exact w5
    · exact hw
  have hrun := vx_runSX (nL := nL') (As := As) (rest := rest) (g := F0 m pc ls st) (Ts := sg_tb) (own := own) (index := index) (bytes := bytes) (maxL := maxL) (ret := ret) (n := As.length) (R := R) (args := args) (H := H) (locs := locs) (cells := cells) (slots := slots) (e := e) (below := below) (meth := meth) (hh := hh)
    ⟨hx, hb, hml, hown, hts⟩ hm (vx_cwSW As.length hts hgood rfl rfl rfl hy ⟨hdf, by show 8 + (maxL + 11) + 64 * d ≤ R.locals; omega⟩)
    ⟨sg_blind, fun U hU hW => ⟨rfl, by rw [hU]; exact hH.1, sg_Env.to (locs := locs) hE hW (by rw [hU]; exact hS), by rw [hU]; exact hH⟩⟩ rfl rfl hl.1 hst (lv_room hr) hd ⟨by omega, by omega⟩
  intro T0 hT0 Xs
  rcases hrun T0 hT0 Xs with ⟨v, st₀, t0, T', Lo, h0, X', hL, e1, e2, ⟨v', M', hv, hk, hH', hF⟩, stp⟩ | ⟨q, st₀, t0, T', Lo, E, ce, h0, X', hL, e1, e2, ⟨M', hk, hH', hF⟩, hce, hcv, hcE, stp⟩
  · cases hv
    obtain ⟨k1, k2, k3⟩ := vx_keep h0 e1 hS (fun q _ h => h) (fun q h => h) hL hF
    obtain ⟨t2, a1, b1⟩ := hk T'.heap (locs ++ Lo) (cells + mc) (slots + ms) ls hl (by rw [e1]; exact hH') k3 (by omega) (by omega) T' rfl X'
    exact ⟨t2, stp t2 a1, b1⟩
  · exact hk.elim
end LAWR
