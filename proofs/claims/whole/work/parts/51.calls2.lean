/-! ===== constructors, inherited methods, throws ===== -/
theorem sg_toMet {l : Launch} {G : sg_G} {y : MethodName} {cc : ByteArray} {nL : Nat} {ret : Option FieldType} {d mc ms : Nat} {vs : List Value} {M : sg_M} {k : Option Value → sg_M → Prop} {kx : String → sg_M → Prop} (h : sg_Met l G y cc nL ret d mc ms vs M k kx) (hx : ∀ E M', kx E M' → False) :
    Met l y (Cond.code y cc nL ret :: sg_tb) (sg_rm d mc ms) (sg_Pc G vs M) (sg_Qc G k) mc ms (sg_A G) := by
  refine MetFree.mono h (fun _ _ h => h) (fun _ _ _ _ _ h => h) (fun a st o t _ hQ => ?_)
  rcases hQ with h1 | ⟨q, -, E, ce, L, ⟨M', h2, -⟩, -⟩
  · exact h1
  · exact (hx E M' h2).elim
section SGC2
variable {X : sg_X} {l : Launch} {G : sg_G} {cc : ByteArray} {own : String} {nL d : Nat} {M : sg_M} {cb sb pc : Nat} {L : List (Option Value)} {st : List Value}
variable {y : MethodName} {bytes : ByteArray} {maxL mc ms index : Nat} {ret : Option FieldType} {As rest : List Value}
/-- invokespecial of a constructor -/
theorem sg_callI {b : Nat} (hC : sg_C X l G cc own nL (d + 1)) (w1 : Cond.methodLink own index y ∈ sg_tb) (w2 : Cond.instanceMethod y ∈ sg_tb) (w4 : Cond.initialized y.cls ∈ sg_tb) (w5 : Cond.code y bytes maxL none ∈ sg_tb) (hyi : y.name = "<init>")
    (hy : y.cls ≠ "java/lang/invoke/MethodHandle" ∧ y.cls ≠ "java/lang/invoke/VarHandle" ∧ (parseMethodDescriptor y.desc).map (fun d => d.parameters.length) = some As.length) (h45 : maxL ≤ 45) (hd : decode cc pc = .ok (.invokespecial index, 3))
    (hst : st = As.reverse ++ .ref b :: rest) (hr : (rest.map fun v => v.category).sum ≤ 8) (hmc : mc ≤ cb) (hms : ms ≤ sb)
    (hm : sg_Met l G y bytes maxL none d mc ms (.ref b :: As) M (fun v M' => sg_W X M' (cb - mc) (sb - ms) (pc + 3) L (v.toList ++ rest)) (fun _ _ => False)) : sg_W X M cb sb pc L st := by
  obtain ⟨p, l', e, R, s, m, args, below, meth, c, G', Q, nL'⟩ := X
  obtain ⟨⟨rfl, rfl, rfl⟩, hx, hb, hml, hown, hts, hE, hlk, hG, htr, hdf, hdl⟩ := hC
  intro H locs cells slots ls hl hH hS hc hs
  have hrun := va_runI (nL := nL') (As := As) (rest := rest) (b := b) (g := F0 m pc ls st) (Ts := sg_tb) (own := own) (index := index) (bytes := bytes) (maxL := maxL) (n := As.length) (R := R) (args := args) (H := H) (locs := locs) (cells := cells) (slots := slots) (e := e) (below := below) (meth := meth)
    ⟨hx, hb, hml, hown, hts⟩ (sg_toMet hm (fun _ _ h => h)) ⟨callB_of As.length hts (sg_gC w5) rfl rfl rfl (hts _ w4) (hts _ w1) hy ⟨hdf, by show 8 + (maxL + 11) + 64 * d ≤ R.locals; omega⟩, hyi, hts _ w2⟩
    ⟨sg_blind, fun U hU hW => ⟨rfl, by rw [hU]; exact hH.1, sg_Env.to (locs := locs) hE hW (by rw [hU]; exact hS), by rw [hU]; exact hH⟩⟩ rfl rfl hl.1 hst (lv_room hr) hd ⟨by omega, by omega⟩
  intro T0 hT0 Xs
  obtain ⟨v, st₀, t0, T', Lo, h0, X', hL, e1, e2, ⟨v', M', hv, hk, hH', hF⟩, stp⟩ := hrun T0 hT0 Xs
  cases hv
  obtain ⟨k1, k2, k3⟩ := vx_keep h0 e1 hS (fun q _ h => h) (fun q h => h) hL hF
  obtain ⟨t2, a1, b1⟩ := hk T'.heap (locs ++ Lo) (cells + mc) (slots + ms) ls hl (by rw [e1]; exact hH') k3 (by omega) (by omega) T' rfl X'
  exact ⟨t2, stp t2 a1, b1⟩
/-- a nest mate's private constructor -/
theorem sg_callIN {b : Nat} {host : String} (hC : sg_C X l G cc own nL (d + 1)) (w1 : Cond.methodLinkNest own index y host ∈ sg_wk) (w2 : Cond.instanceMethod y ∈ sg_tb) (w4 : Cond.initialized y.cls ∈ sg_tb) (w5 : Cond.code y bytes maxL none ∈ sg_tb) (hyi : y.name = "<init>")
    (hy : y.cls ≠ "java/lang/invoke/MethodHandle" ∧ y.cls ≠ "java/lang/invoke/VarHandle" ∧ (parseMethodDescriptor y.desc).map (fun d => d.parameters.length) = some As.length) (h45 : maxL ≤ 45) (hd : decode cc pc = .ok (.invokespecial index, 3))
    (hst : st = As.reverse ++ .ref b :: rest) (hr : (rest.map fun v => v.category).sum ≤ 8) (hmc : mc ≤ cb) (hms : ms ≤ sb)
    (hm : sg_Met l G y bytes maxL none d mc ms (.ref b :: As) M (fun v M' => sg_W X M' (cb - mc) (sb - ms) (pc + 3) L (v.toList ++ rest)) (fun _ _ => False)) : sg_W X M cb sb pc L st := by
  obtain ⟨p, l', e, R, s, m, args, below, meth, c, G', Q, nL'⟩ := X
  obtain ⟨⟨rfl, rfl, rfl⟩, hx, hb, hml, hown, hts, hE, hlk, hG, htr, hdf, hdl⟩ := hC
  intro H locs cells slots ls hl hH hS hc hs
  have hrun := va_runIN (nL := nL') (As := As) (rest := rest) (b := b) (g := F0 m pc ls st) (Ts := sg_tb) (own := own) (host := host) (index := index) (bytes := bytes) (maxL := maxL) (n := As.length) (R := R) (args := args) (H := H) (locs := locs) (cells := cells) (slots := slots) (e := e) (below := below) (meth := meth)
    ⟨hx, hb, hml, hown, hts⟩ (sg_toMet hm (fun _ _ h => h)) ⟨va_cnB As.length hts (sg_gC w5) rfl rfl rfl (hE.2.2.1 _ w1) (hts _ w4) hy ⟨hdf, by show 8 + (maxL + 11) + 64 * d ≤ R.locals; omega⟩, hyi, hts _ w2⟩
    ⟨sg_blind, fun U hU hW => ⟨rfl, by rw [hU]; exact hH.1, sg_Env.to (locs := locs) hE hW (by rw [hU]; exact hS), by rw [hU]; exact hH⟩⟩ rfl rfl hl.1 hst (lv_room hr) hd ⟨by omega, by omega⟩
  intro T0 hT0 Xs
  obtain ⟨v, st₀, t0, T', Lo, h0, X', hL, e1, e2, ⟨v', M', hv, hk, hH', hF⟩, stp⟩ := hrun T0 hT0 Xs
  cases hv
  obtain ⟨k1, k2, k3⟩ := vx_keep h0 e1 hS (fun q _ h => h) (fun q h => h) hL hF
  obtain ⟨t2, a1, b1⟩ := hk T'.heap (locs ++ Lo) (cells + mc) (slots + ms) ls hl (by rw [e1]; exact hH') k3 (by omega) (by omega) T' rfl X'
  exact ⟨t2, stp t2 a1, b1⟩
/-- invokespecial of the superclass's method -/
theorem sg_callSU {b t ci N : Nat} {T : u_T} {C : String} {fs : List Value} (hC : sg_C X l G cc own nL (d + 1)) (w1 : Cond.methodLink own index y ∈ sg_tb) (ws1 : Cond.sameMethod y.cls y.cls y.name y.desc ∈ sg_tb) (wsu : Cond.superclass own y.cls ∈ sg_tb) (w2 : Cond.instanceMethod y ∈ sg_tb) (w4 : Cond.initialized y.cls ∈ sg_tb) (w5 : Cond.code y bytes maxL ret ∈ sg_tb)
    (hy : y.name ≠ "<init>" ∧ (parseMethodDescriptor y.desc).map (fun d => d.parameters.length) = some As.length) (h45 : maxL ≤ 45) (hcl : vwCl[ci]? = some (C, T, N)) (hd : decode cc pc = .ok (.invokespecial index, 3))
    (hM : M b = some (t, .inr (ci, fs))) (hst : st = As.reverse ++ .ref b :: rest) (hr : (rest.map fun v => v.category).sum ≤ 8) (hmc : mc ≤ cb) (hms : ms ≤ sb)
    (hm : sg_Met l G y bytes maxL ret d mc ms (.ref b :: As) M (fun v M' => sg_W X M' (cb - mc) (sb - ms) (pc + 3) L (v.toList ++ rest)) (fun _ _ => False)) : sg_W X M cb sb pc L st := by
  obtain ⟨p, l', e, R, s, m, args, below, meth, c, G', Q, nL'⟩ := X
  obtain ⟨⟨rfl, rfl, rfl⟩, hx, hb, hml, hown, hts, hE, hlk, hG, htr, hdf, hdl⟩ := hC
  intro H locs cells slots ls hl hH hS hc hs
  have hrecv : ∃ cellB : Cell, H[b]? = some cellB ∧ cellB.vm.isStatics = false ∧ s.vm.findClass C = some cellB.cls := sg_recv hE.1 hH hM hcl
  have hT : GoodIn sg_tb (va_wsSU own index y (Cond.code y bytes maxL ret :: sg_tb)) := by
    refine sg_goodIn (fun w hw => ?_)
    unfold va_wsSU at hw
    rcases List.mem_append.mp hw with h | h
    · simp only [List.mem_cons, List.not_mem_nil, or_false] at h
      rcases h with rfl | rfl | rfl | rfl | rfl
      · exact w1
      · exact ws1
      · exact wsu
      · exact w2
      · exact w4
    · rcases List.mem_cons.mp h with rfl | h
      · exact w5
      · exact h
  have hrun := va_runSU (nL := nL') (As := As) (rest := rest) (b := b) (g := F0 m pc ls st) (Ts := sg_tb) (own := own) (C := C) (index := index) (bytes := bytes) (maxL := maxL) (ret := ret) (n := As.length) (R := R) (args := args) (H := H) (locs := locs) (cells := cells) (slots := slots) (e := e) (below := below) (meth := meth)
    (hE.1.1 ci _ hcl).2 ⟨hx, hb, hml, hown, hts⟩ (sg_toMet hm (fun _ _ h => h)) (va_cwSU As.length hts hT rfl rfl rfl hy ⟨hdf, by show 8 + (maxL + 11) + 64 * d ≤ R.locals; omega⟩)
    ⟨sg_blind, hrecv, fun U hU hW => ⟨rfl, by rw [hU]; exact hH.1, sg_Env.to (locs := locs) hE hW (by rw [hU]; exact hS), by rw [hU]; exact hH⟩⟩ rfl rfl hl.1 hst (lv_room hr) hd ⟨by omega, by omega⟩
  intro T0 hT0 Xs
  obtain ⟨v, st₀, t0, T', Lo, h0, X', hL, e1, e2, ⟨v', M', hv, hk, hH', hF⟩, stp⟩ := hrun T0 hT0 Xs
  cases hv
  obtain ⟨k1, k2, k3⟩ := vx_keep h0 e1 hS (fun q _ h => h) (fun q h => h) hL hF
  obtain ⟨t2, a1, b1⟩ := hk T'.heap (locs ++ Lo) (cells + mc) (slots + ms) ls hl (by rw [e1]; exact hH') k3 (by omega) (by omega) T' rfl X'
  exact ⟨t2, stp t2 a1, b1⟩
/-- invokevirtual of an inherited or overriding method: x named (declared in its class), y chosen for the receiver's class C -/
theorem sg_callU {x : MethodName} {b t ci N m0 : Nat} {b0 : ByteArray} {r0 : Option FieldType} {T : u_T} {C : String} {fs : List Value} (hC : sg_C X l G cc own nL (d + 1)) (w1 : Cond.methodLink own index x ∈ sg_tb) (ws1 : Cond.sameMethod x.cls x.cls x.name x.desc ∈ sg_tb) (wx : Cond.instanceMethod x ∈ sg_tb) (wx0 : Cond.code x b0 m0 r0 ∈ sg_tb) (wse : Cond.selects C x y ∈ sg_tb ∨ Cond.selects C x y ∈ sg_wk) (w2 : Cond.instanceMethod y ∈ sg_tb) (w4 : Cond.initialized y.cls ∈ sg_tb) (w5 : Cond.code y bytes maxL ret ∈ sg_tb)
    (hy : x.cls ≠ "java/lang/invoke/MethodHandle" ∧ x.cls ≠ "java/lang/invoke/VarHandle" ∧ (parseMethodDescriptor x.desc).map (fun d => d.parameters.length) = some As.length) (h45 : maxL ≤ 45) (hcl : vwCl[ci]? = some (C, T, N)) (hd : decode cc pc = .ok (.invokevirtual index, 3))
    (hM : M b = some (t, .inr (ci, fs))) (hst : st = As.reverse ++ .ref b :: rest) (hr : (rest.map fun v => v.category).sum ≤ 8) (hmc : mc ≤ cb) (hms : ms ≤ sb)
    (hm : sg_Met l G y bytes maxL ret d mc ms (.ref b :: As) M (fun v M' => sg_W X M' (cb - mc) (sb - ms) (pc + 3) L (v.toList ++ rest)) (fun _ _ => False)) : sg_W X M cb sb pc L st := by
  obtain ⟨p, l', e, R, s, m, args, below, meth, c, G', Q, nL'⟩ := X
  obtain ⟨⟨rfl, rfl, rfl⟩, hx, hb, hml, hown, hts, hE, hlk, hG, htr, hdf, hdl⟩ := hC
  intro H locs cells slots ls hl hH hS hc hs
  have hrecv : ∃ cellB : Cell, H[b]? = some cellB ∧ cellB.vm.isStatics = false ∧ s.vm.findClass C = some cellB.cls := sg_recv hE.1 hH hM hcl
  have hsel : (Cond.selects C x y).before args s = true := wse.elim (fun h => hts _ h) (fun h => va_Nw.use rfl (hE.2.2.1 _ h))
  have hcw : va_CU R s args own C x.cls index x y bytes maxL ret (Cond.code y bytes maxL ret :: sg_tb) (sg_rm d mc ms) mc ms As.length :=
    ⟨⟨rfl, rfl, hdf, (by show 8 + (maxL + 11) + 64 * d ≤ R.locals; omega), pay_in hts (sg_gC w5), List.mem_cons_self⟩, hts _ w5, hts _ w4, ⟨hy.1, hy.2.1⟩, (fun sig h => by have h2 := hy.2.2; rw [h] at h2; exact (Option.some.inj h2).symm), hts _ w1, hts _ ws1, va_Decl.of (hts _ wx) (hts _ wx0), hsel, hts _ w2⟩
  have hrun := va_runU (nL := nL') (As := As) (rest := rest) (b := b) (g := F0 m pc ls st) (Ts := sg_tb) (own := own) (C := C) (owner := x.cls) (x := x) (index := index) (bytes := bytes) (maxL := maxL) (ret := ret) (n := As.length) (R := R) (args := args) (H := H) (locs := locs) (cells := cells) (slots := slots) (e := e) (below := below) (meth := meth)
    ⟨hx, hb, hml, hown, hts⟩ (sg_toMet hm (fun _ _ h => h)) hcw
    ⟨sg_blind, hrecv, fun U hU hW => ⟨rfl, by rw [hU]; exact hH.1, sg_Env.to (locs := locs) hE hW (by rw [hU]; exact hS), by rw [hU]; exact hH⟩⟩ rfl rfl hl.1 hst (lv_room hr) hd ⟨by omega, by omega⟩
  intro T0 hT0 Xs
  obtain ⟨v, st₀, t0, T', Lo, h0, X', hL, e1, e2, ⟨v', M', hv, hk, hH', hF⟩, stp⟩ := hrun T0 hT0 Xs
  cases hv
  obtain ⟨k1, k2, k3⟩ := vx_keep h0 e1 hS (fun q _ h => h) (fun q h => h) hL hF
  obtain ⟨t2, a1, b1⟩ := hk T'.heap (locs ++ Lo) (cells + mc) (slots + ms) ls hl (by rw [e1]; exact hH') k3 (by omega) (by omega) T' rfl X'
  exact ⟨t2, stp t2 a1, b1⟩
/-- fields that a superclass declares, linked by the class's own name -/
theorem sg_getS {ref C : String} {T : u_T} {N ci a t : Nat} {fs : List Value} {v : Value} (i : Nat) (hC : sg_C X l G cc own nL d) (hc : vwCl[ci]? = some (C, T, N)) (hin : ∀ w ∈ u_ws C T N, w ∈ sg_tb) (hi : i < N) (hw : Cond.fieldLink own index ref (T i).2.1 (T i).2.2.1 ∈ sg_tb) (hsf : Cond.sameField ref (T i).1 (T i).2.1 (T i).2.2.1 ∈ sg_tb) (hd : decode cc pc = .ok (.getfield index, 3)) (hM : M a = some (t, .inr (ci, fs))) (hv : fs[i]? = some v) (k : sg_W X M cb sb (pc + 3) L (v :: st)) : sg_W X M cb sb pc L (.ref a :: st) := by
  have hcl := hc
  obtain ⟨p, l', e, R, s, m, args, below, meth, c, G', Q, nL'⟩ := X
  obtain ⟨⟨rfl, rfl, rfl⟩, hx, hb, hml, hown, hts, hE, hlk, hG, htr, hdf, hdl⟩ := hC
  intro H locs cells slots ls hl hH hS hc hs
  exact sg_getW hx hb hts hin hown hE.1 hH hM hcl i hi (hts _ hw) (fun x h9 => u_same (hts _ hsf) x h9) hv hd (k H locs cells slots ls hl hH hS hc hs)
theorem sg_putS {ref C : String} {T : u_T} {N ci a t : Nat} {fs : List Value} {v : Value} (i : Nat) {ty : FieldType} (hC : sg_C X l G cc own nL d) (hc : vwCl[ci]? = some (C, T, N)) (hin : ∀ w ∈ u_ws C T N, w ∈ sg_tb) (ty0 : Nat → FieldType) (hty : ∀ k, k < N → parseFieldDescriptor (T k).2.2.1 = some (ty0 k)) (hnm : ∀ a, a < N → ∀ b, b < N → a ≠ b → (T a).2.1 ≠ (T b).2.1) (hi : i < N) (hw : Cond.fieldLink own index ref (T i).2.1 (T i).2.2.1 ∈ sg_tb) (hsf : Cond.sameField ref (T i).1 (T i).2.1 (T i).2.2.1 ∈ sg_tb) (hfin : (T i).2.2.2 = false) (hdt : parseFieldDescriptor (T i).2.2.1 = some ty) (hn : narrow ty v = v) (hfit : fits ty v = true) (hd : decode cc pc = .ok (.putfield index, 3)) (hM : M a = some (t, .inr (ci, fs))) (ht : t ≠ 0) (hlen : i < fs.length) (k : sg_W X (sg_up M a (t, .inr (ci, fs.set i v))) cb sb (pc + 3) L st) : sg_W X M cb sb pc L (v :: .ref a :: st) := by
  have hcl := hc
  obtain ⟨p, l', e, R, s, m, args, below, meth, c, G', Q, nL'⟩ := X
  obtain ⟨⟨rfl, rfl, rfl⟩, hx, hb, hml, hown, hts, hE, hlk, hG, htr, hdf, hdl⟩ := hC
  intro H locs cells slots ls hl hH hS hc hs
  obtain ⟨hP, hD⟩ := sg_out hH
  obtain ⟨j, hj⟩ := sg_ws_in hM (sg_ge hH hM ht) ((hH.2 _ _ _ hM).1.lt)
  exact va_put hx hb hts hin ty0 hty hnm hown hE.1 hP hD hS j hj hcl i hi (hts _ hw) (fun x h9 => u_same (hts _ hsf) x h9) hfin hdt hn hfit hlen hd (fun H1 locs1 hP1 hD1 hS1 => k H1 locs1 cells slots ls hl (sg_set hH hj hM hG hS hS1 (e' := .inr (ci, fs.set i v)) hP1) hS1 hc hs)
/-- byte[].clone(), and its cast -/
theorem sg_cloneB {a t n : Nat} {f : Nat → Int32} (t1 : Nat) (hC : sg_C X l G cc own nL (d + 1)) (w1 : Cond.methodLink own index ⟨"[B", "clone", "()Ljava/lang/Object;"⟩ ∈ sg_tb) (w2 : Cond.sameMethod "[B" "java/lang/Object" "clone" "()Ljava/lang/Object;" ∈ sg_tb) (w3 : Cond.native ⟨"java/lang/Object", "clone", "()Ljava/lang/Object;"⟩ ∈ sg_tb) (w4 : Cond.instanceMethod ⟨"java/lang/Object", "clone", "()Ljava/lang/Object;"⟩ ∈ sg_tb) (w5 : Cond.selects "[B" ⟨"[B", "clone", "()Ljava/lang/Object;"⟩ ⟨"java/lang/Object", "clone", "()Ljava/lang/Object;"⟩ ∈ sg_tb) (hd : decode cc pc = .ok (.invokevirtual index, 3)) (hM : M a = some (t, .inl (.byte, n, .inl f))) (ht : t ≠ 0) (hfit : ∀ i, i < n → fits .byte (.int (f i)) = true) (ht1 : t1 ≠ 0) (h1 : 1 ≤ cb) (h2 : n ≤ sb) (hr : (st.map fun v => v.category).sum ≤ 8)
    (k : ∀ q : Nat, M q = none → sg_W X (sg_up M q (t1, .inl (.byte, n, .inl f))) (cb - 1) (sb - n) (pc + 3) L (.ref q :: st)) : sg_W X M cb sb pc L (.ref a :: st) := by
  obtain ⟨p, l', e, R, s, m, args, below, meth, c, G', Q, nL'⟩ := X
  obtain ⟨⟨rfl, rfl, rfl⟩, hx, hb, hml, hown, hts, hE, hlk, hG, htr, hdf, hdl⟩ := hC
  intro H locs cells slots ls hl hH hS hc hs
  obtain ⟨hP, hD⟩ := sg_out hH
  obtain ⟨j, hj⟩ := sg_ws_in hM (sg_ge hH hM ht) ((hH.2 _ _ _ hM).1.lt)
  refine va_clone (x := (n, .inl f)) (ty := .byte) hx hb (hml.trans hl.1.symm) hown (hts _ w1) (hts _ w2) (hts _ w3) (hts _ w4) (hts _ w5) (hE.2.2.1 _ (by simp [sg_wk])) hE.1 hP hD hS (fun q hq => Nat.le_trans hG hq) j 1 hj rfl (va_nm_byte (hE.1.2 1 (G'.2.2.1 .byte, .byte) rfl).2) ?_ (by omega) (by omega) (by omega) (by show slots + n ≤ _; omega) hd (fun q H1 hK1 hP1 hD1 hS1 => ?_)
  · intro i v hv
    obtain ⟨hi, he⟩ := Array.getElem?_eq_some_iff.mp hv
    have hi' : i < n := Nat.lt_of_lt_of_eq hi (arrV_size _ _ _)
    have h9 := hfit i hi'
    have : v = .int (f i) := by
      rw [← he]
      simp [vp_cell, arrV]
    rw [this]; exact h9
  · obtain ⟨hn, hk⟩ := sg_push hH (e' := .inl (.byte, n, .inl f)) hG hS hS1 hP1 hD1
    exact k q hn H1 locs (cells + 1) (slots + n) ls hl (hk t1 ht1) hS1 (by omega) (by omega)
theorem sg_castB {a t : Nat} {x : vp_A} (hC : sg_C X l G cc own nL d) (w1 : Cond.classLink own index "[B" ∈ sg_tb) (hd : decode cc pc = .ok (.checkcast index, 3)) (hM : M a = some (t, .inl (.byte, x))) (ht : t ≠ 0) (k : sg_W X M cb sb (pc + 3) L (.ref a :: st)) : sg_W X M cb sb pc L (.ref a :: st) := by
  obtain ⟨p, l', e, R, s, m, args, below, meth, c, G', Q, nL'⟩ := X
  obtain ⟨⟨rfl, rfl, rfl⟩, hx, hb, hml, hown, hts, hE, hlk, hG, htr, hdf, hdl⟩ := hC
  intro H locs cells slots ls hl hH hS hc hs
  have h9 : H[a]? = some (vp_cell (G'.2.2.1 .byte) x) := (hH.2 _ _ _ hM).1.1 ht
  have h8 : (vp_cell (G'.2.2.1 .byte) x).vm.isStatics = false ∧ (vp_cell (G'.2.2.1 .byte) x).cls = G'.2.2.1 .byte := by
    obtain ⟨n, f | f | f | f | f⟩ := x
    all_goals exact ⟨rfl, rfl⟩
  exact va_castE hx hb hown (hts _ w1) ⟨_, h9, h8.1, by rw [h8.2]; exact va_nm_byte (hE.1.2 1 (G'.2.2.1 .byte, .byte) rfl).2⟩ hd (k H locs cells slots ls hl hH hS hc hs)
theorem sg_gets_do (hC : sg_C X l G cc own nL d) (w1 : Cond.fieldLink own index "java/lang/Integer" "DigitOnes" "[B" ∈ sg_tb) (hd : decode cc pc = .ok (.getstatic index, 3)) (k : sg_W X M cb sb (pc + 3) L (.ref (G.2.2.2 2) :: st)) : sg_W X M cb sb pc L st :=
  sg_gets hC (fun s hE => hE.2.1.2.2.2.2.2.2.2.2.2) w1 hd k
/-- new E(); throw -/
theorem sg_throw {E : String} {ik ic : Nat} {y0 : MethodName} {kr : Option Value → sg_M → Prop} {kx : String → sg_M → Prop} {r0 : Option FieldType} (hC : sg_C X l G cc own nL (d + 7)) (hR : sg_R X y0 kr kx r0) (hE1 : Bundle.fit E = true) (w1 : Cond.classLink own ik E ∈ sg_tb) (w2 : Cond.initialized E ∈ sg_tb)
    (hgd : ∀ w ∈ (vx_at0 own ic E ["java/lang/RuntimeException", "java/lang/Exception"]).filter goodWord, w ∈ sg_tb) (hbd : ∀ w ∈ (vx_at0 own ic E ["java/lang/RuntimeException", "java/lang/Exception"]).filter (fun w => !goodWord w), w ∈ sg_wk ∧ w.onTables = true) (hot : ∀ w ∈ Cond.classLink own ik E :: Cond.initialized E :: vx_at0 own ic E ["java/lang/RuntimeException", "java/lang/Exception"], vx_ot w = true)
    (d0 : decode cc pc = .ok (.new ik, 3)) (d3 : decode cc (pc + 3) = .ok (.dup, 1)) (d4 : decode cc (pc + 4) = .ok (.invokespecial ic, 3)) (d7 : decode cc (pc + 7) = .ok (.athrow, 1)) (hr : (st.map fun v => v.category).sum ≤ 8) (h1 : 1 ≤ cb) (h2 : 6 ≤ sb) (h : kx E M) : sg_W X M cb sb pc L st := by
  obtain ⟨p, l', e, R, s, m, args, below, meth, c, G', Q, nL'⟩ := X
  obtain ⟨⟨rfl, rfl, rfl⟩, hx, hb, hml, hown, hts, hE, hlk, hG, htr, hdf, hdl⟩ := hC
  obtain ⟨rfl, hr0, hnm, hxt⟩ := hR
  intro H locs cells slots ls hl hH hS hc hs
  refine vx_throw0 hx hb htr hown hE1 (by decide) (hts _ w1) (hts _ w2) ?_ hot hE.2.1.1 hE.2.1.2.1 hS (hl.1.trans hml.symm) d0 d3 d4 d7 (fun x hx9 => (hxt x hx9).elim) (by show 2 + 3 < R.frames; omega) (by show _ + (13 * (2 + 1) + 42) ≤ R.locals; omega) (by omega) (by omega) hlk ?_ hS.2.2 (by omega) (by omega)
  · exact vx_hat (fun w hw => hts _ (hgd w hw)) (fun w hw => (hw : w ∈ (vx_at0 own ic E ["java/lang/RuntimeException", "java/lang/Exception"]).filter (fun w => !goodWord w))) (fun w hw => va_Nw.use (hbd w hw).2 (hE.2.2.1 _ (hbd w hw).1))
  · intro t ht hsz hq
    refine ⟨M, h, ⟨Nat.le_trans hH.1 hsz, fun a u x hx9 => ⟨?_, (hH.2 a u x hx9).2⟩⟩, ?_⟩
    · have h3 := (hH.2 a u x hx9).1
      exact h3.kept (hq a h3.lt)
    · refine ⟨Nat.le_trans hS.1 hsz, fun a ha hn => ?_⟩
      rw [hq a (Nat.lt_of_lt_of_le ha hS.1)]
      exact hS.2.1 a ha hn
end SGC2
