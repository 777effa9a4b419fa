/-! ===== calls and throws ===== -/
theorem sg_inp {ws : List Cond} (ps : List Nat) (hp : ws = ps.filterMap (fun i => lw_tbl[i]?)) (hg : ws.all goodWord = true) : ∀ w ∈ ws, w ∈ sg_tb := by
  intro w hw
  have h1 := List.all_eq_true.mp hg w hw
  rw [hp] at hw
  obtain ⟨i, -, hi⟩ := List.mem_filterMap.mp hw
  exact sg_in i hi h1
theorem sg_blind {G : sg_G} {vs : List Value} {M : sg_M} : FrameBlind (sg_Pc G vs M) := by
  intro a U g mk h
  obtain ⟨h1, h2, h3, h4⟩ := h
  exact ⟨h1, h2, sg_Env.calling h3, h4⟩
theorem sg_gV {own : String} {index : Nat} {y : MethodName} {bytes : ByteArray} {maxL : Nat} {ret : Option FieldType} (w1 : Cond.methodLink own index y ∈ sg_tb) (w2 : Cond.instanceMethod y ∈ sg_tb) (w3 : Cond.selects y.cls y y ∈ sg_tb) (w4 : Cond.initialized y.cls ∈ sg_tb) (w5 : Cond.code y bytes maxL ret ∈ sg_tb) : GoodIn sg_tb (wsV own index y.cls y (Cond.code y bytes maxL ret :: sg_tb)) := by
  refine sg_goodIn (fun w hw => ?_)
  unfold wsV at hw
  rcases List.mem_append.mp hw with h | h
  · simp only [List.mem_cons, List.not_mem_nil, or_false] at h
    rcases h with rfl | rfl | rfl | rfl
    · exact w1
    · exact w2
    · exact w3
    · exact w4
  · rcases List.mem_cons.mp h with rfl | h
    · exact w5
    · exact h
theorem sg_gC {y : MethodName} {bytes : ByteArray} {maxL : Nat} {ret : Option FieldType} (w5 : Cond.code y bytes maxL ret ∈ sg_tb) : GoodIn sg_tb (Cond.code y bytes maxL ret :: sg_tb) := by
  refine sg_goodIn (fun w hw => ?_)
  rcases List.mem_cons.mp hw with rfl | h
  · exact w5
  · exact h
section SGC
variable {X : sg_X} {l : Launch} {G : sg_G} {cc : ByteArray} {own : String} {nL d : Nat} {M : sg_M} {cb sb pc : Nat} {L : List (Option Value)} {st : List Value}
variable {y : MethodName} {bytes : ByteArray} {maxL mc ms index : Nat} {ret : Option FieldType} {As rest : List Value}
/-- invokevirtual: the callee returns to the walk, or throws over it -/
theorem sg_callV {b t ci N : Nat} {T : u_T} {fs : List Value} (hC : sg_C X l G cc own nL (d + 1)) (w1 : Cond.methodLink own index y ∈ sg_tb) (w2 : Cond.instanceMethod y ∈ sg_tb) (w3 : Cond.selects y.cls y y ∈ sg_tb) (w4 : Cond.initialized y.cls ∈ sg_tb) (w5 : Cond.code y bytes maxL ret ∈ sg_tb)
    (hy : y.cls ≠ "java/lang/invoke/MethodHandle" ∧ y.cls ≠ "java/lang/invoke/VarHandle" ∧ (parseMethodDescriptor y.desc).map (fun d => d.parameters.length) = some As.length) (h45 : maxL ≤ 45) (hcl : vwCl[ci]? = some (y.cls, T, N)) (hd : decode cc pc = .ok (.invokevirtual index, 3))
    (hM : M b = some (t, .inr (ci, fs))) (hst : st = As.reverse ++ .ref b :: rest) (hr : (rest.map fun v => v.category).sum ≤ 8) (hmc : mc ≤ cb) (hms : ms ≤ sb)
    (hm : sg_Met l G y bytes maxL ret d mc ms (.ref b :: As) M (fun v M' => sg_W X M' (cb - mc) (sb - ms) (pc + 3) L (v.toList ++ rest)) (fun E M' => sg_WX X M' (cb - mc) (sb - ms) pc L rest E)) : sg_W X M cb sb pc L st := by
  obtain ⟨p, l', e, R, s, m, args, below, meth, c, G', Q, nL'⟩ := X
  obtain ⟨⟨rfl, rfl, rfl⟩, hx, hb, hml, hown, hts, hE, hlk, hG, htr, hdf, hdl⟩ := hC
  intro H locs cells slots ls hl hH hS hc hs
  have hrecv : ∃ cellB : Cell, H[b]? = some cellB ∧ cellB.vm.isStatics = false ∧ s.vm.findClass y.cls = some cellB.cls := sg_recv hE.1 hH hM hcl
  have hrun := vx_runV (nL := nL') (As := As) (rest := rest) (b := b) (g := F0 m pc ls st) (Ts := sg_tb) (own := own) (C := y.cls) (index := index) (bytes := bytes) (maxL := maxL) (ret := ret) (n := As.length) (R := R) (args := args) (H := H) (locs := locs) (cells := cells) (slots := slots) (e := e) (below := below) (meth := meth)
    ⟨hx, hb, hml, hown, hts⟩ hm (cwV As.length hts (sg_gV w1 w2 w3 w4 w5) rfl rfl rfl ⟨rfl, hy⟩ ⟨hdf, by show 8 + (maxL + 11) + 64 * d ≤ R.locals; omega⟩)
    ⟨sg_blind, hrecv, fun U hU hW => ⟨rfl, by rw [hU]; exact hH.1, sg_Env.to (locs := locs) hE hW (by rw [hU]; exact hS), by rw [hU]; exact hH⟩⟩ rfl rfl hl.1 hst (lv_room hr) hd ⟨by omega, by omega⟩
  intro T0 hT0 Xs
  rcases hrun T0 hT0 Xs with ⟨v, st₀, t0, T', Lo, h0, X', hL, e1, e2, ⟨v', M', hv, hk, hH', hF⟩, stp⟩ | ⟨q, st₀, t0, T', Lo, E, ce, h0, X', hL, e1, e2, ⟨M', hk, hH', hF⟩, hce, hcv, hcE, stp⟩
  · cases hv
    obtain ⟨k1, k2, k3⟩ := vx_keep h0 e1 hS (fun q _ h => h) (fun q h => h) hL hF
    obtain ⟨t2, a1, b1⟩ := hk T'.heap (locs ++ Lo) (cells + mc) (slots + ms) ls hl (by rw [e1]; exact hH') k3 (by omega) (by omega) T' rfl X'
    exact ⟨t2, stp t2 a1, b1⟩
  · obtain ⟨k1, k2, k3⟩ := vx_keep h0 e1 hS (fun q _ h => h) (fun q h => h) hL hF
    obtain ⟨t2, a1, b1⟩ := hk T'.heap (locs ++ Lo) (cells + mc) (slots + ms) ls q ce hl (by rw [e1]; exact hH') k3 (by omega) (by omega) (by rw [e1]; exact hce) hcv hcE T' rfl X'
    exact ⟨t2, stp.trans a1, b1⟩
/-- invokestatic -/
theorem sg_callS (hC : sg_C X l G cc own nL (d + 1)) (w1 : Cond.methodLink own index y ∈ sg_tb) (w2 : Cond.static y ∈ sg_tb) (w4 : Cond.initialized y.cls ∈ sg_tb) (w5 : Cond.code y bytes maxL ret ∈ sg_tb)
    (hy : y.cls ≠ "java/lang/invoke/MethodHandle" ∧ y.cls ≠ "java/lang/invoke/VarHandle" ∧ (parseMethodDescriptor y.desc).map (fun d => d.parameters.length) = some As.length) (h45 : maxL ≤ 45) (hd : decode cc pc = .ok (.invokestatic index, 3))
    (hst : st = As.reverse ++ rest) (hr : (rest.map fun v => v.category).sum ≤ 8) (hmc : mc ≤ cb) (hms : ms ≤ sb)
    (hm : sg_Met l G y bytes maxL ret d mc ms As M (fun v M' => sg_W X M' (cb - mc) (sb - ms) (pc + 3) L (v.toList ++ rest)) (fun E M' => sg_WX X M' (cb - mc) (sb - ms) pc L rest E)) : sg_W X M cb sb pc L st := by
  obtain ⟨p, l', e, R, s, m, args, below, meth, c, G', Q, nL'⟩ := X
  obtain ⟨⟨rfl, rfl, rfl⟩, hx, hb, hml, hown, hts, hE, hlk, hG, htr, hdf, hdl⟩ := hC
  intro H locs cells slots ls hl hH hS hc hs
  have hrun := vx_runS (nL := nL') (As := As) (rest := rest) (g := F0 m pc ls st) (Ts := sg_tb) (own := own) (index := index) (bytes := bytes) (maxL := maxL) (ret := ret) (n := As.length) (R := R) (args := args) (H := H) (locs := locs) (cells := cells) (slots := slots) (e := e) (below := below) (meth := meth)
    ⟨hx, hb, hml, hown, hts⟩ hm ⟨callB_of As.length hts (sg_gC w5) rfl rfl rfl (hts _ w4) (hts _ w1) hy ⟨hdf, by show 8 + (maxL + 11) + 64 * d ≤ R.locals; omega⟩, hts _ w2⟩
    ⟨sg_blind, fun U hU hW => ⟨rfl, by rw [hU]; exact hH.1, sg_Env.to (locs := locs) hE hW (by rw [hU]; exact hS), by rw [hU]; exact hH⟩⟩ rfl rfl hl.1 hst (lv_room hr) hd ⟨by omega, by omega⟩
  intro T0 hT0 Xs
  rcases hrun T0 hT0 Xs with ⟨v, st₀, t0, T', Lo, h0, X', hL, e1, e2, ⟨v', M', hv, hk, hH', hF⟩, stp⟩ | ⟨q, st₀, t0, T', Lo, E, ce, h0, X', hL, e1, e2, ⟨M', hk, hH', hF⟩, hce, hcv, hcE, stp⟩
  · cases hv
    obtain ⟨k1, k2, k3⟩ := vx_keep h0 e1 hS (fun q _ h => h) (fun q h => h) hL hF
    obtain ⟨t2, a1, b1⟩ := hk T'.heap (locs ++ Lo) (cells + mc) (slots + ms) ls hl (by rw [e1]; exact hH') k3 (by omega) (by omega) T' rfl X'
    exact ⟨t2, stp t2 a1, b1⟩
  · obtain ⟨k1, k2, k3⟩ := vx_keep h0 e1 hS (fun q _ h => h) (fun q h => h) hL hF
    obtain ⟨t2, a1, b1⟩ := hk T'.heap (locs ++ Lo) (cells + mc) (slots + ms) ls q ce hl (by rw [e1]; exact hH') k3 (by omega) (by omega) (by rw [e1]; exact hce) hcv hcE T' rfl X'
    exact ⟨t2, stp.trans a1, b1⟩
/-- an exception that the walk's method lets go on -/
theorem sg_prop {y0 : MethodName} {kr : Option Value → sg_M → Prop} {kx : String → sg_M → Prop} {r0 : Option FieldType} {E : String} (hC : sg_C X l G cc own nL d) (hR : sg_R X y0 kr kx r0) (h : kx E M) : sg_WX X M cb sb pc L st E := by
  obtain ⟨p, l', e, R, s, m, args, below, meth, c, G', Q, nL'⟩ := X
  obtain ⟨⟨rfl, rfl, rfl⟩, hx, hb, hml, hown, hts, hE, hlk, hG, htr, hdf, hdl⟩ := hC
  obtain ⟨rfl, hr, hnm, hxt⟩ := hR
  intro H locs cells slots ls q ce hl hH hS hc hs hce hcv hcE
  exact vx_out (fun x hx9 => (hxt x hx9).elim) hlk hce hcv hcE (fun t ht hW => ⟨M, h, by rw [ht]; exact hH, hS.F ht⟩) hS.2.2 (by omega) (by omega)
/-- new, of a class of the tables -/
theorem sg_new {C : String} {T : u_T} {N ci : Nat} (t : Nat) (fs : List Value) (hC : sg_C X l G cc own nL d) (hcl : vwCl[ci]? = some (C, T, N)) (hin : ∀ w ∈ u_ws C T N, w ∈ sg_tb) (ty0 : Nat → FieldType) (hty : ∀ k, k < N → parseFieldDescriptor (T k).2.2.1 = some (ty0 k)) (w1 : Cond.classLink own index C ∈ sg_tb) (w2 : Cond.instantiable C N ∈ sg_tb) (w3 : Cond.initialized C ∈ sg_tb) (hfs : ∀ j, j < N → defaultValue (ty0 j) = vp_V fs j) (hd : decode cc pc = .ok (.new index, 3)) (ht : t ≠ 0) (h1 : 1 ≤ cb) (h2 : N ≤ sb)
    (k : ∀ q : Nat, M q = none → sg_W X (sg_up M q (t, .inr (ci, fs))) (cb - 1) (sb - N) (pc + 3) L (.ref q :: st)) : sg_W X M cb sb pc L st := by
  obtain ⟨p, l', e, R, s, m, args, below, meth, c, G', Q, nL'⟩ := X
  obtain ⟨⟨rfl, rfl, rfl⟩, hx, hb, hml, hown, hts, hE, hlk, hG, htr, hdf, hdl⟩ := hC
  intro H locs cells slots ls hl hH hS hc hs
  obtain ⟨hP, hD⟩ := sg_out hH
  refine va_new (ci := ci) (fs := fs) hx hb hts hin ty0 hty hown (hts _ w1) (hts _ w2) (hts _ w3) hE.1 hP hD hS (fun q hq => Nat.le_trans hG hq) hcl hfs (by omega) (by omega) hd (fun q H1 hP1 hD1 hS1 => ?_)
  obtain ⟨hn, hk⟩ := sg_push hH (e' := .inr (ci, fs)) hG hS hS1 hP1 hD1
  exact k q hn H1 locs (cells + 1) (slots + N) ls hl (hk t ht) hS1 (by omega) (by omega)
end SGC
