/-! ===== what a helper of the law catches ===== -/
section LCATCH
variable {e : Env} {s : State} {f : JFrame} {a : Addr}
/-- a row of the table whose class is linked: it takes the exception, or the search goes on; the link is noted -/
theorem lc_row {x : ExceptionTableEntry} {t : List ExceptionTableEntry} {k : ClassId} {ce : Cell} (hx : covers x f.pc = true) (h0 : x.catchType ≠ 0) (hl : s.vm.ClassLinks e.platform f.method.cls x.catchType k)
    (hcell : s.heap[a]? = some ce) (hobj : ∀ j, ce.vm ≠ .statics j) (hk : ∃ j, s.vm.classes[ce.cls]? = some j) (hc : ∃ j, s.vm.classes[k]? = some j) (Q : Handler → Pre) (E : CtlPost) (d : Bool) (acts : List Action) :
    wp (findHandler.go f a (x :: t)) Q E e d acts s ↔ (if s.vm.assignable ce.cls k = true then Q (.found x.handlerPc) d acts (s.setVm (s.vm.noted f.method.cls x.catchType (.cls k))) else wp (findHandler.go f a t) Q E e d acts (s.setVm (s.vm.noted f.method.cls x.catchType (.cls k)))) := by
  have hr := (resolveClass_links e.toSetting hl).op (op := VmOp.resolveClass f.method.cls x.catchType) rfl
  have hal : s.vm.Alike (s.vm.noted f.method.cls x.catchType (.cls k)) := (Vm.Alike.refl s.vm).noted _ _ _
  obtain ⟨j1, hj1⟩ := hk
  obtain ⟨j2, hj2⟩ := hc
  obtain ⟨i1, hi1, -⟩ := hal.2.2 _ _ hj1
  obtain ⟨i2, hi2, -⟩ := hal.2.2 _ _ hj2
  have hcv : (decide (x.startPc ≤ f.pc) && decide (f.pc < x.endPc)) = true := hx
  by_cases hf : s.vm.assignable ce.cls k = true
  · have hf2 : (s.vm.noted f.method.cls x.catchType (.cls k)).assignable ce.cls k = true := by rw [hal.assignable]; exact hf
    rw [if_pos hf]
    simp [findHandler.go, hcv, h0, hr.1, hr.2, hcell, hobj, hi1, hi2, hf2, VmOp.dirties, VmOp.acts]
  · have hf2 : (s.vm.noted f.method.cls x.catchType (.cls k)).assignable ce.cls k = false := by rw [hal.assignable]; simpa using hf
    rw [if_neg hf]
    simp [findHandler.go, hcv, h0, hr.1, hr.2, hcell, hobj, hi1, hi2, hf2, VmOp.dirties, VmOp.acts]
end LCATCH
/-- the rows of the table, as the statement's word has them -/
def lc_row4 (x : ExceptionTableEntry) : Nat × Nat × Nat × Nat := (x.startPc, x.endPc, x.handlerPc, x.catchType)
section LCS
variable {p : Program} {l : Launch} {e : Env} {R : Room} {s : State} {m : MethodId} {args : Array Value} {below : List Frame} {meth : Method} {c : Code} {T : State} {locs : List Loc} {cells slots : Nat}
/-- found at pc, the tables warmed -/
def lc_F (e : Env) (S : State) (f : JFrame) (a : Addr) (pc : Nat) (vm' : Vm) : Prop := ∀ (Q : Handler → Pre) (E : CtlPost) (d : Bool) (acts : List Action), wp (findHandler f a) Q E e d acts S ↔ Q (.found pc) d acts (S.setVm vm')
theorem lc_steps (X : Stand p l e R s m args below meth c T locs cells slots) {a : Addr} {g : JFrame} (hg : g.method = m) {pc : Nat} {vm' : Vm} (hF : lc_F e ((T.setTop g).pushFrame (.throwing a)) g a pc vm') :
    Steps p.tables e below ((T.setTop g).pushFrame (.throwing a)) ((T.setVm vm').setTop { g with pc := pc, stack := [.ref a] }) := by
  subst hg
  have hst : (stepThrowing e ((T.setTop g).pushFrame (.throwing a)) a (.java g :: below)).Is ((((T.setTop g).pushFrame (.throwing a)).setVm vm').setFrames (.java { g with pc := pc, stack := [.ref a] } :: below)) [] := by
    simp only [stepThrowing, searchFrame, vmDo]
    generalize hr : Sem.go _ e false [] ((T.setTop g).pushFrame (.throwing a)) = res
    obtain ⟨as, rfl, ha⟩ := Sem.eq_ok_of hr (a := Handler.found pc) (s' := ((T.setTop g).pushFrame (.throwing a)).setVm vm') (acts' := []) (by simp [hF _ _ _ _])
    exact ⟨rfl, ha⟩
  obtain ⟨hgo, hw⟩ := X.here.throwing a
  refine Steps.head hgo hw ?_
  obtain ⟨g₁, hfr⟩ := X.frames_eq
  have htl : T.frames.tail = below := by rw [hfr]; rfl
  rw [stepThread_throwing (frames_entered X.here.top _), htl, hst.1]
  have e1 : ((((T.setTop g).pushFrame (.throwing a)).setVm vm').setFrames (.java { g with pc := pc, stack := [.ref a] } :: below)) = (T.setVm vm').setTop { g with pc := pc, stack := [.ref a] } := by
    have hfr' : (T.setVm vm').frames = .java g₁ :: below := hfr
    have hcm : ∀ (u : State) (F : List Frame), (u.setFrames F).setVm vm' = (u.setVm vm').setFrames F := fun _ _ => rfl
    rw [State.setTop_of_frames _ hfr', State.pushFrame, State.setTop_of_frames _ hfr, hcm, hcm, State.setFrames_setFrames, State.setFrames_setFrames]
  rw [e1]
  exact Steps.refl _
end LCS

/-! the class's exceptions in a table of one row, or of two -/
section LCW
variable {p : Program} {l : Launch} {e : Env} {R : Room} {s : State} {m : MethodId} {args : Array Value} {below : List Frame} {meth : Method} {c : Code} {H : Heap} {locs : List Loc} {cells slots pc : Nat} {Q : State → Prop} {ls : Array Slot} {rest : List Value}
/-- how the search goes through the table: rows that don't take it, then one that does -/
def lc_go (own : String) (E : String) (args : Array Value) (s : State) (pc : Nat) : List (Nat × Nat × Nat × Nat) → Nat → Prop
  | [], _ => False
  | (sp, ep, hp, ct) :: t, h => sp ≤ pc ∧ pc < ep ∧ ct ≠ 0 ∧ ∃ nm, (Cond.classLink own ct nm).before args s = true ∧ ((h = hp ∧ (Cond.castable E nm).before args s = true) ∨ (va_Nc E nm s ∧ lc_go own E args s pc t h))
theorem lc_find {own E : String} {ce : Cell} {g : JFrame} {a : Addr} (hown : s.vm.findClass own = some g.method.cls) (hpl : e.platform.magicAccessors = ({} : Platform).magicAccessors) (hcl : s.vm.findClass E = some ce.cls) (hobj : ∀ j, ce.vm ≠ .statics j) :
    ∀ (xs : List ExceptionTableEntry) (h : Nat) (S : State), s.WarmedH S.vm → S.heap[a]? = some ce → lc_go own E args s g.pc (xs.map lc_row4) h →
      ∃ vm', s.WarmedH vm' ∧ ∀ (Q : Handler → Pre) (E : CtlPost) (d : Bool) (acts : List Action), wp (findHandler.go g a xs) Q E e d acts S ↔ Q (.found h) d acts (S.setVm vm') := by
  intro xs
  induction xs with
  | nil => intro h S _ _ hg; exact hg.elim
  | cons x xs ih =>
    intro h S hW hcell hg
    obtain ⟨g1, g2, g3, nm, g4, g5⟩ := hg
    obtain ⟨k, hk, hlk⟩ := Cond.classLink_spec hown g4 e.platform hpl
    have hcov : covers x g.pc = true := by simp only [covers, Bool.and_eq_true, decide_eq_true_eq]; exact ⟨g1, g2⟩
    obtain ⟨j1, hj1⟩ := Vm.classAt_of_findClass hcl
    obtain ⟨j1', hj1', -⟩ := hW.alike.2.2 _ _ hj1
    obtain ⟨j2, hj2⟩ := Vm.classAt_of_findClass hk
    obtain ⟨j2', hj2', -⟩ := hW.alike.2.2 _ _ hj2
    have hrow := fun Q E d acts => lc_row (e := e) (s := S) (f := g) (a := a) (x := x) (t := xs) hcov g3 (hW.classLinks hlk) hcell hobj ⟨j1', hj1'⟩ ⟨j2', hj2'⟩ Q E d acts
    obtain ⟨dk, _, _, kt, hd, _, _, _, _, hkt, _, hopen⟩ := hlk.here
    have hW2 : s.WarmedH (S.vm.noted g.method.cls x.catchType (.cls k)) := hW.noted hd hopen (State.rightAt_cls hlk)
    rcases g5 with ⟨rfl, hcast⟩ | ⟨hno, hgo⟩
    · obtain ⟨c3, c4, hc3, hc4, hasg⟩ := Cond.castable_spec hcast
      cases Option.some.inj (hc3.symm.trans hcl)
      cases Option.some.inj (hc4.symm.trans hk)
      refine ⟨_, hW2, fun Q E d acts => ?_⟩
      rw [hrow, if_pos (by rw [hW.alike.assignable]; exact hasg)]
    · obtain ⟨a8, b8, h1, h2, h3⟩ := hno
      cases Option.some.inj (h1.symm.trans hcl)
      cases Option.some.inj (h2.symm.trans hk)
      obtain ⟨vm', hv1, hv2⟩ := ih h (S.setVm (S.vm.noted g.method.cls x.catchType (.cls k))) hW2 hcell hgo
      refine ⟨vm', hv1, fun Q E d acts => ?_⟩
      rw [hrow, if_neg (by rw [hW.alike.assignable, h3]; decide)]
      exact hv2 Q E d acts
theorem lc_catch {own E : String} {ce : Cell} {q : Addr} {h : Nat} {hh : List (Nat × Nat × Nat × Nat)} (hown : s.vm.findClass own = some m.cls) (htb : c.exceptionTable.toList.map lc_row4 = hh) (hgo : lc_go own E args s pc hh h) (hcell : H[q]? = some ce) (hv : ce.vm = .none) (hcl : s.vm.findClass E = some ce.cls)
    (kk : W p l e R s m args below meth c H locs cells slots Q (F0 m h ls [.ref q])) : vx_W p l e R s m args below meth c H locs cells slots Q (F0 m pc ls rest) q := by
  intro T hT X
  have hpl : e.platform.magicAccessors = ({} : Platform).magicAccessors := by rw [X.admits.platform]
  have hcellT : ((T.setTop (F0 m pc ls rest)).pushFrame (.throwing q)).heap[q]? = some ce := by
    show T.heap[q]? = some ce
    rw [hT]; exact hcell
  obtain ⟨vm', hw, hf⟩ := lc_find (e := e) (args := args) (g := F0 m pc ls rest) (a := q) hown hpl hcl (fun j hj => by rw [hv] at hj; cases hj) c.exceptionTable.toList h ((T.setTop (F0 m pc ls rest)).pushFrame (.throwing q)) X.warmed hcellT (by rw [htb]; exact hgo)
  have hF : lc_F e ((T.setTop (F0 m pc ls rest)).pushFrame (.throwing q)) (F0 m pc ls rest) q h vm' := fun Q E d acts => by
    rw [W.findHandler_eq (code := c) X.method' X.code]
    exact hf Q E d acts
  have hst := lc_steps X (g := F0 m pc ls rest) rfl hF
  obtain ⟨t, a1, b1⟩ := kk (T.setVm vm') hT (X.noted hw)
  exact ⟨t, hst.trans a1, b1⟩
end LCW
