/-! ===== A LOGIC OVER THE MACHINE: the heap as a map from addresses to what is known there ===== -/
abbrev sg_E : Type := (FieldType × vp_A) ⊕ (Nat × List Value)
abbrev sg_M : Type := Nat → Option (Nat × sg_E)
/-- the base address (what lies below it stays), the classes' numbers and slots, the array classes, named addresses -/
abbrev sg_G : Type := Nat × va_G × (FieldType → ClassId) × (Nat → Nat)
def sg_tr (G : sg_G) (e : sg_E) : va_E := match e with
  | .inl x => .inl (G.2.2.1 x.1, x.2)
  | .inr o => .inr o
def sg_A (G : sg_G) : Nat → Prop := fun q => G.1 ≤ q
/-- an array class of ty: the one by its name, or the class of an array that lay there before -/
def sg_okc (G : sg_G) (ty : FieldType) (cl : ClassId) : Prop := cl = G.2.2.1 ty ∨ (ty = .int ∧ cl = G.2.2.2 3) ∨ (ty = .byte ∧ (cl = G.2.2.2 4 ∨ cl = G.2.2.2 5))
/-- what is known of any cell: its class and its slots (of a cell that lay there before, no more than that) -/
def sg_old (G : sg_G) (a : Nat) (e : sg_E) (H : Heap) : Prop := ∃ cell : Cell, H[a]? = some cell ∧ cell.vm.isStatics = false ∧ cell.vm ≠ .unknown ∧ match e with
  | .inl x => sg_okc G x.1 cell.cls ∧ x.2.1 ≤ cell.slots.size ∧ cell.slots.size.toInt32 = nI x.2.1 ∧ ∀ j, j < x.2.1 → cell.slots[j]? = (vp_cell (G.2.2.1 x.1) x.2).slots[j]?
  | .inr o => ∃ r : vw_C, vwCl[o.1]? = some r ∧ cell.cls = G.2.1.1 o.1 ∧ ∀ k, k < r.2.2 → cell.slots[G.2.1.2 o.1 k]? = some (vp_V o.2 k)
def sg_at (G : sg_G) (a t : Nat) (e : sg_E) (H : Heap) : Prop := (t ≠ 0 → va_at G.2.1 vwCl (a, sg_tr G e) H) ∧ sg_old G a e H
theorem sg_old.of {G : sg_G} {a : Nat} {e : sg_E} {H : Heap} (h : va_at G.2.1 vwCl (a, sg_tr G e) H) : sg_old G a e H := by
  cases e with
  | inl x =>
    obtain ⟨ty, n, f | f | f | f | f⟩ := x
    all_goals exact ⟨_, h, rfl, (fun z => by cases z), Or.inl rfl, Nat.le_of_eq (arrV_size _ _ _).symm, congrArg Nat.toInt32 (arrV_size _ _ _), fun _ _ => rfl⟩
  | inr o =>
    obtain ⟨r, h1, cell, q1, q2, q3, q4⟩ := h
    exact ⟨cell, q1, (by rw [q3]; rfl), (by rw [q3]; exact fun z => by cases z), r, h1, q2, q4⟩
theorem sg_at.of {G : sg_G} {a t : Nat} {e : sg_E} {H : Heap} (h : va_at G.2.1 vwCl (a, sg_tr G e) H) : sg_at G a t e H := ⟨fun _ => h, sg_old.of h⟩
theorem sg_at.lt {G : sg_G} {a t : Nat} {e : sg_E} {H : Heap} (h : sg_at G a t e H) : a < H.size := by
  obtain ⟨cell, q1, -⟩ := h.2
  exact (Array.getElem?_eq_some_iff.mp q1).1
theorem sg_at.kept {G : sg_G} {a t : Nat} {e : sg_E} {H H1 : Heap} (h : sg_at G a t e H) (hq : H1[a]? = H[a]?) : sg_at G a t e H1 := by
  obtain ⟨cell, q1, q2⟩ := h.2
  exact ⟨fun h0 => (h.1 h0).kept hq, cell, hq.trans q1, q2⟩
def sg_H (G : sg_G) (M : sg_M) (H : Heap) : Prop :=
  G.1 ≤ H.size ∧ ∀ (a t : Nat) (e : sg_E), M a = some (t, e) → sg_at G a t e H ∧ (t = 0 ↔ a < G.1)
def sg_up (M : sg_M) (a : Nat) (x : Nat × sg_E) : sg_M := fun b => if b = a then some x else M b
theorem sg_up_s (M : sg_M) (a : Nat) (x : Nat × sg_E) : sg_up M a x a = some x := by simp [sg_up]
theorem sg_up_n {M : sg_M} {a b : Nat} {x : Nat × sg_E} (h : b ≠ a) : sg_up M a x b = M b := by simp [sg_up, h]
def sg_cellOf (G : sg_G) (M : sg_M) (b : Nat) : Option (Nat × va_E) := match M b with
  | some x => if G.1 ≤ b then some (b, sg_tr G x.2) else none
  | none => none
def sg_ws (G : sg_G) (M : sg_M) (n : Nat) : va_W := (List.range n).filterMap (sg_cellOf G M)
theorem sg_cellOf_some {G : sg_G} {M : sg_M} {b : Nat} {q : Nat × va_E} (h : sg_cellOf G M b = some q) : q.1 = b ∧ G.1 ≤ b ∧ ∃ t e, M b = some (t, e) ∧ q.2 = sg_tr G e := by
  unfold sg_cellOf at h
  cases hm : M b with
  | none => rw [hm] at h; cases h
  | some x =>
    rw [hm] at h
    obtain ⟨t, e⟩ := x
    by_cases hg : G.1 ≤ b
    · simp only [hg, if_true] at h
      cases h
      exact ⟨rfl, hg, t, e, rfl, rfl⟩
    · simp only [hg, if_false] at h
      cases h
theorem sg_ws_in {G : sg_G} {M : sg_M} {n a t : Nat} {e : sg_E} (h : M a = some (t, e)) (ha : G.1 ≤ a) (hn : a < n) : ∃ k : Nat, (sg_ws G M n)[k]? = some (a, sg_tr G e) := by
  refine List.mem_iff_getElem?.mp (List.mem_filterMap.mpr ⟨a, List.mem_range.mpr hn, ?_⟩)
  simp [sg_cellOf, h, ha]
theorem sg_ws_of {G : sg_G} {M : sg_M} {n k : Nat} {q : Nat × va_E} (h : (sg_ws G M n)[k]? = some q) : G.1 ≤ q.1 ∧ ∃ t e, M q.1 = some (t, e) ∧ q.2 = sg_tr G e := by
  obtain ⟨b, -, hb⟩ := List.mem_filterMap.mp (List.mem_of_getElem? h)
  obtain ⟨h1, h2, t, e, h3, h4⟩ := sg_cellOf_some hb
  rw [h1]
  exact ⟨h2, t, e, h3, h4⟩
theorem sg_ws_pw (G : sg_G) (M : sg_M) (n : Nat) : (sg_ws G M n).Pairwise (fun x y => x.1 < y.1) := by
  unfold sg_ws
  rw [List.pairwise_filterMap]
  refine List.Pairwise.imp ?_ (List.pairwise_lt_range (n := n))
  intro a b hab x hx y hy
  rw [(sg_cellOf_some hx).1, (sg_cellOf_some hy).1]
  exact hab
theorem sg_ws_nd {G : sg_G} {M : sg_M} {n i j : Nat} {p q : Nat × va_E} (hi : (sg_ws G M n)[i]? = some p) (hj : (sg_ws G M n)[j]? = some q) (h : p.1 = q.1) : i = j := by
  have hp := List.pairwise_iff_getElem.mp (sg_ws_pw G M n)
  obtain ⟨hi1, hi2⟩ := List.getElem?_eq_some_iff.mp hi
  obtain ⟨hj1, hj2⟩ := List.getElem?_eq_some_iff.mp hj
  rcases Nat.lt_trichotomy i j with c | c | c
  · have := hp i j hi1 hj1 c
    rw [hi2, hj2] at this
    omega
  · exact c
  · have := hp j i hj1 hi1 c
    rw [hi2, hj2] at this
    omega
theorem sg_out {G : sg_G} {M : sg_M} {H : Heap} (hH : sg_H G M H) : va_P G.2.1 vwCl (sg_ws G M H.size) H ∧ va_D (sg_A G) (sg_ws G M H.size) := by
  refine ⟨fun k q hk => ?_, fun i j p q hi hj h => sg_ws_nd hi hj h, fun k q hk => (sg_ws_of hk).1⟩
  obtain ⟨-, t, e, h1, h2⟩ := sg_ws_of hk
  have h3 := (hH.2 q.1 t e h1).1.1 (fun h0 => absurd ((hH.2 q.1 t e h1).2.mp h0) (Nat.not_lt.mpr (sg_ws_of hk).1))
  rw [← h2] at h3
  exact h3
theorem sg_recv {G : sg_G} {M : sg_M} {H : Heap} {s : State} {tys : List (ClassId × FieldType)} (hK : va_K G.2.1 vwCl tys s) (hH : sg_H G M H) {a t ci : Nat} {fs : List Value} {q : vw_C} (hM : M a = some (t, .inr (ci, fs))) (hc : vwCl[ci]? = some q) : ∃ cell : Cell, H[a]? = some cell ∧ cell.vm.isStatics = false ∧ s.vm.findClass q.1 = some cell.cls := by
  obtain ⟨cell, q1, q2, q3, r, h1, q4, q5⟩ := (hH.2 _ _ _ hM).1.2
  exact ⟨cell, q1, q2, (by rw [q4]; exact (hK.1 ci q hc).2.1)⟩
theorem sg_oldA {G : sg_G} {M : sg_M} {H : Heap} (hH : sg_H G M H) {a t : Nat} {ty : FieldType} {x : vp_A} (hM : M a = some (t, .inl (ty, x))) : ∃ cell : Cell, H[a]? = some cell ∧ cell.vm.isStatics = false ∧ cell.vm ≠ .unknown ∧ sg_okc G ty cell.cls ∧ x.1 ≤ cell.slots.size ∧ cell.slots.size.toInt32 = nI x.1 ∧ ∀ j, j < x.1 → cell.slots[j]? = (vp_cell (G.2.2.1 ty) x).slots[j]? := (hH.2 _ _ _ hM).1.2
theorem sg_bnd {n z : Nat} {i : Int32} (hz : n ≤ z) (hi : vp_in i n) : ¬ (i < 0 ∨ z ≤ i.toNatClampNeg) := by
  intro q
  rcases q with q | q
  · exact hi (Or.inl q)
  · exact hi (Or.inr (Nat.le_trans hz q))
/-- a field of any cell -/
theorem sg_getW {G : sg_G} {M : sg_M} {p : Program} {l : Launch} {e : Env} {R : Room} {s : State} {m : MethodId} {args : Array Value} {below : List Frame} {meth : Method} {c : Code} {H : Heap} {locs : List Loc} {cells slots : Nat} {Q : State → Prop} {cc : ByteArray} {pc : Nat} {ls : Array Slot} {rest : List Value} {a t : Nat} {tys : List (ClassId × FieldType)} (hexec : p.tables.exec = Jvm.exec) (hb : c.code = cc) {own ref C : String} {T : u_T} {N ci index : Nat} {Ts : List Cond} (hts : ∀ w ∈ Ts, w.before args s = true) (hin : ∀ w ∈ u_ws C T N, w ∈ Ts) (hown : s.vm.findClass own = some m.cls) (hK : va_K G.2.1 vwCl tys s) (hH : sg_H G M H) {fs : List Value} (hM : M a = some (t, .inr (ci, fs))) (hc : vwCl[ci]? = some (C, T, N)) (k : Nat) (hk : k < N) (hlink : (Cond.fieldLink own index ref (T k).2.1 (T k).2.2.1).before args s = true) (hsame : ∀ x, s.fieldFound? (T k).1 (T k).2.1 (T k).2.2.1 = some x → s.fieldFound? ref (T k).2.1 (T k).2.2.1 = some x) {v : Value} (hv : fs[k]? = some v) (hdg : decode cc pc = .ok (.getfield index, 3))
    (kk : W p l e R s m args below meth c H locs cells slots Q (F0 m (pc + 3) ls (v :: rest))) : W p l e R s m args below meth c H locs cells slots Q (F0 m pc ls (.ref a :: rest)) := by
  obtain ⟨cell, q1, q2, q3, r, h1, q4, q5⟩ := (hH.2 _ _ _ hM).1.2
  have hr : r = (C, T, N) := Option.some.inj (h1.symm.trans hc)
  subst hr
  obtain ⟨hS, hfc, kC, hkC, hkind⟩ := hK.1 ci _ hc
  obtain ⟨cf, kf, fi, f, hi, hsl⟩ := hS k hk
  refine W.getf hexec hb hown hlink (hsame _ hi) (u_facts hfc hkC (u_lays hts hin hk) hi).1 q1 q3 (v := v) ?_ rfl rfl hdg kk
  rw [hsl, q5 k hk]
  simp [vp_V, hv]
theorem sg_ge {G : sg_G} {M : sg_M} {H : Heap} (hH : sg_H G M H) {a t : Nat} {e : sg_E} (hM : M a = some (t, e)) (ht : t ≠ 0) : G.1 ≤ a := by
  have := (hH.2 a t e hM).2
  rcases Nat.lt_or_ge a G.1 with c | c
  · exact absurd (this.mpr c) ht
  · exact c
theorem sg_set {G : sg_G} {M : sg_M} {H : Heap} (hH : sg_H G M H) {k a t : Nat} {e e' : sg_E} (hk : (sg_ws G M H.size)[k]? = some (a, sg_tr G e)) (hM : M a = some (t, e)) {H0 H1 : Heap} {locs locs1 : List Loc} (hb : G.1 ≤ H0.size)
    (hS : va_S (sg_A G) H0 H locs) (hS1 : va_S (sg_A G) H0 H1 locs1) (hP : va_P G.2.1 vwCl ((sg_ws G M H.size).set k (a, sg_tr G e')) H1) : sg_H G (sg_up M a (t, e')) H1 := by
  refine ⟨Nat.le_trans hb hS1.1, fun b u x hx => ?_⟩
  by_cases hba : b = a
  · subst hba
    rw [sg_up_s] at hx
    cases hx
    have hkl : k < (sg_ws G M H.size).length := (List.getElem?_eq_some_iff.mp hk).1
    exact ⟨sg_at.of (hP k (b, sg_tr G e') (by rw [List.getElem?_set_self hkl])), (hH.2 b t e hM).2⟩
  · rw [sg_up_n hba] at hx
    obtain ⟨h1, h2⟩ := hH.2 b u x hx
    refine ⟨?_, h2⟩
    by_cases hg : G.1 ≤ b
    · obtain ⟨j, hj⟩ := sg_ws_in hx hg h1.lt
      have hjk : k ≠ j := fun e9 => by
        subst e9
        rw [hk] at hj
        exact hba (congrArg Prod.fst (Option.some.inj hj)).symm
      exact sg_at.of (hP j _ (by rw [List.getElem?_set_ne hjk]; exact hj))
    · have e1 := hS1.2.1 b (by omega) hg
      have e2 := hS.2.1 b (by omega) hg
      exact h1.kept (e1.trans e2.symm)
theorem sg_push {G : sg_G} {M : sg_M} {H : Heap} (hH : sg_H G M H) {q : Nat} {e' : sg_E} {H0 H1 : Heap} {locs locs1 : List Loc} (hb : G.1 ≤ H0.size)
    (hS : va_S (sg_A G) H0 H locs) (hS1 : va_S (sg_A G) H0 H1 locs1) (hP : va_P G.2.1 vwCl (sg_ws G M H.size ++ [(q, sg_tr G e')]) H1) (hD : va_D (sg_A G) (sg_ws G M H.size ++ [(q, sg_tr G e')])) :
    M q = none ∧ ∀ t : Nat, t ≠ 0 → sg_H G (sg_up M q (t, e')) H1 := by
  have hlast : (sg_ws G M H.size ++ [(q, sg_tr G e')])[(sg_ws G M H.size).length]? = some (q, sg_tr G e') := by simp
  have hq : G.1 ≤ q := hD.2 _ _ hlast
  refine ⟨?_, fun t ht => ⟨Nat.le_trans hb hS1.1, fun b u x hx => ?_⟩⟩
  · cases hm : M q with
    | none => rfl
    | some x =>
      obtain ⟨t, e⟩ := x
      obtain ⟨h1, -⟩ := hH.2 q t e hm
      obtain ⟨j, hj⟩ := sg_ws_in hm hq h1.lt
      have hjl := (List.getElem?_eq_some_iff.mp hj).1
      have := hD.1 j (sg_ws G M H.size).length (q, sg_tr G e) (q, sg_tr G e') (by rw [List.getElem?_append_left hjl]; exact hj) hlast rfl
      omega
  · by_cases hba : b = q
    · subst hba
      rw [sg_up_s] at hx
      cases hx
      exact ⟨sg_at.of (hP _ _ hlast), ⟨fun h => absurd h ht, fun h => absurd h (by omega)⟩⟩
    · rw [sg_up_n hba] at hx
      obtain ⟨h1, h2⟩ := hH.2 b u x hx
      refine ⟨?_, h2⟩
      by_cases hg : G.1 ≤ b
      · obtain ⟨j, hj⟩ := sg_ws_in hx hg h1.lt
        have hjl := (List.getElem?_eq_some_iff.mp hj).1
        exact sg_at.of (hP j _ (by rw [List.getElem?_append_left hjl]; exact hj))
      · have e1 := hS1.2.1 b (by omega) hg
        have e2 := hS.2.1 b (by omega) hg
        exact h1.kept (e1.trans e2.symm)
/-! the locals by places -/
def sg_lv : Nat → List (Option Value) → List (Nat × Value)
  | _, [] => []
  | i, none :: t => sg_lv (i + 1) t
  | i, some v :: t => if v.category = 1 then (i, v) :: sg_lv (i + 1) t else sg_lv (i + 1) t
theorem sg_lv_mem : ∀ (L : List (Option Value)) (i j : Nat) (w : Value), (j, w) ∈ sg_lv i L ↔ ∃ k : Nat, j = i + k ∧ L[k]? = some (some w) ∧ w.category = 1
  | [], i, j, w => by simp [sg_lv]
  | none :: t, i, j, w => by
    rw [sg_lv, sg_lv_mem t (i + 1) j w]
    constructor
    · rintro ⟨k, h1, h2, h3⟩
      exact ⟨k + 1, by omega, by simpa using h2, h3⟩
    · rintro ⟨k, h1, h2, h3⟩
      cases k with
      | zero => simp at h2
      | succ k => exact ⟨k, by omega, by simpa using h2, h3⟩
  | some v :: t, i, j, w => by
    have ih := sg_lv_mem t (i + 1) j w
    rw [sg_lv]
    by_cases hv : v.category = 1
    · rw [if_pos hv, List.mem_cons, ih]
      constructor
      · rintro (h | ⟨k, h1, h2, h3⟩)
        · cases h
          exact ⟨0, rfl, rfl, hv⟩
        · exact ⟨k + 1, by omega, by simpa using h2, h3⟩
      · rintro ⟨k, h1, h2, h3⟩
        cases k with
        | zero =>
          simp at h2
          left
          rw [h2, h1]
          rfl
        | succ k => exact Or.inr ⟨k, by omega, by simpa using h2, h3⟩
    · rw [if_neg hv, ih]
      constructor
      · rintro ⟨k, h1, h2, h3⟩
        exact ⟨k + 1, by omega, by simpa using h2, h3⟩
      · rintro ⟨k, h1, h2, h3⟩
        cases k with
        | zero =>
          simp at h2
          rw [h2] at hv
          exact absurd h3 hv
        | succ k => exact ⟨k, by omega, by simpa using h2, h3⟩
theorem sg_lv_get {ls : Array Slot} {nL : Nat} {L : List (Option Value)} (h : lv_has ls nL (sg_lv 0 L)) {i : Nat} {v : Value} (hL : L[i]? = some (some v)) (hv : v.category = 1) : ls[i]? = some (.val v) :=
  h.2.2 (i, v) ((sg_lv_mem L 0 i v).mpr ⟨i, by omega, hL, hv⟩)
theorem sg_lv_set {ls : Array Slot} {nL : Nat} {L : List (Option Value)} {i : Nat} {v : Value} (h : lv_has ls nL ((i, v) :: (sg_lv 0 L).filter (fun q => !(q.1 == i) && !(q.1 + 1 == i && q.2.category == 2)))) : lv_has ls nL (sg_lv 0 (L.set i (some v))) := by
  refine ⟨h.1, h.2.1, fun q hq => h.2.2 q ?_⟩
  obtain ⟨j, w⟩ := q
  obtain ⟨k, h1, h2, h3⟩ := (sg_lv_mem _ 0 j w).mp hq
  have hjk : j = k := by omega
  subst hjk
  rw [List.getElem?_set] at h2
  by_cases hij : i = j
  · subst hij
    rw [if_pos rfl] at h2
    split at h2
    · simp only [Option.some.injEq] at h2
      rw [h2]
      exact List.mem_cons_self
    · cases h2
  · rw [if_neg hij] at h2
    refine List.mem_cons_of_mem _ (List.mem_filter.mpr ⟨(sg_lv_mem L 0 j w).mpr ⟨j, by omega, h2, h3⟩, ?_⟩)
    have e1 : (j == i) = false := by simpa using fun e => hij e.symm
    simp [e1, h3]
def sg_le : List (Option Value) → List (Option Value) → Prop
  | [], _ => True
  | none :: t, [] => sg_le t []
  | none :: t, _ :: u => sg_le t u
  | some v :: t, some w :: u => v = w ∧ sg_le t u
  | some _ :: _, none :: _ => False
  | some _ :: _, [] => False
theorem sg_le_at : ∀ (L' L : List (Option Value)), sg_le L' L → ∀ (j : Nat) (v : Value), L'[j]? = some (some v) → L[j]? = some (some v)
  | [], _, _, j, v, hv => by simp at hv
  | none :: t, [], h, j, v, hv => by
    cases j with
    | zero => simp at hv
    | succ j =>
      have := sg_le_at t [] h j v (by simpa using hv)
      simp at this
  | none :: t, _ :: u, h, j, v, hv => by
    cases j with
    | zero => simp at hv
    | succ j => simpa using sg_le_at t u h j v (by simpa using hv)
  | some x :: t, some y :: u, h, j, v, hv => by
    cases j with
    | zero =>
      simp at hv
      rw [← hv, h.1]
      rfl
    | succ j => simpa using sg_le_at t u h.2 j v (by simpa using hv)
  | some _ :: _, none :: _, h, j, v, hv => h.elim
  | some _ :: _, [], h, j, v, hv => h.elim
theorem sg_lv_le {ls : Array Slot} {nL : Nat} {L L' : List (Option Value)} (h : lv_has ls nL (sg_lv 0 L)) (hl : sg_le L' L) : lv_has ls nL (sg_lv 0 L') := by
  refine ⟨h.1, h.2.1, fun q hq => h.2.2 q ?_⟩
  obtain ⟨j, w⟩ := q
  obtain ⟨k, h1, h2, h3⟩ := (sg_lv_mem _ 0 j w).mp hq
  exact (sg_lv_mem L 0 j w).mpr ⟨k, h1, sg_le_at _ _ hl _ _ h2, h3⟩
/-! the words that all methods have -/
def sg_tb : List Cond := lw_tbl.filter goodWord
theorem sg_good {w : Cond} (h : w ∈ sg_tb) : (w.onTables && w.keeps) = true ∨ ∃ ty, w = .arrayClass ty := good_of_word (List.mem_filter.mp h).2
theorem sg_in {w : Cond} (i : Nat) (h : lw_tbl[i]? = some w) (hg : goodWord w = true) : w ∈ sg_tb := List.mem_filter.mpr ⟨List.mem_of_getElem? h, hg⟩
theorem sg_goodIn {ws : List Cond} (h : ∀ w ∈ ws, w ∈ sg_tb) : GoodIn sg_tb ws := fun w hw => ⟨h w hw, sg_good (h w hw)⟩
/-! what holds of every state: the classes, the array classes, statics -/
def sg_tys (G : sg_G) : List (ClassId × FieldType) := [(G.2.2.1 .int, .int), (G.2.2.1 .byte, .byte), (G.2.2.1 .boolean, .boolean), (G.2.2.1 .char, .char), (G.2.2.1 .long, .long), (G.2.2.1 .double, .double), (G.2.2.1 (.object "java/lang/Object"), .object "java/lang/Object"), (G.2.2.1 (.object RX3), .object RX3), (G.2.2.1 (.object RX5), .object RX5), (G.2.2.1 (.object RX0), .object RX0)]
def sg_wk : List Cond := [.castable RX3 RX3, .castable RX1 RX1, .castable RX2 RX2, .castable RX3 "java/lang/Object", .castable RX1 "java/lang/Object", .castable RX2 "java/lang/Object", .castable "java/util/NoSuchElementException" "java/util/NoSuchElementException", .castable "java/lang/IllegalArgumentException" "java/lang/IllegalArgumentException", .castable "java/lang/IllegalStateException" "java/lang/IllegalStateException", .declares ⟨"java/lang/RuntimeException", "<init>", "()V"⟩, .declares ⟨"java/lang/Exception", "<init>", "()V"⟩, .declares ⟨"java/lang/Throwable", "<init>", "()V"⟩, .methodLinkNest RX6 45 yX5_init RX6, .castable "[B" "java/lang/Cloneable", .selects RJ4 yJ5_ensureCapacityInternal_d00df yJ5_ensureCapacityInternal_d00df, .selects RJ4 yJ5_putStringAt_47b60 yJ5_putStringAt_47b60, .selects RJ4 yJ5_inflateIfNeededFor_a7421 yJ5_inflateIfNeededFor_a7421]
theorem sg_wk_warm {s U : State} (hW : s.WarmedH U.vm) (h : ∀ w ∈ sg_wk, va_Nw w s) : ∀ w ∈ sg_wk, va_Nw w U := by
  intro w hw
  have h1 := h w hw
  simp only [sg_wk, List.mem_cons, List.not_mem_nil, or_false] at hw
  rcases hw with rfl | rfl | rfl | rfl | rfl | rfl | rfl | rfl | rfl | rfl | rfl | rfl | rfl | rfl | rfl | rfl | rfl
  all_goals first | exact va_Nw.warmC hW h1 | exact va_Nw.warmD hW h1 | exact va_Nw.warmM hW h1 | exact word_at hW (good_of_word (by decide)) h1
/-- what the tables say beyond the good words -/
def sg_Ar (G : sg_G) (U : State) : Prop := ArrOfT U (G.2.2.2 3) .int ∧ ArrOfT U (G.2.2.2 4) .byte ∧ ArrOfT U (G.2.2.2 5) .byte
def sg_Tx (G : sg_G) (U : State) : Prop := (∀ w ∈ sg_wk, va_Nw w U) ∧ va_Nc "java/lang/IllegalStateException" "java/util/NoSuchElementException" U ∧ va_Nc "java/lang/IllegalArgumentException" "java/util/NoSuchElementException" U ∧ vk_R RX4 104 "rwxd" (G.2.2.2 1) U ∧ sg_Ar G U
theorem sg_Tx.warm {G : sg_G} {s U : State} (hW : s.WarmedH U.vm) (h : sg_Tx G s) : sg_Tx G U :=
  ⟨sg_wk_warm hW h.1, va_Nc.moved hW.alike h.2.1, va_Nc.moved hW.alike h.2.2.1, vk_R.warm hW h.2.2.2.1, arrOfT_moved hW.alike h.2.2.2.2.1, arrOfT_moved hW.alike h.2.2.2.2.2.1, arrOfT_moved hW.alike h.2.2.2.2.2.2⟩
def sg_St (G : sg_G) (U : State) (H : Heap) : Prop :=
  vx_Zq "java/lang/Throwable" "UNASSIGNED_STACK" "[Ljava/lang/StackTraceElement;" (sg_A G) U H ∧ vx_Zq "java/lang/Throwable" "SUPPRESSED_SENTINEL" "Ljava/util/List;" (sg_A G) U H ∧
  va_Z "java/lang/String" "COMPACT_STRINGS" "Z" (.int 1) (sg_A G) U H ∧ va_Z "java/util/ArrayList" "DEFAULTCAPACITY_EMPTY_ELEMENTDATA" "[Ljava/lang/Object;" (.ref (G.2.2.2 0)) (sg_A G) U H ∧
  va_Zq "jdk/internal/util/Preconditions" "SIOOBE_FORMATTER" "Ljava/util/function/BiFunction;" (sg_A G) U H ∧
  va_AO "java/lang/Object" U ∧ va_AO RX3 U ∧ va_AO RX5 U ∧ va_AO RX0 U ∧ va_Z "java/lang/Integer" "DigitOnes" "[B" (.ref (G.2.2.2 2)) (sg_A G) U H
def sg_Env (G : sg_G) (U : State) : Prop := va_K G.2.1 vwCl (sg_tys G) U ∧ sg_St G U U.heap ∧ sg_Tx G U
theorem sg_St.moved {G : sg_G} {u U : State} {H : Heap} (hvm : u.vm.Alike U.vm) (h : sg_St G u H) : sg_St G U H := by
  obtain ⟨h1, h2, h3, h4, h5, h6, h7, h8, h9, h10⟩ := h
  exact ⟨vx_Zq.moved hvm h1, vx_Zq.moved hvm h2, va_Z.moved hvm h3, va_Z.moved hvm h4, va_Zq.moved hvm h5, va_AO.moved hvm h6, va_AO.moved hvm h7, va_AO.moved hvm h8, va_AO.moved hvm h9, va_Z.moved hvm h10⟩
theorem sg_St.kept {G : sg_G} {U : State} {H H1 : Heap} (h : sg_St G U H) (hq : ∀ a : Nat, a < H.size → ¬ sg_A G a → H1[a]? = H[a]?) : sg_St G U H1 := by
  obtain ⟨h1, h2, h3, h4, h5, h6, h7, h8, h9, h10⟩ := h
  exact ⟨vx_Zq.kept h1 hq, vx_Zq.kept h2 hq, va_Z.kept h3 hq, va_Z.kept h4 hq, va_Zq.kept h5 hq, h6, h7, h8, h9, va_Z.kept h10 hq⟩
theorem sg_Env.to {G : sg_G} {s U : State} {locs : List Loc} (h : sg_Env G s) (hW : s.WarmedH U.vm) (hS : va_S (sg_A G) s.heap U.heap locs) : sg_Env G U :=
  ⟨va_K.moved hW.alike h.1, sg_St.moved hW.alike (sg_St.kept h.2.1 hS.2.1), h.2.2.warm hW⟩
theorem sg_Env.calling {G : sg_G} {U : State} {g : JFrame} {mk : MethodId} {a : Array Value} (h : sg_Env G U) : sg_Env G (U.calling g mk a) :=
  ⟨va_K.moved (u := U) (U := U.calling g mk a) (Vm.Alike.refl U.vm) h.1, sg_St.moved (u := U) (U := U.calling g mk a) (Vm.Alike.refl U.vm) h.2.1, sg_Tx.warm (s := U) (U := U.calling g mk a) (State.WarmedH.refl U) h.2.2⟩
theorem sg_isArr {U : State} {cA : ClassId} {ty : FieldType} {cell : Cell} (h : ArrOfT U cA ty) (hc : cell.cls = cA) (hv : cell.vm.isStatics = false) : U.isArrayOf cell ty := by
  have h1 := h 0 (fun _ => .null)
  refine ⟨fun k e => ?_, ?_⟩
  · rw [e] at hv
    cases hv
  · rw [hc]
    exact h1.2
theorem sg_isArrG {G : sg_G} {s : State} {ty : FieldType} {cell : Cell} {t0 : Nat} (hE : sg_Env G s) (ht : (sg_tys G)[t0]? = some (G.2.2.1 ty, ty)) (hc : sg_okc G ty cell.cls) (hv : cell.vm.isStatics = false) : s.isArrayOf cell ty := by
  rcases hc with h | ⟨rfl, h⟩ | ⟨rfl, h | h⟩
  · exact sg_isArr (hE.1.2 t0 _ ht).1 h hv
  · exact sg_isArr hE.2.2.2.2.2.2.1 h hv
  · exact sg_isArr hE.2.2.2.2.2.2.2.1 h hv
  · exact sg_isArr hE.2.2.2.2.2.2.2.2 h hv
/-! the walk -/
abbrev sg_X := Program × Launch × Env × Room × State × MethodId × Array Value × List Frame × Method × Code × sg_G × (State → Prop) × Nat
def sg_W (X : sg_X) (M : sg_M) (cb sb pc : Nat) (L : List (Option Value)) (st : List Value) : Prop := match X with
  | (p, l, e, R, s, m, args, below, meth, c, G, Q, nL) => ∀ (H : Heap) (locs : List Loc) (cells slots : Nat) (ls : Array Slot), lv_has ls nL (sg_lv 0 L) → sg_H G M H → va_S (sg_A G) s.heap H locs → cells + cb ≤ R.cells → slots + sb ≤ R.slots →
      W p l e R s m args below meth c H locs cells slots Q (F0 m pc ls st)
/-- with an exception of the class E over the frame -/
def sg_WX (X : sg_X) (M : sg_M) (cb sb pc : Nat) (L : List (Option Value)) (st : List Value) (E : String) : Prop := match X with
  | (p, l, e, R, s, m, args, below, meth, c, G, Q, nL) => ∀ (H : Heap) (locs : List Loc) (cells slots : Nat) (ls : Array Slot) (q : Addr) (ce : Cell), lv_has ls nL (sg_lv 0 L) → sg_H G M H → va_S (sg_A G) s.heap H locs → cells + cb ≤ R.cells → slots + sb ≤ R.slots →
      H[q]? = some ce → ce.vm = .none → s.vm.findClass E = some ce.cls → vx_W p l e R s m args below meth c H locs cells slots Q (F0 m pc ls st) q
/-- the walk's method: its launch, its world, its bytes, its class, its locals; d: how deep it may call -/
def sg_C (X : sg_X) (l0 : Launch) (G0 : sg_G) (cc : ByteArray) (own : String) (n d : Nat) : Prop := match X with
  | (p, l, e, R, s, m, args, below, meth, c, G, Q, nL) => (l = l0 ∧ G = G0 ∧ nL = n) ∧ p.tables.exec = Jvm.exec ∧ c.code = cc ∧ c.maxLocals = n ∧ s.vm.findClass own = some m.cls ∧ (∀ w ∈ sg_tb, w.before args s = true) ∧ sg_Env G0 s ∧ meth.locks = false ∧ G0.1 ≤ s.heap.size ∧ l0.stackTraces = false ∧ d ≤ R.frames ∧ 64 * d ≤ R.locals
def sg_Pc (G : sg_G) (vs : List Value) (M : sg_M) : Array Value → State → Prop := fun a U => a = vs.toArray ∧ G.1 ≤ U.heap.size ∧ sg_Env G U ∧ sg_H G M U.heap
def sg_Qc (G : sg_G) (k : Option Value → sg_M → Prop) : Array Value → State → Outcome → State → Prop := fun _ st o t => ∃ (v : Option Value) (M' : sg_M), o = .returned v ∧ k v M' ∧ sg_H G M' t.heap ∧ va_F (sg_A G) st t
def sg_XC (G : sg_G) (kx : String → sg_M → Prop) : String → State → State → Prop := fun E st t => ∃ M' : sg_M, kx E M' ∧ sg_H G M' t.heap ∧ va_F (sg_A G) st t
def sg_rm (d mc ms : Nat) : Room := { frames := d, cells := mc, slots := ms, locals := 64 * d }
/-- a method's contract at one start: it returns with k, or throws with kx; mc cells of ms slots at most are made -/
def sg_Met (l : Launch) (G : sg_G) (y : MethodName) (cc : ByteArray) (nL : Nat) (ret : Option FieldType) (d mc ms : Nat) (vs : List Value) (M : sg_M) (k : Option Value → sg_M → Prop) (kx : String → sg_M → Prop) : Prop :=
  vx_Met l y (Cond.code y cc nL ret :: sg_tb) (sg_rm d mc ms) (sg_Pc G vs M) (sg_Qc G k) (sg_XC G kx) mc ms (sg_A G)
/-- what the walk owes at its end -/
def sg_R (X : sg_X) (y : MethodName) (k : Option Value → sg_M → Prop) (kx : String → sg_M → Prop) (ret : Option FieldType) : Prop := match X with
  | (p, l, e, R, s, m, args, below, meth, c, G, Q, nL) => Q = vx_MQ below (sg_Qc G k) (sg_XC G kx) args s R.cells R.slots (sg_A G) ∧ meth.sig.returnType = ret ∧ meth.name = y.name ∧ ∀ x ∈ c.exceptionTable.toList, False
theorem sg_enter {l : Launch} {G : sg_G} {y : MethodName} {cc : ByteArray} {nL : Nat} {ret : Option FieldType} {d mc ms : Nat} {vs : List Value} {M : sg_M} {k : Option Value → sg_M → Prop} {kx : String → sg_M → Prop} (L : List (Option Value))
    (hy : plainName y.cls = true) (htr : l.stackTraces = false) (hn : (lg_sl vs).length ≤ nL) (hL : lv_args 0 vs = sg_lv 0 L)
    (body : ∀ X : sg_X, sg_C X l G cc y.cls nL d → sg_R X y k kx ret → sg_W X M mc ms 0 L []) : sg_Met l G y cc nL ret d mc ms vs M k kx := by
  refine vx_ofW (cc := cc) (maxL := nL) (ret := ret) hy rfl ?_
  intro p e s m args below meth c s₁ B hml hx hP
  obtain ⟨rfl, hG, hE, hH⟩ := hP
  have hts : ∀ w ∈ sg_tb, w.before vs.toArray s = true := fun w hw => atoms_spec (ws := Cond.code y cc nL ret :: sg_tb) B.pre w (List.mem_cons_of_mem _ hw)
  have hown : s.vm.findClass y.cls = some m.cls := findClass_of_methodNamed B.named
  have hl := lv_entry vs (n := nL) hn
  rw [hL] at hl
  rw [lg_entry_eq]
  have hw := body (p, l, e, sg_rm d mc ms, s, m, vs.toArray, below, meth, c, G, vx_MQ below (sg_Qc G k) (sg_XC G kx) vs.toArray s mc ms (sg_A G), nL)
    ⟨⟨rfl, rfl, rfl⟩, B.exec, B.bytes, hml, hown, hts, hE, B.notSynchronized, hG, htr, Nat.le_refl _, Nat.le_refl _⟩ ⟨rfl, B.returns, (name_of_methodNamed B.named B.method).1, hx⟩
  exact hw s.heap [] 0 0 _ hl hH va_S.rf (by show 0 + mc ≤ mc; omega) (by show 0 + ms ≤ ms; omega)
