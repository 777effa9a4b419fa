/-! ===== rows over natural numbers and truth values ===== -/
def md_b (b : Bool) : Int32 := nI (if b = true then 1 else 0)
section SGN
variable {X : sg_X} {l : Launch} {G : sg_G} {cc : ByteArray} {own : String} {nL d : Nat} {M : sg_M} {cb sb pc : Nat} {L : List (Option Value)} {st : List Value}
theorem sg_iaddN {a b : Nat} (hC : sg_C X l G cc own nL d) (hd : decode cc pc = .ok (.iadd, 1)) (k : sg_W X M cb sb (pc + 1) L (.int (nI (a + b)) :: st)) : sg_W X M cb sb pc L (.int (nI b) :: .int (nI a) :: st) := sg_iadd hC hd (by rw [nI_add]; exact k)
theorem sg_isubN {a b : Nat} (hC : sg_C X l G cc own nL d) (hd : decode cc pc = .ok (.isub, 1)) (h : b ≤ a) (k : sg_W X M cb sb (pc + 1) L (.int (nI (a - b)) :: st)) : sg_W X M cb sb pc L (.int (nI b) :: .int (nI a) :: st) := sg_isub hC hd (by rw [pk_sub h]; exact k)
theorem sg_imulN {a b : Nat} (hC : sg_C X l G cc own nL d) (hd : decode cc pc = .ok (.imul, 1)) (k : sg_W X M cb sb (pc + 1) L (.int (nI (a * b)) :: st)) : sg_W X M cb sb pc L (.int (nI b) :: .int (nI a) :: st) := sg_imul hC hd (by rw [pk_mul]; exact k)
theorem sg_iincN {i a b : Nat} {n : Int} (hC : sg_C X l G cc own nL d) (hd : decode cc pc = .ok (.iinc i n, 3)) (hL : L[i]? = some (some (.int (nI a)))) (hv : nI a + Int32.ofInt n = nI b) (hn : i < nL) (k : sg_W X M cb sb (pc + 3) (L.set i (some (.int (nI b)))) st) : sg_W X M cb sb pc L st := sg_iinc (nI b) hC hd hL hv hn k

theorem sg_icmpN_eq {a b : Nat} {off : Int} (tgt : Nat) (hC : sg_C X l G cc own nL d) (hd : decode cc pc = .ok (.if_icmp .eq off, 3)) (ht : (pc : Int) + off = (tgt : Int)) (ha : a < 2 ^ 31) (hb : b < 2 ^ 31) (kt : a = b → sg_W X M cb sb tgt L st) (kf : a ≠ b → sg_W X M cb sb (pc + 3) L st) : sg_W X M cb sb pc L (.int (nI b) :: .int (nI a) :: st) :=
  sg_icmp_eq tgt hC hd ht (fun h => kt ((nI_eq ha hb).mp h)) (fun h => kf (fun e => h ((nI_eq ha hb).mpr e)))

theorem sg_ifN_eq {a : Nat} {off : Int} (tgt : Nat) (hC : sg_C X l G cc own nL d) (hd : decode cc pc = .ok (.ifCond .eq off, 3)) (ht : (pc : Int) + off = (tgt : Int)) (ha : a < 2 ^ 31) (kt : a = 0 → sg_W X M cb sb tgt L st) (kf : a ≠ 0 → sg_W X M cb sb (pc + 3) L st) : sg_W X M cb sb pc L (.int (nI a) :: st) :=
  sg_if_eq tgt hC hd ht (fun h => kt ((nI_eq ha (by decide)).mp h)) (fun h => kf (fun e => h ((nI_eq ha (by decide)).mpr e)))

theorem sg_icmpN_ne {a b : Nat} {off : Int} (tgt : Nat) (hC : sg_C X l G cc own nL d) (hd : decode cc pc = .ok (.if_icmp .ne off, 3)) (ht : (pc : Int) + off = (tgt : Int)) (ha : a < 2 ^ 31) (hb : b < 2 ^ 31) (kt : a ≠ b → sg_W X M cb sb tgt L st) (kf : a = b → sg_W X M cb sb (pc + 3) L st) : sg_W X M cb sb pc L (.int (nI b) :: .int (nI a) :: st) :=
  sg_icmp_ne tgt hC hd ht (fun h => kt (fun e => h ((nI_eq ha hb).mpr e))) (fun h => kf ((nI_eq ha hb).mp h))

theorem sg_ifN_ne {a : Nat} {off : Int} (tgt : Nat) (hC : sg_C X l G cc own nL d) (hd : decode cc pc = .ok (.ifCond .ne off, 3)) (ht : (pc : Int) + off = (tgt : Int)) (ha : a < 2 ^ 31) (kt : a ≠ 0 → sg_W X M cb sb tgt L st) (kf : a = 0 → sg_W X M cb sb (pc + 3) L st) : sg_W X M cb sb pc L (.int (nI a) :: st) :=
  sg_if_ne tgt hC hd ht (fun h => kt (fun e => h ((nI_eq ha (by decide)).mpr e))) (fun h => kf ((nI_eq ha (by decide)).mp h))

theorem sg_icmpN_lt {a b : Nat} {off : Int} (tgt : Nat) (hC : sg_C X l G cc own nL d) (hd : decode cc pc = .ok (.if_icmp .lt off, 3)) (ht : (pc : Int) + off = (tgt : Int)) (ha : a < 2 ^ 31) (hb : b < 2 ^ 31) (kt : a < b → sg_W X M cb sb tgt L st) (kf : b ≤ a → sg_W X M cb sb (pc + 3) L st) : sg_W X M cb sb pc L (.int (nI b) :: .int (nI a) :: st) :=
  sg_icmp_lt tgt hC hd ht (fun h => kt ((nI_ltI ha hb).mp h)) (fun h => kf (Nat.not_lt.mp (fun e => h ((nI_ltI ha hb).mpr e))))

theorem sg_ifN_lt {a : Nat} {off : Int} (tgt : Nat) (hC : sg_C X l G cc own nL d) (hd : decode cc pc = .ok (.ifCond .lt off, 3)) (ht : (pc : Int) + off = (tgt : Int)) (ha : a < 2 ^ 31) (kt : a < 0 → sg_W X M cb sb tgt L st) (kf : 0 ≤ a → sg_W X M cb sb (pc + 3) L st) : sg_W X M cb sb pc L (.int (nI a) :: st) :=
  sg_if_lt tgt hC hd ht (fun h => kt ((nI_ltI ha (by decide)).mp h)) (fun h => kf (Nat.not_lt.mp (fun e => h ((nI_ltI ha (by decide)).mpr e))))

theorem sg_icmpN_ge {a b : Nat} {off : Int} (tgt : Nat) (hC : sg_C X l G cc own nL d) (hd : decode cc pc = .ok (.if_icmp .ge off, 3)) (ht : (pc : Int) + off = (tgt : Int)) (ha : a < 2 ^ 31) (hb : b < 2 ^ 31) (kt : b ≤ a → sg_W X M cb sb tgt L st) (kf : a < b → sg_W X M cb sb (pc + 3) L st) : sg_W X M cb sb pc L (.int (nI b) :: .int (nI a) :: st) :=
  sg_icmp_ge tgt hC hd ht (fun h => kt ((nI_leI hb ha).mp h)) (fun h => kf (Nat.not_le.mp (fun e => h ((nI_leI hb ha).mpr e))))

theorem sg_ifN_ge {a : Nat} {off : Int} (tgt : Nat) (hC : sg_C X l G cc own nL d) (hd : decode cc pc = .ok (.ifCond .ge off, 3)) (ht : (pc : Int) + off = (tgt : Int)) (ha : a < 2 ^ 31) (kt : 0 ≤ a → sg_W X M cb sb tgt L st) (kf : a < 0 → sg_W X M cb sb (pc + 3) L st) : sg_W X M cb sb pc L (.int (nI a) :: st) :=
  sg_if_ge tgt hC hd ht (fun h => kt ((nI_leI (by decide) ha).mp h)) (fun h => kf (Nat.not_le.mp (fun e => h ((nI_leI (by decide) ha).mpr e))))

theorem sg_icmpN_gt {a b : Nat} {off : Int} (tgt : Nat) (hC : sg_C X l G cc own nL d) (hd : decode cc pc = .ok (.if_icmp .gt off, 3)) (ht : (pc : Int) + off = (tgt : Int)) (ha : a < 2 ^ 31) (hb : b < 2 ^ 31) (kt : b < a → sg_W X M cb sb tgt L st) (kf : a ≤ b → sg_W X M cb sb (pc + 3) L st) : sg_W X M cb sb pc L (.int (nI b) :: .int (nI a) :: st) :=
  sg_icmp_gt tgt hC hd ht (fun h => kt ((nI_ltI hb ha).mp h)) (fun h => kf (Nat.not_lt.mp (fun e => h ((nI_ltI hb ha).mpr e))))

theorem sg_ifN_gt {a : Nat} {off : Int} (tgt : Nat) (hC : sg_C X l G cc own nL d) (hd : decode cc pc = .ok (.ifCond .gt off, 3)) (ht : (pc : Int) + off = (tgt : Int)) (ha : a < 2 ^ 31) (kt : 0 < a → sg_W X M cb sb tgt L st) (kf : a ≤ 0 → sg_W X M cb sb (pc + 3) L st) : sg_W X M cb sb pc L (.int (nI a) :: st) :=
  sg_if_gt tgt hC hd ht (fun h => kt ((nI_ltI (by decide) ha).mp h)) (fun h => kf (Nat.not_lt.mp (fun e => h ((nI_ltI (by decide) ha).mpr e))))

theorem sg_icmpN_le {a b : Nat} {off : Int} (tgt : Nat) (hC : sg_C X l G cc own nL d) (hd : decode cc pc = .ok (.if_icmp .le off, 3)) (ht : (pc : Int) + off = (tgt : Int)) (ha : a < 2 ^ 31) (hb : b < 2 ^ 31) (kt : a ≤ b → sg_W X M cb sb tgt L st) (kf : b < a → sg_W X M cb sb (pc + 3) L st) : sg_W X M cb sb pc L (.int (nI b) :: .int (nI a) :: st) :=
  sg_icmp_le tgt hC hd ht (fun h => kt ((nI_leI ha hb).mp h)) (fun h => kf (Nat.not_le.mp (fun e => h ((nI_leI ha hb).mpr e))))

theorem sg_ifN_le {a : Nat} {off : Int} (tgt : Nat) (hC : sg_C X l G cc own nL d) (hd : decode cc pc = .ok (.ifCond .le off, 3)) (ht : (pc : Int) + off = (tgt : Int)) (ha : a < 2 ^ 31) (kt : a ≤ 0 → sg_W X M cb sb tgt L st) (kf : 0 < a → sg_W X M cb sb (pc + 3) L st) : sg_W X M cb sb pc L (.int (nI a) :: st) :=
  sg_if_le tgt hC hd ht (fun h => kt ((nI_leI ha (by decide)).mp h)) (fun h => kf (Nat.not_le.mp (fun e => h ((nI_leI ha (by decide)).mpr e))))

theorem md_b0 {b : Bool} : md_b b = 0 ↔ b = false := by cases b <;> decide
theorem sg_ifB_eq {b : Bool} {off : Int} (tgt : Nat) (hC : sg_C X l G cc own nL d) (hd : decode cc pc = .ok (.ifCond .eq off, 3)) (ht : (pc : Int) + off = (tgt : Int)) (kt : b = false → sg_W X M cb sb tgt L st) (kf : b = true → sg_W X M cb sb (pc + 3) L st) : sg_W X M cb sb pc L (.int (md_b b) :: st) :=
  sg_if_eq tgt hC hd ht (fun h => kt (md_b0.mp h)) (fun h => kf (by cases b with | true => rfl | false => exact absurd (md_b0.mpr rfl) h))
theorem sg_ifB_ne {b : Bool} {off : Int} (tgt : Nat) (hC : sg_C X l G cc own nL d) (hd : decode cc pc = .ok (.ifCond .ne off, 3)) (ht : (pc : Int) + off = (tgt : Int)) (kt : b = true → sg_W X M cb sb tgt L st) (kf : b = false → sg_W X M cb sb (pc + 3) L st) : sg_W X M cb sb pc L (.int (md_b b) :: st) :=
  sg_if_ne tgt hC hd ht (fun h => kt (by cases b with | true => rfl | false => exact absurd (md_b0.mpr rfl) h)) (fun h => kf (md_b0.mp h))
theorem md_upd (f : Nat → Nat) (j v : Nat) : upd (fun i => nI (f i)) j (nI v) = fun i => nI (va_up f j v i) := by
  funext i
  by_cases h : i = j
  · subst h
    rw [pk_us, va_up_self]
  · rw [pk_un h, va_up_ne _ _ h]
theorem md_narc {v : Nat} (h : v < 65536) : vp_nar .char (nI v) = nI v := by
  have h1 := (pk_charN h).1
  unfold vp_nar
  rw [h1]
theorem md_narz {v : Nat} (h : v < 2) : vp_nar .boolean (nI v) = nI v := by
  rcases (show v = 0 ∨ v = 1 by omega) with rfl | rfl <;> decide

theorem sg_ialdN {a t n j : Nat} {f : Nat → Nat} (hC : sg_C X l G cc own nL d) (hd : decode cc pc = .ok (.iaload, 1)) (hM : M a = some (t, .inl (.int, n, .inl (fun i => nI (f i))))) (hj : j < n) (hn : n < 2 ^ 31) (k : sg_W X M cb sb (pc + 1) L (.int (nI (f j)) :: st)) : sg_W X M cb sb pc L (.int (nI j) :: .ref a :: st) :=
  sg_iald hC hd hM (vp_in_nI hj hn) (by rw [nI_clamp (by omega)]; exact k)

theorem sg_caldN {a t n j : Nat} {f : Nat → Nat} (hC : sg_C X l G cc own nL d) (hd : decode cc pc = .ok (.caload, 1)) (hM : M a = some (t, .inl (.char, n, .inl (fun i => nI (f i))))) (hj : j < n) (hn : n < 2 ^ 31) (k : sg_W X M cb sb (pc + 1) L (.int (nI (f j)) :: st)) : sg_W X M cb sb pc L (.int (nI j) :: .ref a :: st) :=
  sg_cald hC hd hM (vp_in_nI hj hn) (by rw [nI_clamp (by omega)]; exact k)

theorem sg_zaldN {a t n j : Nat} {f : Nat → Nat} (hC : sg_C X l G cc own nL d) (hd : decode cc pc = .ok (.baload, 1)) (hM : M a = some (t, .inl (.boolean, n, .inl (fun i => nI (f i))))) (hj : j < n) (hn : n < 2 ^ 31) (k : sg_W X M cb sb (pc + 1) L (.int (nI (f j)) :: st)) : sg_W X M cb sb pc L (.int (nI j) :: .ref a :: st) :=
  sg_zald hC hd hM (vp_in_nI hj hn) (by rw [nI_clamp (by omega)]; exact k)

theorem sg_baldN {a t n j : Nat} {f : Nat → Nat} (hC : sg_C X l G cc own nL d) (hd : decode cc pc = .ok (.baload, 1)) (hM : M a = some (t, .inl (.byte, n, .inl (fun i => nI (f i))))) (hj : j < n) (hn : n < 2 ^ 31) (k : sg_W X M cb sb (pc + 1) L (.int (nI (f j)) :: st)) : sg_W X M cb sb pc L (.int (nI j) :: .ref a :: st) :=
  sg_bald hC hd hM (vp_in_nI hj hn) (by rw [nI_clamp (by omega)]; exact k)

theorem sg_iastN {a t n j v : Nat} {f : Nat → Nat} (hC : sg_C X l G cc own nL d) (hd : decode cc pc = .ok (.iastore, 1)) (hM : M a = some (t, .inl (.int, n, .inl (fun i => nI (f i))))) (ht : t ≠ 0) (hj : j < n) (hn : n < 2 ^ 31) (k : sg_W X (sg_up M a (t, .inl (.int, n, .inl (fun i => nI (va_up f j v i))))) cb sb (pc + 1) L st) : sg_W X M cb sb pc L (.int (nI v) :: .int (nI j) :: .ref a :: st) :=
  sg_iast hC hd hM ht (vp_in_nI hj hn) (by rw [nI_clamp (by omega), md_upd]; exact k)

theorem sg_castN {a t n j v : Nat} {f : Nat → Nat} (hC : sg_C X l G cc own nL d) (hd : decode cc pc = .ok (.castore, 1)) (hM : M a = some (t, .inl (.char, n, .inl (fun i => nI (f i))))) (ht : t ≠ 0) (hj : j < n) (hn : n < 2 ^ 31) (hv : v < 65536) (k : sg_W X (sg_up M a (t, .inl (.char, n, .inl (fun i => nI (va_up f j v i))))) cb sb (pc + 1) L st) : sg_W X M cb sb pc L (.int (nI v) :: .int (nI j) :: .ref a :: st) :=
  sg_cast hC hd hM ht (vp_in_nI hj hn) (by rw [nI_clamp (by omega), md_narc hv, md_upd]; exact k)

theorem sg_zastN {a t n j v : Nat} {f : Nat → Nat} (hC : sg_C X l G cc own nL d) (hd : decode cc pc = .ok (.bastore, 1)) (hM : M a = some (t, .inl (.boolean, n, .inl (fun i => nI (f i))))) (ht : t ≠ 0) (hj : j < n) (hn : n < 2 ^ 31) (hv : v < 2) (k : sg_W X (sg_up M a (t, .inl (.boolean, n, .inl (fun i => nI (va_up f j v i))))) cb sb (pc + 1) L st) : sg_W X M cb sb pc L (.int (nI v) :: .int (nI j) :: .ref a :: st) :=
  sg_zast hC hd hM ht (vp_in_nI hj hn) (by rw [nI_clamp (by omega), md_narz hv, md_upd]; exact k)

end SGN
