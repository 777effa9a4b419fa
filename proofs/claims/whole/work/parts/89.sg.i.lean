theorem N0_z {i j : Nat} (h : i ≠ 13) : md_N0 i j = 0 := by simp [md_N0, md_set, va_up, h]
theorem N0_13 {t : Nat} : md_N0 13 t = if t = 0 then 1 else 0 := by simp [md_N0, md_set, va_up]
theorem WN0 : WN md_N0 := by
  intro i j
  by_cases h : i = 13
  · subst h
    rw [N0_13]
    split <;> decide
  · rw [N0_z h]
    exact Nat.zero_le _

set_option maxHeartbeats 400000 in
set_option maxRecDepth 100000 in
theorem c_sgInit {l : Launch} {G : sg_G} {d : Nat} {M : sg_M} {kr : Option Value → sg_M → Prop} {kx : String → sg_M → Prop} (htr : l.stackTraces = false) {ca : Nat} (hA : M ca = some (1, .inr (9, [.null, .null, .null, .null, .null, .null]))) (hEv : ev G M) (hk : ∀ pb sl so th cx nt M', cl_r G M' ca pb sl so th cx nt md_N0 → sf cf M M' → kr none M') : sg_Met l G yX6_init cX6_init 2 none (d + 5) 21 78 [.ref ca] M kr kx := by
  refine sg_enter [some (.ref ca), none] (by decide) htr (Nat.le_of_ble_eq_true rfl) rfl ?_
  intro X hC hR
  have hC : sg_C X l G cX6_init RX6 2 (d + 5) := hC
  have hf : sf cf M M := sf.rf
  refine sg_aload_n (pc := 0) (v := .ref ca) hC dX6_init_0 rfl rfl ?_
  refine sg_objInit (pc := 1) hC tw_97 tw_98 tw_99 dX6_init_1 (Nat.le_of_ble_eq_true rfl) ?_
  show sg_W X M 21 78 4 [some (.ref ca), none] []
  refine sg_aload_n (pc := 4) (v := .ref ca) hC dX6_init_4 rfl rfl ?_
  refine sg_new (pc := 5) (ci := 1) (2) [.null, .int (nI 0), .int (nI 0), .int (nI 0)] hC rfl inw_J4 tyJ4 tyJ4_ok tw_100 tw_101 tw_64 (by intro j hj; have h9 : j = 0 ∨ j = 1 ∨ j = 2 ∨ j = 3 := (by omega); rcases h9 with rfl | rfl | rfl | rfl <;> rfl) dX6_init_5 (by first | omega | decide) (by first | omega | decide) (by first | omega | decide) (fun q1 hq2 => ?_)
  refine sg_nm (fun M3 hw4 => ?_)
  have ne5 : ca ≠ q1 := sg_fresh hA hq2
  have hA : M3 ca = some (1, .inr (9, [.null, .null, .null, .null, .null, .null])) := hw4.n hA ne5
  have hn6 : M q1 = none := hf.fr hq2
  have hf : sf cf M M3 := hf.nw hw4 hn6
  have hF7 : M3 q1 = some (2, .inr (1, [.null, .int (nI 0), .int (nI 0), .int (nI 0)])) := hw4.1
  show sg_W X M3 20 74 8 [some (.ref ca), none] [.ref q1, .ref ca]
  have hF7s := hF7
  refine sg_dup (pc := 8) hC dX6_init_8 rfl ?_
  refine sg_callI (pc := 9) (b := q1) (As := []) (rest := [.ref q1, .ref ca]) (mc := 1) (ms := 16) hC tw_102 tw_103 tw_64 tw_104 rfl yd_J4_init_da8c8 (by decide) dX6_init_9 rfl (Nat.le_of_ble_eq_true rfl) (by first | omega | decide) (by first | omega | decide) ?_
  refine c_sbInit (t := 2) (u := 3) htr hF7 (by first | omega | decide) (by first | omega | decide) (fun M8 hs9 hf10 => ?_)
  have hA : M8 ca = some (1, .inr (9, [.null, .null, .null, .null, .null, .null])) := hf10.k hA ne5
  have hf : sf cf M M8 := hf.trN hf10 (fun b t h => Or.inr (by rw [h]; exact hn6))
  show sg_W X M8 19 58 12 [some (.ref ca), none] [.ref q1, .ref ca]
  refine sg_putF (pc := 12) (a := ca) (v := .ref q1) 0 hC hR rfl rfl inw_X6 tyX6 tyX6_ok nmX6 (by decide) tw_193 rfl rfl rfl rfl rfl dX6_init_12 hA (by first | omega | decide) (Nat.le_of_ble_eq_true rfl) ?_
  refine sg_nm (fun M11 hw12 => ?_)
  have hs9 : sb_r 2 3 M11 q1 ([]) := hs9.st hw12 hA (by first | omega | decide) (by first | omega | decide)
  have hf : sf cf M M11 := hf.st hw12 hA (by first | (simp [cf, cm]; done) | (simp only [cf, cm]; omega))
  have hA : M11 ca = some (1, .inr (9, [.ref q1, .null, .null, .null, .null, .null])) := hw12.1
  refine sg_aload_n (pc := 15) (v := .ref ca) hC dX6_init_15 rfl rfl ?_
  refine sg_bipush (pc := 16) (nI 8) hC dX6_init_16 (by decide) ?_
  refine sg_newq3 (pc := 18) (N := 8) (4) hC tw_133 dX6_init_18 rfl (by first | omega | decide) (by first | omega | decide) (by first | omega | decide) (by first | omega | decide) (fun q13 hq14 => ?_)
  refine sg_nm (fun M15 hw16 => ?_)
  have ne17 : ca ≠ q13 := sg_fresh hA hq14
  have hA : M15 ca = some (1, .inr (9, [.ref q1, .null, .null, .null, .null, .null])) := hw16.n hA ne17
  have hs9 : sb_r 2 3 M15 q1 ([]) := hs9.nw hw16 hq14
  have hn18 : M q13 = none := hf.fr hq14
  have hf : sf cf M M15 := hf.nw hw16 hn18
  have hF19 : M15 q13 = some (4, .inl (.object RX3, 8, .inr (.inr (.inr (.inr (fun _ => none)))))) := hw16.1
  show sg_W X M15 18 50 21 [some (.ref ca), none] [.ref q13, .ref ca]
  refine sg_putF (pc := 21) (a := ca) (v := .ref q13) 1 hC hR rfl rfl inw_X6 tyX6 tyX6_ok nmX6 (by decide) tw_194 rfl rfl rfl rfl rfl dX6_init_21 hA (by first | omega | decide) (Nat.le_of_ble_eq_true rfl) ?_
  refine sg_nm (fun M20 hw21 => ?_)
  have hF19 : M20 q13 = some (4, .inl (.object RX3, 8, .inr (.inr (.inr (.inr (fun _ => none)))))) := hw21.n hF19 (Ne.symm ne17)
  have hs9 : sb_r 2 3 M20 q1 ([]) := hs9.st hw21 hA (by first | omega | decide) (by first | omega | decide)
  have hf : sf cf M M20 := hf.st hw21 hA (by first | (simp [cf, cm]; done) | (simp only [cf, cm]; omega))
  have hA : M20 ca = some (1, .inr (9, [.ref q1, .ref q13, .null, .null, .null, .null])) := hw21.1
  refine sg_aload_n (pc := 24) (v := .ref ca) hC dX6_init_24 rfl rfl ?_
  refine sg_bipush (pc := 25) (nI 6) hC dX6_init_25 (by decide) ?_
  refine sg_newq5 (pc := 27) (N := 6) (5) hC tw_135 dX6_init_27 rfl (by first | omega | decide) (by first | omega | decide) (by first | omega | decide) (by first | omega | decide) (fun q22 hq23 => ?_)
  refine sg_nm (fun M24 hw25 => ?_)
  have ne26 : ca ≠ q22 := sg_fresh hA hq23
  have hA : M24 ca = some (1, .inr (9, [.ref q1, .ref q13, .null, .null, .null, .null])) := hw25.n hA ne26
  have ne27 : q13 ≠ q22 := sg_fresh hF19 hq23
  have hF19 : M24 q13 = some (4, .inl (.object RX3, 8, .inr (.inr (.inr (.inr (fun _ => none)))))) := hw25.n hF19 ne27
  have hs9 : sb_r 2 3 M24 q1 ([]) := hs9.nw hw25 hq23
  have hn28 : M q22 = none := hf.fr hq23
  have hf : sf cf M M24 := hf.nw hw25 hn28
  have hF29 : M24 q22 = some (5, .inl (.object RX5, 6, .inr (.inr (.inr (.inr (fun _ => none)))))) := hw25.1
  show sg_W X M24 17 44 30 [some (.ref ca), none] [.ref q22, .ref ca]
  refine sg_putF (pc := 30) (a := ca) (v := .ref q22) 2 hC hR rfl rfl inw_X6 tyX6 tyX6_ok nmX6 (by decide) tw_195 rfl rfl rfl rfl rfl dX6_init_30 hA (by first | omega | decide) (Nat.le_of_ble_eq_true rfl) ?_
  refine sg_nm (fun M30 hw31 => ?_)
  have hF19 : M30 q13 = some (4, .inl (.object RX3, 8, .inr (.inr (.inr (.inr (fun _ => none)))))) := hw31.n hF19 (Ne.symm ne17)
  have hF29 : M30 q22 = some (5, .inl (.object RX5, 6, .inr (.inr (.inr (.inr (fun _ => none)))))) := hw31.n hF29 (Ne.symm ne26)
  have hs9 : sb_r 2 3 M30 q1 ([]) := hs9.st hw31 hA (by first | omega | decide) (by first | omega | decide)
  have hf : sf cf M M30 := hf.st hw31 hA (by first | (simp [cf, cm]; done) | (simp only [cf, cm]; omega))
  have hA : M30 ca = some (1, .inr (9, [.ref q1, .ref q13, .ref q22, .null, .null, .null])) := hw31.1
  refine sg_aload_n (pc := 33) (v := .ref ca) hC dX6_init_33 rfl rfl ?_
  refine sg_iconst (pc := 34) (nI 4) hC dX6_init_34 (by decide) ?_
  refine sg_newq0 (pc := 35) (N := 4) (6) hC tw_137 dX6_init_35 rfl (by first | omega | decide) (by first | omega | decide) (by first | omega | decide) (by first | omega | decide) (fun q32 hq33 => ?_)
  refine sg_nm (fun M34 hw35 => ?_)
  have ne36 : ca ≠ q32 := sg_fresh hA hq33
  have hA : M34 ca = some (1, .inr (9, [.ref q1, .ref q13, .ref q22, .null, .null, .null])) := hw35.n hA ne36
  have ne37 : q13 ≠ q32 := sg_fresh hF19 hq33
  have hF19 : M34 q13 = some (4, .inl (.object RX3, 8, .inr (.inr (.inr (.inr (fun _ => none)))))) := hw35.n hF19 ne37
  have ne38 : q22 ≠ q32 := sg_fresh hF29 hq33
  have hF29 : M34 q22 = some (5, .inl (.object RX5, 6, .inr (.inr (.inr (.inr (fun _ => none)))))) := hw35.n hF29 ne38
  have hs9 : sb_r 2 3 M34 q1 ([]) := hs9.nw hw35 hq33
  have hn39 : M q32 = none := hf.fr hq33
  have hf : sf cf M M34 := hf.nw hw35 hn39
  have hF40 : M34 q32 = some (6, .inl (.object RX0, 4, .inr (.inr (.inr (.inr (fun _ => none)))))) := hw35.1
  show sg_W X M34 16 40 38 [some (.ref ca), none] [.ref q32, .ref ca]
  refine sg_putF (pc := 38) (a := ca) (v := .ref q32) 3 hC hR rfl rfl inw_X6 tyX6 tyX6_ok nmX6 (by decide) tw_196 rfl rfl rfl rfl rfl dX6_init_38 hA (by first | omega | decide) (Nat.le_of_ble_eq_true rfl) ?_
  refine sg_nm (fun M41 hw42 => ?_)
  have hF19 : M41 q13 = some (4, .inl (.object RX3, 8, .inr (.inr (.inr (.inr (fun _ => none)))))) := hw42.n hF19 (Ne.symm ne17)
  have hF29 : M41 q22 = some (5, .inl (.object RX5, 6, .inr (.inr (.inr (.inr (fun _ => none)))))) := hw42.n hF29 (Ne.symm ne26)
  have hF40 : M41 q32 = some (6, .inl (.object RX0, 4, .inr (.inr (.inr (.inr (fun _ => none)))))) := hw42.n hF40 (Ne.symm ne36)
  have hs9 : sb_r 2 3 M41 q1 ([]) := hs9.st hw42 hA (by first | omega | decide) (by first | omega | decide)
  have hf : sf cf M M41 := hf.st hw42 hA (by first | (simp [cf, cm]; done) | (simp only [cf, cm]; omega))
  have hA : M41 ca = some (1, .inr (9, [.ref q1, .ref q13, .ref q22, .ref q32, .null, .null])) := hw42.1
  refine sg_aload_n (pc := 41) (v := .ref ca) hC dX6_init_41 rfl rfl ?_
  refine sg_bipush (pc := 42) (nI 8) hC dX6_init_42 (by decide) ?_
  refine sg_new_int (pc := 44) (N := 8) (7) hC tw_165 dX6_init_44 rfl (by first | omega | decide) (by first | omega | decide) (by first | omega | decide) (by first | omega | decide) (fun q43 hq44 => ?_)
  refine sg_nm (fun M45 hw46 => ?_)
  have ne47 : ca ≠ q43 := sg_fresh hA hq44
  have hA : M45 ca = some (1, .inr (9, [.ref q1, .ref q13, .ref q22, .ref q32, .null, .null])) := hw46.n hA ne47
  have ne48 : q13 ≠ q43 := sg_fresh hF19 hq44
  have hF19 : M45 q13 = some (4, .inl (.object RX3, 8, .inr (.inr (.inr (.inr (fun _ => none)))))) := hw46.n hF19 ne48
  have ne49 : q22 ≠ q43 := sg_fresh hF29 hq44
  have hF29 : M45 q22 = some (5, .inl (.object RX5, 6, .inr (.inr (.inr (.inr (fun _ => none)))))) := hw46.n hF29 ne49
  have ne50 : q32 ≠ q43 := sg_fresh hF40 hq44
  have hF40 : M45 q32 = some (6, .inl (.object RX0, 4, .inr (.inr (.inr (.inr (fun _ => none)))))) := hw46.n hF40 ne50
  have hs9 : sb_r 2 3 M45 q1 ([]) := hs9.nw hw46 hq44
  have hn51 : M q43 = none := hf.fr hq44
  have hf : sf cf M M45 := hf.nw hw46 hn51
  have hF52 : M45 q43 = some (7, .inl (.int, 8, .inl (fun _ => 0))) := hw46.1
  show sg_W X M45 15 32 46 [some (.ref ca), none] [.ref q43, .ref ca]
  refine sg_putF (pc := 46) (a := ca) (v := .ref q43) 4 hC hR rfl rfl inw_X6 tyX6 tyX6_ok nmX6 (by decide) tw_197 rfl rfl rfl rfl rfl dX6_init_46 hA (by first | omega | decide) (Nat.le_of_ble_eq_true rfl) ?_
  refine sg_nm (fun M53 hw54 => ?_)
  have hF19 : M53 q13 = some (4, .inl (.object RX3, 8, .inr (.inr (.inr (.inr (fun _ => none)))))) := hw54.n hF19 (Ne.symm ne17)
  have hF29 : M53 q22 = some (5, .inl (.object RX5, 6, .inr (.inr (.inr (.inr (fun _ => none)))))) := hw54.n hF29 (Ne.symm ne26)
  have hF40 : M53 q32 = some (6, .inl (.object RX0, 4, .inr (.inr (.inr (.inr (fun _ => none)))))) := hw54.n hF40 (Ne.symm ne36)
  have hF52 : M53 q43 = some (7, .inl (.int, 8, .inl (fun _ => 0))) := hw54.n hF52 (Ne.symm ne47)
  have hs9 : sb_r 2 3 M53 q1 ([]) := hs9.st hw54 hA (by first | omega | decide) (by first | omega | decide)
  have hf : sf cf M M53 := hf.st hw54 hA (by first | (simp [cf, cm]; done) | (simp only [cf, cm]; omega))
  have hA : M53 ca = some (1, .inr (9, [.ref q1, .ref q13, .ref q22, .ref q32, .ref q43, .null])) := hw54.1
  refine sg_aload_n (pc := 49) (v := .ref ca) hC dX6_init_49 rfl rfl ?_
  refine sg_new (pc := 50) (ci := 2) (8) [.int (nI 0), .null, .int (nI 0)] hC rfl inw_Jx4a65c tyJx4a65c tyJx4a65c_ok tw_139 tw_140 tw_69 (by intro j hj; have h9 : j = 0 ∨ j = 1 ∨ j = 2 := (by omega); rcases h9 with rfl | rfl | rfl <;> rfl) dX6_init_50 (by first | omega | decide) (by first | omega | decide) (by first | omega | decide) (fun q55 hq56 => ?_)
  refine sg_nm (fun M57 hw58 => ?_)
  have ne59 : ca ≠ q55 := sg_fresh hA hq56
  have hA : M57 ca = some (1, .inr (9, [.ref q1, .ref q13, .ref q22, .ref q32, .ref q43, .null])) := hw58.n hA ne59
  have ne60 : q13 ≠ q55 := sg_fresh hF19 hq56
  have hF19 : M57 q13 = some (4, .inl (.object RX3, 8, .inr (.inr (.inr (.inr (fun _ => none)))))) := hw58.n hF19 ne60
  have ne61 : q22 ≠ q55 := sg_fresh hF29 hq56
  have hF29 : M57 q22 = some (5, .inl (.object RX5, 6, .inr (.inr (.inr (.inr (fun _ => none)))))) := hw58.n hF29 ne61
  have ne62 : q32 ≠ q55 := sg_fresh hF40 hq56
  have hF40 : M57 q32 = some (6, .inl (.object RX0, 4, .inr (.inr (.inr (.inr (fun _ => none)))))) := hw58.n hF40 ne62
  have ne63 : q43 ≠ q55 := sg_fresh hF52 hq56
  have hF52 : M57 q43 = some (7, .inl (.int, 8, .inl (fun _ => 0))) := hw58.n hF52 ne63
  have hs9 : sb_r 2 3 M57 q1 ([]) := hs9.nw hw58 hq56
  have hn64 : M q55 = none := hf.fr hq56
  have hf : sf cf M M57 := hf.nw hw58 hn64
  have hF65 : M57 q55 = some (8, .inr (2, [.int (nI 0), .null, .int (nI 0)])) := hw58.1
  show sg_W X M57 14 29 53 [some (.ref ca), none] [.ref q55, .ref ca]
  refine sg_dup (pc := 53) hC dX6_init_53 rfl ?_
  refine sg_callI (pc := 54) (b := q55) (As := []) (rest := [.ref q55, .ref ca]) (mc := 0) (ms := 0) hC tw_141 tw_142 tw_69 tw_143 rfl yd_Jx4a65c_init_da8c8 (by decide) dX6_init_54 rfl (Nat.le_of_ble_eq_true rfl) (by first | omega | decide) (by first | omega | decide) ?_
  refine c_alInit htr hF65 (by first | omega | decide) (fun M66 hw67 => ?_)
  have hA : M66 ca = some (1, .inr (9, [.ref q1, .ref q13, .ref q22, .ref q32, .ref q43, .null])) := hw67.n hA ne59
  have hF19 : M66 q13 = some (4, .inl (.object RX3, 8, .inr (.inr (.inr (.inr (fun _ => none)))))) := hw67.n hF19 ne60
  have hF29 : M66 q22 = some (5, .inl (.object RX5, 6, .inr (.inr (.inr (.inr (fun _ => none)))))) := hw67.n hF29 ne61
  have hF40 : M66 q32 = some (6, .inl (.object RX0, 4, .inr (.inr (.inr (.inr (fun _ => none)))))) := hw67.n hF40 ne62
  have hF52 : M66 q43 = some (7, .inl (.int, 8, .inl (fun _ => 0))) := hw67.n hF52 ne63
  have hs9 : sb_r 2 3 M66 q1 ([]) := hs9.st hw67 hF65 (by first | omega | decide) (by first | omega | decide)
  have hf : sf cf M M66 := hf.nw hw67 hn64
  have hF65 : M66 q55 = some (8, .inr (2, [.int (nI 0), .ref (G.2.2.2 0), .int (nI 0)])) := hw67.1
  show sg_W X M66 14 29 57 [some (.ref ca), none] [.ref q55, .ref ca]
  refine sg_putF (pc := 57) (a := ca) (v := .ref q55) 5 hC hR rfl rfl inw_X6 tyX6 tyX6_ok nmX6 (by decide) tw_198 rfl rfl rfl rfl rfl dX6_init_57 hA (by first | omega | decide) (Nat.le_of_ble_eq_true rfl) ?_
  refine sg_nm (fun M68 hw69 => ?_)
  have hF19 : M68 q13 = some (4, .inl (.object RX3, 8, .inr (.inr (.inr (.inr (fun _ => none)))))) := hw69.n hF19 (Ne.symm ne17)
  have hF29 : M68 q22 = some (5, .inl (.object RX5, 6, .inr (.inr (.inr (.inr (fun _ => none)))))) := hw69.n hF29 (Ne.symm ne26)
  have hF40 : M68 q32 = some (6, .inl (.object RX0, 4, .inr (.inr (.inr (.inr (fun _ => none)))))) := hw69.n hF40 (Ne.symm ne36)
  have hF52 : M68 q43 = some (7, .inl (.int, 8, .inl (fun _ => 0))) := hw69.n hF52 (Ne.symm ne47)
  have hF65 : M68 q55 = some (8, .inr (2, [.int (nI 0), .ref (G.2.2.2 0), .int (nI 0)])) := hw69.n hF65 (Ne.symm ne59)
  have hs9 : sb_r 2 3 M68 q1 ([]) := hs9.st hw69 hA (by first | omega | decide) (by first | omega | decide)
  have hf : sf cf M M68 := hf.st hw69 hA (by first | (simp [cf, cm]; done) | (simp only [cf, cm]; omega))
  have hA : M68 ca = some (1, .inr (9, [.ref q1, .ref q13, .ref q22, .ref q32, .ref q43, .ref q55])) := hw69.1
  refine sg_iconst (pc := 60) (nI 0) hC dX6_init_60 (by decide) ?_
  refine sg_istore_n (pc := 61) (x := nI 0) hC dX6_init_61 (by decide) ?_
  show sg_W X M68 14 29 62 [some (.ref ca), some (.int (nI 0))] []
  refine sg_iload_n (pc := 62) (x := nI 0) hC dX6_init_62 rfl ?_
  refine sg_bipush (pc := 63) (nI 6) hC dX6_init_63 (by decide) ?_
  refine sg_icmpN_ge (pc := 65) (a := 0) (b := 6) 87 hC dX6_init_65 (by decide) (by decide) (by decide) (fun h70 => absurd h70 (by decide)) (fun _ => ?_)
  refine sg_aload_n (pc := 68) (v := .ref ca) hC dX6_init_68 rfl rfl ?_
  refine sg_get (pc := 69) (a := ca) (v := .ref q22) 2 hC rfl inw_X6 (by decide) tw_195 dX6_init_69 hA rfl ?_
  refine sg_iload_n (pc := 72) (x := nI 0) hC dX6_init_72 rfl ?_
  refine sg_new (pc := 73) (ci := 8) (10) [.null] hC rfl inw_X5 tyX5 tyX5_ok tw_135 tw_166 tw_70 (by intro j hj; have h9 : j = 0 := (by omega); rcases h9 with rfl <;> rfl) dX6_init_73 (by first | omega | decide) (by first | omega | decide) (by first | omega | decide) (fun q71 hq72 => ?_)
  refine sg_nm (fun M73 hw74 => ?_)
  have ne75 : ca ≠ q71 := sg_fresh hA hq72
  have hA : M73 ca = some (1, .inr (9, [.ref q1, .ref q13, .ref q22, .ref q32, .ref q43, .ref q55])) := hw74.n hA ne75
  have ne76 : q13 ≠ q71 := sg_fresh hF19 hq72
  have hF19 : M73 q13 = some (4, .inl (.object RX3, 8, .inr (.inr (.inr (.inr (fun _ => none)))))) := hw74.n hF19 ne76
  have ne77 : q22 ≠ q71 := sg_fresh hF29 hq72
  have hF29 : M73 q22 = some (5, .inl (.object RX5, 6, .inr (.inr (.inr (.inr (fun _ => none)))))) := hw74.n hF29 ne77
  have ne78 : q32 ≠ q71 := sg_fresh hF40 hq72
  have hF40 : M73 q32 = some (6, .inl (.object RX0, 4, .inr (.inr (.inr (.inr (fun _ => none)))))) := hw74.n hF40 ne78
  have ne79 : q43 ≠ q71 := sg_fresh hF52 hq72
  have hF52 : M73 q43 = some (7, .inl (.int, 8, .inl (fun _ => 0))) := hw74.n hF52 ne79
  have ne80 : q55 ≠ q71 := sg_fresh hF65 hq72
  have hF65 : M73 q55 = some (8, .inr (2, [.int (nI 0), .ref (G.2.2.2 0), .int (nI 0)])) := hw74.n hF65 ne80
  have hs9 : sb_r 2 3 M73 q1 ([]) := hs9.nw hw74 hq72
  have hn81 : M q71 = none := hf.fr hq72
  have hf : sf cf M M73 := hf.nw hw74 hn81
  have hF82 : M73 q71 = some (10, .inr (8, [.null])) := hw74.1
  show sg_W X M73 13 28 76 [some (.ref ca), some (.int (nI 0))] [.ref q71, .int (nI 0), .ref q22]
  refine sg_dup (pc := 76) hC dX6_init_76 rfl ?_
  refine sg_callIN (pc := 77) (b := q71) (As := []) (rest := [.ref q71, .int (nI 0), .ref q22]) (mc := 1) (ms := 3) hC (show Cond.methodLinkNest RX6 45 yX5_init RX6 ∈ sg_wk by simp [sg_wk]) tw_168 tw_70 tw_169 rfl yd_X5_init (by decide) dX6_init_77 rfl (Nat.le_of_ble_eq_true rfl) (by first | omega | decide) (by first | omega | decide) ?_
  obtain ⟨g088, hD89⟩ := (hEv.cf hf).2.2
  refine c_soInit (t := 10) (u := 20) (v := 30) htr hF82 (by decide) (by decide) (by decide) hD89 (fun la83 M84 hc85 hl86 hfs87 => ?_)
  have hA : M84 ca = some (1, .inr (9, [.ref q1, .ref q13, .ref q22, .ref q32, .ref q43, .ref q55])) := hfs87.p hA (by first | decide | (simp; done) | (simp; omega))
  have hF19 : M84 q13 = some (4, .inl (.object RX3, 8, .inr (.inr (.inr (.inr (fun _ => none)))))) := hfs87.p hF19 (by first | decide | (simp; done) | (simp; omega))
  have hF29 : M84 q22 = some (5, .inl (.object RX5, 6, .inr (.inr (.inr (.inr (fun _ => none)))))) := hfs87.p hF29 (by first | decide | (simp; done) | (simp; omega))
  have hF40 : M84 q32 = some (6, .inl (.object RX0, 4, .inr (.inr (.inr (.inr (fun _ => none)))))) := hfs87.p hF40 (by first | decide | (simp; done) | (simp; omega))
  have hF52 : M84 q43 = some (7, .inl (.int, 8, .inl (fun _ => 0))) := hfs87.p hF52 (by first | decide | (simp; done) | (simp; omega))
  have hF65 : M84 q55 = some (8, .inr (2, [.int (nI 0), .ref (G.2.2.2 0), .int (nI 0)])) := hfs87.p hF65 (by first | decide | (simp; done) | (simp; omega))
  have hs9 : sb_r 2 3 M84 q1 ([]) := hs9.p hfs87 (by first | decide | (simp; done) | (simp; omega)) (by first | decide | (simp; done) | (simp; omega))
  have hf : sf cf M M84 := hf.tr hfs87 (fun a t h => by first | (simp [pk] at h; done) | (simp [pk] at h; simp only [cf, cm]; omega))
  show sg_W X M84 12 25 80 [some (.ref ca), some (.int (nI 0))] [.ref q71, .int (nI 0), .ref q22]
  refine sg_aast5 (pc := 80) (i := nI 0) hC dX6_init_80 hF29 (by first | omega | decide) hc85 (by first | omega | decide)  (vp_in_nI (by first | omega | decide) (by first | omega | decide)) ?_
  rw [nI_clamp (by first | omega | decide)]
  refine sg_nm (fun M90 hw91 => ?_)
  have hA : M90 ca = some (1, .inr (9, [.ref q1, .ref q13, .ref q22, .ref q32, .ref q43, .ref q55])) := hw91.n hA ne26
  have hF19 : M90 q13 = some (4, .inl (.object RX3, 8, .inr (.inr (.inr (.inr (fun _ => none)))))) := hw91.n hF19 ne27
  have hF40 : M90 q32 = some (6, .inl (.object RX0, 4, .inr (.inr (.inr (.inr (fun _ => none)))))) := hw91.n hF40 (Ne.symm ne38)
  have hF52 : M90 q43 = some (7, .inl (.int, 8, .inl (fun _ => 0))) := hw91.n hF52 (Ne.symm ne49)
  have hF65 : M90 q55 = some (8, .inr (2, [.int (nI 0), .ref (G.2.2.2 0), .int (nI 0)])) := hw91.n hF65 (Ne.symm ne61)
  have hc85 : M90 q71 = some (10, .inr (8, [.ref la83])) := hw91.n hc85 (Ne.symm ne77)
  have hs9 : sb_r 2 3 M90 q1 ([]) := hs9.st hw91 hF29 (by first | omega | decide) (by first | omega | decide)
  have hl86 : al_r G 20 30 M90 la83 0 (fun _ => none) := hl86.st hw91 hF29 (by first | omega | decide) (by first | omega | decide) (by first | omega | decide)
  have hf : sf cf M M90 := hf.nw hw91 hn28
  have hF29 : M90 q22 = some (5, .inl (.object RX5, 6, .inr (.inr (.inr (.inr (va_up (fun _ => none) 0 (some q71))))))) := hw91.1
  refine sg_iincN (pc := 81) (a := 0) (b := 1) hC dX6_init_81 rfl (nI_1 _) (by decide) ?_
  show sg_W X M90 12 25 84 [some (.ref ca), some (.int (nI 1))] []
  refine sg_goto (pc := 84) 62 hC dX6_init_84 (by decide) ?_
  refine sg_iload_n (pc := 62) (x := nI 1) hC dX6_init_62 rfl ?_
  refine sg_bipush (pc := 63) (nI 6) hC dX6_init_63 (by decide) ?_
  refine sg_icmpN_ge (pc := 65) (a := 1) (b := 6) 87 hC dX6_init_65 (by decide) (by decide) (by decide) (fun h92 => absurd h92 (by decide)) (fun _ => ?_)
  refine sg_aload_n (pc := 68) (v := .ref ca) hC dX6_init_68 rfl rfl ?_
  refine sg_get (pc := 69) (a := ca) (v := .ref q22) 2 hC rfl inw_X6 (by decide) tw_195 dX6_init_69 hA rfl ?_
  refine sg_iload_n (pc := 72) (x := nI 1) hC dX6_init_72 rfl ?_
  refine sg_new (pc := 73) (ci := 8) (11) [.null] hC rfl inw_X5 tyX5 tyX5_ok tw_135 tw_166 tw_70 (by intro j hj; have h9 : j = 0 := (by omega); rcases h9 with rfl <;> rfl) dX6_init_73 (by first | omega | decide) (by first | omega | decide) (by first | omega | decide) (fun q93 hq94 => ?_)
  refine sg_nm (fun M95 hw96 => ?_)
  have ne97 : ca ≠ q93 := sg_fresh hA hq94
  have hA : M95 ca = some (1, .inr (9, [.ref q1, .ref q13, .ref q22, .ref q32, .ref q43, .ref q55])) := hw96.n hA ne97
  have ne98 : q13 ≠ q93 := sg_fresh hF19 hq94
  have hF19 : M95 q13 = some (4, .inl (.object RX3, 8, .inr (.inr (.inr (.inr (fun _ => none)))))) := hw96.n hF19 ne98
  have ne99 : q22 ≠ q93 := sg_fresh hF29 hq94
  have hF29 : M95 q22 = some (5, .inl (.object RX5, 6, .inr (.inr (.inr (.inr (va_up (fun _ => none) 0 (some q71))))))) := hw96.n hF29 ne99
  have ne100 : q32 ≠ q93 := sg_fresh hF40 hq94
  have hF40 : M95 q32 = some (6, .inl (.object RX0, 4, .inr (.inr (.inr (.inr (fun _ => none)))))) := hw96.n hF40 ne100
  have ne101 : q43 ≠ q93 := sg_fresh hF52 hq94
  have hF52 : M95 q43 = some (7, .inl (.int, 8, .inl (fun _ => 0))) := hw96.n hF52 ne101
  have ne102 : q55 ≠ q93 := sg_fresh hF65 hq94
  have hF65 : M95 q55 = some (8, .inr (2, [.int (nI 0), .ref (G.2.2.2 0), .int (nI 0)])) := hw96.n hF65 ne102
  have ne103 : q71 ≠ q93 := sg_fresh hc85 hq94
  have hc85 : M95 q71 = some (10, .inr (8, [.ref la83])) := hw96.n hc85 ne103
  have hs9 : sb_r 2 3 M95 q1 ([]) := hs9.nw hw96 hq94
  have hl86 : al_r G 20 30 M95 la83 0 (fun _ => none) := hl86.nw hw96 hq94
  have hn104 : M q93 = none := hf.fr hq94
  have hf : sf cf M M95 := hf.nw hw96 hn104
  have hF105 : M95 q93 = some (11, .inr (8, [.null])) := hw96.1
  show sg_W X M95 11 24 76 [some (.ref ca), some (.int (nI 1))] [.ref q93, .int (nI 1), .ref q22]
  refine sg_dup (pc := 76) hC dX6_init_76 rfl ?_
  refine sg_callIN (pc := 77) (b := q93) (As := []) (rest := [.ref q93, .int (nI 1), .ref q22]) (mc := 1) (ms := 3) hC (show Cond.methodLinkNest RX6 45 yX5_init RX6 ∈ sg_wk by simp [sg_wk]) tw_168 tw_70 tw_169 rfl yd_X5_init (by decide) dX6_init_77 rfl (Nat.le_of_ble_eq_true rfl) (by first | omega | decide) (by first | omega | decide) ?_
  obtain ⟨g0111, hD112⟩ := (hEv.cf hf).2.2
  refine c_soInit (t := 11) (u := 21) (v := 31) htr hF105 (by decide) (by decide) (by decide) hD112 (fun la106 M107 hc108 hl109 hfs110 => ?_)
  have hA : M107 ca = some (1, .inr (9, [.ref q1, .ref q13, .ref q22, .ref q32, .ref q43, .ref q55])) := hfs110.p hA (by first | decide | (simp; done) | (simp; omega))
  have hF19 : M107 q13 = some (4, .inl (.object RX3, 8, .inr (.inr (.inr (.inr (fun _ => none)))))) := hfs110.p hF19 (by first | decide | (simp; done) | (simp; omega))
  have hF29 : M107 q22 = some (5, .inl (.object RX5, 6, .inr (.inr (.inr (.inr (va_up (fun _ => none) 0 (some q71))))))) := hfs110.p hF29 (by first | decide | (simp; done) | (simp; omega))
  have hF40 : M107 q32 = some (6, .inl (.object RX0, 4, .inr (.inr (.inr (.inr (fun _ => none)))))) := hfs110.p hF40 (by first | decide | (simp; done) | (simp; omega))
  have hF52 : M107 q43 = some (7, .inl (.int, 8, .inl (fun _ => 0))) := hfs110.p hF52 (by first | decide | (simp; done) | (simp; omega))
  have hF65 : M107 q55 = some (8, .inr (2, [.int (nI 0), .ref (G.2.2.2 0), .int (nI 0)])) := hfs110.p hF65 (by first | decide | (simp; done) | (simp; omega))
  have hc85 : M107 q71 = some (10, .inr (8, [.ref la83])) := hfs110.p hc85 (by first | decide | (simp; done) | (simp; omega))
  have hs9 : sb_r 2 3 M107 q1 ([]) := hs9.p hfs110 (by first | decide | (simp; done) | (simp; omega)) (by first | decide | (simp; done) | (simp; omega))
  have hl86 : al_r G 20 30 M107 la83 0 (fun _ => none) := hl86.p hfs110 (by first | decide | (simp; done) | (simp; omega)) (by first | decide | (simp; done) | (simp; omega)) (by first | decide | (simp; done) | (simp; omega))
  have hf : sf cf M M107 := hf.tr hfs110 (fun a t h => by first | (simp [pk] at h; done) | (simp [pk] at h; simp only [cf, cm]; omega))
  show sg_W X M107 10 21 80 [some (.ref ca), some (.int (nI 1))] [.ref q93, .int (nI 1), .ref q22]
  refine sg_aast5 (pc := 80) (i := nI 1) hC dX6_init_80 hF29 (by first | omega | decide) hc108 (by first | omega | decide)  (vp_in_nI (by first | omega | decide) (by first | omega | decide)) ?_
  rw [nI_clamp (by first | omega | decide)]
  refine sg_nm (fun M113 hw114 => ?_)
  have hA : M113 ca = some (1, .inr (9, [.ref q1, .ref q13, .ref q22, .ref q32, .ref q43, .ref q55])) := hw114.n hA ne26
  have hF19 : M113 q13 = some (4, .inl (.object RX3, 8, .inr (.inr (.inr (.inr (fun _ => none)))))) := hw114.n hF19 ne27
  have hF40 : M113 q32 = some (6, .inl (.object RX0, 4, .inr (.inr (.inr (.inr (fun _ => none)))))) := hw114.n hF40 (Ne.symm ne38)
  have hF52 : M113 q43 = some (7, .inl (.int, 8, .inl (fun _ => 0))) := hw114.n hF52 (Ne.symm ne49)
  have hF65 : M113 q55 = some (8, .inr (2, [.int (nI 0), .ref (G.2.2.2 0), .int (nI 0)])) := hw114.n hF65 (Ne.symm ne61)
  have hc85 : M113 q71 = some (10, .inr (8, [.ref la83])) := hw114.n hc85 (Ne.symm ne77)
  have hc108 : M113 q93 = some (11, .inr (8, [.ref la106])) := hw114.n hc108 (Ne.symm ne99)
  have hs9 : sb_r 2 3 M113 q1 ([]) := hs9.st hw114 hF29 (by first | omega | decide) (by first | omega | decide)
  have hl86 : al_r G 20 30 M113 la83 0 (fun _ => none) := hl86.st hw114 hF29 (by first | omega | decide) (by first | omega | decide) (by first | omega | decide)
  have hl109 : al_r G 21 31 M113 la106 0 (fun _ => none) := hl109.st hw114 hF29 (by first | omega | decide) (by first | omega | decide) (by first | omega | decide)
  have hf : sf cf M M113 := hf.nw hw114 hn28
  have hF29 : M113 q22 = some (5, .inl (.object RX5, 6, .inr (.inr (.inr (.inr (va_up (va_up (fun _ => none) 0 (some q71)) 1 (some q93))))))) := hw114.1
  refine sg_iincN (pc := 81) (a := 1) (b := 2) hC dX6_init_81 rfl (nI_1 _) (by decide) ?_
  show sg_W X M113 10 21 84 [some (.ref ca), some (.int (nI 2))] []
  refine sg_goto (pc := 84) 62 hC dX6_init_84 (by decide) ?_
  refine sg_iload_n (pc := 62) (x := nI 2) hC dX6_init_62 rfl ?_
  refine sg_bipush (pc := 63) (nI 6) hC dX6_init_63 (by decide) ?_
  refine sg_icmpN_ge (pc := 65) (a := 2) (b := 6) 87 hC dX6_init_65 (by decide) (by decide) (by decide) (fun h115 => absurd h115 (by decide)) (fun _ => ?_)
  refine sg_aload_n (pc := 68) (v := .ref ca) hC dX6_init_68 rfl rfl ?_
  refine sg_get (pc := 69) (a := ca) (v := .ref q22) 2 hC rfl inw_X6 (by decide) tw_195 dX6_init_69 hA rfl ?_
  refine sg_iload_n (pc := 72) (x := nI 2) hC dX6_init_72 rfl ?_
  refine sg_new (pc := 73) (ci := 8) (12) [.null] hC rfl inw_X5 tyX5 tyX5_ok tw_135 tw_166 tw_70 (by intro j hj; have h9 : j = 0 := (by omega); rcases h9 with rfl <;> rfl) dX6_init_73 (by first | omega | decide) (by first | omega | decide) (by first | omega | decide) (fun q116 hq117 => ?_)
  refine sg_nm (fun M118 hw119 => ?_)
  have ne120 : ca ≠ q116 := sg_fresh hA hq117
  have hA : M118 ca = some (1, .inr (9, [.ref q1, .ref q13, .ref q22, .ref q32, .ref q43, .ref q55])) := hw119.n hA ne120
  have ne121 : q13 ≠ q116 := sg_fresh hF19 hq117
  have hF19 : M118 q13 = some (4, .inl (.object RX3, 8, .inr (.inr (.inr (.inr (fun _ => none)))))) := hw119.n hF19 ne121
  have ne122 : q22 ≠ q116 := sg_fresh hF29 hq117
  have hF29 : M118 q22 = some (5, .inl (.object RX5, 6, .inr (.inr (.inr (.inr (va_up (va_up (fun _ => none) 0 (some q71)) 1 (some q93))))))) := hw119.n hF29 ne122
  have ne123 : q32 ≠ q116 := sg_fresh hF40 hq117
  have hF40 : M118 q32 = some (6, .inl (.object RX0, 4, .inr (.inr (.inr (.inr (fun _ => none)))))) := hw119.n hF40 ne123
  have ne124 : q43 ≠ q116 := sg_fresh hF52 hq117
  have hF52 : M118 q43 = some (7, .inl (.int, 8, .inl (fun _ => 0))) := hw119.n hF52 ne124
  have ne125 : q55 ≠ q116 := sg_fresh hF65 hq117
  have hF65 : M118 q55 = some (8, .inr (2, [.int (nI 0), .ref (G.2.2.2 0), .int (nI 0)])) := hw119.n hF65 ne125
  have ne126 : q71 ≠ q116 := sg_fresh hc85 hq117
  have hc85 : M118 q71 = some (10, .inr (8, [.ref la83])) := hw119.n hc85 ne126
  have ne127 : q93 ≠ q116 := sg_fresh hc108 hq117
  have hc108 : M118 q93 = some (11, .inr (8, [.ref la106])) := hw119.n hc108 ne127
  have hs9 : sb_r 2 3 M118 q1 ([]) := hs9.nw hw119 hq117
  have hl86 : al_r G 20 30 M118 la83 0 (fun _ => none) := hl86.nw hw119 hq117
  have hl109 : al_r G 21 31 M118 la106 0 (fun _ => none) := hl109.nw hw119 hq117
  have hn128 : M q116 = none := hf.fr hq117
  have hf : sf cf M M118 := hf.nw hw119 hn128
  have hF129 : M118 q116 = some (12, .inr (8, [.null])) := hw119.1
  show sg_W X M118 9 20 76 [some (.ref ca), some (.int (nI 2))] [.ref q116, .int (nI 2), .ref q22]
  refine sg_dup (pc := 76) hC dX6_init_76 rfl ?_
  refine sg_callIN (pc := 77) (b := q116) (As := []) (rest := [.ref q116, .int (nI 2), .ref q22]) (mc := 1) (ms := 3) hC (show Cond.methodLinkNest RX6 45 yX5_init RX6 ∈ sg_wk by simp [sg_wk]) tw_168 tw_70 tw_169 rfl yd_X5_init (by decide) dX6_init_77 rfl (Nat.le_of_ble_eq_true rfl) (by first | omega | decide) (by first | omega | decide) ?_
  obtain ⟨g0135, hD136⟩ := (hEv.cf hf).2.2
  refine c_soInit (t := 12) (u := 22) (v := 32) htr hF129 (by decide) (by decide) (by decide) hD136 (fun la130 M131 hc132 hl133 hfs134 => ?_)
  have hA : M131 ca = some (1, .inr (9, [.ref q1, .ref q13, .ref q22, .ref q32, .ref q43, .ref q55])) := hfs134.p hA (by first | decide | (simp; done) | (simp; omega))
  have hF19 : M131 q13 = some (4, .inl (.object RX3, 8, .inr (.inr (.inr (.inr (fun _ => none)))))) := hfs134.p hF19 (by first | decide | (simp; done) | (simp; omega))
  have hF29 : M131 q22 = some (5, .inl (.object RX5, 6, .inr (.inr (.inr (.inr (va_up (va_up (fun _ => none) 0 (some q71)) 1 (some q93))))))) := hfs134.p hF29 (by first | decide | (simp; done) | (simp; omega))
  have hF40 : M131 q32 = some (6, .inl (.object RX0, 4, .inr (.inr (.inr (.inr (fun _ => none)))))) := hfs134.p hF40 (by first | decide | (simp; done) | (simp; omega))
  have hF52 : M131 q43 = some (7, .inl (.int, 8, .inl (fun _ => 0))) := hfs134.p hF52 (by first | decide | (simp; done) | (simp; omega))
  have hF65 : M131 q55 = some (8, .inr (2, [.int (nI 0), .ref (G.2.2.2 0), .int (nI 0)])) := hfs134.p hF65 (by first | decide | (simp; done) | (simp; omega))
  have hc85 : M131 q71 = some (10, .inr (8, [.ref la83])) := hfs134.p hc85 (by first | decide | (simp; done) | (simp; omega))
  have hc108 : M131 q93 = some (11, .inr (8, [.ref la106])) := hfs134.p hc108 (by first | decide | (simp; done) | (simp; omega))
  have hs9 : sb_r 2 3 M131 q1 ([]) := hs9.p hfs134 (by first | decide | (simp; done) | (simp; omega)) (by first | decide | (simp; done) | (simp; omega))
  have hl86 : al_r G 20 30 M131 la83 0 (fun _ => none) := hl86.p hfs134 (by first | decide | (simp; done) | (simp; omega)) (by first | decide | (simp; done) | (simp; omega)) (by first | decide | (simp; done) | (simp; omega))
  have hl109 : al_r G 21 31 M131 la106 0 (fun _ => none) := hl109.p hfs134 (by first | decide | (simp; done) | (simp; omega)) (by first | decide | (simp; done) | (simp; omega)) (by first | decide | (simp; done) | (simp; omega))
  have hf : sf cf M M131 := hf.tr hfs134 (fun a t h => by first | (simp [pk] at h; done) | (simp [pk] at h; simp only [cf, cm]; omega))
  show sg_W X M131 8 17 80 [some (.ref ca), some (.int (nI 2))] [.ref q116, .int (nI 2), .ref q22]
  refine sg_aast5 (pc := 80) (i := nI 2) hC dX6_init_80 hF29 (by first | omega | decide) hc132 (by first | omega | decide)  (vp_in_nI (by first | omega | decide) (by first | omega | decide)) ?_
  rw [nI_clamp (by first | omega | decide)]
  refine sg_nm (fun M137 hw138 => ?_)
  have hA : M137 ca = some (1, .inr (9, [.ref q1, .ref q13, .ref q22, .ref q32, .ref q43, .ref q55])) := hw138.n hA ne26
  have hF19 : M137 q13 = some (4, .inl (.object RX3, 8, .inr (.inr (.inr (.inr (fun _ => none)))))) := hw138.n hF19 ne27
  have hF40 : M137 q32 = some (6, .inl (.object RX0, 4, .inr (.inr (.inr (.inr (fun _ => none)))))) := hw138.n hF40 (Ne.symm ne38)
  have hF52 : M137 q43 = some (7, .inl (.int, 8, .inl (fun _ => 0))) := hw138.n hF52 (Ne.symm ne49)
  have hF65 : M137 q55 = some (8, .inr (2, [.int (nI 0), .ref (G.2.2.2 0), .int (nI 0)])) := hw138.n hF65 (Ne.symm ne61)
  have hc85 : M137 q71 = some (10, .inr (8, [.ref la83])) := hw138.n hc85 (Ne.symm ne77)
  have hc108 : M137 q93 = some (11, .inr (8, [.ref la106])) := hw138.n hc108 (Ne.symm ne99)
  have hc132 : M137 q116 = some (12, .inr (8, [.ref la130])) := hw138.n hc132 (Ne.symm ne122)
  have hs9 : sb_r 2 3 M137 q1 ([]) := hs9.st hw138 hF29 (by first | omega | decide) (by first | omega | decide)
  have hl86 : al_r G 20 30 M137 la83 0 (fun _ => none) := hl86.st hw138 hF29 (by first | omega | decide) (by first | omega | decide) (by first | omega | decide)
  have hl109 : al_r G 21 31 M137 la106 0 (fun _ => none) := hl109.st hw138 hF29 (by first | omega | decide) (by first | omega | decide) (by first | omega | decide)
  have hl133 : al_r G 22 32 M137 la130 0 (fun _ => none) := hl133.st hw138 hF29 (by first | omega | decide) (by first | omega | decide) (by first | omega | decide)
  have hf : sf cf M M137 := hf.nw hw138 hn28
  have hF29 : M137 q22 = some (5, .inl (.object RX5, 6, .inr (.inr (.inr (.inr (va_up (va_up (va_up (fun _ => none) 0 (some q71)) 1 (some q93)) 2 (some q116))))))) := hw138.1
  refine sg_iincN (pc := 81) (a := 2) (b := 3) hC dX6_init_81 rfl (nI_1 _) (by decide) ?_
  show sg_W X M137 8 17 84 [some (.ref ca), some (.int (nI 3))] []
  refine sg_goto (pc := 84) 62 hC dX6_init_84 (by decide) ?_
  refine sg_iload_n (pc := 62) (x := nI 3) hC dX6_init_62 rfl ?_
  refine sg_bipush (pc := 63) (nI 6) hC dX6_init_63 (by decide) ?_
  refine sg_icmpN_ge (pc := 65) (a := 3) (b := 6) 87 hC dX6_init_65 (by decide) (by decide) (by decide) (fun h139 => absurd h139 (by decide)) (fun _ => ?_)
  refine sg_aload_n (pc := 68) (v := .ref ca) hC dX6_init_68 rfl rfl ?_
  refine sg_get (pc := 69) (a := ca) (v := .ref q22) 2 hC rfl inw_X6 (by decide) tw_195 dX6_init_69 hA rfl ?_
  refine sg_iload_n (pc := 72) (x := nI 3) hC dX6_init_72 rfl ?_
  refine sg_new (pc := 73) (ci := 8) (13) [.null] hC rfl inw_X5 tyX5 tyX5_ok tw_135 tw_166 tw_70 (by intro j hj; have h9 : j = 0 := (by omega); rcases h9 with rfl <;> rfl) dX6_init_73 (by first | omega | decide) (by first | omega | decide) (by first | omega | decide) (fun q140 hq141 => ?_)
  refine sg_nm (fun M142 hw143 => ?_)
  have ne144 : ca ≠ q140 := sg_fresh hA hq141
  have hA : M142 ca = some (1, .inr (9, [.ref q1, .ref q13, .ref q22, .ref q32, .ref q43, .ref q55])) := hw143.n hA ne144
  have ne145 : q13 ≠ q140 := sg_fresh hF19 hq141
  have hF19 : M142 q13 = some (4, .inl (.object RX3, 8, .inr (.inr (.inr (.inr (fun _ => none)))))) := hw143.n hF19 ne145
  have ne146 : q22 ≠ q140 := sg_fresh hF29 hq141
  have hF29 : M142 q22 = some (5, .inl (.object RX5, 6, .inr (.inr (.inr (.inr (va_up (va_up (va_up (fun _ => none) 0 (some q71)) 1 (some q93)) 2 (some q116))))))) := hw143.n hF29 ne146
  have ne147 : q32 ≠ q140 := sg_fresh hF40 hq141
  have hF40 : M142 q32 = some (6, .inl (.object RX0, 4, .inr (.inr (.inr (.inr (fun _ => none)))))) := hw143.n hF40 ne147
  have ne148 : q43 ≠ q140 := sg_fresh hF52 hq141
  have hF52 : M142 q43 = some (7, .inl (.int, 8, .inl (fun _ => 0))) := hw143.n hF52 ne148
  have ne149 : q55 ≠ q140 := sg_fresh hF65 hq141
  have hF65 : M142 q55 = some (8, .inr (2, [.int (nI 0), .ref (G.2.2.2 0), .int (nI 0)])) := hw143.n hF65 ne149
  have ne150 : q71 ≠ q140 := sg_fresh hc85 hq141
  have hc85 : M142 q71 = some (10, .inr (8, [.ref la83])) := hw143.n hc85 ne150
  have ne151 : q93 ≠ q140 := sg_fresh hc108 hq141
  have hc108 : M142 q93 = some (11, .inr (8, [.ref la106])) := hw143.n hc108 ne151
  have ne152 : q116 ≠ q140 := sg_fresh hc132 hq141
  have hc132 : M142 q116 = some (12, .inr (8, [.ref la130])) := hw143.n hc132 ne152
  have hs9 : sb_r 2 3 M142 q1 ([]) := hs9.nw hw143 hq141
  have hl86 : al_r G 20 30 M142 la83 0 (fun _ => none) := hl86.nw hw143 hq141
  have hl109 : al_r G 21 31 M142 la106 0 (fun _ => none) := hl109.nw hw143 hq141
  have hl133 : al_r G 22 32 M142 la130 0 (fun _ => none) := hl133.nw hw143 hq141
  have hn153 : M q140 = none := hf.fr hq141
  have hf : sf cf M M142 := hf.nw hw143 hn153
  have hF154 : M142 q140 = some (13, .inr (8, [.null])) := hw143.1
  show sg_W X M142 7 16 76 [some (.ref ca), some (.int (nI 3))] [.ref q140, .int (nI 3), .ref q22]
  refine sg_dup (pc := 76) hC dX6_init_76 rfl ?_
  refine sg_callIN (pc := 77) (b := q140) (As := []) (rest := [.ref q140, .int (nI 3), .ref q22]) (mc := 1) (ms := 3) hC (show Cond.methodLinkNest RX6 45 yX5_init RX6 ∈ sg_wk by simp [sg_wk]) tw_168 tw_70 tw_169 rfl yd_X5_init (by decide) dX6_init_77 rfl (Nat.le_of_ble_eq_true rfl) (by first | omega | decide) (by first | omega | decide) ?_
  obtain ⟨g0160, hD161⟩ := (hEv.cf hf).2.2
  refine c_soInit (t := 13) (u := 23) (v := 33) htr hF154 (by decide) (by decide) (by decide) hD161 (fun la155 M156 hc157 hl158 hfs159 => ?_)
  have hA : M156 ca = some (1, .inr (9, [.ref q1, .ref q13, .ref q22, .ref q32, .ref q43, .ref q55])) := hfs159.p hA (by first | decide | (simp; done) | (simp; omega))
  have hF19 : M156 q13 = some (4, .inl (.object RX3, 8, .inr (.inr (.inr (.inr (fun _ => none)))))) := hfs159.p hF19 (by first | decide | (simp; done) | (simp; omega))
  have hF29 : M156 q22 = some (5, .inl (.object RX5, 6, .inr (.inr (.inr (.inr (va_up (va_up (va_up (fun _ => none) 0 (some q71)) 1 (some q93)) 2 (some q116))))))) := hfs159.p hF29 (by first | decide | (simp; done) | (simp; omega))
  have hF40 : M156 q32 = some (6, .inl (.object RX0, 4, .inr (.inr (.inr (.inr (fun _ => none)))))) := hfs159.p hF40 (by first | decide | (simp; done) | (simp; omega))
  have hF52 : M156 q43 = some (7, .inl (.int, 8, .inl (fun _ => 0))) := hfs159.p hF52 (by first | decide | (simp; done) | (simp; omega))
  have hF65 : M156 q55 = some (8, .inr (2, [.int (nI 0), .ref (G.2.2.2 0), .int (nI 0)])) := hfs159.p hF65 (by first | decide | (simp; done) | (simp; omega))
  have hc85 : M156 q71 = some (10, .inr (8, [.ref la83])) := hfs159.p hc85 (by first | decide | (simp; done) | (simp; omega))
  have hc108 : M156 q93 = some (11, .inr (8, [.ref la106])) := hfs159.p hc108 (by first | decide | (simp; done) | (simp; omega))
  have hc132 : M156 q116 = some (12, .inr (8, [.ref la130])) := hfs159.p hc132 (by first | decide | (simp; done) | (simp; omega))
  have hs9 : sb_r 2 3 M156 q1 ([]) := hs9.p hfs159 (by first | decide | (simp; done) | (simp; omega)) (by first | decide | (simp; done) | (simp; omega))
  have hl86 : al_r G 20 30 M156 la83 0 (fun _ => none) := hl86.p hfs159 (by first | decide | (simp; done) | (simp; omega)) (by first | decide | (simp; done) | (simp; omega)) (by first | decide | (simp; done) | (simp; omega))
  have hl109 : al_r G 21 31 M156 la106 0 (fun _ => none) := hl109.p hfs159 (by first | decide | (simp; done) | (simp; omega)) (by first | decide | (simp; done) | (simp; omega)) (by first | decide | (simp; done) | (simp; omega))
  have hl133 : al_r G 22 32 M156 la130 0 (fun _ => none) := hl133.p hfs159 (by first | decide | (simp; done) | (simp; omega)) (by first | decide | (simp; done) | (simp; omega)) (by first | decide | (simp; done) | (simp; omega))
  have hf : sf cf M M156 := hf.tr hfs159 (fun a t h => by first | (simp [pk] at h; done) | (simp [pk] at h; simp only [cf, cm]; omega))
  show sg_W X M156 6 13 80 [some (.ref ca), some (.int (nI 3))] [.ref q140, .int (nI 3), .ref q22]
  refine sg_aast5 (pc := 80) (i := nI 3) hC dX6_init_80 hF29 (by first | omega | decide) hc157 (by first | omega | decide)  (vp_in_nI (by first | omega | decide) (by first | omega | decide)) ?_
  rw [nI_clamp (by first | omega | decide)]
  refine sg_nm (fun M162 hw163 => ?_)
  have hA : M162 ca = some (1, .inr (9, [.ref q1, .ref q13, .ref q22, .ref q32, .ref q43, .ref q55])) := hw163.n hA ne26
  have hF19 : M162 q13 = some (4, .inl (.object RX3, 8, .inr (.inr (.inr (.inr (fun _ => none)))))) := hw163.n hF19 ne27
  have hF40 : M162 q32 = some (6, .inl (.object RX0, 4, .inr (.inr (.inr (.inr (fun _ => none)))))) := hw163.n hF40 (Ne.symm ne38)
  have hF52 : M162 q43 = some (7, .inl (.int, 8, .inl (fun _ => 0))) := hw163.n hF52 (Ne.symm ne49)
  have hF65 : M162 q55 = some (8, .inr (2, [.int (nI 0), .ref (G.2.2.2 0), .int (nI 0)])) := hw163.n hF65 (Ne.symm ne61)
  have hc85 : M162 q71 = some (10, .inr (8, [.ref la83])) := hw163.n hc85 (Ne.symm ne77)
  have hc108 : M162 q93 = some (11, .inr (8, [.ref la106])) := hw163.n hc108 (Ne.symm ne99)
  have hc132 : M162 q116 = some (12, .inr (8, [.ref la130])) := hw163.n hc132 (Ne.symm ne122)
  have hc157 : M162 q140 = some (13, .inr (8, [.ref la155])) := hw163.n hc157 (Ne.symm ne146)
  have hs9 : sb_r 2 3 M162 q1 ([]) := hs9.st hw163 hF29 (by first | omega | decide) (by first | omega | decide)
  have hl86 : al_r G 20 30 M162 la83 0 (fun _ => none) := hl86.st hw163 hF29 (by first | omega | decide) (by first | omega | decide) (by first | omega | decide)
  have hl109 : al_r G 21 31 M162 la106 0 (fun _ => none) := hl109.st hw163 hF29 (by first | omega | decide) (by first | omega | decide) (by first | omega | decide)
  have hl133 : al_r G 22 32 M162 la130 0 (fun _ => none) := hl133.st hw163 hF29 (by first | omega | decide) (by first | omega | decide) (by first | omega | decide)
  have hl158 : al_r G 23 33 M162 la155 0 (fun _ => none) := hl158.st hw163 hF29 (by first | omega | decide) (by first | omega | decide) (by first | omega | decide)
  have hf : sf cf M M162 := hf.nw hw163 hn28
  have hF29 : M162 q22 = some (5, .inl (.object RX5, 6, .inr (.inr (.inr (.inr (va_up (va_up (va_up (va_up (fun _ => none) 0 (some q71)) 1 (some q93)) 2 (some q116)) 3 (some q140))))))) := hw163.1
  refine sg_iincN (pc := 81) (a := 3) (b := 4) hC dX6_init_81 rfl (nI_1 _) (by decide) ?_
  show sg_W X M162 6 13 84 [some (.ref ca), some (.int (nI 4))] []
  refine sg_goto (pc := 84) 62 hC dX6_init_84 (by decide) ?_
  refine sg_iload_n (pc := 62) (x := nI 4) hC dX6_init_62 rfl ?_
  refine sg_bipush (pc := 63) (nI 6) hC dX6_init_63 (by decide) ?_
  refine sg_icmpN_ge (pc := 65) (a := 4) (b := 6) 87 hC dX6_init_65 (by decide) (by decide) (by decide) (fun h164 => absurd h164 (by decide)) (fun _ => ?_)
  refine sg_aload_n (pc := 68) (v := .ref ca) hC dX6_init_68 rfl rfl ?_
  refine sg_get (pc := 69) (a := ca) (v := .ref q22) 2 hC rfl inw_X6 (by decide) tw_195 dX6_init_69 hA rfl ?_
  refine sg_iload_n (pc := 72) (x := nI 4) hC dX6_init_72 rfl ?_
  refine sg_new (pc := 73) (ci := 8) (14) [.null] hC rfl inw_X5 tyX5 tyX5_ok tw_135 tw_166 tw_70 (by intro j hj; have h9 : j = 0 := (by omega); rcases h9 with rfl <;> rfl) dX6_init_73 (by first | omega | decide) (by first | omega | decide) (by first | omega | decide) (fun q165 hq166 => ?_)
  refine sg_nm (fun M167 hw168 => ?_)
  have ne169 : ca ≠ q165 := sg_fresh hA hq166
  have hA : M167 ca = some (1, .inr (9, [.ref q1, .ref q13, .ref q22, .ref q32, .ref q43, .ref q55])) := hw168.n hA ne169
  have ne170 : q13 ≠ q165 := sg_fresh hF19 hq166
  have hF19 : M167 q13 = some (4, .inl (.object RX3, 8, .inr (.inr (.inr (.inr (fun _ => none)))))) := hw168.n hF19 ne170
  have ne171 : q22 ≠ q165 := sg_fresh hF29 hq166
  have hF29 : M167 q22 = some (5, .inl (.object RX5, 6, .inr (.inr (.inr (.inr (va_up (va_up (va_up (va_up (fun _ => none) 0 (some q71)) 1 (some q93)) 2 (some q116)) 3 (some q140))))))) := hw168.n hF29 ne171
  have ne172 : q32 ≠ q165 := sg_fresh hF40 hq166
  have hF40 : M167 q32 = some (6, .inl (.object RX0, 4, .inr (.inr (.inr (.inr (fun _ => none)))))) := hw168.n hF40 ne172
  have ne173 : q43 ≠ q165 := sg_fresh hF52 hq166
  have hF52 : M167 q43 = some (7, .inl (.int, 8, .inl (fun _ => 0))) := hw168.n hF52 ne173
  have ne174 : q55 ≠ q165 := sg_fresh hF65 hq166
  have hF65 : M167 q55 = some (8, .inr (2, [.int (nI 0), .ref (G.2.2.2 0), .int (nI 0)])) := hw168.n hF65 ne174
  have ne175 : q71 ≠ q165 := sg_fresh hc85 hq166
  have hc85 : M167 q71 = some (10, .inr (8, [.ref la83])) := hw168.n hc85 ne175
  have ne176 : q93 ≠ q165 := sg_fresh hc108 hq166
  have hc108 : M167 q93 = some (11, .inr (8, [.ref la106])) := hw168.n hc108 ne176
  have ne177 : q116 ≠ q165 := sg_fresh hc132 hq166
  have hc132 : M167 q116 = some (12, .inr (8, [.ref la130])) := hw168.n hc132 ne177
  have ne178 : q140 ≠ q165 := sg_fresh hc157 hq166
  have hc157 : M167 q140 = some (13, .inr (8, [.ref la155])) := hw168.n hc157 ne178
  have hs9 : sb_r 2 3 M167 q1 ([]) := hs9.nw hw168 hq166
  have hl86 : al_r G 20 30 M167 la83 0 (fun _ => none) := hl86.nw hw168 hq166
  have hl109 : al_r G 21 31 M167 la106 0 (fun _ => none) := hl109.nw hw168 hq166
  have hl133 : al_r G 22 32 M167 la130 0 (fun _ => none) := hl133.nw hw168 hq166
  have hl158 : al_r G 23 33 M167 la155 0 (fun _ => none) := hl158.nw hw168 hq166
  have hn179 : M q165 = none := hf.fr hq166
  have hf : sf cf M M167 := hf.nw hw168 hn179
  have hF180 : M167 q165 = some (14, .inr (8, [.null])) := hw168.1
  show sg_W X M167 5 12 76 [some (.ref ca), some (.int (nI 4))] [.ref q165, .int (nI 4), .ref q22]
  refine sg_dup (pc := 76) hC dX6_init_76 rfl ?_
  refine sg_callIN (pc := 77) (b := q165) (As := []) (rest := [.ref q165, .int (nI 4), .ref q22]) (mc := 1) (ms := 3) hC (show Cond.methodLinkNest RX6 45 yX5_init RX6 ∈ sg_wk by simp [sg_wk]) tw_168 tw_70 tw_169 rfl yd_X5_init (by decide) dX6_init_77 rfl (Nat.le_of_ble_eq_true rfl) (by first | omega | decide) (by first | omega | decide) ?_
  obtain ⟨g0186, hD187⟩ := (hEv.cf hf).2.2
  refine c_soInit (t := 14) (u := 24) (v := 34) htr hF180 (by decide) (by decide) (by decide) hD187 (fun la181 M182 hc183 hl184 hfs185 => ?_)
  have hA : M182 ca = some (1, .inr (9, [.ref q1, .ref q13, .ref q22, .ref q32, .ref q43, .ref q55])) := hfs185.p hA (by first | decide | (simp; done) | (simp; omega))
  have hF19 : M182 q13 = some (4, .inl (.object RX3, 8, .inr (.inr (.inr (.inr (fun _ => none)))))) := hfs185.p hF19 (by first | decide | (simp; done) | (simp; omega))
  have hF29 : M182 q22 = some (5, .inl (.object RX5, 6, .inr (.inr (.inr (.inr (va_up (va_up (va_up (va_up (fun _ => none) 0 (some q71)) 1 (some q93)) 2 (some q116)) 3 (some q140))))))) := hfs185.p hF29 (by first | decide | (simp; done) | (simp; omega))
  have hF40 : M182 q32 = some (6, .inl (.object RX0, 4, .inr (.inr (.inr (.inr (fun _ => none)))))) := hfs185.p hF40 (by first | decide | (simp; done) | (simp; omega))
  have hF52 : M182 q43 = some (7, .inl (.int, 8, .inl (fun _ => 0))) := hfs185.p hF52 (by first | decide | (simp; done) | (simp; omega))
  have hF65 : M182 q55 = some (8, .inr (2, [.int (nI 0), .ref (G.2.2.2 0), .int (nI 0)])) := hfs185.p hF65 (by first | decide | (simp; done) | (simp; omega))
  have hc85 : M182 q71 = some (10, .inr (8, [.ref la83])) := hfs185.p hc85 (by first | decide | (simp; done) | (simp; omega))
  have hc108 : M182 q93 = some (11, .inr (8, [.ref la106])) := hfs185.p hc108 (by first | decide | (simp; done) | (simp; omega))
  have hc132 : M182 q116 = some (12, .inr (8, [.ref la130])) := hfs185.p hc132 (by first | decide | (simp; done) | (simp; omega))
  have hc157 : M182 q140 = some (13, .inr (8, [.ref la155])) := hfs185.p hc157 (by first | decide | (simp; done) | (simp; omega))
  have hs9 : sb_r 2 3 M182 q1 ([]) := hs9.p hfs185 (by first | decide | (simp; done) | (simp; omega)) (by first | decide | (simp; done) | (simp; omega))
  have hl86 : al_r G 20 30 M182 la83 0 (fun _ => none) := hl86.p hfs185 (by first | decide | (simp; done) | (simp; omega)) (by first | decide | (simp; done) | (simp; omega)) (by first | decide | (simp; done) | (simp; omega))
  have hl109 : al_r G 21 31 M182 la106 0 (fun _ => none) := hl109.p hfs185 (by first | decide | (simp; done) | (simp; omega)) (by first | decide | (simp; done) | (simp; omega)) (by first | decide | (simp; done) | (simp; omega))
  have hl133 : al_r G 22 32 M182 la130 0 (fun _ => none) := hl133.p hfs185 (by first | decide | (simp; done) | (simp; omega)) (by first | decide | (simp; done) | (simp; omega)) (by first | decide | (simp; done) | (simp; omega))
  have hl158 : al_r G 23 33 M182 la155 0 (fun _ => none) := hl158.p hfs185 (by first | decide | (simp; done) | (simp; omega)) (by first | decide | (simp; done) | (simp; omega)) (by first | decide | (simp; done) | (simp; omega))
  have hf : sf cf M M182 := hf.tr hfs185 (fun a t h => by first | (simp [pk] at h; done) | (simp [pk] at h; simp only [cf, cm]; omega))
  show sg_W X M182 4 9 80 [some (.ref ca), some (.int (nI 4))] [.ref q165, .int (nI 4), .ref q22]
  refine sg_aast5 (pc := 80) (i := nI 4) hC dX6_init_80 hF29 (by first | omega | decide) hc183 (by first | omega | decide)  (vp_in_nI (by first | omega | decide) (by first | omega | decide)) ?_
  rw [nI_clamp (by first | omega | decide)]
  refine sg_nm (fun M188 hw189 => ?_)
  have hA : M188 ca = some (1, .inr (9, [.ref q1, .ref q13, .ref q22, .ref q32, .ref q43, .ref q55])) := hw189.n hA ne26
  have hF19 : M188 q13 = some (4, .inl (.object RX3, 8, .inr (.inr (.inr (.inr (fun _ => none)))))) := hw189.n hF19 ne27
  have hF40 : M188 q32 = some (6, .inl (.object RX0, 4, .inr (.inr (.inr (.inr (fun _ => none)))))) := hw189.n hF40 (Ne.symm ne38)
  have hF52 : M188 q43 = some (7, .inl (.int, 8, .inl (fun _ => 0))) := hw189.n hF52 (Ne.symm ne49)
  have hF65 : M188 q55 = some (8, .inr (2, [.int (nI 0), .ref (G.2.2.2 0), .int (nI 0)])) := hw189.n hF65 (Ne.symm ne61)
  have hc85 : M188 q71 = some (10, .inr (8, [.ref la83])) := hw189.n hc85 (Ne.symm ne77)
  have hc108 : M188 q93 = some (11, .inr (8, [.ref la106])) := hw189.n hc108 (Ne.symm ne99)
  have hc132 : M188 q116 = some (12, .inr (8, [.ref la130])) := hw189.n hc132 (Ne.symm ne122)
  have hc157 : M188 q140 = some (13, .inr (8, [.ref la155])) := hw189.n hc157 (Ne.symm ne146)
  have hc183 : M188 q165 = some (14, .inr (8, [.ref la181])) := hw189.n hc183 (Ne.symm ne171)
  have hs9 : sb_r 2 3 M188 q1 ([]) := hs9.st hw189 hF29 (by first | omega | decide) (by first | omega | decide)
  have hl86 : al_r G 20 30 M188 la83 0 (fun _ => none) := hl86.st hw189 hF29 (by first | omega | decide) (by first | omega | decide) (by first | omega | decide)
  have hl109 : al_r G 21 31 M188 la106 0 (fun _ => none) := hl109.st hw189 hF29 (by first | omega | decide) (by first | omega | decide) (by first | omega | decide)
  have hl133 : al_r G 22 32 M188 la130 0 (fun _ => none) := hl133.st hw189 hF29 (by first | omega | decide) (by first | omega | decide) (by first | omega | decide)
  have hl158 : al_r G 23 33 M188 la155 0 (fun _ => none) := hl158.st hw189 hF29 (by first | omega | decide) (by first | omega | decide) (by first | omega | decide)
  have hl184 : al_r G 24 34 M188 la181 0 (fun _ => none) := hl184.st hw189 hF29 (by first | omega | decide) (by first | omega | decide) (by first | omega | decide)
  have hf : sf cf M M188 := hf.nw hw189 hn28
  have hF29 : M188 q22 = some (5, .inl (.object RX5, 6, .inr (.inr (.inr (.inr (va_up (va_up (va_up (va_up (va_up (fun _ => none) 0 (some q71)) 1 (some q93)) 2 (some q116)) 3 (some q140)) 4 (some q165))))))) := hw189.1
  refine sg_iincN (pc := 81) (a := 4) (b := 5) hC dX6_init_81 rfl (nI_1 _) (by decide) ?_
  show sg_W X M188 4 9 84 [some (.ref ca), some (.int (nI 5))] []
  refine sg_goto (pc := 84) 62 hC dX6_init_84 (by decide) ?_
  refine sg_iload_n (pc := 62) (x := nI 5) hC dX6_init_62 rfl ?_
  refine sg_bipush (pc := 63) (nI 6) hC dX6_init_63 (by decide) ?_
  refine sg_icmpN_ge (pc := 65) (a := 5) (b := 6) 87 hC dX6_init_65 (by decide) (by decide) (by decide) (fun h190 => absurd h190 (by decide)) (fun _ => ?_)
  refine sg_aload_n (pc := 68) (v := .ref ca) hC dX6_init_68 rfl rfl ?_
  refine sg_get (pc := 69) (a := ca) (v := .ref q22) 2 hC rfl inw_X6 (by decide) tw_195 dX6_init_69 hA rfl ?_
  refine sg_iload_n (pc := 72) (x := nI 5) hC dX6_init_72 rfl ?_
  refine sg_new (pc := 73) (ci := 8) (15) [.null] hC rfl inw_X5 tyX5 tyX5_ok tw_135 tw_166 tw_70 (by intro j hj; have h9 : j = 0 := (by omega); rcases h9 with rfl <;> rfl) dX6_init_73 (by first | omega | decide) (by first | omega | decide) (by first | omega | decide) (fun q191 hq192 => ?_)
  refine sg_nm (fun M193 hw194 => ?_)
  have ne195 : ca ≠ q191 := sg_fresh hA hq192
  have hA : M193 ca = some (1, .inr (9, [.ref q1, .ref q13, .ref q22, .ref q32, .ref q43, .ref q55])) := hw194.n hA ne195
  have ne196 : q13 ≠ q191 := sg_fresh hF19 hq192
  have hF19 : M193 q13 = some (4, .inl (.object RX3, 8, .inr (.inr (.inr (.inr (fun _ => none)))))) := hw194.n hF19 ne196
  have ne197 : q22 ≠ q191 := sg_fresh hF29 hq192
  have hF29 : M193 q22 = some (5, .inl (.object RX5, 6, .inr (.inr (.inr (.inr (va_up (va_up (va_up (va_up (va_up (fun _ => none) 0 (some q71)) 1 (some q93)) 2 (some q116)) 3 (some q140)) 4 (some q165))))))) := hw194.n hF29 ne197
  have ne198 : q32 ≠ q191 := sg_fresh hF40 hq192
  have hF40 : M193 q32 = some (6, .inl (.object RX0, 4, .inr (.inr (.inr (.inr (fun _ => none)))))) := hw194.n hF40 ne198
  have ne199 : q43 ≠ q191 := sg_fresh hF52 hq192
  have hF52 : M193 q43 = some (7, .inl (.int, 8, .inl (fun _ => 0))) := hw194.n hF52 ne199
  have ne200 : q55 ≠ q191 := sg_fresh hF65 hq192
  have hF65 : M193 q55 = some (8, .inr (2, [.int (nI 0), .ref (G.2.2.2 0), .int (nI 0)])) := hw194.n hF65 ne200
  have ne201 : q71 ≠ q191 := sg_fresh hc85 hq192
  have hc85 : M193 q71 = some (10, .inr (8, [.ref la83])) := hw194.n hc85 ne201
  have ne202 : q93 ≠ q191 := sg_fresh hc108 hq192
  have hc108 : M193 q93 = some (11, .inr (8, [.ref la106])) := hw194.n hc108 ne202
  have ne203 : q116 ≠ q191 := sg_fresh hc132 hq192
  have hc132 : M193 q116 = some (12, .inr (8, [.ref la130])) := hw194.n hc132 ne203
  have ne204 : q140 ≠ q191 := sg_fresh hc157 hq192
  have hc157 : M193 q140 = some (13, .inr (8, [.ref la155])) := hw194.n hc157 ne204
  have ne205 : q165 ≠ q191 := sg_fresh hc183 hq192
  have hc183 : M193 q165 = some (14, .inr (8, [.ref la181])) := hw194.n hc183 ne205
  have hs9 : sb_r 2 3 M193 q1 ([]) := hs9.nw hw194 hq192
  have hl86 : al_r G 20 30 M193 la83 0 (fun _ => none) := hl86.nw hw194 hq192
  have hl109 : al_r G 21 31 M193 la106 0 (fun _ => none) := hl109.nw hw194 hq192
  have hl133 : al_r G 22 32 M193 la130 0 (fun _ => none) := hl133.nw hw194 hq192
  have hl158 : al_r G 23 33 M193 la155 0 (fun _ => none) := hl158.nw hw194 hq192
  have hl184 : al_r G 24 34 M193 la181 0 (fun _ => none) := hl184.nw hw194 hq192
  have hn206 : M q191 = none := hf.fr hq192
  have hf : sf cf M M193 := hf.nw hw194 hn206
  have hF207 : M193 q191 = some (15, .inr (8, [.null])) := hw194.1
  show sg_W X M193 3 8 76 [some (.ref ca), some (.int (nI 5))] [.ref q191, .int (nI 5), .ref q22]
  refine sg_dup (pc := 76) hC dX6_init_76 rfl ?_
  refine sg_callIN (pc := 77) (b := q191) (As := []) (rest := [.ref q191, .int (nI 5), .ref q22]) (mc := 1) (ms := 3) hC (show Cond.methodLinkNest RX6 45 yX5_init RX6 ∈ sg_wk by simp [sg_wk]) tw_168 tw_70 tw_169 rfl yd_X5_init (by decide) dX6_init_77 rfl (Nat.le_of_ble_eq_true rfl) (by first | omega | decide) (by first | omega | decide) ?_
  obtain ⟨g0213, hD214⟩ := (hEv.cf hf).2.2
  refine c_soInit (t := 15) (u := 25) (v := 35) htr hF207 (by decide) (by decide) (by decide) hD214 (fun la208 M209 hc210 hl211 hfs212 => ?_)
  have hA : M209 ca = some (1, .inr (9, [.ref q1, .ref q13, .ref q22, .ref q32, .ref q43, .ref q55])) := hfs212.p hA (by first | decide | (simp; done) | (simp; omega))
  have hF19 : M209 q13 = some (4, .inl (.object RX3, 8, .inr (.inr (.inr (.inr (fun _ => none)))))) := hfs212.p hF19 (by first | decide | (simp; done) | (simp; omega))
  have hF29 : M209 q22 = some (5, .inl (.object RX5, 6, .inr (.inr (.inr (.inr (va_up (va_up (va_up (va_up (va_up (fun _ => none) 0 (some q71)) 1 (some q93)) 2 (some q116)) 3 (some q140)) 4 (some q165))))))) := hfs212.p hF29 (by first | decide | (simp; done) | (simp; omega))
  have hF40 : M209 q32 = some (6, .inl (.object RX0, 4, .inr (.inr (.inr (.inr (fun _ => none)))))) := hfs212.p hF40 (by first | decide | (simp; done) | (simp; omega))
  have hF52 : M209 q43 = some (7, .inl (.int, 8, .inl (fun _ => 0))) := hfs212.p hF52 (by first | decide | (simp; done) | (simp; omega))
  have hF65 : M209 q55 = some (8, .inr (2, [.int (nI 0), .ref (G.2.2.2 0), .int (nI 0)])) := hfs212.p hF65 (by first | decide | (simp; done) | (simp; omega))
  have hc85 : M209 q71 = some (10, .inr (8, [.ref la83])) := hfs212.p hc85 (by first | decide | (simp; done) | (simp; omega))
  have hc108 : M209 q93 = some (11, .inr (8, [.ref la106])) := hfs212.p hc108 (by first | decide | (simp; done) | (simp; omega))
  have hc132 : M209 q116 = some (12, .inr (8, [.ref la130])) := hfs212.p hc132 (by first | decide | (simp; done) | (simp; omega))
  have hc157 : M209 q140 = some (13, .inr (8, [.ref la155])) := hfs212.p hc157 (by first | decide | (simp; done) | (simp; omega))
  have hc183 : M209 q165 = some (14, .inr (8, [.ref la181])) := hfs212.p hc183 (by first | decide | (simp; done) | (simp; omega))
  have hs9 : sb_r 2 3 M209 q1 ([]) := hs9.p hfs212 (by first | decide | (simp; done) | (simp; omega)) (by first | decide | (simp; done) | (simp; omega))
  have hl86 : al_r G 20 30 M209 la83 0 (fun _ => none) := hl86.p hfs212 (by first | decide | (simp; done) | (simp; omega)) (by first | decide | (simp; done) | (simp; omega)) (by first | decide | (simp; done) | (simp; omega))
  have hl109 : al_r G 21 31 M209 la106 0 (fun _ => none) := hl109.p hfs212 (by first | decide | (simp; done) | (simp; omega)) (by first | decide | (simp; done) | (simp; omega)) (by first | decide | (simp; done) | (simp; omega))
  have hl133 : al_r G 22 32 M209 la130 0 (fun _ => none) := hl133.p hfs212 (by first | decide | (simp; done) | (simp; omega)) (by first | decide | (simp; done) | (simp; omega)) (by first | decide | (simp; done) | (simp; omega))
  have hl158 : al_r G 23 33 M209 la155 0 (fun _ => none) := hl158.p hfs212 (by first | decide | (simp; done) | (simp; omega)) (by first | decide | (simp; done) | (simp; omega)) (by first | decide | (simp; done) | (simp; omega))
  have hl184 : al_r G 24 34 M209 la181 0 (fun _ => none) := hl184.p hfs212 (by first | decide | (simp; done) | (simp; omega)) (by first | decide | (simp; done) | (simp; omega)) (by first | decide | (simp; done) | (simp; omega))
  have hf : sf cf M M209 := hf.tr hfs212 (fun a t h => by first | (simp [pk] at h; done) | (simp [pk] at h; simp only [cf, cm]; omega))
  show sg_W X M209 2 5 80 [some (.ref ca), some (.int (nI 5))] [.ref q191, .int (nI 5), .ref q22]
  refine sg_aast5 (pc := 80) (i := nI 5) hC dX6_init_80 hF29 (by first | omega | decide) hc210 (by first | omega | decide)  (vp_in_nI (by first | omega | decide) (by first | omega | decide)) ?_
  rw [nI_clamp (by first | omega | decide)]
  refine sg_nm (fun M215 hw216 => ?_)
  have hA : M215 ca = some (1, .inr (9, [.ref q1, .ref q13, .ref q22, .ref q32, .ref q43, .ref q55])) := hw216.n hA ne26
  have hF19 : M215 q13 = some (4, .inl (.object RX3, 8, .inr (.inr (.inr (.inr (fun _ => none)))))) := hw216.n hF19 ne27
  have hF40 : M215 q32 = some (6, .inl (.object RX0, 4, .inr (.inr (.inr (.inr (fun _ => none)))))) := hw216.n hF40 (Ne.symm ne38)
  have hF52 : M215 q43 = some (7, .inl (.int, 8, .inl (fun _ => 0))) := hw216.n hF52 (Ne.symm ne49)
  have hF65 : M215 q55 = some (8, .inr (2, [.int (nI 0), .ref (G.2.2.2 0), .int (nI 0)])) := hw216.n hF65 (Ne.symm ne61)
  have hc85 : M215 q71 = some (10, .inr (8, [.ref la83])) := hw216.n hc85 (Ne.symm ne77)
  have hc108 : M215 q93 = some (11, .inr (8, [.ref la106])) := hw216.n hc108 (Ne.symm ne99)
  have hc132 : M215 q116 = some (12, .inr (8, [.ref la130])) := hw216.n hc132 (Ne.symm ne122)
  have hc157 : M215 q140 = some (13, .inr (8, [.ref la155])) := hw216.n hc157 (Ne.symm ne146)
  have hc183 : M215 q165 = some (14, .inr (8, [.ref la181])) := hw216.n hc183 (Ne.symm ne171)
  have hc210 : M215 q191 = some (15, .inr (8, [.ref la208])) := hw216.n hc210 (Ne.symm ne197)
  have hs9 : sb_r 2 3 M215 q1 ([]) := hs9.st hw216 hF29 (by first | omega | decide) (by first | omega | decide)
  have hl86 : al_r G 20 30 M215 la83 0 (fun _ => none) := hl86.st hw216 hF29 (by first | omega | decide) (by first | omega | decide) (by first | omega | decide)
  have hl109 : al_r G 21 31 M215 la106 0 (fun _ => none) := hl109.st hw216 hF29 (by first | omega | decide) (by first | omega | decide) (by first | omega | decide)
  have hl133 : al_r G 22 32 M215 la130 0 (fun _ => none) := hl133.st hw216 hF29 (by first | omega | decide) (by first | omega | decide) (by first | omega | decide)
  have hl158 : al_r G 23 33 M215 la155 0 (fun _ => none) := hl158.st hw216 hF29 (by first | omega | decide) (by first | omega | decide) (by first | omega | decide)
  have hl184 : al_r G 24 34 M215 la181 0 (fun _ => none) := hl184.st hw216 hF29 (by first | omega | decide) (by first | omega | decide) (by first | omega | decide)
  have hl211 : al_r G 25 35 M215 la208 0 (fun _ => none) := hl211.st hw216 hF29 (by first | omega | decide) (by first | omega | decide) (by first | omega | decide)
  have hf : sf cf M M215 := hf.nw hw216 hn28
  have hF29 : M215 q22 = some (5, .inl (.object RX5, 6, .inr (.inr (.inr (.inr (va_up (va_up (va_up (va_up (va_up (va_up (fun _ => none) 0 (some q71)) 1 (some q93)) 2 (some q116)) 3 (some q140)) 4 (some q165)) 5 (some q191))))))) := hw216.1
  refine sg_iincN (pc := 81) (a := 5) (b := 6) hC dX6_init_81 rfl (nI_1 _) (by decide) ?_
  show sg_W X M215 2 5 84 [some (.ref ca), some (.int (nI 6))] []
  refine sg_goto (pc := 84) 62 hC dX6_init_84 (by decide) ?_
  refine sg_iload_n (pc := 62) (x := nI 6) hC dX6_init_62 rfl ?_
  refine sg_bipush (pc := 63) (nI 6) hC dX6_init_63 (by decide) ?_
  refine sg_icmpN_ge (pc := 65) (a := 6) (b := 6) 87 hC dX6_init_65 (by decide) (by decide) (by decide) (fun _ => ?_) (fun h217 => absurd h217 (by decide))
  refine sg_iconst (pc := 87) (nI 0) hC dX6_init_87 (by decide) ?_
  refine sg_istore_n (pc := 88) (x := nI 0) hC dX6_init_88 (by decide) ?_
  show sg_W X M215 2 5 89 [some (.ref ca), some (.int (nI 0))] []
  refine sg_iload_n (pc := 89) (x := nI 0) hC dX6_init_89 rfl ?_
  refine sg_bipush (pc := 90) (nI 8) hC dX6_init_90 (by decide) ?_
  refine sg_icmpN_ge (pc := 92) (a := 0) (b := 8) 108 hC dX6_init_92 (by decide) (by decide) (by decide) (fun h218 => absurd h218 (by decide)) (fun _ => ?_)
  refine sg_aload_n (pc := 95) (v := .ref ca) hC dX6_init_95 rfl rfl ?_
  refine sg_get (pc := 96) (a := ca) (v := .ref q43) 4 hC rfl inw_X6 (by decide) tw_197 dX6_init_96 hA rfl ?_
  refine sg_iload_n (pc := 99) (x := nI 0) hC dX6_init_99 rfl ?_
  refine sg_iconst (pc := 100) (((-1))) hC dX6_init_100 (by decide) ?_
  refine sg_iast (pc := 101) (i := nI 0) (x := ((-1))) hC dX6_init_101 hF52 (by first | omega | decide) (vp_in_nI (by first | omega | decide) (by first | omega | decide)) ?_
  rw [nI_clamp (by first | omega | decide)]
  refine sg_nm (fun M219 hw220 => ?_)
  have hA : M219 ca = some (1, .inr (9, [.ref q1, .ref q13, .ref q22, .ref q32, .ref q43, .ref q55])) := hw220.n hA ne47
  have hF19 : M219 q13 = some (4, .inl (.object RX3, 8, .inr (.inr (.inr (.inr (fun _ => none)))))) := hw220.n hF19 ne48
  have hF29 : M219 q22 = some (5, .inl (.object RX5, 6, .inr (.inr (.inr (.inr (va_up (va_up (va_up (va_up (va_up (va_up (fun _ => none) 0 (some q71)) 1 (some q93)) 2 (some q116)) 3 (some q140)) 4 (some q165)) 5 (some q191))))))) := hw220.n hF29 ne49
  have hF40 : M219 q32 = some (6, .inl (.object RX0, 4, .inr (.inr (.inr (.inr (fun _ => none)))))) := hw220.n hF40 ne50
  have hF65 : M219 q55 = some (8, .inr (2, [.int (nI 0), .ref (G.2.2.2 0), .int (nI 0)])) := hw220.n hF65 (Ne.symm ne63)
  have hc85 : M219 q71 = some (10, .inr (8, [.ref la83])) := hw220.n hc85 (Ne.symm ne79)
  have hc108 : M219 q93 = some (11, .inr (8, [.ref la106])) := hw220.n hc108 (Ne.symm ne101)
  have hc132 : M219 q116 = some (12, .inr (8, [.ref la130])) := hw220.n hc132 (Ne.symm ne124)
  have hc157 : M219 q140 = some (13, .inr (8, [.ref la155])) := hw220.n hc157 (Ne.symm ne148)
  have hc183 : M219 q165 = some (14, .inr (8, [.ref la181])) := hw220.n hc183 (Ne.symm ne173)
  have hc210 : M219 q191 = some (15, .inr (8, [.ref la208])) := hw220.n hc210 (Ne.symm ne199)
  have hs9 : sb_r 2 3 M219 q1 ([]) := hs9.st hw220 hF52 (by first | omega | decide) (by first | omega | decide)
  have hl86 : al_r G 20 30 M219 la83 0 (fun _ => none) := hl86.st hw220 hF52 (by first | omega | decide) (by first | omega | decide) (by first | omega | decide)
  have hl109 : al_r G 21 31 M219 la106 0 (fun _ => none) := hl109.st hw220 hF52 (by first | omega | decide) (by first | omega | decide) (by first | omega | decide)
  have hl133 : al_r G 22 32 M219 la130 0 (fun _ => none) := hl133.st hw220 hF52 (by first | omega | decide) (by first | omega | decide) (by first | omega | decide)
  have hl158 : al_r G 23 33 M219 la155 0 (fun _ => none) := hl158.st hw220 hF52 (by first | omega | decide) (by first | omega | decide) (by first | omega | decide)
  have hl184 : al_r G 24 34 M219 la181 0 (fun _ => none) := hl184.st hw220 hF52 (by first | omega | decide) (by first | omega | decide) (by first | omega | decide)
  have hl211 : al_r G 25 35 M219 la208 0 (fun _ => none) := hl211.st hw220 hF52 (by first | omega | decide) (by first | omega | decide) (by first | omega | decide)
  have hf : sf cf M M219 := hf.nw hw220 hn51
  have hF52 : M219 q43 = some (7, .inl (.int, 8, .inl (upd (fun _ => 0) 0 (((-1)))))) := hw220.1
  refine sg_iincN (pc := 102) (a := 0) (b := 1) hC dX6_init_102 rfl (nI_1 _) (by decide) ?_
  show sg_W X M219 2 5 105 [some (.ref ca), some (.int (nI 1))] []
  refine sg_goto (pc := 105) 89 hC dX6_init_105 (by decide) ?_
  refine sg_iload_n (pc := 89) (x := nI 1) hC dX6_init_89 rfl ?_
  refine sg_bipush (pc := 90) (nI 8) hC dX6_init_90 (by decide) ?_
  refine sg_icmpN_ge (pc := 92) (a := 1) (b := 8) 108 hC dX6_init_92 (by decide) (by decide) (by decide) (fun h221 => absurd h221 (by decide)) (fun _ => ?_)
  refine sg_aload_n (pc := 95) (v := .ref ca) hC dX6_init_95 rfl rfl ?_
  refine sg_get (pc := 96) (a := ca) (v := .ref q43) 4 hC rfl inw_X6 (by decide) tw_197 dX6_init_96 hA rfl ?_
  refine sg_iload_n (pc := 99) (x := nI 1) hC dX6_init_99 rfl ?_
  refine sg_iconst (pc := 100) (((-1))) hC dX6_init_100 (by decide) ?_
  refine sg_iast (pc := 101) (i := nI 1) (x := ((-1))) hC dX6_init_101 hF52 (by first | omega | decide) (vp_in_nI (by first | omega | decide) (by first | omega | decide)) ?_
  rw [nI_clamp (by first | omega | decide)]
  refine sg_nm (fun M222 hw223 => ?_)
  have hA : M222 ca = some (1, .inr (9, [.ref q1, .ref q13, .ref q22, .ref q32, .ref q43, .ref q55])) := hw223.n hA ne47
  have hF19 : M222 q13 = some (4, .inl (.object RX3, 8, .inr (.inr (.inr (.inr (fun _ => none)))))) := hw223.n hF19 ne48
  have hF29 : M222 q22 = some (5, .inl (.object RX5, 6, .inr (.inr (.inr (.inr (va_up (va_up (va_up (va_up (va_up (va_up (fun _ => none) 0 (some q71)) 1 (some q93)) 2 (some q116)) 3 (some q140)) 4 (some q165)) 5 (some q191))))))) := hw223.n hF29 ne49
  have hF40 : M222 q32 = some (6, .inl (.object RX0, 4, .inr (.inr (.inr (.inr (fun _ => none)))))) := hw223.n hF40 ne50
  have hF65 : M222 q55 = some (8, .inr (2, [.int (nI 0), .ref (G.2.2.2 0), .int (nI 0)])) := hw223.n hF65 (Ne.symm ne63)
  have hc85 : M222 q71 = some (10, .inr (8, [.ref la83])) := hw223.n hc85 (Ne.symm ne79)
  have hc108 : M222 q93 = some (11, .inr (8, [.ref la106])) := hw223.n hc108 (Ne.symm ne101)
  have hc132 : M222 q116 = some (12, .inr (8, [.ref la130])) := hw223.n hc132 (Ne.symm ne124)
  have hc157 : M222 q140 = some (13, .inr (8, [.ref la155])) := hw223.n hc157 (Ne.symm ne148)
  have hc183 : M222 q165 = some (14, .inr (8, [.ref la181])) := hw223.n hc183 (Ne.symm ne173)
  have hc210 : M222 q191 = some (15, .inr (8, [.ref la208])) := hw223.n hc210 (Ne.symm ne199)
  have hs9 : sb_r 2 3 M222 q1 ([]) := hs9.st hw223 hF52 (by first | omega | decide) (by first | omega | decide)
  have hl86 : al_r G 20 30 M222 la83 0 (fun _ => none) := hl86.st hw223 hF52 (by first | omega | decide) (by first | omega | decide) (by first | omega | decide)
  have hl109 : al_r G 21 31 M222 la106 0 (fun _ => none) := hl109.st hw223 hF52 (by first | omega | decide) (by first | omega | decide) (by first | omega | decide)
  have hl133 : al_r G 22 32 M222 la130 0 (fun _ => none) := hl133.st hw223 hF52 (by first | omega | decide) (by first | omega | decide) (by first | omega | decide)
  have hl158 : al_r G 23 33 M222 la155 0 (fun _ => none) := hl158.st hw223 hF52 (by first | omega | decide) (by first | omega | decide) (by first | omega | decide)
  have hl184 : al_r G 24 34 M222 la181 0 (fun _ => none) := hl184.st hw223 hF52 (by first | omega | decide) (by first | omega | decide) (by first | omega | decide)
  have hl211 : al_r G 25 35 M222 la208 0 (fun _ => none) := hl211.st hw223 hF52 (by first | omega | decide) (by first | omega | decide) (by first | omega | decide)
  have hf : sf cf M M222 := hf.nw hw223 hn51
  have hF52 : M222 q43 = some (7, .inl (.int, 8, .inl (upd (upd (fun _ => 0) 0 (((-1)))) 1 (((-1)))))) := hw223.1
  refine sg_iincN (pc := 102) (a := 1) (b := 2) hC dX6_init_102 rfl (nI_1 _) (by decide) ?_
  show sg_W X M222 2 5 105 [some (.ref ca), some (.int (nI 2))] []
  refine sg_goto (pc := 105) 89 hC dX6_init_105 (by decide) ?_
  refine sg_iload_n (pc := 89) (x := nI 2) hC dX6_init_89 rfl ?_
  refine sg_bipush (pc := 90) (nI 8) hC dX6_init_90 (by decide) ?_
  refine sg_icmpN_ge (pc := 92) (a := 2) (b := 8) 108 hC dX6_init_92 (by decide) (by decide) (by decide) (fun h224 => absurd h224 (by decide)) (fun _ => ?_)
  refine sg_aload_n (pc := 95) (v := .ref ca) hC dX6_init_95 rfl rfl ?_
  refine sg_get (pc := 96) (a := ca) (v := .ref q43) 4 hC rfl inw_X6 (by decide) tw_197 dX6_init_96 hA rfl ?_
  refine sg_iload_n (pc := 99) (x := nI 2) hC dX6_init_99 rfl ?_
  refine sg_iconst (pc := 100) (((-1))) hC dX6_init_100 (by decide) ?_
  refine sg_iast (pc := 101) (i := nI 2) (x := ((-1))) hC dX6_init_101 hF52 (by first | omega | decide) (vp_in_nI (by first | omega | decide) (by first | omega | decide)) ?_
  rw [nI_clamp (by first | omega | decide)]
  refine sg_nm (fun M225 hw226 => ?_)
  have hA : M225 ca = some (1, .inr (9, [.ref q1, .ref q13, .ref q22, .ref q32, .ref q43, .ref q55])) := hw226.n hA ne47
  have hF19 : M225 q13 = some (4, .inl (.object RX3, 8, .inr (.inr (.inr (.inr (fun _ => none)))))) := hw226.n hF19 ne48
  have hF29 : M225 q22 = some (5, .inl (.object RX5, 6, .inr (.inr (.inr (.inr (va_up (va_up (va_up (va_up (va_up (va_up (fun _ => none) 0 (some q71)) 1 (some q93)) 2 (some q116)) 3 (some q140)) 4 (some q165)) 5 (some q191))))))) := hw226.n hF29 ne49
  have hF40 : M225 q32 = some (6, .inl (.object RX0, 4, .inr (.inr (.inr (.inr (fun _ => none)))))) := hw226.n hF40 ne50
  have hF65 : M225 q55 = some (8, .inr (2, [.int (nI 0), .ref (G.2.2.2 0), .int (nI 0)])) := hw226.n hF65 (Ne.symm ne63)
  have hc85 : M225 q71 = some (10, .inr (8, [.ref la83])) := hw226.n hc85 (Ne.symm ne79)
  have hc108 : M225 q93 = some (11, .inr (8, [.ref la106])) := hw226.n hc108 (Ne.symm ne101)
  have hc132 : M225 q116 = some (12, .inr (8, [.ref la130])) := hw226.n hc132 (Ne.symm ne124)
  have hc157 : M225 q140 = some (13, .inr (8, [.ref la155])) := hw226.n hc157 (Ne.symm ne148)
  have hc183 : M225 q165 = some (14, .inr (8, [.ref la181])) := hw226.n hc183 (Ne.symm ne173)
  have hc210 : M225 q191 = some (15, .inr (8, [.ref la208])) := hw226.n hc210 (Ne.symm ne199)
  have hs9 : sb_r 2 3 M225 q1 ([]) := hs9.st hw226 hF52 (by first | omega | decide) (by first | omega | decide)
  have hl86 : al_r G 20 30 M225 la83 0 (fun _ => none) := hl86.st hw226 hF52 (by first | omega | decide) (by first | omega | decide) (by first | omega | decide)
  have hl109 : al_r G 21 31 M225 la106 0 (fun _ => none) := hl109.st hw226 hF52 (by first | omega | decide) (by first | omega | decide) (by first | omega | decide)
  have hl133 : al_r G 22 32 M225 la130 0 (fun _ => none) := hl133.st hw226 hF52 (by first | omega | decide) (by first | omega | decide) (by first | omega | decide)
  have hl158 : al_r G 23 33 M225 la155 0 (fun _ => none) := hl158.st hw226 hF52 (by first | omega | decide) (by first | omega | decide) (by first | omega | decide)
  have hl184 : al_r G 24 34 M225 la181 0 (fun _ => none) := hl184.st hw226 hF52 (by first | omega | decide) (by first | omega | decide) (by first | omega | decide)
  have hl211 : al_r G 25 35 M225 la208 0 (fun _ => none) := hl211.st hw226 hF52 (by first | omega | decide) (by first | omega | decide) (by first | omega | decide)
  have hf : sf cf M M225 := hf.nw hw226 hn51
  have hF52 : M225 q43 = some (7, .inl (.int, 8, .inl (upd (upd (upd (fun _ => 0) 0 (((-1)))) 1 (((-1)))) 2 (((-1)))))) := hw226.1
  refine sg_iincN (pc := 102) (a := 2) (b := 3) hC dX6_init_102 rfl (nI_1 _) (by decide) ?_
  show sg_W X M225 2 5 105 [some (.ref ca), some (.int (nI 3))] []
  refine sg_goto (pc := 105) 89 hC dX6_init_105 (by decide) ?_
  refine sg_iload_n (pc := 89) (x := nI 3) hC dX6_init_89 rfl ?_
  refine sg_bipush (pc := 90) (nI 8) hC dX6_init_90 (by decide) ?_
  refine sg_icmpN_ge (pc := 92) (a := 3) (b := 8) 108 hC dX6_init_92 (by decide) (by decide) (by decide) (fun h227 => absurd h227 (by decide)) (fun _ => ?_)
  refine sg_aload_n (pc := 95) (v := .ref ca) hC dX6_init_95 rfl rfl ?_
  refine sg_get (pc := 96) (a := ca) (v := .ref q43) 4 hC rfl inw_X6 (by decide) tw_197 dX6_init_96 hA rfl ?_
  refine sg_iload_n (pc := 99) (x := nI 3) hC dX6_init_99 rfl ?_
  refine sg_iconst (pc := 100) (((-1))) hC dX6_init_100 (by decide) ?_
  refine sg_iast (pc := 101) (i := nI 3) (x := ((-1))) hC dX6_init_101 hF52 (by first | omega | decide) (vp_in_nI (by first | omega | decide) (by first | omega | decide)) ?_
  rw [nI_clamp (by first | omega | decide)]
  refine sg_nm (fun M228 hw229 => ?_)
  have hA : M228 ca = some (1, .inr (9, [.ref q1, .ref q13, .ref q22, .ref q32, .ref q43, .ref q55])) := hw229.n hA ne47
  have hF19 : M228 q13 = some (4, .inl (.object RX3, 8, .inr (.inr (.inr (.inr (fun _ => none)))))) := hw229.n hF19 ne48
  have hF29 : M228 q22 = some (5, .inl (.object RX5, 6, .inr (.inr (.inr (.inr (va_up (va_up (va_up (va_up (va_up (va_up (fun _ => none) 0 (some q71)) 1 (some q93)) 2 (some q116)) 3 (some q140)) 4 (some q165)) 5 (some q191))))))) := hw229.n hF29 ne49
  have hF40 : M228 q32 = some (6, .inl (.object RX0, 4, .inr (.inr (.inr (.inr (fun _ => none)))))) := hw229.n hF40 ne50
  have hF65 : M228 q55 = some (8, .inr (2, [.int (nI 0), .ref (G.2.2.2 0), .int (nI 0)])) := hw229.n hF65 (Ne.symm ne63)
  have hc85 : M228 q71 = some (10, .inr (8, [.ref la83])) := hw229.n hc85 (Ne.symm ne79)
  have hc108 : M228 q93 = some (11, .inr (8, [.ref la106])) := hw229.n hc108 (Ne.symm ne101)
  have hc132 : M228 q116 = some (12, .inr (8, [.ref la130])) := hw229.n hc132 (Ne.symm ne124)
  have hc157 : M228 q140 = some (13, .inr (8, [.ref la155])) := hw229.n hc157 (Ne.symm ne148)
  have hc183 : M228 q165 = some (14, .inr (8, [.ref la181])) := hw229.n hc183 (Ne.symm ne173)
  have hc210 : M228 q191 = some (15, .inr (8, [.ref la208])) := hw229.n hc210 (Ne.symm ne199)
  have hs9 : sb_r 2 3 M228 q1 ([]) := hs9.st hw229 hF52 (by first | omega | decide) (by first | omega | decide)
  have hl86 : al_r G 20 30 M228 la83 0 (fun _ => none) := hl86.st hw229 hF52 (by first | omega | decide) (by first | omega | decide) (by first | omega | decide)
  have hl109 : al_r G 21 31 M228 la106 0 (fun _ => none) := hl109.st hw229 hF52 (by first | omega | decide) (by first | omega | decide) (by first | omega | decide)
  have hl133 : al_r G 22 32 M228 la130 0 (fun _ => none) := hl133.st hw229 hF52 (by first | omega | decide) (by first | omega | decide) (by first | omega | decide)
  have hl158 : al_r G 23 33 M228 la155 0 (fun _ => none) := hl158.st hw229 hF52 (by first | omega | decide) (by first | omega | decide) (by first | omega | decide)
  have hl184 : al_r G 24 34 M228 la181 0 (fun _ => none) := hl184.st hw229 hF52 (by first | omega | decide) (by first | omega | decide) (by first | omega | decide)
  have hl211 : al_r G 25 35 M228 la208 0 (fun _ => none) := hl211.st hw229 hF52 (by first | omega | decide) (by first | omega | decide) (by first | omega | decide)
  have hf : sf cf M M228 := hf.nw hw229 hn51
  have hF52 : M228 q43 = some (7, .inl (.int, 8, .inl (upd (upd (upd (upd (fun _ => 0) 0 (((-1)))) 1 (((-1)))) 2 (((-1)))) 3 (((-1)))))) := hw229.1
  refine sg_iincN (pc := 102) (a := 3) (b := 4) hC dX6_init_102 rfl (nI_1 _) (by decide) ?_
  show sg_W X M228 2 5 105 [some (.ref ca), some (.int (nI 4))] []
  refine sg_goto (pc := 105) 89 hC dX6_init_105 (by decide) ?_
  refine sg_iload_n (pc := 89) (x := nI 4) hC dX6_init_89 rfl ?_
  refine sg_bipush (pc := 90) (nI 8) hC dX6_init_90 (by decide) ?_
  refine sg_icmpN_ge (pc := 92) (a := 4) (b := 8) 108 hC dX6_init_92 (by decide) (by decide) (by decide) (fun h230 => absurd h230 (by decide)) (fun _ => ?_)
  refine sg_aload_n (pc := 95) (v := .ref ca) hC dX6_init_95 rfl rfl ?_
  refine sg_get (pc := 96) (a := ca) (v := .ref q43) 4 hC rfl inw_X6 (by decide) tw_197 dX6_init_96 hA rfl ?_
  refine sg_iload_n (pc := 99) (x := nI 4) hC dX6_init_99 rfl ?_
  refine sg_iconst (pc := 100) (((-1))) hC dX6_init_100 (by decide) ?_
  refine sg_iast (pc := 101) (i := nI 4) (x := ((-1))) hC dX6_init_101 hF52 (by first | omega | decide) (vp_in_nI (by first | omega | decide) (by first | omega | decide)) ?_
  rw [nI_clamp (by first | omega | decide)]
  refine sg_nm (fun M231 hw232 => ?_)
  have hA : M231 ca = some (1, .inr (9, [.ref q1, .ref q13, .ref q22, .ref q32, .ref q43, .ref q55])) := hw232.n hA ne47
  have hF19 : M231 q13 = some (4, .inl (.object RX3, 8, .inr (.inr (.inr (.inr (fun _ => none)))))) := hw232.n hF19 ne48
  have hF29 : M231 q22 = some (5, .inl (.object RX5, 6, .inr (.inr (.inr (.inr (va_up (va_up (va_up (va_up (va_up (va_up (fun _ => none) 0 (some q71)) 1 (some q93)) 2 (some q116)) 3 (some q140)) 4 (some q165)) 5 (some q191))))))) := hw232.n hF29 ne49
  have hF40 : M231 q32 = some (6, .inl (.object RX0, 4, .inr (.inr (.inr (.inr (fun _ => none)))))) := hw232.n hF40 ne50
  have hF65 : M231 q55 = some (8, .inr (2, [.int (nI 0), .ref (G.2.2.2 0), .int (nI 0)])) := hw232.n hF65 (Ne.symm ne63)
  have hc85 : M231 q71 = some (10, .inr (8, [.ref la83])) := hw232.n hc85 (Ne.symm ne79)
  have hc108 : M231 q93 = some (11, .inr (8, [.ref la106])) := hw232.n hc108 (Ne.symm ne101)
  have hc132 : M231 q116 = some (12, .inr (8, [.ref la130])) := hw232.n hc132 (Ne.symm ne124)
  have hc157 : M231 q140 = some (13, .inr (8, [.ref la155])) := hw232.n hc157 (Ne.symm ne148)
  have hc183 : M231 q165 = some (14, .inr (8, [.ref la181])) := hw232.n hc183 (Ne.symm ne173)
  have hc210 : M231 q191 = some (15, .inr (8, [.ref la208])) := hw232.n hc210 (Ne.symm ne199)
  have hs9 : sb_r 2 3 M231 q1 ([]) := hs9.st hw232 hF52 (by first | omega | decide) (by first | omega | decide)
  have hl86 : al_r G 20 30 M231 la83 0 (fun _ => none) := hl86.st hw232 hF52 (by first | omega | decide) (by first | omega | decide) (by first | omega | decide)
  have hl109 : al_r G 21 31 M231 la106 0 (fun _ => none) := hl109.st hw232 hF52 (by first | omega | decide) (by first | omega | decide) (by first | omega | decide)
  have hl133 : al_r G 22 32 M231 la130 0 (fun _ => none) := hl133.st hw232 hF52 (by first | omega | decide) (by first | omega | decide) (by first | omega | decide)
  have hl158 : al_r G 23 33 M231 la155 0 (fun _ => none) := hl158.st hw232 hF52 (by first | omega | decide) (by first | omega | decide) (by first | omega | decide)
  have hl184 : al_r G 24 34 M231 la181 0 (fun _ => none) := hl184.st hw232 hF52 (by first | omega | decide) (by first | omega | decide) (by first | omega | decide)
  have hl211 : al_r G 25 35 M231 la208 0 (fun _ => none) := hl211.st hw232 hF52 (by first | omega | decide) (by first | omega | decide) (by first | omega | decide)
  have hf : sf cf M M231 := hf.nw hw232 hn51
  have hF52 : M231 q43 = some (7, .inl (.int, 8, .inl (upd (upd (upd (upd (upd (fun _ => 0) 0 (((-1)))) 1 (((-1)))) 2 (((-1)))) 3 (((-1)))) 4 (((-1)))))) := hw232.1
  refine sg_iincN (pc := 102) (a := 4) (b := 5) hC dX6_init_102 rfl (nI_1 _) (by decide) ?_
  show sg_W X M231 2 5 105 [some (.ref ca), some (.int (nI 5))] []
  refine sg_goto (pc := 105) 89 hC dX6_init_105 (by decide) ?_
  refine sg_iload_n (pc := 89) (x := nI 5) hC dX6_init_89 rfl ?_
  refine sg_bipush (pc := 90) (nI 8) hC dX6_init_90 (by decide) ?_
  refine sg_icmpN_ge (pc := 92) (a := 5) (b := 8) 108 hC dX6_init_92 (by decide) (by decide) (by decide) (fun h233 => absurd h233 (by decide)) (fun _ => ?_)
  refine sg_aload_n (pc := 95) (v := .ref ca) hC dX6_init_95 rfl rfl ?_
  refine sg_get (pc := 96) (a := ca) (v := .ref q43) 4 hC rfl inw_X6 (by decide) tw_197 dX6_init_96 hA rfl ?_
  refine sg_iload_n (pc := 99) (x := nI 5) hC dX6_init_99 rfl ?_
  refine sg_iconst (pc := 100) (((-1))) hC dX6_init_100 (by decide) ?_
  refine sg_iast (pc := 101) (i := nI 5) (x := ((-1))) hC dX6_init_101 hF52 (by first | omega | decide) (vp_in_nI (by first | omega | decide) (by first | omega | decide)) ?_
  rw [nI_clamp (by first | omega | decide)]
  refine sg_nm (fun M234 hw235 => ?_)
  have hA : M234 ca = some (1, .inr (9, [.ref q1, .ref q13, .ref q22, .ref q32, .ref q43, .ref q55])) := hw235.n hA ne47
  have hF19 : M234 q13 = some (4, .inl (.object RX3, 8, .inr (.inr (.inr (.inr (fun _ => none)))))) := hw235.n hF19 ne48
  have hF29 : M234 q22 = some (5, .inl (.object RX5, 6, .inr (.inr (.inr (.inr (va_up (va_up (va_up (va_up (va_up (va_up (fun _ => none) 0 (some q71)) 1 (some q93)) 2 (some q116)) 3 (some q140)) 4 (some q165)) 5 (some q191))))))) := hw235.n hF29 ne49
  have hF40 : M234 q32 = some (6, .inl (.object RX0, 4, .inr (.inr (.inr (.inr (fun _ => none)))))) := hw235.n hF40 ne50
  have hF65 : M234 q55 = some (8, .inr (2, [.int (nI 0), .ref (G.2.2.2 0), .int (nI 0)])) := hw235.n hF65 (Ne.symm ne63)
  have hc85 : M234 q71 = some (10, .inr (8, [.ref la83])) := hw235.n hc85 (Ne.symm ne79)
  have hc108 : M234 q93 = some (11, .inr (8, [.ref la106])) := hw235.n hc108 (Ne.symm ne101)
  have hc132 : M234 q116 = some (12, .inr (8, [.ref la130])) := hw235.n hc132 (Ne.symm ne124)
  have hc157 : M234 q140 = some (13, .inr (8, [.ref la155])) := hw235.n hc157 (Ne.symm ne148)
  have hc183 : M234 q165 = some (14, .inr (8, [.ref la181])) := hw235.n hc183 (Ne.symm ne173)
  have hc210 : M234 q191 = some (15, .inr (8, [.ref la208])) := hw235.n hc210 (Ne.symm ne199)
  have hs9 : sb_r 2 3 M234 q1 ([]) := hs9.st hw235 hF52 (by first | omega | decide) (by first | omega | decide)
  have hl86 : al_r G 20 30 M234 la83 0 (fun _ => none) := hl86.st hw235 hF52 (by first | omega | decide) (by first | omega | decide) (by first | omega | decide)
  have hl109 : al_r G 21 31 M234 la106 0 (fun _ => none) := hl109.st hw235 hF52 (by first | omega | decide) (by first | omega | decide) (by first | omega | decide)
  have hl133 : al_r G 22 32 M234 la130 0 (fun _ => none) := hl133.st hw235 hF52 (by first | omega | decide) (by first | omega | decide) (by first | omega | decide)
  have hl158 : al_r G 23 33 M234 la155 0 (fun _ => none) := hl158.st hw235 hF52 (by first | omega | decide) (by first | omega | decide) (by first | omega | decide)
  have hl184 : al_r G 24 34 M234 la181 0 (fun _ => none) := hl184.st hw235 hF52 (by first | omega | decide) (by first | omega | decide) (by first | omega | decide)
  have hl211 : al_r G 25 35 M234 la208 0 (fun _ => none) := hl211.st hw235 hF52 (by first | omega | decide) (by first | omega | decide) (by first | omega | decide)
  have hf : sf cf M M234 := hf.nw hw235 hn51
  have hF52 : M234 q43 = some (7, .inl (.int, 8, .inl (upd (upd (upd (upd (upd (upd (fun _ => 0) 0 (((-1)))) 1 (((-1)))) 2 (((-1)))) 3 (((-1)))) 4 (((-1)))) 5 (((-1)))))) := hw235.1
  refine sg_iincN (pc := 102) (a := 5) (b := 6) hC dX6_init_102 rfl (nI_1 _) (by decide) ?_
  show sg_W X M234 2 5 105 [some (.ref ca), some (.int (nI 6))] []
  refine sg_goto (pc := 105) 89 hC dX6_init_105 (by decide) ?_
  refine sg_iload_n (pc := 89) (x := nI 6) hC dX6_init_89 rfl ?_
  refine sg_bipush (pc := 90) (nI 8) hC dX6_init_90 (by decide) ?_
  refine sg_icmpN_ge (pc := 92) (a := 6) (b := 8) 108 hC dX6_init_92 (by decide) (by decide) (by decide) (fun h236 => absurd h236 (by decide)) (fun _ => ?_)
  refine sg_aload_n (pc := 95) (v := .ref ca) hC dX6_init_95 rfl rfl ?_
  refine sg_get (pc := 96) (a := ca) (v := .ref q43) 4 hC rfl inw_X6 (by decide) tw_197 dX6_init_96 hA rfl ?_
  refine sg_iload_n (pc := 99) (x := nI 6) hC dX6_init_99 rfl ?_
  refine sg_iconst (pc := 100) (((-1))) hC dX6_init_100 (by decide) ?_
  refine sg_iast (pc := 101) (i := nI 6) (x := ((-1))) hC dX6_init_101 hF52 (by first | omega | decide) (vp_in_nI (by first | omega | decide) (by first | omega | decide)) ?_
  rw [nI_clamp (by first | omega | decide)]
  refine sg_nm (fun M237 hw238 => ?_)
  have hA : M237 ca = some (1, .inr (9, [.ref q1, .ref q13, .ref q22, .ref q32, .ref q43, .ref q55])) := hw238.n hA ne47
  have hF19 : M237 q13 = some (4, .inl (.object RX3, 8, .inr (.inr (.inr (.inr (fun _ => none)))))) := hw238.n hF19 ne48
  have hF29 : M237 q22 = some (5, .inl (.object RX5, 6, .inr (.inr (.inr (.inr (va_up (va_up (va_up (va_up (va_up (va_up (fun _ => none) 0 (some q71)) 1 (some q93)) 2 (some q116)) 3 (some q140)) 4 (some q165)) 5 (some q191))))))) := hw238.n hF29 ne49
  have hF40 : M237 q32 = some (6, .inl (.object RX0, 4, .inr (.inr (.inr (.inr (fun _ => none)))))) := hw238.n hF40 ne50
  have hF65 : M237 q55 = some (8, .inr (2, [.int (nI 0), .ref (G.2.2.2 0), .int (nI 0)])) := hw238.n hF65 (Ne.symm ne63)
  have hc85 : M237 q71 = some (10, .inr (8, [.ref la83])) := hw238.n hc85 (Ne.symm ne79)
  have hc108 : M237 q93 = some (11, .inr (8, [.ref la106])) := hw238.n hc108 (Ne.symm ne101)
  have hc132 : M237 q116 = some (12, .inr (8, [.ref la130])) := hw238.n hc132 (Ne.symm ne124)
  have hc157 : M237 q140 = some (13, .inr (8, [.ref la155])) := hw238.n hc157 (Ne.symm ne148)
  have hc183 : M237 q165 = some (14, .inr (8, [.ref la181])) := hw238.n hc183 (Ne.symm ne173)
  have hc210 : M237 q191 = some (15, .inr (8, [.ref la208])) := hw238.n hc210 (Ne.symm ne199)
  have hs9 : sb_r 2 3 M237 q1 ([]) := hs9.st hw238 hF52 (by first | omega | decide) (by first | omega | decide)
  have hl86 : al_r G 20 30 M237 la83 0 (fun _ => none) := hl86.st hw238 hF52 (by first | omega | decide) (by first | omega | decide) (by first | omega | decide)
  have hl109 : al_r G 21 31 M237 la106 0 (fun _ => none) := hl109.st hw238 hF52 (by first | omega | decide) (by first | omega | decide) (by first | omega | decide)
  have hl133 : al_r G 22 32 M237 la130 0 (fun _ => none) := hl133.st hw238 hF52 (by first | omega | decide) (by first | omega | decide) (by first | omega | decide)
  have hl158 : al_r G 23 33 M237 la155 0 (fun _ => none) := hl158.st hw238 hF52 (by first | omega | decide) (by first | omega | decide) (by first | omega | decide)
  have hl184 : al_r G 24 34 M237 la181 0 (fun _ => none) := hl184.st hw238 hF52 (by first | omega | decide) (by first | omega | decide) (by first | omega | decide)
  have hl211 : al_r G 25 35 M237 la208 0 (fun _ => none) := hl211.st hw238 hF52 (by first | omega | decide) (by first | omega | decide) (by first | omega | decide)
  have hf : sf cf M M237 := hf.nw hw238 hn51
  have hF52 : M237 q43 = some (7, .inl (.int, 8, .inl (upd (upd (upd (upd (upd (upd (upd (fun _ => 0) 0 (((-1)))) 1 (((-1)))) 2 (((-1)))) 3 (((-1)))) 4 (((-1)))) 5 (((-1)))) 6 (((-1)))))) := hw238.1
  refine sg_iincN (pc := 102) (a := 6) (b := 7) hC dX6_init_102 rfl (nI_1 _) (by decide) ?_
  show sg_W X M237 2 5 105 [some (.ref ca), some (.int (nI 7))] []
  refine sg_goto (pc := 105) 89 hC dX6_init_105 (by decide) ?_
  refine sg_iload_n (pc := 89) (x := nI 7) hC dX6_init_89 rfl ?_
  refine sg_bipush (pc := 90) (nI 8) hC dX6_init_90 (by decide) ?_
  refine sg_icmpN_ge (pc := 92) (a := 7) (b := 8) 108 hC dX6_init_92 (by decide) (by decide) (by decide) (fun h239 => absurd h239 (by decide)) (fun _ => ?_)
  refine sg_aload_n (pc := 95) (v := .ref ca) hC dX6_init_95 rfl rfl ?_
  refine sg_get (pc := 96) (a := ca) (v := .ref q43) 4 hC rfl inw_X6 (by decide) tw_197 dX6_init_96 hA rfl ?_
  refine sg_iload_n (pc := 99) (x := nI 7) hC dX6_init_99 rfl ?_
  refine sg_iconst (pc := 100) (((-1))) hC dX6_init_100 (by decide) ?_
  refine sg_iast (pc := 101) (i := nI 7) (x := ((-1))) hC dX6_init_101 hF52 (by first | omega | decide) (vp_in_nI (by first | omega | decide) (by first | omega | decide)) ?_
  rw [nI_clamp (by first | omega | decide)]
  refine sg_nm (fun M240 hw241 => ?_)
  have hA : M240 ca = some (1, .inr (9, [.ref q1, .ref q13, .ref q22, .ref q32, .ref q43, .ref q55])) := hw241.n hA ne47
  have hF19 : M240 q13 = some (4, .inl (.object RX3, 8, .inr (.inr (.inr (.inr (fun _ => none)))))) := hw241.n hF19 ne48
  have hF29 : M240 q22 = some (5, .inl (.object RX5, 6, .inr (.inr (.inr (.inr (va_up (va_up (va_up (va_up (va_up (va_up (fun _ => none) 0 (some q71)) 1 (some q93)) 2 (some q116)) 3 (some q140)) 4 (some q165)) 5 (some q191))))))) := hw241.n hF29 ne49
  have hF40 : M240 q32 = some (6, .inl (.object RX0, 4, .inr (.inr (.inr (.inr (fun _ => none)))))) := hw241.n hF40 ne50
  have hF65 : M240 q55 = some (8, .inr (2, [.int (nI 0), .ref (G.2.2.2 0), .int (nI 0)])) := hw241.n hF65 (Ne.symm ne63)
  have hc85 : M240 q71 = some (10, .inr (8, [.ref la83])) := hw241.n hc85 (Ne.symm ne79)
  have hc108 : M240 q93 = some (11, .inr (8, [.ref la106])) := hw241.n hc108 (Ne.symm ne101)
  have hc132 : M240 q116 = some (12, .inr (8, [.ref la130])) := hw241.n hc132 (Ne.symm ne124)
  have hc157 : M240 q140 = some (13, .inr (8, [.ref la155])) := hw241.n hc157 (Ne.symm ne148)
  have hc183 : M240 q165 = some (14, .inr (8, [.ref la181])) := hw241.n hc183 (Ne.symm ne173)
  have hc210 : M240 q191 = some (15, .inr (8, [.ref la208])) := hw241.n hc210 (Ne.symm ne199)
  have hs9 : sb_r 2 3 M240 q1 ([]) := hs9.st hw241 hF52 (by first | omega | decide) (by first | omega | decide)
  have hl86 : al_r G 20 30 M240 la83 0 (fun _ => none) := hl86.st hw241 hF52 (by first | omega | decide) (by first | omega | decide) (by first | omega | decide)
  have hl109 : al_r G 21 31 M240 la106 0 (fun _ => none) := hl109.st hw241 hF52 (by first | omega | decide) (by first | omega | decide) (by first | omega | decide)
  have hl133 : al_r G 22 32 M240 la130 0 (fun _ => none) := hl133.st hw241 hF52 (by first | omega | decide) (by first | omega | decide) (by first | omega | decide)
  have hl158 : al_r G 23 33 M240 la155 0 (fun _ => none) := hl158.st hw241 hF52 (by first | omega | decide) (by first | omega | decide) (by first | omega | decide)
  have hl184 : al_r G 24 34 M240 la181 0 (fun _ => none) := hl184.st hw241 hF52 (by first | omega | decide) (by first | omega | decide) (by first | omega | decide)
  have hl211 : al_r G 25 35 M240 la208 0 (fun _ => none) := hl211.st hw241 hF52 (by first | omega | decide) (by first | omega | decide) (by first | omega | decide)
  have hf : sf cf M M240 := hf.nw hw241 hn51
  have hF52 : M240 q43 = some (7, .inl (.int, 8, .inl (upd (upd (upd (upd (upd (upd (upd (upd (fun _ => 0) 0 (((-1)))) 1 (((-1)))) 2 (((-1)))) 3 (((-1)))) 4 (((-1)))) 5 (((-1)))) 6 (((-1)))) 7 (((-1)))))) := hw241.1
  refine sg_iincN (pc := 102) (a := 7) (b := 8) hC dX6_init_102 rfl (nI_1 _) (by decide) ?_
  show sg_W X M240 2 5 105 [some (.ref ca), some (.int (nI 8))] []
  refine sg_goto (pc := 105) 89 hC dX6_init_105 (by decide) ?_
  refine sg_iload_n (pc := 89) (x := nI 8) hC dX6_init_89 rfl ?_
  refine sg_bipush (pc := 90) (nI 8) hC dX6_init_90 (by decide) ?_
  refine sg_icmpN_ge (pc := 92) (a := 8) (b := 8) 108 hC dX6_init_92 (by decide) (by decide) (by decide) (fun _ => ?_) (fun h242 => absurd h242 (by decide))
  refine sg_aload_n (pc := 108) (v := .ref ca) hC dX6_init_108 rfl rfl ?_
  refine sg_get (pc := 109) (a := ca) (v := .ref q32) 3 hC rfl inw_X6 (by decide) tw_196 dX6_init_109 hA rfl ?_
  refine sg_iconst (pc := 112) (nI 0) hC dX6_init_112 (by decide) ?_
  refine sg_new (pc := 113) (ci := 3) (40) [.null, .int (nI 0)] hC rfl inw_X0 tyX0 tyX0_ok tw_137 tw_178 tw_71 (by intro j hj; have h9 : j = 0 ∨ j = 1 := (by omega); rcases h9 with rfl | rfl <;> rfl) dX6_init_113 (by first | omega | decide) (by first | omega | decide) (by first | omega | decide) (fun q243 hq244 => ?_)
  refine sg_nm (fun M245 hw246 => ?_)
  have ne247 : ca ≠ q243 := sg_fresh hA hq244
  have hA : M245 ca = some (1, .inr (9, [.ref q1, .ref q13, .ref q22, .ref q32, .ref q43, .ref q55])) := hw246.n hA ne247
  have ne248 : q13 ≠ q243 := sg_fresh hF19 hq244
  have hF19 : M245 q13 = some (4, .inl (.object RX3, 8, .inr (.inr (.inr (.inr (fun _ => none)))))) := hw246.n hF19 ne248
  have ne249 : q22 ≠ q243 := sg_fresh hF29 hq244
  have hF29 : M245 q22 = some (5, .inl (.object RX5, 6, .inr (.inr (.inr (.inr (va_up (va_up (va_up (va_up (va_up (va_up (fun _ => none) 0 (some q71)) 1 (some q93)) 2 (some q116)) 3 (some q140)) 4 (some q165)) 5 (some q191))))))) := hw246.n hF29 ne249
  have ne250 : q32 ≠ q243 := sg_fresh hF40 hq244
  have hF40 : M245 q32 = some (6, .inl (.object RX0, 4, .inr (.inr (.inr (.inr (fun _ => none)))))) := hw246.n hF40 ne250
  have ne251 : q43 ≠ q243 := sg_fresh hF52 hq244
  have hF52 : M245 q43 = some (7, .inl (.int, 8, .inl (upd (upd (upd (upd (upd (upd (upd (upd (fun _ => 0) 0 (((-1)))) 1 (((-1)))) 2 (((-1)))) 3 (((-1)))) 4 (((-1)))) 5 (((-1)))) 6 (((-1)))) 7 (((-1)))))) := hw246.n hF52 ne251
  have ne252 : q55 ≠ q243 := sg_fresh hF65 hq244
  have hF65 : M245 q55 = some (8, .inr (2, [.int (nI 0), .ref (G.2.2.2 0), .int (nI 0)])) := hw246.n hF65 ne252
  have ne253 : q71 ≠ q243 := sg_fresh hc85 hq244
  have hc85 : M245 q71 = some (10, .inr (8, [.ref la83])) := hw246.n hc85 ne253
  have ne254 : q93 ≠ q243 := sg_fresh hc108 hq244
  have hc108 : M245 q93 = some (11, .inr (8, [.ref la106])) := hw246.n hc108 ne254
  have ne255 : q116 ≠ q243 := sg_fresh hc132 hq244
  have hc132 : M245 q116 = some (12, .inr (8, [.ref la130])) := hw246.n hc132 ne255
  have ne256 : q140 ≠ q243 := sg_fresh hc157 hq244
  have hc157 : M245 q140 = some (13, .inr (8, [.ref la155])) := hw246.n hc157 ne256
  have ne257 : q165 ≠ q243 := sg_fresh hc183 hq244
  have hc183 : M245 q165 = some (14, .inr (8, [.ref la181])) := hw246.n hc183 ne257
  have ne258 : q191 ≠ q243 := sg_fresh hc210 hq244
  have hc210 : M245 q191 = some (15, .inr (8, [.ref la208])) := hw246.n hc210 ne258
  have hs9 : sb_r 2 3 M245 q1 ([]) := hs9.nw hw246 hq244
  have hl86 : al_r G 20 30 M245 la83 0 (fun _ => none) := hl86.nw hw246 hq244
  have hl109 : al_r G 21 31 M245 la106 0 (fun _ => none) := hl109.nw hw246 hq244
  have hl133 : al_r G 22 32 M245 la130 0 (fun _ => none) := hl133.nw hw246 hq244
  have hl158 : al_r G 23 33 M245 la155 0 (fun _ => none) := hl158.nw hw246 hq244
  have hl184 : al_r G 24 34 M245 la181 0 (fun _ => none) := hl184.nw hw246 hq244
  have hl211 : al_r G 25 35 M245 la208 0 (fun _ => none) := hl211.nw hw246 hq244
  have hn259 : M q243 = none := hf.fr hq244
  have hf : sf cf M M245 := hf.nw hw246 hn259
  have hF260 : M245 q243 = some (40, .inr (3, [.null, .int (nI 0)])) := hw246.1
  show sg_W X M245 1 3 116 [some (.ref ca), some (.int (nI 8))] [.ref q243, .int (nI 0), .ref q32]
  refine sg_dup (pc := 116) hC dX6_init_116 rfl ?_
  refine sg_iconst (pc := 117) (nI 0) hC dX6_init_117 (by decide) ?_
  refine sg_callI (pc := 118) (b := q243) (As := [.int (nI 0)]) (rest := [.ref q243, .int (nI 0), .ref q32]) (mc := 1) (ms := 3) hC tw_179 tw_180 tw_71 tw_181 rfl yd_X0_init (by decide) dX6_init_118 rfl (Nat.le_of_ble_eq_true rfl) (by first | omega | decide) (by first | omega | decide) ?_
  obtain ⟨g0266, hD267⟩ := (hEv.cf hf).2.2
  refine c_csInit (t := 40) (u := 50) (v := 60) htr hF260 (by decide) (by decide) (by decide) hD267 (fun la261 M262 hc263 hl264 hfs265 => ?_)
  have hA : M262 ca = some (1, .inr (9, [.ref q1, .ref q13, .ref q22, .ref q32, .ref q43, .ref q55])) := hfs265.p hA (by first | decide | (simp; done) | (simp; omega))
  have hF19 : M262 q13 = some (4, .inl (.object RX3, 8, .inr (.inr (.inr (.inr (fun _ => none)))))) := hfs265.p hF19 (by first | decide | (simp; done) | (simp; omega))
  have hF29 : M262 q22 = some (5, .inl (.object RX5, 6, .inr (.inr (.inr (.inr (va_up (va_up (va_up (va_up (va_up (va_up (fun _ => none) 0 (some q71)) 1 (some q93)) 2 (some q116)) 3 (some q140)) 4 (some q165)) 5 (some q191))))))) := hfs265.p hF29 (by first | decide | (simp; done) | (simp; omega))
  have hF40 : M262 q32 = some (6, .inl (.object RX0, 4, .inr (.inr (.inr (.inr (fun _ => none)))))) := hfs265.p hF40 (by first | decide | (simp; done) | (simp; omega))
  have hF52 : M262 q43 = some (7, .inl (.int, 8, .inl (upd (upd (upd (upd (upd (upd (upd (upd (fun _ => 0) 0 (((-1)))) 1 (((-1)))) 2 (((-1)))) 3 (((-1)))) 4 (((-1)))) 5 (((-1)))) 6 (((-1)))) 7 (((-1)))))) := hfs265.p hF52 (by first | decide | (simp; done) | (simp; omega))
  have hF65 : M262 q55 = some (8, .inr (2, [.int (nI 0), .ref (G.2.2.2 0), .int (nI 0)])) := hfs265.p hF65 (by first | decide | (simp; done) | (simp; omega))
  have hc85 : M262 q71 = some (10, .inr (8, [.ref la83])) := hfs265.p hc85 (by first | decide | (simp; done) | (simp; omega))
  have hc108 : M262 q93 = some (11, .inr (8, [.ref la106])) := hfs265.p hc108 (by first | decide | (simp; done) | (simp; omega))
  have hc132 : M262 q116 = some (12, .inr (8, [.ref la130])) := hfs265.p hc132 (by first | decide | (simp; done) | (simp; omega))
  have hc157 : M262 q140 = some (13, .inr (8, [.ref la155])) := hfs265.p hc157 (by first | decide | (simp; done) | (simp; omega))
  have hc183 : M262 q165 = some (14, .inr (8, [.ref la181])) := hfs265.p hc183 (by first | decide | (simp; done) | (simp; omega))
  have hc210 : M262 q191 = some (15, .inr (8, [.ref la208])) := hfs265.p hc210 (by first | decide | (simp; done) | (simp; omega))
  have hs9 : sb_r 2 3 M262 q1 ([]) := hs9.p hfs265 (by first | decide | (simp; done) | (simp; omega)) (by first | decide | (simp; done) | (simp; omega))
  have hl86 : al_r G 20 30 M262 la83 0 (fun _ => none) := hl86.p hfs265 (by first | decide | (simp; done) | (simp; omega)) (by first | decide | (simp; done) | (simp; omega)) (by first | decide | (simp; done) | (simp; omega))
  have hl109 : al_r G 21 31 M262 la106 0 (fun _ => none) := hl109.p hfs265 (by first | decide | (simp; done) | (simp; omega)) (by first | decide | (simp; done) | (simp; omega)) (by first | decide | (simp; done) | (simp; omega))
  have hl133 : al_r G 22 32 M262 la130 0 (fun _ => none) := hl133.p hfs265 (by first | decide | (simp; done) | (simp; omega)) (by first | decide | (simp; done) | (simp; omega)) (by first | decide | (simp; done) | (simp; omega))
  have hl158 : al_r G 23 33 M262 la155 0 (fun _ => none) := hl158.p hfs265 (by first | decide | (simp; done) | (simp; omega)) (by first | decide | (simp; done) | (simp; omega)) (by first | decide | (simp; done) | (simp; omega))
  have hl184 : al_r G 24 34 M262 la181 0 (fun _ => none) := hl184.p hfs265 (by first | decide | (simp; done) | (simp; omega)) (by first | decide | (simp; done) | (simp; omega)) (by first | decide | (simp; done) | (simp; omega))
  have hl211 : al_r G 25 35 M262 la208 0 (fun _ => none) := hl211.p hfs265 (by first | decide | (simp; done) | (simp; omega)) (by first | decide | (simp; done) | (simp; omega)) (by first | decide | (simp; done) | (simp; omega))
  have hf : sf cf M M262 := hf.tr hfs265 (fun a t h => by first | (simp [pk] at h; done) | (simp [pk] at h; simp only [cf, cm]; omega))
  show sg_W X M262 0 0 121 [some (.ref ca), some (.int (nI 8))] [.ref q243, .int (nI 0), .ref q32]
  refine sg_aast0 (pc := 121) (i := nI 0) hC dX6_init_121 hF40 (by first | omega | decide) hc263 (by first | omega | decide)  (vp_in_nI (by first | omega | decide) (by first | omega | decide)) ?_
  rw [nI_clamp (by first | omega | decide)]
  refine sg_nm (fun M268 hw269 => ?_)
  have hA : M268 ca = some (1, .inr (9, [.ref q1, .ref q13, .ref q22, .ref q32, .ref q43, .ref q55])) := hw269.n hA ne36
  have hF19 : M268 q13 = some (4, .inl (.object RX3, 8, .inr (.inr (.inr (.inr (fun _ => none)))))) := hw269.n hF19 ne37
  have hF29 : M268 q22 = some (5, .inl (.object RX5, 6, .inr (.inr (.inr (.inr (va_up (va_up (va_up (va_up (va_up (va_up (fun _ => none) 0 (some q71)) 1 (some q93)) 2 (some q116)) 3 (some q140)) 4 (some q165)) 5 (some q191))))))) := hw269.n hF29 ne38
  have hF52 : M268 q43 = some (7, .inl (.int, 8, .inl (upd (upd (upd (upd (upd (upd (upd (upd (fun _ => 0) 0 (((-1)))) 1 (((-1)))) 2 (((-1)))) 3 (((-1)))) 4 (((-1)))) 5 (((-1)))) 6 (((-1)))) 7 (((-1)))))) := hw269.n hF52 (Ne.symm ne50)
  have hF65 : M268 q55 = some (8, .inr (2, [.int (nI 0), .ref (G.2.2.2 0), .int (nI 0)])) := hw269.n hF65 (Ne.symm ne62)
  have hc85 : M268 q71 = some (10, .inr (8, [.ref la83])) := hw269.n hc85 (Ne.symm ne78)
  have hc108 : M268 q93 = some (11, .inr (8, [.ref la106])) := hw269.n hc108 (Ne.symm ne100)
  have hc132 : M268 q116 = some (12, .inr (8, [.ref la130])) := hw269.n hc132 (Ne.symm ne123)
  have hc157 : M268 q140 = some (13, .inr (8, [.ref la155])) := hw269.n hc157 (Ne.symm ne147)
  have hc183 : M268 q165 = some (14, .inr (8, [.ref la181])) := hw269.n hc183 (Ne.symm ne172)
  have hc210 : M268 q191 = some (15, .inr (8, [.ref la208])) := hw269.n hc210 (Ne.symm ne198)
  have hc263 : M268 q243 = some (40, .inr (3, [.ref la261, .int (nI 0)])) := hw269.n hc263 (Ne.symm ne250)
  have hs9 : sb_r 2 3 M268 q1 ([]) := hs9.st hw269 hF40 (by first | omega | decide) (by first | omega | decide)
  have hl86 : al_r G 20 30 M268 la83 0 (fun _ => none) := hl86.st hw269 hF40 (by first | omega | decide) (by first | omega | decide) (by first | omega | decide)
  have hl109 : al_r G 21 31 M268 la106 0 (fun _ => none) := hl109.st hw269 hF40 (by first | omega | decide) (by first | omega | decide) (by first | omega | decide)
  have hl133 : al_r G 22 32 M268 la130 0 (fun _ => none) := hl133.st hw269 hF40 (by first | omega | decide) (by first | omega | decide) (by first | omega | decide)
  have hl158 : al_r G 23 33 M268 la155 0 (fun _ => none) := hl158.st hw269 hF40 (by first | omega | decide) (by first | omega | decide) (by first | omega | decide)
  have hl184 : al_r G 24 34 M268 la181 0 (fun _ => none) := hl184.st hw269 hF40 (by first | omega | decide) (by first | omega | decide) (by first | omega | decide)
  have hl211 : al_r G 25 35 M268 la208 0 (fun _ => none) := hl211.st hw269 hF40 (by first | omega | decide) (by first | omega | decide) (by first | omega | decide)
  have hl264 : al_r G 50 60 M268 la261 0 (fun _ => none) := hl264.st hw269 hF40 (by first | omega | decide) (by first | omega | decide) (by first | omega | decide)
  have hf : sf cf M M268 := hf.nw hw269 hn39
  have hF40 : M268 q32 = some (6, .inl (.object RX0, 4, .inr (.inr (.inr (.inr (va_up (fun _ => none) 0 (some q243))))))) := hw269.1
  obtain ⟨g0, hD⟩ := (hEv.cf hf).2.2
  have z : ∀ i j, i ≠ 13 → md_N0 i j = 0 := fun i j h => N0_z h
  have h0 : sb_r 2 3 M268 q1 (padl md_N0) := by rw [padl_0 (z 1 0 (by decide))]; exact hs9
  have h1 : cl_slot M268 q13 md_N0 := ⟨_, hF19, fun i hi => ⟨fun _ => rfl, fun e => absurd (z 3 i (by decide)) e⟩⟩
  have hs : ∀ s a la, M268 a = some (10 + s, .inr (8, [.ref la])) → al_r G (20 + s) (30 + s) M268 la 0 (fun _ => none) → so_r G M268 s a md_N0 := fun s a la q1 q2 => ⟨la, _, q1, by rw [z 12 s (by decide)]; exact q2, fun j hj => by rw [z 12 s (by decide)] at hj; omega⟩
  have h2 : cl_src G M268 q22 md_N0 := ⟨_, hF29, fun s hs9 => by
    have h9 : s = 0 ∨ s = 1 ∨ s = 2 ∨ s = 3 ∨ s = 4 ∨ s = 5 := by omega
    rcases h9 with rfl | rfl | rfl | rfl | rfl | rfl
    · exact ⟨q71, by simp [va_up], hs 0 _ _ hc85 hl86⟩
    · exact ⟨q93, by simp [va_up], hs 1 _ _ hc108 hl109⟩
    · exact ⟨q116, by simp [va_up], hs 2 _ _ hc132 hl133⟩
    · exact ⟨q140, by simp [va_up], hs 3 _ _ hc157 hl158⟩
    · exact ⟨q165, by simp [va_up], hs 4 _ _ hc183 hl184⟩
    · exact ⟨q191, by simp [va_up], hs 5 _ _ hc210 hl211⟩⟩
  have h3 : cl_thr G M268 q32 md_N0 := ⟨_, hF40, fun t ht => by
    rw [N0_13]
    by_cases e : t = 0
    · rw [if_pos e, e]; exact ⟨fun e => absurd e (by decide), fun _ => ⟨q243, va_up_self _ _ _, la261, fun _ => none, by rw [z 14 0 (by decide)]; exact hc263, by rw [z 15 0 (by decide)]; exact hl264, fun k hk => by rw [z 15 0 (by decide)] at hk; omega⟩⟩
    · rw [if_neg e, va_up_ne _ _ e]; exact ⟨fun _ => rfl, fun e => absurd rfl e⟩⟩
  have h4 : cl_ctx M268 q43 md_N0 := ⟨_, hF52, fun j hj => by
    rw [if_pos (z 19 j (by decide))]
    have h9 : j = 0 ∨ j = 1 ∨ j = 2 ∨ j = 3 ∨ j = 4 ∨ j = 5 ∨ j = 6 ∨ j = 7 := by omega
    rcases h9 with rfl | rfl | rfl | rfl | rfl | rfl | rfl | rfl <;> simp [upd] <;> rfl⟩
  have h5 : cl_note G M268 q55 md_N0 := ⟨fun _ => none, by rw [z 21 0 (by decide)]; exact ⟨_, G.2.2.2 0, 0, 0, g0, hF65, hD, Nat.le_refl _, Or.inl ⟨rfl, rfl, rfl⟩, fun j hj => absurd hj (Nat.not_lt_zero _)⟩, fun j hj => by rw [z 21 0 (by decide)] at hj; omega⟩
  exact sg_vreturn (st := []) (pc := 122) hC hR dX6_init_122 (hk _ _ _ _ _ _ _ ⟨hA, h0, h1, h2, h3, h4, h5⟩ hf)
