theorem zlk01 {r : Int32} {a b e : Int} (h0 : ¬ r = 0) (h1 : ¬ r = 1) : Op.lookupswitch.offset [((0 : Int), a), (1, b)] e r.toInt = e := by
  have k0 : ¬ r.toInt = 0 := fun q => h0 (Int32.toInt_inj.mp q)
  have k1 : ¬ r.toInt = 1 := fun q => h1 (Int32.toInt_inj.mp q)
  simp [Op.lookupswitch.offset, k0, k1, Ne.symm k0, Ne.symm k1, List.find?]
theorem c_S_combined (g : zGt) (d : Nat) (hdd : 1 ≤ d) (G : zG) (v q r : Int32)  : zMet g y_S_combined b_S_combined 3 (some .int) [] d 0 0 [.int v, .int q, .int r] G (zD1 (.int (zcmb v q r)) G) := by
  refine zMet.of (by decide) (Nat.le_of_ble_eq_true rfl) rfl (fun X hX => ?_)
  refine zr_iload_n hX rfl d_S_combined_0 ?_
  refine zr_ldc hX q99 d_S_combined_1 ?_
  refine zr_icmp_ne hX (tgt := 8) d_S_combined_3 (by decide) (fun h3 => ?_) (fun h3 => ?_)
  · skip
    refine zr_iload_n hX rfl d_S_combined_8 ?_
    refine zr_ldc hX q99 d_S_combined_9 ?_
    refine zr_icmp_ne hX (tgt := 16) d_S_combined_11 (by decide) (fun h11 => ?_) (fun h11 => ?_)
    · skip
      refine zr_iload_n hX rfl d_S_combined_16 ?_
      by_cases h17_0 : r = 0
      · skip
        refine zr_look (off := 27) hX (tgt := 44) d_S_combined_17 (by decide) (by rw [h17_0]; rfl) (by decide) ?_
        refine zr_ldcw hX q182 d_S_combined_44 ?_
        refine zr_ldcw hX q183 d_S_combined_47 ?_
        refine zr_iload_n hX rfl d_S_combined_50 ?_
        refine zr_iload_n hX rfl d_S_combined_51 ?_
        refine zr_iadd hX d_S_combined_52 ?_
        refine zr_mmin hX q504 q505 q12 q506 (Nat.le_of_ble_eq_true rfl) (by omega) d_S_combined_53 ?_
        refine zr_mmax hX q507 q508 q12 q509 (Nat.le_of_ble_eq_true rfl) (by omega) d_S_combined_56 ?_
        exact zr_iret hX d_S_combined_59 ⟨by unfold zcmb; rw [if_neg h3, if_neg h11, if_pos h17_0], rfl⟩
      · skip
        by_cases h17_1 : r = 1
        · skip
          refine zr_look (off := 43) hX (tgt := 60) d_S_combined_17 (by decide) (by rw [h17_1]; rfl) (by decide) ?_
          refine zr_iload_n hX rfl d_S_combined_60 ?_
          refine zr_iload_n hX rfl d_S_combined_61 ?_
          refine zr_mmax hX q507 q508 q12 q509 (Nat.le_of_ble_eq_true rfl) (by omega) d_S_combined_62 ?_
          exact zr_iret hX d_S_combined_65 ⟨by unfold zcmb; rw [if_neg h3, if_neg h11, if_neg h17_0, if_pos h17_1], rfl⟩
        · skip
          refine zr_look (off := 49) hX (tgt := 66) d_S_combined_17 (by decide) (zlk01 h17_0 h17_1) (by decide) ?_
          refine zr_iload_n hX rfl d_S_combined_66 ?_
          refine zr_iload_n hX rfl d_S_combined_67 ?_
          refine zr_mmin hX q504 q505 q12 q506 (Nat.le_of_ble_eq_true rfl) (by omega) d_S_combined_68 ?_
          exact zr_iret hX d_S_combined_71 ⟨by unfold zcmb; rw [if_neg h3, if_neg h11, if_neg h17_0, if_neg h17_1], rfl⟩
    · skip
      refine zr_iload_n hX rfl d_S_combined_14 ?_
      exact zr_iret hX d_S_combined_15 ⟨by unfold zcmb; rw [if_neg h3, if_pos h11], rfl⟩
  · skip
    refine zr_iload_n hX rfl d_S_combined_6 ?_
    exact zr_iret hX d_S_combined_7 ⟨by unfold zcmb; rw [if_pos h3], rfl⟩
theorem c_S_isRightOf (g : zGt) (d : Nat) (G : zG) (v : zV) (x : Nat) (h : zSv v x G) (i j : Nat) (p q : Int32) (hi : i < 6) (hj : j < 6) : zMet g y_S_isRightOf b_S_isRightOf 11 (some .boolean) [] d 0 0 [.ref x, .int (nI i), .int (nI j), .int p, .int q] G (zD1 (.int (zrt (v.ar 8) (v.ar 9) i j p q)) G) := by
  refine zMet.of (by decide) (Nat.le_of_ble_eq_true rfl) rfl (fun X hX => ?_)
  refine zr_aload_n hX rfl d_S_isRightOf_0 ?_
  refine zr_get hX k_S 9 (by decide) q112 rfl h.x rfl d_S_isRightOf_1 ?_
  refine zr_iload_n hX rfl d_S_isRightOf_4 ?_
  refine zr_ialdN hX h.a9 i rfl (by omega) (by decide) d_S_isRightOf_5 ?_
  refine zr_aload_n hX rfl d_S_isRightOf_6 ?_
  refine zr_get hX k_S 9 (by decide) q112 rfl h.x rfl d_S_isRightOf_7 ?_
  refine zr_iload_n hX rfl d_S_isRightOf_10 ?_
  refine zr_ialdN hX h.a9 j rfl (by omega) (by decide) d_S_isRightOf_11 ?_
  refine zr_icmp_gt hX (tgt := 19) d_S_isRightOf_12 (by decide) (fun h12 => ?_) (fun h12 => ?_)
  · skip
    refine zr_iload_n hX rfl d_S_isRightOf_19 ?_
    refine zs_istore hX (by decide) rfl d_S_isRightOf_20 ?_
    refine zr_iload_n hX rfl d_S_isRightOf_22 ?_
    refine zr_iload_n hX rfl d_S_isRightOf_23 ?_
    refine zn_iadd (a := i) (b := j) hX d_S_isRightOf_24 ?_
    refine zr_iload hX rfl d_S_isRightOf_25 ?_
    refine zn_isub (a := (i + j)) (b := j) hX (by omega) d_S_isRightOf_27 ?_
    rw [show nI ((i + j) - j) = nI i from congrArg nI (by omega)]
    refine zs_istore hX (by decide) rfl d_S_isRightOf_28 ?_
    refine zr_iconst (v := 2) hX rfl d_S_isRightOf_30 ?_
    refine zr_aload_n hX rfl d_S_isRightOf_31 ?_
    refine zr_get hX k_S 9 (by decide) q112 rfl h.x rfl d_S_isRightOf_32 ?_
    refine zr_iload hX rfl d_S_isRightOf_35 ?_
    refine zr_ialdN hX h.a9 j rfl (by omega) (by decide) d_S_isRightOf_37 ?_
    refine zr_imul hX d_S_isRightOf_38 ?_
    refine zs_istore hX (by decide) rfl d_S_isRightOf_39 ?_
    refine zr_iconst (v := 2) hX rfl d_S_isRightOf_41 ?_
    refine zr_aload_n hX rfl d_S_isRightOf_42 ?_
    refine zr_get hX k_S 9 (by decide) q112 rfl h.x rfl d_S_isRightOf_43 ?_
    refine zr_iload hX rfl d_S_isRightOf_46 ?_
    refine zr_ialdN hX h.a9 i rfl (by omega) (by decide) d_S_isRightOf_48 ?_
    refine zr_imul hX d_S_isRightOf_49 ?_
    refine zs_istore hX (by decide) rfl d_S_isRightOf_50 ?_
    refine zr_iload hX rfl d_S_isRightOf_52 ?_
    refine zr_iload hX rfl d_S_isRightOf_54 ?_
    refine zr_icmp_lt hX (tgt := 66) d_S_isRightOf_56 (by decide) (fun h56 => ?_) (fun h56 => ?_)
    · skip
      refine zr_iconst (v := 0) hX rfl d_S_isRightOf_66 ?_
      exact zr_zret hX rfl d_S_isRightOf_67 ⟨by unfold zrt; rw [if_neg (Int32.not_le.mpr h12)]; unfold zr4; rw [if_pos h56], rfl⟩
    · skip
      refine zr_iload hX rfl d_S_isRightOf_59 ?_
      refine zr_iload hX rfl d_S_isRightOf_61 ?_
      refine zr_icmp_lt hX (tgt := 68) d_S_isRightOf_63 (by decide) (fun h63 => ?_) (fun h63 => ?_)
      · skip
        refine zr_iconst (v := 2) hX rfl d_S_isRightOf_68 ?_
        refine zr_aload_n hX rfl d_S_isRightOf_69 ?_
        refine zr_get hX k_S 8 (by decide) q111 rfl h.x rfl d_S_isRightOf_70 ?_
        refine zr_iload hX rfl d_S_isRightOf_73 ?_
        refine zr_ialdN hX h.a8 j rfl (by omega) (by decide) d_S_isRightOf_75 ?_
        refine zr_imul hX d_S_isRightOf_76 ?_
        refine zs_istore hX (by decide) rfl d_S_isRightOf_77 ?_
        refine zr_iconst (v := 2) hX rfl d_S_isRightOf_79 ?_
        refine zr_aload_n hX rfl d_S_isRightOf_80 ?_
        refine zr_get hX k_S 8 (by decide) q111 rfl h.x rfl d_S_isRightOf_81 ?_
        refine zr_iload hX rfl d_S_isRightOf_84 ?_
        refine zr_ialdN hX h.a8 i rfl (by omega) (by decide) d_S_isRightOf_86 ?_
        refine zr_imul hX d_S_isRightOf_87 ?_
        refine zs_istore hX (by decide) rfl d_S_isRightOf_88 ?_
        refine zr_iload hX rfl d_S_isRightOf_90 ?_
        refine zr_iload hX rfl d_S_isRightOf_92 ?_
        refine zr_isub hX d_S_isRightOf_94 ?_
        refine zr_iload hX rfl d_S_isRightOf_95 ?_
        refine zr_iload hX rfl d_S_isRightOf_97 ?_
        refine zr_isub hX d_S_isRightOf_99 ?_
        refine zr_imul hX d_S_isRightOf_100 ?_
        refine zr_iload_n hX rfl d_S_isRightOf_101 ?_
        refine zr_iload hX rfl d_S_isRightOf_102 ?_
        refine zr_isub hX d_S_isRightOf_104 ?_
        refine zr_iload hX rfl d_S_isRightOf_105 ?_
        refine zr_iload hX rfl d_S_isRightOf_107 ?_
        refine zr_isub hX d_S_isRightOf_109 ?_
        refine zr_imul hX d_S_isRightOf_110 ?_
        refine zr_icmp_le hX (tgt := 118) d_S_isRightOf_111 (by decide) (fun h111 => ?_) (fun h111 => ?_)
        · skip
          refine zr_iconst (v := 0) hX rfl d_S_isRightOf_118 ?_
          exact zr_zret hX rfl d_S_isRightOf_119 ⟨by unfold zrt; rw [if_neg (Int32.not_le.mpr h12)]; unfold zr4; rw [if_neg h56, if_neg (Int32.not_le.mpr h63), if_pos h111], rfl⟩
        · skip
          refine zr_iconst (v := 1) hX rfl d_S_isRightOf_114 ?_
          refine zr_goto hX (tgt := 119) (by decide) d_S_isRightOf_115 ?_
          exact zr_zret hX rfl d_S_isRightOf_119 ⟨by unfold zrt; rw [if_neg (Int32.not_le.mpr h12)]; unfold zr4; rw [if_neg h56, if_neg (Int32.not_le.mpr h63), if_neg h111], rfl⟩
      · skip
        refine zr_iconst (v := 0) hX rfl d_S_isRightOf_66 ?_
        exact zr_zret hX rfl d_S_isRightOf_67 ⟨by unfold zrt; rw [if_neg (Int32.not_le.mpr h12)]; unfold zr4; rw [if_neg h56, if_pos (Int32.not_lt.mp h63)], rfl⟩
  · skip
    refine zr_iload_n hX rfl d_S_isRightOf_15 ?_
    refine zr_goto hX (tgt := 20) (by decide) d_S_isRightOf_16 ?_
    refine zs_istore hX (by decide) rfl d_S_isRightOf_20 ?_
    refine zr_iload_n hX rfl d_S_isRightOf_22 ?_
    refine zr_iload_n hX rfl d_S_isRightOf_23 ?_
    refine zn_iadd (a := i) (b := j) hX d_S_isRightOf_24 ?_
    refine zr_iload hX rfl d_S_isRightOf_25 ?_
    refine zn_isub (a := (i + j)) (b := i) hX (by omega) d_S_isRightOf_27 ?_
    rw [show nI ((i + j) - i) = nI j from congrArg nI (by omega)]
    refine zs_istore hX (by decide) rfl d_S_isRightOf_28 ?_
    refine zr_iconst (v := 2) hX rfl d_S_isRightOf_30 ?_
    refine zr_aload_n hX rfl d_S_isRightOf_31 ?_
    refine zr_get hX k_S 9 (by decide) q112 rfl h.x rfl d_S_isRightOf_32 ?_
    refine zr_iload hX rfl d_S_isRightOf_35 ?_
    refine zr_ialdN hX h.a9 i rfl (by omega) (by decide) d_S_isRightOf_37 ?_
    refine zr_imul hX d_S_isRightOf_38 ?_
    refine zs_istore hX (by decide) rfl d_S_isRightOf_39 ?_
    refine zr_iconst (v := 2) hX rfl d_S_isRightOf_41 ?_
    refine zr_aload_n hX rfl d_S_isRightOf_42 ?_
    refine zr_get hX k_S 9 (by decide) q112 rfl h.x rfl d_S_isRightOf_43 ?_
    refine zr_iload hX rfl d_S_isRightOf_46 ?_
    refine zr_ialdN hX h.a9 j rfl (by omega) (by decide) d_S_isRightOf_48 ?_
    refine zr_imul hX d_S_isRightOf_49 ?_
    refine zs_istore hX (by decide) rfl d_S_isRightOf_50 ?_
    refine zr_iload hX rfl d_S_isRightOf_52 ?_
    refine zr_iload hX rfl d_S_isRightOf_54 ?_
    refine zr_icmp_lt hX (tgt := 66) d_S_isRightOf_56 (by decide) (fun h56 => ?_) (fun h56 => ?_)
    · skip
      refine zr_iconst (v := 0) hX rfl d_S_isRightOf_66 ?_
      exact zr_zret hX rfl d_S_isRightOf_67 ⟨by unfold zrt; rw [if_pos (Int32.not_lt.mp h12)]; unfold zr4; rw [if_pos h56], rfl⟩
    · skip
      refine zr_iload hX rfl d_S_isRightOf_59 ?_
      refine zr_iload hX rfl d_S_isRightOf_61 ?_
      refine zr_icmp_lt hX (tgt := 68) d_S_isRightOf_63 (by decide) (fun h63 => ?_) (fun h63 => ?_)
      · skip
        refine zr_iconst (v := 2) hX rfl d_S_isRightOf_68 ?_
        refine zr_aload_n hX rfl d_S_isRightOf_69 ?_
        refine zr_get hX k_S 8 (by decide) q111 rfl h.x rfl d_S_isRightOf_70 ?_
        refine zr_iload hX rfl d_S_isRightOf_73 ?_
        refine zr_ialdN hX h.a8 i rfl (by omega) (by decide) d_S_isRightOf_75 ?_
        refine zr_imul hX d_S_isRightOf_76 ?_
        refine zs_istore hX (by decide) rfl d_S_isRightOf_77 ?_
        refine zr_iconst (v := 2) hX rfl d_S_isRightOf_79 ?_
        refine zr_aload_n hX rfl d_S_isRightOf_80 ?_
        refine zr_get hX k_S 8 (by decide) q111 rfl h.x rfl d_S_isRightOf_81 ?_
        refine zr_iload hX rfl d_S_isRightOf_84 ?_
        refine zr_ialdN hX h.a8 j rfl (by omega) (by decide) d_S_isRightOf_86 ?_
        refine zr_imul hX d_S_isRightOf_87 ?_
        refine zs_istore hX (by decide) rfl d_S_isRightOf_88 ?_
        refine zr_iload hX rfl d_S_isRightOf_90 ?_
        refine zr_iload hX rfl d_S_isRightOf_92 ?_
        refine zr_isub hX d_S_isRightOf_94 ?_
        refine zr_iload hX rfl d_S_isRightOf_95 ?_
        refine zr_iload hX rfl d_S_isRightOf_97 ?_
        refine zr_isub hX d_S_isRightOf_99 ?_
        refine zr_imul hX d_S_isRightOf_100 ?_
        refine zr_iload_n hX rfl d_S_isRightOf_101 ?_
        refine zr_iload hX rfl d_S_isRightOf_102 ?_
        refine zr_isub hX d_S_isRightOf_104 ?_
        refine zr_iload hX rfl d_S_isRightOf_105 ?_
        refine zr_iload hX rfl d_S_isRightOf_107 ?_
        refine zr_isub hX d_S_isRightOf_109 ?_
        refine zr_imul hX d_S_isRightOf_110 ?_
        refine zr_icmp_le hX (tgt := 118) d_S_isRightOf_111 (by decide) (fun h111 => ?_) (fun h111 => ?_)
        · skip
          refine zr_iconst (v := 0) hX rfl d_S_isRightOf_118 ?_
          exact zr_zret hX rfl d_S_isRightOf_119 ⟨by unfold zrt; rw [if_pos (Int32.not_lt.mp h12)]; unfold zr4; rw [if_neg h56, if_neg (Int32.not_le.mpr h63), if_pos h111], rfl⟩
        · skip
          refine zr_iconst (v := 1) hX rfl d_S_isRightOf_114 ?_
          refine zr_goto hX (tgt := 119) (by decide) d_S_isRightOf_115 ?_
          exact zr_zret hX rfl d_S_isRightOf_119 ⟨by unfold zrt; rw [if_pos (Int32.not_lt.mp h12)]; unfold zr4; rw [if_neg h56, if_neg (Int32.not_le.mpr h63), if_neg h111], rfl⟩
      · skip
        refine zr_iconst (v := 0) hX rfl d_S_isRightOf_66 ?_
        exact zr_zret hX rfl d_S_isRightOf_67 ⟨by unfold zrt; rw [if_pos (Int32.not_lt.mp h12)]; unfold zr4; rw [if_neg h56, if_pos (Int32.not_lt.mp h63)], rfl⟩
theorem c_S_isInside (g : zGt) (d : Nat) (hdd : 1 ≤ d) (G : zG) (v : zV) (x : Nat) (h : zSv v x G) (n p q : Nat) (hn1 : 3 ≤ n) (hn2 : n ≤ 6) (hp : p < 32) (hq : q < 32) : zMet g y_S_isInside b_S_isInside 6 (some .boolean) [] d 0 0 [.ref x, .int (nI n), .int (nI p), .int (nI q)] G (zD1 (.int (zfor n (zinS (v.ar 8) (v.ar 9) n (nI (2 * p + 1)) (nI (2 * q + 1))) 0)) G) := by
  refine zMet.of (by decide) (Nat.le_of_ble_eq_true rfl) rfl (fun X hX => ?_)
  refine zr_iconst (v := 0) hX rfl d_S_isInside_0 ?_
  refine zs_istore hX (by decide) rfl d_S_isInside_1 ?_
  refine zr_iconst (v := 0) hX rfl d_S_isInside_3 ?_
  refine zs_istore hX (by decide) rfl d_S_isInside_4 ?_
  have L6 : ∀ j, j ≤ n → ∀ (r : Int32), r = zfor j (zinS (v.ar 8) (v.ar 9) n (nI (2 * p + 1)) (nI (2 * q + 1))) 0 → r = 0 ∨ r = 1 → zw g X (zD1 (.int (zfor n (zinS (v.ar 8) (v.ar 9) n (nI (2 * p + 1)) (nI (2 * q + 1))) 0)) G) 6 [some (.ref x), some (.int (nI n)), some (.int (nI p)), some (.int (nI q)), some (.int r), some (.int (nI j))] [] G 0 0 := by
    refine zup n (fun j hj_s ih_s => ?_)
    intro r  hs hr
    by_cases hlt_s : j < n
    · skip
      refine zr_iload hX rfl d_S_isInside_6 ?_
      refine zr_iload_n hX rfl d_S_isInside_8 ?_
      refine zr_icmp_ge hX (tgt := 55) d_S_isInside_9 (by decide) (fun h9 => absurd h9 (nI_ge (a := j) (b := n) (by omega) (by omega))) (fun _ => ?_)
      refine zr_aload_n hX rfl d_S_isInside_12 ?_
      refine zr_iload hX rfl d_S_isInside_13 ?_
      refine zr_iload hX rfl d_S_isInside_15 ?_
      refine zr_iconst (v := 1) hX rfl d_S_isInside_17 ?_
      refine zn_iadd (a := j) (b := 1) hX d_S_isInside_18 ?_
      refine zr_iload_n hX rfl d_S_isInside_19 ?_
      refine zn_irem (a := (j + 1)) (b := n) hX (by omega) (by omega) (by omega) d_S_isInside_20 ?_
      refine zr_iconst (v := 2) hX rfl d_S_isInside_21 ?_
      refine zr_iload_n hX rfl d_S_isInside_22 ?_
      refine zn_imul (a := 2) (b := p) hX d_S_isInside_23 ?_
      refine zr_iconst (v := 1) hX rfl d_S_isInside_24 ?_
      refine zn_iadd (a := (2 * p)) (b := 1) hX d_S_isInside_25 ?_
      refine zr_iconst (v := 2) hX rfl d_S_isInside_26 ?_
      refine zr_iload_n hX rfl d_S_isInside_27 ?_
      refine zn_imul (a := 2) (b := q) hX d_S_isInside_28 ?_
      refine zr_iconst (v := 1) hX rfl d_S_isInside_29 ?_
      refine zn_iadd (a := (2 * q)) (b := 1) hX d_S_isInside_30 ?_
      refine zr_pV hX (c_S_isRightOf g (d - 1) _ v x h j ((j + 1) % n) (nI ((2 * p) + 1)) (nI ((2 * q) + 1)) (by omega) (zmodlt (by omega) hn2)) l_S_293 im_S_isRightOf se_S_isRightOf f_S_isRightOf k_S.1 h.x rfl (Nat.le_of_ble_eq_true rfl) (by omega) (Nat.zero_le _) (Nat.zero_le _) d_S_isInside_31 ?_
      refine zr_if_eq hX (tgt := 49) d_S_isInside_34 (by decide) (fun h34 => ?_) (fun h34 => ?_)
      · skip
        refine zs_iinc (v := nI (j + 1)) hX rfl (nI_add _ 1) (by decide) rfl d_S_isInside_49 ?_
        refine zr_goto hX (tgt := 6) (by decide) d_S_isInside_52 ?_
        exact ih_s hlt_s _ (by rw [zfor_s, ← hs]; unfold zinS; rw [if_pos h34]) hr
      · skip
        refine zr_iload hX rfl d_S_isInside_37 ?_
        refine zr_if_ne hX (tgt := 46) d_S_isInside_39 (by decide) (fun h39 => ?_) (fun h39 => ?_)
        · skip
          refine zr_iconst (v := 0) hX rfl d_S_isInside_46 ?_
          refine zs_istore hX (by decide) rfl d_S_isInside_47 ?_
          refine zs_iinc (v := nI (j + 1)) hX rfl (nI_add _ 1) (by decide) rfl d_S_isInside_49 ?_
          refine zr_goto hX (tgt := 6) (by decide) d_S_isInside_52 ?_
          exact ih_s hlt_s _ (by rw [zfor_s, ← hs]; unfold zinS; rw [if_neg h34, if_neg h39]) (Or.inl rfl)
        · skip
          refine zr_iconst (v := 1) hX rfl d_S_isInside_42 ?_
          refine zr_goto hX (tgt := 47) (by decide) d_S_isInside_43 ?_
          refine zs_istore hX (by decide) rfl d_S_isInside_47 ?_
          refine zs_iinc (v := nI (j + 1)) hX rfl (nI_add _ 1) (by decide) rfl d_S_isInside_49 ?_
          refine zr_goto hX (tgt := 6) (by decide) d_S_isInside_52 ?_
          exact ih_s hlt_s _ (by rw [zfor_s, ← hs]; unfold zinS; rw [if_neg h34, if_pos h39]) (Or.inr rfl)
    · skip
      have ej_s : n = j := by omega
      subst ej_s
      refine zr_iload hX rfl d_S_isInside_6 ?_
      refine zr_iload_n hX rfl d_S_isInside_8 ?_
      refine zr_icmp_ge hX (tgt := 55) d_S_isInside_9 (by decide) (fun _ => ?_) (fun h9 => absurd h9 (zq_leT (a := n) (b := n) (by omega) (by omega)))
      refine zr_iload hX rfl d_S_isInside_55 ?_
      exact zr_zret hX (z01 hr) d_S_isInside_57 ⟨by rw [hs], rfl⟩
  exact L6 0 (Nat.zero_le _) _ rfl (Or.inl rfl)
theorem c_S_branchToEdit_ok (g : zGt) (d : Nat) (hdd : 1 ≤ d) (G : zG) (w : zW) (u : zU) (cm : Nat) (hH : zHp w G) (hR : zRl w u cm) (p l : Int32) (qb : Nat) (hz : zbra (zWv w) p = some qb)  (hl : ¬ s_M_isLayer l = 0) : zMet g y_S_branchToEdit b_S_branchToEdit 4 (some (.object "SurveyStore$Branch")) [] d 0 0 [.ref (w.a 0 0), .int p, .int l] G (zD1 (.ref qb) G) := by
  refine zMet.of (by decide) (Nat.le_of_ble_eq_true rfl) rfl (fun X hX => ?_)
  refine zr_aload_n hX rfl d_S_branchToEdit_0 ?_
  refine zr_iload_n hX rfl d_S_branchToEdit_1 ?_
  refine zr_pV hX (c_S_branchAt_1 g (d - 1) _ w hH p qb hz) l_S_84 im_S_branchAt se_S_branchAt f_S_branchAt k_S.1 hH.x rfl (Nat.le_of_ble_eq_true rfl) (by omega) (Nat.zero_le _) (Nat.zero_le _) d_S_branchToEdit_2 ?_
  refine zs_astore_n hX (by decide) rfl d_S_branchToEdit_5 ?_
  refine zr_aload_n hX rfl d_S_branchToEdit_6 ?_
  refine zr_ifnull hX d_S_branchToEdit_7 ?_
  refine zr_iload_n hX rfl d_S_branchToEdit_10 ?_
  refine zr_pS hX (c_S_isLayer g (d - 1) _ l) l_S_73 st_S_isLayer f_S_isLayer rfl (Nat.le_of_ble_eq_true rfl) (by omega) (Nat.zero_le _) (Nat.zero_le _) d_S_branchToEdit_11 ?_
  refine zr_if_ne hX (tgt := 25) d_S_branchToEdit_14 (by decide) (fun _ => ?_) (fun h9 => absurd h9 hl)
  refine zr_aload_n hX rfl d_S_branchToEdit_25 ?_
  exact zr_rret hX rfl (Or.inl ⟨_, rfl⟩) rfl d_S_branchToEdit_26 ⟨rfl, rfl⟩
theorem c_S_branchToEdit_bad (g : zGt) (d : Nat) (hdd : 6 ≤ d) (G : zG) (w : zW) (u : zU) (cm : Nat) (hH : zHp w G) (hR : zRl w u cm) (p l : Int32)  (hbad : s_M_isBranch u p = 0 ∨ s_M_isLayer l = 0) : zMet g y_S_branchToEdit b_S_branchToEdit 4 (some (.object "SurveyStore$Branch")) [] d 1 6 [.ref (w.a 0 0), .int p, .int l] G (zDx "java/lang/IllegalArgumentException" G) := by
  refine zMet.of (by decide) (Nat.le_of_ble_eq_true rfl) rfl (fun X hX => ?_)
  refine zr_aload_n hX rfl d_S_branchToEdit_0 ?_
  refine zr_iload_n hX rfl d_S_branchToEdit_1 ?_
  by_cases k2 : s_M_isBranch u p = 0
  · skip
    refine zr_pV hX (c_S_branchAt_0 g (d - 1) _ w u cm hH hR p k2) l_S_84 im_S_branchAt se_S_branchAt f_S_branchAt k_S.1 hH.x rfl (Nat.le_of_ble_eq_true rfl) (by omega) (Nat.zero_le _) (Nat.zero_le _) d_S_branchToEdit_2 ?_
    refine zs_astore_nN hX (by decide) rfl d_S_branchToEdit_5 ?_
    refine zr_aload_nN hX rfl d_S_branchToEdit_6 ?_
    refine zr_ifnullN hX (tgt := 17) (by decide) d_S_branchToEdit_7 ?_
    exact zr_iae hX rfl d_S_branchToEdit_17 d_S_branchToEdit_20 d_S_branchToEdit_21 d_S_branchToEdit_24 (by omega) (Nat.le_of_ble_eq_true rfl) (Nat.le_refl _) (Nat.le_refl _) ⟨rfl, rfl⟩
  · skip
    obtain ⟨b9, qb, hb9, eb9, hq3, hz, h79, ht9⟩ := hR.bra1 k2
    refine zr_pV hX (c_S_branchAt_1 g (d - 1) _ w hH p qb hz) l_S_84 im_S_branchAt se_S_branchAt f_S_branchAt k_S.1 hH.x rfl (Nat.le_of_ble_eq_true rfl) (by omega) (Nat.zero_le _) (Nat.zero_le _) d_S_branchToEdit_2 ?_
    refine zs_astore_n hX (by decide) rfl d_S_branchToEdit_5 ?_
    refine zr_aload_n hX rfl d_S_branchToEdit_6 ?_
    refine zr_ifnull hX d_S_branchToEdit_7 ?_
    refine zr_iload_n hX rfl d_S_branchToEdit_10 ?_
    refine zr_pS hX (c_S_isLayer g (d - 1) _ l) l_S_73 st_S_isLayer f_S_isLayer rfl (Nat.le_of_ble_eq_true rfl) (by omega) (Nat.zero_le _) (Nat.zero_le _) d_S_branchToEdit_11 ?_
    refine zr_if_ne hX (tgt := 25) d_S_branchToEdit_14 (by decide) (fun h14 => ?_) (fun h14 => ?_)
    · skip
      rcases hbad with e | e
      · exact absurd e k2
      · exact absurd e h14
    · skip
      exact zr_iae hX rfl d_S_branchToEdit_17 d_S_branchToEdit_20 d_S_branchToEdit_21 d_S_branchToEdit_24 (by omega) (Nat.le_of_ble_eq_true rfl) (Nat.le_refl _) (Nat.le_refl _) ⟨rfl, rfl⟩
theorem c_S_refuse_ok (g : zGt) (d : Nat) (hdd : 1 ≤ d) (G : zG) (v : Int32)  (hv : ¬ s_M_isValue v = 0) : zMet g y_S_refuseUnlessValue b_S_refuseUnlessValue 1 none [] d 0 0 [.int v] G (zD0 G) := by
  refine zMet.of (by decide) (Nat.le_of_ble_eq_true rfl) rfl (fun X hX => ?_)
  refine zr_iload_n hX rfl d_S_refuseUnlessValue_0 ?_
  refine zr_pS hX (c_S_isValue g (d - 1) _ v) l_S_139 st_S_isValue f_S_isValue rfl (Nat.le_of_ble_eq_true rfl) (by omega) (Nat.zero_le _) (Nat.zero_le _) d_S_refuseUnlessValue_1 ?_
  refine zr_if_ne hX (tgt := 15) d_S_refuseUnlessValue_4 (by decide) (fun _ => ?_) (fun h9 => absurd h9 hv)
  exact zr_vret hX d_S_refuseUnlessValue_15 ⟨rfl, rfl⟩
theorem c_S_refuse_bad (g : zGt) (d : Nat) (hdd : 6 ≤ d) (G : zG) (v : Int32)  (hv : s_M_isValue v = 0) : zMet g y_S_refuseUnlessValue b_S_refuseUnlessValue 1 none [] d 1 6 [.int v] G (zDx "java/lang/IllegalArgumentException" G) := by
  refine zMet.of (by decide) (Nat.le_of_ble_eq_true rfl) rfl (fun X hX => ?_)
  refine zr_iload_n hX rfl d_S_refuseUnlessValue_0 ?_
  refine zr_pS hX (c_S_isValue g (d - 1) _ v) l_S_139 st_S_isValue f_S_isValue rfl (Nat.le_of_ble_eq_true rfl) (by omega) (Nat.zero_le _) (Nat.zero_le _) d_S_refuseUnlessValue_1 ?_
  refine zr_if_ne hX (tgt := 15) d_S_refuseUnlessValue_4 (by decide) (fun h9 => absurd h9 (not_not_intro hv)) (fun _ => ?_)
  exact zr_iae hX rfl d_S_refuseUnlessValue_7 d_S_refuseUnlessValue_10 d_S_refuseUnlessValue_11 d_S_refuseUnlessValue_14 (by omega) (Nat.le_of_ble_eq_true rfl) (Nat.le_refl _) (Nat.le_refl _) ⟨rfl, rfl⟩
theorem c_S_paint_ok (g : zGt) (d : Nat) (hdd : 2 ≤ d) (G : zG) (w : zW) (u : zU) (cm : Nat) (hH : zHp w G) (hR : zRl w u cm) (p q : Nat) (v : Int32) (lf tp wd hg : Nat) (hlf : u.i 16 = nI lf) (htp : u.i 17 = nI tp) (hwd : u.i 18 = nI wd) (hhg : u.i 19 = nI hg) (hr1 : lf + wd ≤ 32) (hr2 : tp + hg ≤ 32)  (hp : p < 4) (hq : q < 4) (ho0 : ¬ s_M_isBranch u (nI p) = 0) (ho1 : ¬ s_M_isLayer (nI q) = 0) (ho3 : ¬ s_M_isValue v = 0) : zMet g y_S_paint b_S_paint 7 none [] d 0 0 [.ref (w.a 0 0), .int (nI p), .int (nI q), .int v] G (fun r G1 => r = .inl none ∧ ∃ f, G1 = zput G (w.a 4 p) (zJ 4096 f) ∧ zEe p (zuc u 0 0) (zfor hg (st_M_paint_y p q v lf wd tp) (zuc u 0 0)) f) := by
  refine zMet.of (by decide) (Nat.le_of_ble_eq_true rfl) rfl (fun X hX => ?_)
  have a4 : w.i 0 4 = nI lf := (hR.2.2.1.2.1 4 (by omega) (by omega)).trans hlf
  have a5 : w.i 0 5 = nI tp := (hR.2.2.1.2.1 5 (by omega) (by omega)).trans htp
  have a6 : w.i 0 6 = nI wd := (hR.2.2.1.2.1 6 (by omega) (by omega)).trans hwd
  have a7 : w.i 0 7 = nI hg := (hR.2.2.1.2.1 7 (by omega) (by omega)).trans hhg
  obtain ⟨qb, hq3, hz, h7, ht9⟩ := hR.bra hp ho0
  have hE0 : zEe p (zuc u 0 0) (zuc u 0 0) (w.f 4 p) := zEe.of hR.iv (ht9.2.2.2.1)
  refine zr_aload_n hX rfl d_S_paint_0 ?_
  refine zr_iload_n hX rfl d_S_paint_1 ?_
  refine zr_iload_n hX rfl d_S_paint_2 ?_
  refine zr_pV hX (c_S_branchToEdit_ok g (d - 1) (by omega) _ w u cm hH hR (nI p) (nI q) qb hz ho1) l_S_109 im_S_branchToEdit se_S_branchToEdit f_S_branchToEdit k_S.1 hH.x rfl (Nat.le_of_ble_eq_true rfl) (by omega) (Nat.zero_le _) (Nat.zero_le _) d_S_paint_3 ?_
  refine zs_astore hX (by decide) rfl d_S_paint_6 ?_
  refine zr_iload_n hX rfl d_S_paint_8 ?_
  refine zr_uS0 hX (c_S_refuse_ok g (d - 1) (by omega) _ v ho3) l_S_113 st_S_refuseUnlessValue f_S_refuseUnlessValue rfl (Nat.le_of_ble_eq_true rfl) (by omega) (Nat.zero_le _) (Nat.zero_le _) d_S_paint_9 ?_
  refine zr_aload_n hX rfl d_S_paint_12 ?_
  refine zr_get hX k_S 5 (by decide) q108 rfl hH.x (zsf5 a5) d_S_paint_13 ?_
  refine zs_istore hX (by decide) rfl d_S_paint_16 ?_
  have L18 : ∀ j, j ≤ hg → ∀ (f : Nat → Int64) , zEe p (zuc u 0 0) (zfor j (st_M_paint_y p q v lf wd tp) (zuc u 0 0)) f → zw g X (fun r G1 => r = .inl none ∧ ∃ f, G1 = zput G (w.a 4 p) (zJ 4096 f) ∧ zEe p (zuc u 0 0) (zfor hg (st_M_paint_y p q v lf wd tp) (zuc u 0 0)) f) 18 [some (.ref (w.a 0 0)), some (.int (nI p)), some (.int (nI q)), some (.int v), some (.ref qb), some (.int (nI (tp + j))), none] [] (zput G (w.a 4 p) (zJ 4096 f)) 0 0 := by
    refine zup hg (fun j hj_s ih_s => ?_)
    intro f  hs
    by_cases hlt_s : j < hg
    · skip
      refine zr_iload hX rfl d_S_paint_18 ?_
      refine zr_aload_n hX rfl d_S_paint_20 ?_
      refine zr_get hX k_S 5 (by decide) q108 rfl (zput_k (zne hH.x (hH.bj hq3) rfl) hH.x) (zsf5 a5) d_S_paint_21 ?_
      refine zr_aload_n hX rfl d_S_paint_24 ?_
      refine zr_get hX k_S 7 (by decide) q110 rfl (zput_k (zne hH.x (hH.bj hq3) rfl) hH.x) (zsf7 a7) d_S_paint_25 ?_
      refine zn_iadd (a := tp) (b := hg) hX d_S_paint_28 ?_
      refine zr_icmp_ge hX (tgt := 78) d_S_paint_29 (by decide) (fun h9 => absurd h9 (nI_ge (a := (tp + j)) (b := (tp + hg)) (by omega) (by omega))) (fun _ => ?_)
      refine zr_aload_n hX rfl d_S_paint_32 ?_
      refine zr_get hX k_S 4 (by decide) q107 rfl (zput_k (zne hH.x (hH.bj hq3) rfl) hH.x) (zsf4 a4) d_S_paint_33 ?_
      refine zs_istore hX (by decide) rfl d_S_paint_36 ?_
      have L38 : ∀ i, i ≤ wd → ∀ (f2 : Nat → Int64) , zEe p (zuc u 0 0) (zfor i (st_M_paint_x p q v lf wd tp j) (zfor j (st_M_paint_y p q v lf wd tp) (zuc u 0 0))) f2 → zw g X (fun r G1 => r = .inl none ∧ ∃ f, G1 = zput G (w.a 4 p) (zJ 4096 f) ∧ zEe p (zuc u 0 0) (zfor hg (st_M_paint_y p q v lf wd tp) (zuc u 0 0)) f) 38 [some (.ref (w.a 0 0)), some (.int (nI p)), some (.int (nI q)), some (.int v), some (.ref qb), some (.int (nI (tp + j))), some (.int (nI (lf + i)))] [] (zput G (w.a 4 p) (zJ 4096 f2)) 0 0 := by
        refine zup wd (fun i hj_t ih_t => ?_)
        intro f2  ht
        by_cases hlt_t : i < wd
        · skip
          refine zr_iload hX rfl d_S_paint_38 ?_
          refine zr_aload_n hX rfl d_S_paint_40 ?_
          refine zr_get hX k_S 4 (by decide) q107 rfl (zput_k (zne hH.x (hH.bj hq3) rfl) hH.x) (zsf4 a4) d_S_paint_41 ?_
          refine zr_aload_n hX rfl d_S_paint_44 ?_
          refine zr_get hX k_S 6 (by decide) q109 rfl (zput_k (zne hH.x (hH.bj hq3) rfl) hH.x) (zsf6 a6) d_S_paint_45 ?_
          refine zn_iadd (a := lf) (b := wd) hX d_S_paint_48 ?_
          refine zr_icmp_ge hX (tgt := 72) d_S_paint_49 (by decide) (fun h9 => absurd h9 (nI_ge (a := (lf + i)) (b := (lf + wd)) (by omega) (by omega))) (fun _ => ?_)
          refine zr_aload hX rfl d_S_paint_52 ?_
          refine zr_iload_n hX rfl d_S_paint_54 ?_
          refine zr_iload hX rfl d_S_paint_55 ?_
          refine zr_iload hX rfl d_S_paint_57 ?_
          refine zr_pS hX (c_S_indexOf g (d - 1) _ (nI q) (nI (lf + i)) (nI (tp + j))) l_S_117 st_S_indexOf f_S_indexOf rfl (Nat.le_of_ble_eq_true rfl) (by omega) (Nat.zero_le _) (Nat.zero_le _) d_S_paint_59 ?_
          rw [show s_S_indexOf (nI q) (nI (lf + i)) (nI (tp + j)) = nI (1024 * q + 32 * (tp + j) + (lf + i)) from zixS _ _ _]
          refine zr_iload_n hX rfl d_S_paint_62 ?_
          refine zr_uV0 hX (c_B_set g (d - 1) (by omega) _ qb (w.a 4 p) (w.i 4 p) (w.i 5 p) (w.i 6 p) (w.o 5 p) f2 (zput_k (zne (hH.bm hq3) (hH.bj hq3) rfl) (hH.bm hq3)) (zput_s _ _ _) (1024 * q + 32 * (tp + j) + (lf + i)) v (by omega)) l_S_121 im_B_set se_B_set f_B_set k_B.1 (zput_k (zne (hH.bm hq3) (hH.bj hq3) rfl) (hH.bm hq3)) rfl (Nat.le_of_ble_eq_true rfl) (by omega) (Nat.zero_le _) (Nat.zero_le _) d_S_paint_63 ?_
          refine zs_iinc (v := nI ((lf + i) + 1)) hX rfl (nI_add _ 1) (by decide) rfl d_S_paint_66 ?_
          refine zr_goto hX (tgt := 38) (by decide) d_S_paint_69 ?_
          refine zw_h (zput_z _ _ _ _).symm ?_
          exact ih_t hlt_t _  (by rw [zfor_s]; exact ht.give (by omega) v)
        · skip
          have ej_t : wd = i := by omega
          subst ej_t
          refine zr_iload hX rfl d_S_paint_38 ?_
          refine zr_aload_n hX rfl d_S_paint_40 ?_
          refine zr_get hX k_S 4 (by decide) q107 rfl (zput_k (zne hH.x (hH.bj hq3) rfl) hH.x) (zsf4 a4) d_S_paint_41 ?_
          refine zr_aload_n hX rfl d_S_paint_44 ?_
          refine zr_get hX k_S 6 (by decide) q109 rfl (zput_k (zne hH.x (hH.bj hq3) rfl) hH.x) (zsf6 a6) d_S_paint_45 ?_
          refine zn_iadd (a := lf) (b := wd) hX d_S_paint_48 ?_
          refine zr_icmp_ge hX (tgt := 72) d_S_paint_49 (by decide) (fun _ => ?_) (fun h9 => absurd h9 (zq_leT (a := (lf + wd)) (b := (lf + wd)) (by omega) (by omega)))
          refine zs_iinc (v := nI ((tp + j) + 1)) hX rfl (nI_add _ 1) (by decide) rfl d_S_paint_72 ?_
          refine zr_goto hX (tgt := 18) (by decide) d_S_paint_75 ?_
          refine zw_drop 6 ?_
          exact ih_s hlt_s _  (by rw [zfor_s]; exact ht)
      exact L38 0 (Nat.zero_le _) _  hs
    · skip
      have ej_s : hg = j := by omega
      subst ej_s
      refine zr_iload hX rfl d_S_paint_18 ?_
      refine zr_aload_n hX rfl d_S_paint_20 ?_
      refine zr_get hX k_S 5 (by decide) q108 rfl (zput_k (zne hH.x (hH.bj hq3) rfl) hH.x) (zsf5 a5) d_S_paint_21 ?_
      refine zr_aload_n hX rfl d_S_paint_24 ?_
      refine zr_get hX k_S 7 (by decide) q110 rfl (zput_k (zne hH.x (hH.bj hq3) rfl) hH.x) (zsf7 a7) d_S_paint_25 ?_
      refine zn_iadd (a := tp) (b := hg) hX d_S_paint_28 ?_
      refine zr_icmp_ge hX (tgt := 78) d_S_paint_29 (by decide) (fun _ => ?_) (fun h9 => absurd h9 (zq_leT (a := (tp + hg)) (b := (tp + hg)) (by omega) (by omega)))
      exact zr_vret hX d_S_paint_78 ⟨rfl, f, rfl, hs⟩
  refine zw_h (zput_id (hH.bj hq3)) ?_
  exact L18 0 (Nat.zero_le _) _  hE0
theorem c_S_paint_bad (g : zGt) (d : Nat) (hdd : 7 ≤ d) (G : zG) (w : zW) (u : zU) (cm : Nat) (hH : zHp w G) (hR : zRl w u cm) (p q v : Int32)  (hbad : s_M_isBranch u p = 0 ∨ s_M_isLayer q = 0 ∨ s_M_isValue v = 0) : zMet g y_S_paint b_S_paint 7 none [] d 1 6 [.ref (w.a 0 0), .int p, .int q, .int v] G (zDx "java/lang/IllegalArgumentException" G) := by
  refine zMet.of (by decide) (Nat.le_of_ble_eq_true rfl) rfl (fun X hX => ?_)
  refine zr_aload_n hX rfl d_S_paint_0 ?_
  refine zr_iload_n hX rfl d_S_paint_1 ?_
  refine zr_iload_n hX rfl d_S_paint_2 ?_
  by_cases k3 : s_M_isBranch u p = 0 ∨ s_M_isLayer q = 0
  · skip
    exact zr_xV hX (c_S_branchToEdit_bad g (d - 1) (by omega) _ w u cm hH hR p q k3) l_S_109 im_S_branchToEdit se_S_branchToEdit f_S_branchToEdit k_S.1 hH.x rfl (Nat.le_of_ble_eq_true rfl) (by omega) (Nat.le_refl _) (Nat.le_refl _) d_S_paint_3 ⟨rfl, rfl⟩
  · skip
    have kb : ¬ s_M_isBranch u p = 0 := fun z => k3 (Or.inl z)
    have kl : ¬ s_M_isLayer q = 0 := fun z => k3 (Or.inr z)
    obtain ⟨b9, qb, hb9, eb9, hq3, hz, h79, ht9⟩ := hR.bra1 kb
    refine zr_pV hX (c_S_branchToEdit_ok g (d - 1) (by omega) _ w u cm hH hR p q qb hz kl) l_S_109 im_S_branchToEdit se_S_branchToEdit f_S_branchToEdit k_S.1 hH.x rfl (Nat.le_of_ble_eq_true rfl) (by omega) (Nat.zero_le _) (Nat.zero_le _) d_S_paint_3 ?_
    refine zs_astore hX (by decide) rfl d_S_paint_6 ?_
    refine zr_iload_n hX rfl d_S_paint_8 ?_
    by_cases k9 : s_M_isValue v = 0
    · skip
      exact zr_xS hX (c_S_refuse_bad g (d - 1) (by omega) _ v k9) l_S_113 st_S_refuseUnlessValue f_S_refuseUnlessValue rfl (Nat.le_of_ble_eq_true rfl) (by omega) (Nat.le_refl _) (Nat.le_refl _) d_S_paint_9 ⟨rfl, rfl⟩
    · skip
      refine zr_uS0 hX (c_S_refuse_ok g (d - 1) (by omega) _ v k9) l_S_113 st_S_refuseUnlessValue f_S_refuseUnlessValue rfl (Nat.le_of_ble_eq_true rfl) (by omega) (Nat.zero_le _) (Nat.zero_le _) d_S_paint_9 ?_
      rcases hbad with e | e | e
      · exact absurd e kb
      · exact absurd e kl
      · exact absurd e k9
theorem c_S_polygon_bad (g : zGt) (d : Nat) (hdd : 7 ≤ d) (G : zG) (w : zW) (u : zU) (cm : Nat) (hH : zHp w G) (hR : zRl w u cm) (p q n v : Int32)  (hbad : s_M_isBranch u p = 0 ∨ s_M_isLayer q = 0 ∨ n < 3 ∨ 6 < n ∨ s_M_isValue v = 0) : zMet g y_S_polygon b_S_polygon 8 none [] d 1 6 [.ref (w.a 0 0), .int p, .int q, .int n, .int v] G (zDx "java/lang/IllegalArgumentException" G) := by
  refine zMet.of (by decide) (Nat.le_of_ble_eq_true rfl) rfl (fun X hX => ?_)
  refine zr_aload_n hX rfl d_S_polygon_0 ?_
  refine zr_iload_n hX rfl d_S_polygon_1 ?_
  refine zr_iload_n hX rfl d_S_polygon_2 ?_
  by_cases k3 : s_M_isBranch u p = 0 ∨ s_M_isLayer q = 0
  · skip
    exact zr_xV hX (c_S_branchToEdit_bad g (d - 1) (by omega) _ w u cm hH hR p q k3) l_S_109 im_S_branchToEdit se_S_branchToEdit f_S_branchToEdit k_S.1 hH.x rfl (Nat.le_of_ble_eq_true rfl) (by omega) (Nat.le_refl _) (Nat.le_refl _) d_S_polygon_3 ⟨rfl, rfl⟩
  · skip
    have kb : ¬ s_M_isBranch u p = 0 := fun z => k3 (Or.inl z)
    have kl : ¬ s_M_isLayer q = 0 := fun z => k3 (Or.inr z)
    obtain ⟨b9, qb, hb9, eb9, hq3, hz, h79, ht9⟩ := hR.bra1 kb
    refine zr_pV hX (c_S_branchToEdit_ok g (d - 1) (by omega) _ w u cm hH hR p q qb hz kl) l_S_109 im_S_branchToEdit se_S_branchToEdit f_S_branchToEdit k_S.1 hH.x rfl (Nat.le_of_ble_eq_true rfl) (by omega) (Nat.zero_le _) (Nat.zero_le _) d_S_polygon_3 ?_
    refine zs_astore hX (by decide) rfl d_S_polygon_6 ?_
    refine zr_iload hX rfl d_S_polygon_8 ?_
    by_cases k10 : s_M_isValue v = 0
    · skip
      exact zr_xS hX (c_S_refuse_bad g (d - 1) (by omega) _ v k10) l_S_113 st_S_refuseUnlessValue f_S_refuseUnlessValue rfl (Nat.le_of_ble_eq_true rfl) (by omega) (Nat.le_refl _) (Nat.le_refl _) d_S_polygon_10 ⟨rfl, rfl⟩
    · skip
      refine zr_uS0 hX (c_S_refuse_ok g (d - 1) (by omega) _ v k10) l_S_113 st_S_refuseUnlessValue f_S_refuseUnlessValue rfl (Nat.le_of_ble_eq_true rfl) (by omega) (Nat.zero_le _) (Nat.zero_le _) d_S_polygon_10 ?_
      refine zr_iload_n hX rfl d_S_polygon_13 ?_
      refine zr_iconst (v := 3) hX rfl d_S_polygon_14 ?_
      refine zr_icmp_lt hX (tgt := 24) d_S_polygon_15 (by decide) (fun h15 => ?_) (fun h15 => ?_)
      · skip
        exact zr_iae hX rfl d_S_polygon_24 d_S_polygon_27 d_S_polygon_28 d_S_polygon_31 (by omega) (Nat.le_of_ble_eq_true rfl) (Nat.le_refl _) (Nat.le_refl _) ⟨rfl, rfl⟩
      · skip
        refine zr_iload_n hX rfl d_S_polygon_18 ?_
        refine zr_bipush (v := 6) hX rfl d_S_polygon_19 ?_
        refine zr_icmp_le hX (tgt := 32) d_S_polygon_21 (by decide) (fun h21 => ?_) (fun h21 => ?_)
        · skip
          rcases hbad with e | e | e | e | e
          · exact absurd e kb
          · exact absurd e kl
          · exact absurd e h15
          · exact absurd e (Int32.not_lt.mpr h21)
          · exact absurd e k10
        · skip
          exact zr_iae hX rfl d_S_polygon_24 d_S_polygon_27 d_S_polygon_28 d_S_polygon_31 (by omega) (Nat.le_of_ble_eq_true rfl) (Nat.le_refl _) (Nat.le_refl _) ⟨rfl, rfl⟩
theorem zpoC {w : zW} {u : zU} {cm b : Nat} {t : zU} {f : Nat → Int64} (hR : zRl w u cm) (h : zEe b (zuc u 0 0) t f) : ∀ k, k < 6 → w.n 9 8 k = t.ar 20 k ∧ w.n 9 9 k = t.ar 21 k ∧ ∃ a b, a ≤ 32 ∧ b ≤ 32 ∧ t.ar 20 k = nI a ∧ t.ar 21 k = nI b := fun k hk => by
  rw [h.1.2.1 20 (by decide) (by decide) (by decide), h.1.2.1 21 (by decide) (by decide) (by decide)]
  exact hR.2.2.1.2.2.2.1 k hk
theorem zmaC {w : zW} {u : zU} {cm b : Nat} {t : zU} {f : Nat → Int64} (hR : zRl w u cm) (h : zEe b (zuc u 0 0) t f) : ∀ k, k < 8 → w.n 9 10 k = t.ar 22 k ∧ w.n 9 11 k = t.ar 23 k := fun k hk => by
  rw [h.1.2.1 22 (by decide) (by decide) (by decide), h.1.2.1 23 (by decide) (by decide) (by decide)]
  exact hR.2.2.1.2.2.2.2 k hk
theorem c_S_polygon_ok (g : zGt) (d : Nat) (hdd : 3 ≤ d) (G : zG) (w : zW) (u : zU) (cm : Nat) (hH : zHp w G) (hR : zRl w u cm) (p q n : Nat) (v : Int32)  (hp : p < 4) (hq : q < 4) (hn1 : 3 ≤ n) (hn2 : n ≤ 6) (ho0 : ¬ s_M_isBranch u (nI p) = 0) (ho1 : ¬ s_M_isLayer (nI q) = 0) (ho3 : ¬ s_M_isValue v = 0) : zMet g y_S_polygon b_S_polygon 8 none [] d 0 0 [.ref (w.a 0 0), .int (nI p), .int (nI q), .int (nI n), .int v] G (fun r G1 => r = .inl none ∧ ∃ f, G1 = zput G (w.a 4 p) (zJ 4096 f) ∧ zEe p (zuc u 0 0) (t_M_polygon u p q n v) f) := by
  refine zMet.of (by decide) (Nat.le_of_ble_eq_true rfl) rfl (fun X hX => ?_)
  obtain ⟨qb, hq3, hz, h7, ht9⟩ := hR.bra hp ho0
  have hE0 : zEe p (zuc u 0 0) (zuc u 0 0) (w.f 4 p) := zEe.of hR.iv (ht9.2.2.2.1)
  refine zr_aload_n hX rfl d_S_polygon_0 ?_
  refine zr_iload_n hX rfl d_S_polygon_1 ?_
  refine zr_iload_n hX rfl d_S_polygon_2 ?_
  refine zr_pV hX (c_S_branchToEdit_ok g (d - 1) (by omega) _ w u cm hH hR (nI p) (nI q) qb hz ho1) l_S_109 im_S_branchToEdit se_S_branchToEdit f_S_branchToEdit k_S.1 hH.x rfl (Nat.le_of_ble_eq_true rfl) (by omega) (Nat.zero_le _) (Nat.zero_le _) d_S_polygon_3 ?_
  refine zs_astore hX (by decide) rfl d_S_polygon_6 ?_
  refine zr_iload hX rfl d_S_polygon_8 ?_
  refine zr_uS0 hX (c_S_refuse_ok g (d - 1) (by omega) _ v ho3) l_S_113 st_S_refuseUnlessValue f_S_refuseUnlessValue rfl (Nat.le_of_ble_eq_true rfl) (by omega) (Nat.zero_le _) (Nat.zero_le _) d_S_polygon_10 ?_
  refine zr_iload_n hX rfl d_S_polygon_13 ?_
  refine zr_iconst (v := 3) hX rfl d_S_polygon_14 ?_
  refine zr_icmp_lt hX (tgt := 24) d_S_polygon_15 (by decide) (fun h9 => absurd h9 (nI_nlt (a := n) (b := 3) (by omega) (by omega))) (fun _ => ?_)
  refine zr_iload_n hX rfl d_S_polygon_18 ?_
  refine zr_bipush (v := 6) hX rfl d_S_polygon_19 ?_
  refine zr_icmp_le hX (tgt := 32) d_S_polygon_21 (by decide) (fun _ => ?_) (fun h9 => absurd h9 (zq_leT (a := n) (b := 6) (by omega) (by decide)))
  refine zr_iconst (v := 0) hX rfl d_S_polygon_32 ?_
  refine zs_istore hX (by decide) rfl d_S_polygon_33 ?_
  have L35 : ∀ j, j ≤ 32 → ∀ (f : Nat → Int64) , zEe p (zuc u 0 0) (zfor j (st_M_polygon_y p q n v) (zuc u 0 0)) f → zw g X (fun r G1 => r = .inl none ∧ ∃ f, G1 = zput G (w.a 4 p) (zJ 4096 f) ∧ zEe p (zuc u 0 0) (t_M_polygon u p q n v) f) 35 [some (.ref (w.a 0 0)), some (.int (nI p)), some (.int (nI q)), some (.int (nI n)), some (.int v), some (.ref qb), some (.int (nI j)), none] [] (zput G (w.a 4 p) (zJ 4096 f)) 0 0 := by
    refine zup 32 (fun j hj_s ih_s => ?_)
    intro f  hs
    by_cases hlt_s : j < 32
    · skip
      refine zr_iload hX rfl d_S_polygon_35 ?_
      refine zr_bipush (v := 32) hX rfl d_S_polygon_37 ?_
      refine zr_icmp_ge hX (tgt := 91) d_S_polygon_39 (by decide) (fun h9 => absurd h9 (nI_ge (a := j) (b := 32) (by omega) (by decide))) (fun _ => ?_)
      refine zr_iconst (v := 0) hX rfl d_S_polygon_42 ?_
      refine zs_istore hX (by decide) rfl d_S_polygon_43 ?_
      have L45 : ∀ i, i ≤ 32 → ∀ (f2 : Nat → Int64) , zEe p (zuc u 0 0) (zfor i (st_M_polygon_x p q n v j) (zfor j (st_M_polygon_y p q n v) (zuc u 0 0))) f2 → zw g X (fun r G1 => r = .inl none ∧ ∃ f, G1 = zput G (w.a 4 p) (zJ 4096 f) ∧ zEe p (zuc u 0 0) (t_M_polygon u p q n v) f) 45 [some (.ref (w.a 0 0)), some (.int (nI p)), some (.int (nI q)), some (.int (nI n)), some (.int v), some (.ref qb), some (.int (nI j)), some (.int (nI i))] [] (zput G (w.a 4 p) (zJ 4096 f2)) 0 0 := by
        refine zup 32 (fun i hj_t ih_t => ?_)
        intro f2  ht
        by_cases hlt_t : i < 32
        · skip
          refine zr_iload hX rfl d_S_polygon_45 ?_
          refine zr_bipush (v := 32) hX rfl d_S_polygon_47 ?_
          refine zr_icmp_ge hX (tgt := 85) d_S_polygon_49 (by decide) (fun h9 => absurd h9 (nI_ge (a := i) (b := 32) (by omega) (by decide))) (fun _ => ?_)
          refine zr_aload_n hX rfl d_S_polygon_52 ?_
          refine zr_iload_n hX rfl d_S_polygon_53 ?_
          refine zr_iload hX rfl d_S_polygon_54 ?_
          refine zr_iload hX rfl d_S_polygon_56 ?_
          refine zr_pV hX (c_S_isInside g (d - 1) (by omega) _ (zWv (zWf w 4 p f2)) (w.a 0 0) (zHp.sv (hH.wf4 hq3 f2)) n i j hn1 hn2 (by omega) (by omega)) l_S_128 im_S_isInside se_S_isInside f_S_isInside k_S.1 (zput_k (zne hH.x (hH.bj hq3) rfl) hH.x) rfl (Nat.le_of_ble_eq_true rfl) (by omega) (Nat.zero_le _) (Nat.zero_le _) d_S_polygon_58 ?_
          refine zr_if_eq hX (tgt := 79) d_S_polygon_61 (by decide) (fun h61 => ?_) (fun h61 => ?_)
          · skip
            refine zs_iinc (v := nI (i + 1)) hX rfl (nI_add _ 1) (by decide) rfl d_S_polygon_79 ?_
            refine zr_goto hX (tgt := 45) (by decide) d_S_polygon_82 ?_
            have hpo := ht.poly hp (q := q) (n := n) (i := i) (j := j) v hq hlt_t hlt_s hn1 hn2 (w.n 9 8) (w.n 9 9) (zpoC hR ht)
            exact ih_t hlt_t _  (by
                rw [zfor_s]
                rcases hpo with z | z
                · rw [z.2]; exact ht
                · exact absurd h61 z.1)
          · skip
            refine zr_aload hX rfl d_S_polygon_64 ?_
            refine zr_iload_n hX rfl d_S_polygon_66 ?_
            refine zr_iload hX rfl d_S_polygon_67 ?_
            refine zr_iload hX rfl d_S_polygon_69 ?_
            refine zr_pS hX (c_S_indexOf g (d - 1) _ (nI q) (nI i) (nI j)) l_S_117 st_S_indexOf f_S_indexOf rfl (Nat.le_of_ble_eq_true rfl) (by omega) (Nat.zero_le _) (Nat.zero_le _) d_S_polygon_71 ?_
            rw [show s_S_indexOf (nI q) (nI i) (nI j) = nI (1024 * q + 32 * j + i) from zixS _ _ _]
            refine zr_iload hX rfl d_S_polygon_74 ?_
            refine zr_uV0 hX (c_B_set g (d - 1) (by omega) _ qb (w.a 4 p) (w.i 4 p) (w.i 5 p) (w.i 6 p) (w.o 5 p) f2 (zput_k (zne (hH.bm hq3) (hH.bj hq3) rfl) (hH.bm hq3)) (zput_s _ _ _) (1024 * q + 32 * j + i) v (by omega)) l_S_121 im_B_set se_B_set f_B_set k_B.1 (zput_k (zne (hH.bm hq3) (hH.bj hq3) rfl) (hH.bm hq3)) rfl (Nat.le_of_ble_eq_true rfl) (by omega) (Nat.zero_le _) (Nat.zero_le _) d_S_polygon_76 ?_
            refine zs_iinc (v := nI (i + 1)) hX rfl (nI_add _ 1) (by decide) rfl d_S_polygon_79 ?_
            refine zr_goto hX (tgt := 45) (by decide) d_S_polygon_82 ?_
            have hpo := ht.poly hp (q := q) (n := n) (i := i) (j := j) v hq hlt_t hlt_s hn1 hn2 (w.n 9 8) (w.n 9 9) (zpoC hR ht)
            refine zw_h (zput_z _ _ _ _).symm ?_
            exact ih_t hlt_t _  (by
                rw [zfor_s]
                rcases hpo with z | z
                · exact absurd z.1 h61
                · exact z.2)
        · skip
          have ej_t : 32 = i := by omega
          subst ej_t
          refine zr_iload hX rfl d_S_polygon_45 ?_
          refine zr_bipush (v := 32) hX rfl d_S_polygon_47 ?_
          refine zr_icmp_ge hX (tgt := 85) d_S_polygon_49 (by decide) (fun _ => ?_) (fun h9 => absurd h9 (zq_leT (a := 32) (b := 32) (by omega) (by decide)))
          refine zs_iinc (v := nI (j + 1)) hX rfl (nI_add _ 1) (by decide) rfl d_S_polygon_85 ?_
          refine zr_goto hX (tgt := 35) (by decide) d_S_polygon_88 ?_
          refine zw_drop 7 ?_
          exact ih_s hlt_s _  (by rw [zfor_s]; exact ht)
      exact L45 0 (Nat.zero_le _) _  hs
    · skip
      have ej_s : 32 = j := by omega
      subst ej_s
      refine zr_iload hX rfl d_S_polygon_35 ?_
      refine zr_bipush (v := 32) hX rfl d_S_polygon_37 ?_
      refine zr_icmp_ge hX (tgt := 91) d_S_polygon_39 (by decide) (fun _ => ?_) (fun h9 => absurd h9 (zq_leT (a := 32) (b := 32) (by omega) (by decide)))
      exact zr_vret hX d_S_polygon_91 ⟨rfl, f, rfl, hs⟩
  refine zw_h (zput_id (hH.bj hq3)) ?_
  exact L35 0 (Nat.zero_le _) _  hE0
theorem c_S_map_bad (g : zGt) (d : Nat) (hdd : 7 ≤ d) (G : zG) (w : zW) (u : zU) (cm : Nat) (hH : zHp w G) (hR : zRl w u cm) (p q : Int32)  (hbad : s_M_isBranch u p = 0 ∨ s_M_isLayer q = 0) : zMet g y_S_map b_S_map 8 none [] d 1 6 [.ref (w.a 0 0), .int p, .int q] G (zDx "java/lang/IllegalArgumentException" G) := by
  refine zMet.of (by decide) (Nat.le_of_ble_eq_true rfl) rfl (fun X hX => ?_)
  refine zr_aload_n hX rfl d_S_map_0 ?_
  refine zr_iload_n hX rfl d_S_map_1 ?_
  refine zr_iload_n hX rfl d_S_map_2 ?_
  by_cases k3 : s_M_isBranch u p = 0 ∨ s_M_isLayer q = 0
  · skip
    exact zr_xV hX (c_S_branchToEdit_bad g (d - 1) (by omega) _ w u cm hH hR p q k3) l_S_109 im_S_branchToEdit se_S_branchToEdit f_S_branchToEdit k_S.1 hH.x rfl (Nat.le_of_ble_eq_true rfl) (by omega) (Nat.le_refl _) (Nat.le_refl _) d_S_map_3 ⟨rfl, rfl⟩
  · skip
    have kb : ¬ s_M_isBranch u p = 0 := fun z => k3 (Or.inl z)
    have kl : ¬ s_M_isLayer q = 0 := fun z => k3 (Or.inr z)
    obtain ⟨b9, qb, hb9, eb9, hq3, hz, h79, ht9⟩ := hR.bra1 kb
    refine zr_pV hX (c_S_branchToEdit_ok g (d - 1) (by omega) _ w u cm hH hR p q qb hz kl) l_S_109 im_S_branchToEdit se_S_branchToEdit f_S_branchToEdit k_S.1 hH.x rfl (Nat.le_of_ble_eq_true rfl) (by omega) (Nat.zero_le _) (Nat.zero_le _) d_S_map_3 ?_
    refine zs_astore_n hX (by decide) rfl d_S_map_6 ?_
    rcases hbad with e | e
    · exact absurd e kb
    · exact absurd e kl
theorem c_S_map_ok (g : zGt) (d : Nat) (hdd : 3 ≤ d) (G : zG) (w : zW) (u : zU) (cm : Nat) (hH : zHp w G) (hR : zRl w u cm) (p q : Nat) (lf tp wd hg : Nat) (hlf : u.i 16 = nI lf) (htp : u.i 17 = nI tp) (hwd : u.i 18 = nI wd) (hhg : u.i 19 = nI hg) (hr1 : lf + wd ≤ 32) (hr2 : tp + hg ≤ 32)  (hp : p < 4) (hq : q < 4) (ho0 : ¬ s_M_isBranch u (nI p) = 0) (ho1 : ¬ s_M_isLayer (nI q) = 0) : zMet g y_S_map b_S_map 8 none [] d 0 0 [.ref (w.a 0 0), .int (nI p), .int (nI q)] G (fun r G1 => r = .inl none ∧ ∃ f, G1 = zput G (w.a 4 p) (zJ 4096 f) ∧ zEe p (zuc u 0 0) (t_M_map u p q lf tp wd hg) f) := by
  refine zMet.of (by decide) (Nat.le_of_ble_eq_true rfl) rfl (fun X hX => ?_)
  have a4 : w.i 0 4 = nI lf := (hR.2.2.1.2.1 4 (by omega) (by omega)).trans hlf
  have a5 : w.i 0 5 = nI tp := (hR.2.2.1.2.1 5 (by omega) (by omega)).trans htp
  have a6 : w.i 0 6 = nI wd := (hR.2.2.1.2.1 6 (by omega) (by omega)).trans hwd
  have a7 : w.i 0 7 = nI hg := (hR.2.2.1.2.1 7 (by omega) (by omega)).trans hhg
  obtain ⟨qb, hq3, hz, h7, ht9⟩ := hR.bra hp ho0
  have hE0 : zEe p (zuc u 0 0) (zuc u 0 0) (w.f 4 p) := zEe.of hR.iv (ht9.2.2.2.1)
  refine zr_aload_n hX rfl d_S_map_0 ?_
  refine zr_iload_n hX rfl d_S_map_1 ?_
  refine zr_iload_n hX rfl d_S_map_2 ?_
  refine zr_pV hX (c_S_branchToEdit_ok g (d - 1) (by omega) _ w u cm hH hR (nI p) (nI q) qb hz ho1) l_S_109 im_S_branchToEdit se_S_branchToEdit f_S_branchToEdit k_S.1 hH.x rfl (Nat.le_of_ble_eq_true rfl) (by omega) (Nat.zero_le _) (Nat.zero_le _) d_S_map_3 ?_
  refine zs_astore_n hX (by decide) rfl d_S_map_6 ?_
  refine zr_aload_n hX rfl d_S_map_7 ?_
  refine zr_get hX k_S 5 (by decide) q108 rfl hH.x (zsf5 a5) d_S_map_8 ?_
  refine zs_istore hX (by decide) rfl d_S_map_11 ?_
  have L13 : ∀ j, j ≤ hg → ∀ (f : Nat → Int64) , zEe p (zuc u 0 0) (zfor j (st_M_map_y p q lf wd tp) (zuc u 0 0)) f → zw g X (fun r G1 => r = .inl none ∧ ∃ f, G1 = zput G (w.a 4 p) (zJ 4096 f) ∧ zEe p (zuc u 0 0) (t_M_map u p q lf tp wd hg) f) 13 [some (.ref (w.a 0 0)), some (.int (nI p)), some (.int (nI q)), some (.ref qb), some (.int (nI (tp + j))), none, none, none] [] (zput G (w.a 4 p) (zJ 4096 f)) 0 0 := by
    refine zup hg (fun j hj_s ih_s => ?_)
    intro f  hs
    by_cases hlt_s : j < hg
    · skip
      refine zr_iload hX rfl d_S_map_13 ?_
      refine zr_aload_n hX rfl d_S_map_15 ?_
      refine zr_get hX k_S 5 (by decide) q108 rfl (zput_k (zne hH.x (hH.bj hq3) rfl) hH.x) (zsf5 a5) d_S_map_16 ?_
      refine zr_aload_n hX rfl d_S_map_19 ?_
      refine zr_get hX k_S 7 (by decide) q110 rfl (zput_k (zne hH.x (hH.bj hq3) rfl) hH.x) (zsf7 a7) d_S_map_20 ?_
      refine zn_iadd (a := tp) (b := hg) hX d_S_map_23 ?_
      refine zr_icmp_ge hX (tgt := 93) d_S_map_24 (by decide) (fun h9 => absurd h9 (nI_ge (a := (tp + j)) (b := (tp + hg)) (by omega) (by omega))) (fun _ => ?_)
      refine zr_aload_n hX rfl d_S_map_27 ?_
      refine zr_get hX k_S 4 (by decide) q107 rfl (zput_k (zne hH.x (hH.bj hq3) rfl) hH.x) (zsf4 a4) d_S_map_28 ?_
      refine zs_istore hX (by decide) rfl d_S_map_31 ?_
      have L33 : ∀ i, i ≤ wd → ∀ (f2 : Nat → Int64) , zEe p (zuc u 0 0) (zfor i (st_M_map_x p q lf wd tp j) (zfor j (st_M_map_y p q lf wd tp) (zuc u 0 0))) f2 → zw g X (fun r G1 => r = .inl none ∧ ∃ f, G1 = zput G (w.a 4 p) (zJ 4096 f) ∧ zEe p (zuc u 0 0) (t_M_map u p q lf tp wd hg) f) 33 [some (.ref (w.a 0 0)), some (.int (nI p)), some (.int (nI q)), some (.ref qb), some (.int (nI (tp + j))), some (.int (nI (lf + i))), none, none] [] (zput G (w.a 4 p) (zJ 4096 f2)) 0 0 := by
        refine zup wd (fun i hj_t ih_t => ?_)
        intro f2  ht
        by_cases hlt_t : i < wd
        · skip
          refine zr_iload hX rfl d_S_map_33 ?_
          refine zr_aload_n hX rfl d_S_map_35 ?_
          refine zr_get hX k_S 4 (by decide) q107 rfl (zput_k (zne hH.x (hH.bj hq3) rfl) hH.x) (zsf4 a4) d_S_map_36 ?_
          refine zr_aload_n hX rfl d_S_map_39 ?_
          refine zr_get hX k_S 6 (by decide) q109 rfl (zput_k (zne hH.x (hH.bj hq3) rfl) hH.x) (zsf6 a6) d_S_map_40 ?_
          refine zn_iadd (a := lf) (b := wd) hX d_S_map_43 ?_
          refine zr_icmp_ge hX (tgt := 87) d_S_map_44 (by decide) (fun h9 => absurd h9 (nI_ge (a := (lf + i)) (b := (lf + wd)) (by omega) (by omega))) (fun _ => ?_)
          refine zr_iload_n hX rfl d_S_map_47 ?_
          refine zr_iload hX rfl d_S_map_48 ?_
          refine zr_iload hX rfl d_S_map_50 ?_
          refine zr_pS hX (c_S_indexOf g (d - 1) _ (nI q) (nI (lf + i)) (nI (tp + j))) l_S_117 st_S_indexOf f_S_indexOf rfl (Nat.le_of_ble_eq_true rfl) (by omega) (Nat.zero_le _) (Nat.zero_le _) d_S_map_52 ?_
          rw [show s_S_indexOf (nI q) (nI (lf + i)) (nI (tp + j)) = nI (1024 * q + 32 * (tp + j) + (lf + i)) from zixS _ _ _]
          refine zs_istore hX (by decide) rfl d_S_map_55 ?_
          refine zr_aload_n hX rfl d_S_map_57 ?_
          refine zr_get hX k_B 0 (by decide) q64 rfl (zput_k (zne (hH.bm hq3) (hH.bj hq3) rfl) (hH.bm hq3)) rfl d_S_map_58 ?_
          refine zr_iload hX rfl d_S_map_61 ?_
          refine zr_laldN hX (zput_s _ _ _) (1024 * q + 32 * (tp + j) + (lf + i)) rfl (by omega) (by decide) d_S_map_63 ?_
          refine zr_pS hX (c_S_valueOf g (d - 1) _ (f2 (1024 * q + 32 * (tp + j) + (lf + i)))) l_S_142 st_S_valueOf f_S_valueOf rfl (Nat.le_of_ble_eq_true rfl) (by omega) (Nat.zero_le _) (Nat.zero_le _) d_S_map_64 ?_
          refine zs_istore hX (by decide) rfl d_S_map_67 ?_
          refine zr_aload_n hX rfl d_S_map_69 ?_
          refine zr_iload hX rfl d_S_map_70 ?_
          refine zr_aload_n hX rfl d_S_map_72 ?_
          refine zr_iload hX rfl d_S_map_73 ?_
          refine zr_pV hX (c_S_mapped g (d - 1) _ (zWv (zWf w 4 p f2)) (w.a 0 0) (zHp.sv (hH.wf4 hq3 f2)) (s_S_valueOf (f2 (1024 * q + 32 * (tp + j) + (lf + i))))) l_S_146 im_S_mapped se_S_mapped f_S_mapped k_S.1 (zput_k (zne hH.x (hH.bj hq3) rfl) hH.x) rfl (Nat.le_of_ble_eq_true rfl) (by omega) (Nat.zero_le _) (Nat.zero_le _) d_S_map_75 ?_
          refine zr_uS0 hX (c_S_setIfOther g (d - 1) (by omega) _ qb (w.a 4 p) (w.i 4 p) (w.i 5 p) (w.i 6 p) (w.o 5 p) f2 (zput_k (zne (hH.bm hq3) (hH.bj hq3) rfl) (hH.bm hq3)) (zput_s _ _ _) (1024 * q + 32 * (tp + j) + (lf + i)) (s_S_mapped (zWv (zWf w 4 p f2)) (s_S_valueOf (f2 (1024 * q + 32 * (tp + j) + (lf + i))))) (by omega)) l_S_150 st_S_setIfOther f_S_setIfOther rfl (Nat.le_of_ble_eq_true rfl) (by omega) (Nat.zero_le _) (Nat.zero_le _) d_S_map_78 ?_
          refine zs_iinc (v := nI ((lf + i) + 1)) hX rfl (nI_add _ 1) (by decide) rfl d_S_map_81 ?_
          refine zr_goto hX (tgt := 33) (by decide) d_S_map_84 ?_
          refine zw_drop 6 ?_
          refine zw_drop 7 ?_
          refine zw_h (zput_z _ _ _ _).symm ?_
          exact ih_t hlt_t _  (by rw [zfor_s]; exact ht.map hp (wd := wd) (by omega) (zWv (zWf w 4 p f2)) (zmaC hR ht))
        · skip
          have ej_t : wd = i := by omega
          subst ej_t
          refine zr_iload hX rfl d_S_map_33 ?_
          refine zr_aload_n hX rfl d_S_map_35 ?_
          refine zr_get hX k_S 4 (by decide) q107 rfl (zput_k (zne hH.x (hH.bj hq3) rfl) hH.x) (zsf4 a4) d_S_map_36 ?_
          refine zr_aload_n hX rfl d_S_map_39 ?_
          refine zr_get hX k_S 6 (by decide) q109 rfl (zput_k (zne hH.x (hH.bj hq3) rfl) hH.x) (zsf6 a6) d_S_map_40 ?_
          refine zn_iadd (a := lf) (b := wd) hX d_S_map_43 ?_
          refine zr_icmp_ge hX (tgt := 87) d_S_map_44 (by decide) (fun _ => ?_) (fun h9 => absurd h9 (zq_leT (a := (lf + wd)) (b := (lf + wd)) (by omega) (by omega)))
          refine zs_iinc (v := nI ((tp + j) + 1)) hX rfl (nI_add _ 1) (by decide) rfl d_S_map_87 ?_
          refine zr_goto hX (tgt := 13) (by decide) d_S_map_90 ?_
          refine zw_drop 5 ?_
          exact ih_s hlt_s _  (by rw [zfor_s]; exact ht)
      exact L33 0 (Nat.zero_le _) _  hs
    · skip
      have ej_s : hg = j := by omega
      subst ej_s
      refine zr_iload hX rfl d_S_map_13 ?_
      refine zr_aload_n hX rfl d_S_map_15 ?_
      refine zr_get hX k_S 5 (by decide) q108 rfl (zput_k (zne hH.x (hH.bj hq3) rfl) hH.x) (zsf5 a5) d_S_map_16 ?_
      refine zr_aload_n hX rfl d_S_map_19 ?_
      refine zr_get hX k_S 7 (by decide) q110 rfl (zput_k (zne hH.x (hH.bj hq3) rfl) hH.x) (zsf7 a7) d_S_map_20 ?_
      refine zn_iadd (a := tp) (b := hg) hX d_S_map_23 ?_
      refine zr_icmp_ge hX (tgt := 93) d_S_map_24 (by decide) (fun _ => ?_) (fun h9 => absurd h9 (zq_leT (a := (tp + hg)) (b := (tp + hg)) (by omega) (by omega)))
      exact zr_vret hX d_S_map_93 ⟨rfl, f, rfl, hs⟩
  refine zw_h (zput_id (hH.bj hq3)) ?_
  exact L13 0 (Nat.zero_le _) _  hE0
theorem zlt3 {v : Int32} (h : v < 3) : v ≤ 2 := by
  rw [Int32.lt_iff_toInt_lt, show (3 : Int32).toInt = 3 from rfl] at h
  rw [Int32.le_iff_toInt_le, show (2 : Int32).toInt = 2 from rfl]
  omega
theorem zle2 {v : Int32} (h : v ≤ 2) : v < 3 := by
  rw [Int32.le_iff_toInt_le, show (2 : Int32).toInt = 2 from rfl] at h
  rw [Int32.lt_iff_toInt_lt, show (3 : Int32).toInt = 3 from rfl]
  omega
theorem c_S_combine_bad (g : zGt) (d : Nat) (hdd : 7 ≤ d) (G : zG) (w : zW) (u : zU) (cm : Nat) (hH : zHp w G) (hR : zRl w u cm) (p q n v : Int32)  (hbad : s_M_isBranch u p = 0 ∨ s_M_isLayer q = 0 ∨ s_M_isLayer n = 0 ∨ v < 0 ∨ ¬ v ≤ 2) : zMet g y_S_combine b_S_combine 11 none [] d 1 6 [.ref (w.a 0 0), .int p, .int q, .int n, .int v] G (zDx "java/lang/IllegalArgumentException" G) := by
  refine zMet.of (by decide) (Nat.le_of_ble_eq_true rfl) rfl (fun X hX => ?_)
  refine zr_aload_n hX rfl d_S_combine_0 ?_
  refine zr_iload_n hX rfl d_S_combine_1 ?_
  refine zr_iload_n hX rfl d_S_combine_2 ?_
  by_cases k3 : s_M_isBranch u p = 0 ∨ s_M_isLayer q = 0
  · skip
    exact zr_xV hX (c_S_branchToEdit_bad g (d - 1) (by omega) _ w u cm hH hR p q k3) l_S_109 im_S_branchToEdit se_S_branchToEdit f_S_branchToEdit k_S.1 hH.x rfl (Nat.le_of_ble_eq_true rfl) (by omega) (Nat.le_refl _) (Nat.le_refl _) d_S_combine_3 ⟨rfl, rfl⟩
  · skip
    have kb : ¬ s_M_isBranch u p = 0 := fun z => k3 (Or.inl z)
    have kl : ¬ s_M_isLayer q = 0 := fun z => k3 (Or.inr z)
    obtain ⟨b9, qb, hb9, eb9, hq3, hz, h79, ht9⟩ := hR.bra1 kb
    refine zr_pV hX (c_S_branchToEdit_ok g (d - 1) (by omega) _ w u cm hH hR p q qb hz kl) l_S_109 im_S_branchToEdit se_S_branchToEdit f_S_branchToEdit k_S.1 hH.x rfl (Nat.le_of_ble_eq_true rfl) (by omega) (Nat.zero_le _) (Nat.zero_le _) d_S_combine_3 ?_
    refine zs_astore hX (by decide) rfl d_S_combine_6 ?_
    refine zr_iload_n hX rfl d_S_combine_8 ?_
    refine zr_pS hX (c_S_isLayer g (d - 1) _ n) l_S_73 st_S_isLayer f_S_isLayer rfl (Nat.le_of_ble_eq_true rfl) (by omega) (Nat.zero_le _) (Nat.zero_le _) d_S_combine_9 ?_
    refine zr_if_eq hX (tgt := 26) d_S_combine_12 (by decide) (fun h12 => ?_) (fun h12 => ?_)
    · skip
      exact zr_iae hX rfl d_S_combine_26 d_S_combine_29 d_S_combine_30 d_S_combine_33 (by omega) (Nat.le_of_ble_eq_true rfl) (Nat.le_refl _) (Nat.le_refl _) ⟨rfl, rfl⟩
    · skip
      refine zr_iload hX rfl d_S_combine_15 ?_
      refine zr_if_lt hX (tgt := 26) d_S_combine_17 (by decide) (fun h17 => ?_) (fun h17 => ?_)
      · skip
        exact zr_iae hX rfl d_S_combine_26 d_S_combine_29 d_S_combine_30 d_S_combine_33 (by omega) (Nat.le_of_ble_eq_true rfl) (Nat.le_refl _) (Nat.le_refl _) ⟨rfl, rfl⟩
      · skip
        refine zr_iload hX rfl d_S_combine_20 ?_
        refine zr_iconst (v := 3) hX rfl d_S_combine_22 ?_
        refine zr_icmp_lt hX (tgt := 34) d_S_combine_23 (by decide) (fun h23 => ?_) (fun h23 => ?_)
        · skip
          rcases hbad with e | e | e | e | e
          · exact absurd e kb
          · exact absurd e kl
          · exact absurd e h12
          · exact absurd e h17
          · exact absurd e (not_not_intro (zlt3 h23))
        · skip
          exact zr_iae hX rfl d_S_combine_26 d_S_combine_29 d_S_combine_30 d_S_combine_33 (by omega) (Nat.le_of_ble_eq_true rfl) (Nat.le_refl _) (Nat.le_refl _) ⟨rfl, rfl⟩
theorem c_S_combine_ok (g : zGt) (d : Nat) (hdd : 3 ≤ d) (G : zG) (w : zW) (u : zU) (cm : Nat) (hH : zHp w G) (hR : zRl w u cm) (p q n : Nat) (v : Int32) (lf tp wd hg : Nat) (hlf : u.i 16 = nI lf) (htp : u.i 17 = nI tp) (hwd : u.i 18 = nI wd) (hhg : u.i 19 = nI hg) (hr1 : lf + wd ≤ 32) (hr2 : tp + hg ≤ 32)  (hp : p < 4) (hq : q < 4) (hn : n < 4) (ho0 : ¬ s_M_isBranch u (nI p) = 0) (ho1 : ¬ s_M_isLayer (nI q) = 0) (ho2 : ¬ s_M_isLayer (nI n) = 0) (ho4 : ¬ v < 0) (ho5 : ¬ ¬ v ≤ 2) : zMet g y_S_combine b_S_combine 11 none [] d 0 0 [.ref (w.a 0 0), .int (nI p), .int (nI q), .int (nI n), .int v] G (fun r G1 => r = .inl none ∧ ∃ f, G1 = zput G (w.a 4 p) (zJ 4096 f) ∧ zEe p (zuc u 0 0) (t_M_combine u p q n v lf tp wd hg) f) := by
  refine zMet.of (by decide) (Nat.le_of_ble_eq_true rfl) rfl (fun X hX => ?_)
  have a4 : w.i 0 4 = nI lf := (hR.2.2.1.2.1 4 (by omega) (by omega)).trans hlf
  have a5 : w.i 0 5 = nI tp := (hR.2.2.1.2.1 5 (by omega) (by omega)).trans htp
  have a6 : w.i 0 6 = nI wd := (hR.2.2.1.2.1 6 (by omega) (by omega)).trans hwd
  have a7 : w.i 0 7 = nI hg := (hR.2.2.1.2.1 7 (by omega) (by omega)).trans hhg
  obtain ⟨qb, hq3, hz, h7, ht9⟩ := hR.bra hp ho0
  have hE0 : zEe p (zuc u 0 0) (zuc u 0 0) (w.f 4 p) := zEe.of hR.iv (ht9.2.2.2.1)
  refine zr_aload_n hX rfl d_S_combine_0 ?_
  refine zr_iload_n hX rfl d_S_combine_1 ?_
  refine zr_iload_n hX rfl d_S_combine_2 ?_
  refine zr_pV hX (c_S_branchToEdit_ok g (d - 1) (by omega) _ w u cm hH hR (nI p) (nI q) qb hz ho1) l_S_109 im_S_branchToEdit se_S_branchToEdit f_S_branchToEdit k_S.1 hH.x rfl (Nat.le_of_ble_eq_true rfl) (by omega) (Nat.zero_le _) (Nat.zero_le _) d_S_combine_3 ?_
  refine zs_astore hX (by decide) rfl d_S_combine_6 ?_
  refine zr_iload_n hX rfl d_S_combine_8 ?_
  refine zr_pS hX (c_S_isLayer g (d - 1) _ (nI n)) l_S_73 st_S_isLayer f_S_isLayer rfl (Nat.le_of_ble_eq_true rfl) (by omega) (Nat.zero_le _) (Nat.zero_le _) d_S_combine_9 ?_
  refine zr_if_eq hX (tgt := 26) d_S_combine_12 (by decide) (fun h9 => absurd h9 ho2) (fun _ => ?_)
  refine zr_iload hX rfl d_S_combine_15 ?_
  refine zr_if_lt hX (tgt := 26) d_S_combine_17 (by decide) (fun h9 => absurd h9 ho4) (fun _ => ?_)
  refine zr_iload hX rfl d_S_combine_20 ?_
  refine zr_iconst (v := 3) hX rfl d_S_combine_22 ?_
  refine zr_icmp_lt hX (tgt := 34) d_S_combine_23 (by decide) (fun _ => ?_) (fun h9 => absurd h9 (not_not_intro (zle2 (Classical.not_not.mp ho5))))
  refine zr_aload_n hX rfl d_S_combine_34 ?_
  refine zr_get hX k_S 5 (by decide) q108 rfl hH.x (zsf5 a5) d_S_combine_35 ?_
  refine zs_istore hX (by decide) rfl d_S_combine_38 ?_
  have L40 : ∀ j, j ≤ hg → ∀ (f : Nat → Int64) , zEe p (zuc u 0 0) (zfor j (st_M_combine_y p q n v lf wd tp) (zuc u 0 0)) f → zw g X (fun r G1 => r = .inl none ∧ ∃ f, G1 = zput G (w.a 4 p) (zJ 4096 f) ∧ zEe p (zuc u 0 0) (t_M_combine u p q n v lf tp wd hg) f) 40 [some (.ref (w.a 0 0)), some (.int (nI p)), some (.int (nI q)), some (.int (nI n)), some (.int v), some (.ref qb), some (.int (nI (tp + j))), none, none, none, none] [] (zput G (w.a 4 p) (zJ 4096 f)) 0 0 := by
    refine zup hg (fun j hj_s ih_s => ?_)
    intro f  hs
    by_cases hlt_s : j < hg
    · skip
      refine zr_iload hX rfl d_S_combine_40 ?_
      refine zr_aload_n hX rfl d_S_combine_42 ?_
      refine zr_get hX k_S 5 (by decide) q108 rfl (zput_k (zne hH.x (hH.bj hq3) rfl) hH.x) (zsf5 a5) d_S_combine_43 ?_
      refine zr_aload_n hX rfl d_S_combine_46 ?_
      refine zr_get hX k_S 7 (by decide) q110 rfl (zput_k (zne hH.x (hH.bj hq3) rfl) hH.x) (zsf7 a7) d_S_combine_47 ?_
      refine zn_iadd (a := tp) (b := hg) hX d_S_combine_50 ?_
      refine zr_icmp_ge hX (tgt := 144) d_S_combine_51 (by decide) (fun h9 => absurd h9 (nI_ge (a := (tp + j)) (b := (tp + hg)) (by omega) (by omega))) (fun _ => ?_)
      refine zr_aload_n hX rfl d_S_combine_54 ?_
      refine zr_get hX k_S 4 (by decide) q107 rfl (zput_k (zne hH.x (hH.bj hq3) rfl) hH.x) (zsf4 a4) d_S_combine_55 ?_
      refine zs_istore hX (by decide) rfl d_S_combine_58 ?_
      have L60 : ∀ i, i ≤ wd → ∀ (f2 : Nat → Int64) , zEe p (zuc u 0 0) (zfor i (st_M_combine_x p q n v lf wd tp j) (zfor j (st_M_combine_y p q n v lf wd tp) (zuc u 0 0))) f2 → zw g X (fun r G1 => r = .inl none ∧ ∃ f, G1 = zput G (w.a 4 p) (zJ 4096 f) ∧ zEe p (zuc u 0 0) (t_M_combine u p q n v lf tp wd hg) f) 60 [some (.ref (w.a 0 0)), some (.int (nI p)), some (.int (nI q)), some (.int (nI n)), some (.int v), some (.ref qb), some (.int (nI (tp + j))), some (.int (nI (lf + i))), none, none, none] [] (zput G (w.a 4 p) (zJ 4096 f2)) 0 0 := by
        refine zup wd (fun i hj_t ih_t => ?_)
        intro f2  ht
        by_cases hlt_t : i < wd
        · skip
          refine zr_iload hX rfl d_S_combine_60 ?_
          refine zr_aload_n hX rfl d_S_combine_62 ?_
          refine zr_get hX k_S 4 (by decide) q107 rfl (zput_k (zne hH.x (hH.bj hq3) rfl) hH.x) (zsf4 a4) d_S_combine_63 ?_
          refine zr_aload_n hX rfl d_S_combine_66 ?_
          refine zr_get hX k_S 6 (by decide) q109 rfl (zput_k (zne hH.x (hH.bj hq3) rfl) hH.x) (zsf6 a6) d_S_combine_67 ?_
          refine zn_iadd (a := lf) (b := wd) hX d_S_combine_70 ?_
          refine zr_icmp_ge hX (tgt := 138) d_S_combine_71 (by decide) (fun h9 => absurd h9 (nI_ge (a := (lf + i)) (b := (lf + wd)) (by omega) (by omega))) (fun _ => ?_)
          refine zr_iload_n hX rfl d_S_combine_74 ?_
          refine zr_iload hX rfl d_S_combine_75 ?_
          refine zr_iload hX rfl d_S_combine_77 ?_
          refine zr_pS hX (c_S_indexOf g (d - 1) _ (nI q) (nI (lf + i)) (nI (tp + j))) l_S_117 st_S_indexOf f_S_indexOf rfl (Nat.le_of_ble_eq_true rfl) (by omega) (Nat.zero_le _) (Nat.zero_le _) d_S_combine_79 ?_
          rw [show s_S_indexOf (nI q) (nI (lf + i)) (nI (tp + j)) = nI (1024 * q + 32 * (tp + j) + (lf + i)) from zixS _ _ _]
          refine zs_istore hX (by decide) rfl d_S_combine_82 ?_
          refine zr_aload hX rfl d_S_combine_84 ?_
          refine zr_get hX k_B 0 (by decide) q64 rfl (zput_k (zne (hH.bm hq3) (hH.bj hq3) rfl) (hH.bm hq3)) rfl d_S_combine_86 ?_
          refine zr_iload hX rfl d_S_combine_89 ?_
          refine zr_laldN hX (zput_s _ _ _) (1024 * q + 32 * (tp + j) + (lf + i)) rfl (by omega) (by decide) d_S_combine_91 ?_
          refine zr_pS hX (c_S_valueOf g (d - 1) _ (f2 (1024 * q + 32 * (tp + j) + (lf + i)))) l_S_142 st_S_valueOf f_S_valueOf rfl (Nat.le_of_ble_eq_true rfl) (by omega) (Nat.zero_le _) (Nat.zero_le _) d_S_combine_92 ?_
          refine zs_istore hX (by decide) rfl d_S_combine_95 ?_
          refine zr_aload hX rfl d_S_combine_97 ?_
          refine zr_get hX k_B 0 (by decide) q64 rfl (zput_k (zne (hH.bm hq3) (hH.bj hq3) rfl) (hH.bm hq3)) rfl d_S_combine_99 ?_
          refine zr_iload_n hX rfl d_S_combine_102 ?_
          refine zr_iload hX rfl d_S_combine_103 ?_
          refine zr_iload hX rfl d_S_combine_105 ?_
          refine zr_pS hX (c_S_indexOf g (d - 1) _ (nI n) (nI (lf + i)) (nI (tp + j))) l_S_117 st_S_indexOf f_S_indexOf rfl (Nat.le_of_ble_eq_true rfl) (by omega) (Nat.zero_le _) (Nat.zero_le _) d_S_combine_107 ?_
          rw [show s_S_indexOf (nI n) (nI (lf + i)) (nI (tp + j)) = nI (1024 * n + 32 * (tp + j) + (lf + i)) from zixS _ _ _]
          refine zr_laldN hX (zput_s _ _ _) (1024 * n + 32 * (tp + j) + (lf + i)) rfl (by omega) (by decide) d_S_combine_110 ?_
          refine zr_pS hX (c_S_valueOf g (d - 1) _ (f2 (1024 * n + 32 * (tp + j) + (lf + i)))) l_S_142 st_S_valueOf f_S_valueOf rfl (Nat.le_of_ble_eq_true rfl) (by omega) (Nat.zero_le _) (Nat.zero_le _) d_S_combine_111 ?_
          refine zs_istore hX (by decide) rfl d_S_combine_114 ?_
          refine zr_aload hX rfl d_S_combine_116 ?_
          refine zr_iload hX rfl d_S_combine_118 ?_
          refine zr_iload hX rfl d_S_combine_120 ?_
          refine zr_iload hX rfl d_S_combine_122 ?_
          refine zr_iload hX rfl d_S_combine_124 ?_
          refine zr_pS hX (c_S_combined g (d - 1) (by omega) _ (s_S_valueOf (f2 (1024 * q + 32 * (tp + j) + (lf + i)))) (s_S_valueOf (f2 (1024 * n + 32 * (tp + j) + (lf + i)))) v) l_S_154 st_S_combined f_S_combined rfl (Nat.le_of_ble_eq_true rfl) (by omega) (Nat.zero_le _) (Nat.zero_le _) d_S_combine_126 ?_
          refine zr_uS0 hX (c_S_setIfOther g (d - 1) (by omega) _ qb (w.a 4 p) (w.i 4 p) (w.i 5 p) (w.i 6 p) (w.o 5 p) f2 (zput_k (zne (hH.bm hq3) (hH.bj hq3) rfl) (hH.bm hq3)) (zput_s _ _ _) (1024 * q + 32 * (tp + j) + (lf + i)) (zcmb (s_S_valueOf (f2 (1024 * q + 32 * (tp + j) + (lf + i)))) (s_S_valueOf (f2 (1024 * n + 32 * (tp + j) + (lf + i)))) v) (by omega)) l_S_150 st_S_setIfOther f_S_setIfOther rfl (Nat.le_of_ble_eq_true rfl) (by omega) (Nat.zero_le _) (Nat.zero_le _) d_S_combine_129 ?_
          refine zs_iinc (v := nI ((lf + i) + 1)) hX rfl (nI_add _ 1) (by decide) rfl d_S_combine_132 ?_
          refine zr_goto hX (tgt := 60) (by decide) d_S_combine_135 ?_
          refine zw_drop 8 ?_
          refine zw_drop 9 ?_
          refine zw_drop 10 ?_
          refine zw_h (zput_z _ _ _ _).symm ?_
          exact ih_t hlt_t _  (by rw [zfor_s]; exact ht.combine hp (wd := wd) v (by omega) (by omega))
        · skip
          have ej_t : wd = i := by omega
          subst ej_t
          refine zr_iload hX rfl d_S_combine_60 ?_
          refine zr_aload_n hX rfl d_S_combine_62 ?_
          refine zr_get hX k_S 4 (by decide) q107 rfl (zput_k (zne hH.x (hH.bj hq3) rfl) hH.x) (zsf4 a4) d_S_combine_63 ?_
          refine zr_aload_n hX rfl d_S_combine_66 ?_
          refine zr_get hX k_S 6 (by decide) q109 rfl (zput_k (zne hH.x (hH.bj hq3) rfl) hH.x) (zsf6 a6) d_S_combine_67 ?_
          refine zn_iadd (a := lf) (b := wd) hX d_S_combine_70 ?_
          refine zr_icmp_ge hX (tgt := 138) d_S_combine_71 (by decide) (fun _ => ?_) (fun h9 => absurd h9 (zq_leT (a := (lf + wd)) (b := (lf + wd)) (by omega) (by omega)))
          refine zs_iinc (v := nI ((tp + j) + 1)) hX rfl (nI_add _ 1) (by decide) rfl d_S_combine_138 ?_
          refine zr_goto hX (tgt := 40) (by decide) d_S_combine_141 ?_
          refine zw_drop 7 ?_
          exact ih_s hlt_s _  (by rw [zfor_s]; exact ht)
      exact L60 0 (Nat.zero_le _) _  hs
    · skip
      have ej_s : hg = j := by omega
      subst ej_s
      refine zr_iload hX rfl d_S_combine_40 ?_
      refine zr_aload_n hX rfl d_S_combine_42 ?_
      refine zr_get hX k_S 5 (by decide) q108 rfl (zput_k (zne hH.x (hH.bj hq3) rfl) hH.x) (zsf5 a5) d_S_combine_43 ?_
      refine zr_aload_n hX rfl d_S_combine_46 ?_
      refine zr_get hX k_S 7 (by decide) q110 rfl (zput_k (zne hH.x (hH.bj hq3) rfl) hH.x) (zsf7 a7) d_S_combine_47 ?_
      refine zn_iadd (a := tp) (b := hg) hX d_S_combine_50 ?_
      refine zr_icmp_ge hX (tgt := 144) d_S_combine_51 (by decide) (fun _ => ?_) (fun h9 => absurd h9 (zq_leT (a := (tp + hg)) (b := (tp + hg)) (by omega) (by omega)))
      exact zr_vret hX d_S_combine_144 ⟨rfl, f, rfl, hs⟩
  refine zw_h (zput_id (hH.bj hq3)) ?_
  exact L40 0 (Nat.zero_le _) _  hE0
theorem zfi1 {x : Int32} {l : Nat} (h : ¬ s_S_fits x (nI l) = 0) (h1 : 1 ≤ l) (h2 : l ≤ 32) : ¬ x < 0 ∧ ¬ 32 ≤ x ∧ ¬ 32 - x < nI l := by
  unfold s_S_fits at h
  by_cases a : x < 0
  · rw [if_pos a] at h; exact absurd rfl h
  rw [if_neg a] at h
  by_cases b : 32 < nI l
  · rw [if_pos b] at h; exact absurd rfl h
  rw [if_neg b] at h
  by_cases c : 32 - nI l < x
  · rw [if_pos c] at h; exact absurd rfl h
  have e : (32 : Int32) - nI l = nI (32 - l) := by rw [show (32 : Int32) = nI 32 from rfl, pk_sub h2]
  rw [e] at c
  rcases pk_ix x (n := 33) (by omega) with z | z | ⟨j, hj, rfl⟩
  · exact absurd z a
  · exact absurd (Int32.lt_of_lt_of_le (nI_lt (a := 32 - l) (b := 33) (by omega) (by decide)) z) c
  · have hjl : j ≤ 32 - l := Nat.le_of_not_lt fun q => c (nI_lt q (by omega))
    refine ⟨a, fun q => ?_, ?_⟩
    · have := (nI_leI (a := 32) (b := j) (by decide) (by omega)).mp q
      omega
    · rw [show (32 : Int32) = nI 32 from rfl, pk_sub (by omega)]
      exact nI_nlt (by omega) (by omega)
theorem zfi0 {x l : Nat} (h1 : l ≤ 32) (h2 : x ≤ 32 - l) : ¬ s_S_fits (nI x) (nI l) = 0 := by
  unfold s_S_fits
  rw [if_neg (nI_pos (by omega)), show (32 : Int32) = nI 32 from rfl, if_neg (nI_nlt (by omega) (by omega)), pk_sub h1, if_neg (nI_nlt h2 (by omega))]
  decide
theorem c_S_copy_bad (g : zGt) (d : Nat) (hdd : 7 ≤ d) (G : zG) (w : zW) (u : zU) (cm : Nat) (hH : zHp w G) (hR : zRl w u cm) (p q c f x y : Int32)  (hbad : s_M_isBranch u p = 0 ∨ s_M_isLayer q = 0 ∨ s_M_isCommit u c = 0 ∨ s_M_isLayer f = 0 ∨ x < 0 ∨ y < 0 ∨ 32 ≤ x ∨ 32 ≤ y ∨ 32 - x < u.i 18 ∨ 32 - y < u.i 19) : zMet g y_S_copy b_S_copy 11 none [] d 1 6 [.ref (w.a 0 0), .int p, .int q, .int c, .int f, .int x, .int y] G (zDx "java/lang/IllegalArgumentException" G) := by
  refine zMet.of (by decide) (Nat.le_of_ble_eq_true rfl) rfl (fun X hX => ?_)
  obtain ⟨lf, tp, wd, hg, hlf, htp, hwd, hhg, hr1, hr2, hr3, hr4⟩ := hR.2.2.1.1
  have a6 : w.i 0 6 = u.i 18 := hR.2.2.1.2.1 6 (by omega) (by omega)
  have a7 : w.i 0 7 = u.i 19 := hR.2.2.1.2.1 7 (by omega) (by omega)
  refine zr_aload_n hX rfl d_S_copy_0 ?_
  refine zr_iload_n hX rfl d_S_copy_1 ?_
  refine zr_iload_n hX rfl d_S_copy_2 ?_
  by_cases k3 : s_M_isBranch u p = 0 ∨ s_M_isLayer q = 0
  · skip
    exact zr_xV hX (c_S_branchToEdit_bad g (d - 1) (by omega) _ w u cm hH hR p q k3) l_S_109 im_S_branchToEdit se_S_branchToEdit f_S_branchToEdit k_S.1 hH.x rfl (Nat.le_of_ble_eq_true rfl) (by omega) (Nat.le_refl _) (Nat.le_refl _) d_S_copy_3 ⟨rfl, rfl⟩
  · skip
    have kb : ¬ s_M_isBranch u p = 0 := fun z => k3 (Or.inl z)
    have kl : ¬ s_M_isLayer q = 0 := fun z => k3 (Or.inr z)
    obtain ⟨b9, qb, hb9, eb9, hq3, hz, h79, ht9⟩ := hR.bra1 kb
    refine zr_pV hX (c_S_branchToEdit_ok g (d - 1) (by omega) _ w u cm hH hR p q qb hz kl) l_S_109 im_S_branchToEdit se_S_branchToEdit f_S_branchToEdit k_S.1 hH.x rfl (Nat.le_of_ble_eq_true rfl) (by omega) (Nat.zero_le _) (Nat.zero_le _) d_S_copy_3 ?_
    refine zs_astore hX (by decide) rfl d_S_copy_6 ?_
    refine zr_aload_n hX rfl d_S_copy_8 ?_
    refine zr_iload_n hX rfl d_S_copy_9 ?_
    by_cases c10 : s_M_isCommit u c = 0
    · skip
      refine zr_pV hX (c_S_commitAt_0 g (d - 1) _ w u cm hH hR c c10) l_S_77 im_S_commitAt se_S_commitAt f_S_commitAt k_S.1 hH.x rfl (Nat.le_of_ble_eq_true rfl) (by omega) (Nat.zero_le _) (Nat.zero_le _) d_S_copy_10 ?_
      refine zs_astoreN hX (by decide) rfl d_S_copy_13 ?_
      refine zr_aloadN hX rfl d_S_copy_15 ?_
      refine zr_ifnullN hX (tgt := 52) (by decide) d_S_copy_17 ?_
      exact zr_iae hX rfl d_S_copy_52 d_S_copy_55 d_S_copy_56 d_S_copy_59 (by omega) (Nat.le_of_ble_eq_true rfl) (Nat.le_refl _) (Nat.le_refl _) ⟨rfl, rfl⟩
    · skip
      obtain ⟨c9, qc, hc9, ec9, hqc, hzc⟩ := hR.cmt1 c10
      refine zr_pV hX (c_S_commitAt_1 g (d - 1) _ w hH c qc hzc) l_S_77 im_S_commitAt se_S_commitAt f_S_commitAt k_S.1 hH.x rfl (Nat.le_of_ble_eq_true rfl) (by omega) (Nat.zero_le _) (Nat.zero_le _) d_S_copy_10 ?_
      refine zs_astore hX (by decide) rfl d_S_copy_13 ?_
      refine zr_aload hX rfl d_S_copy_15 ?_
      refine zr_ifnull hX d_S_copy_17 ?_
      refine zr_iload hX rfl d_S_copy_20 ?_
      refine zr_pS hX (c_S_isLayer g (d - 1) _ f) l_S_73 st_S_isLayer f_S_isLayer rfl (Nat.le_of_ble_eq_true rfl) (by omega) (Nat.zero_le _) (Nat.zero_le _) d_S_copy_22 ?_
      refine zr_if_eq hX (tgt := 52) d_S_copy_25 (by decide) (fun h25 => ?_) (fun h25 => ?_)
      · skip
        exact zr_iae hX rfl d_S_copy_52 d_S_copy_55 d_S_copy_56 d_S_copy_59 (by omega) (Nat.le_of_ble_eq_true rfl) (Nat.le_refl _) (Nat.le_refl _) ⟨rfl, rfl⟩
      · skip
        refine zr_iload hX rfl d_S_copy_28 ?_
        refine zr_aload_n hX rfl d_S_copy_30 ?_
        refine zr_get hX k_S 6 (by decide) q109 rfl hH.x rfl d_S_copy_31 ?_
        refine zr_pS hX (c_S_fits g (d - 1) _ x (w.i 0 6)) l_S_99 st_S_fits f_S_fits rfl (Nat.le_of_ble_eq_true rfl) (by omega) (Nat.zero_le _) (Nat.zero_le _) d_S_copy_34 ?_
        refine zr_if_eq hX (tgt := 52) d_S_copy_37 (by decide) (fun h37 => ?_) (fun h37 => ?_)
        · skip
          exact zr_iae hX rfl d_S_copy_52 d_S_copy_55 d_S_copy_56 d_S_copy_59 (by omega) (Nat.le_of_ble_eq_true rfl) (Nat.le_refl _) (Nat.le_refl _) ⟨rfl, rfl⟩
        · skip
          refine zr_iload hX rfl d_S_copy_40 ?_
          refine zr_aload_n hX rfl d_S_copy_42 ?_
          refine zr_get hX k_S 7 (by decide) q110 rfl hH.x rfl d_S_copy_43 ?_
          refine zr_pS hX (c_S_fits g (d - 1) _ y (w.i 0 7)) l_S_99 st_S_fits f_S_fits rfl (Nat.le_of_ble_eq_true rfl) (by omega) (Nat.zero_le _) (Nat.zero_le _) d_S_copy_46 ?_
          refine zr_if_ne hX (tgt := 60) d_S_copy_49 (by decide) (fun h49 => ?_) (fun h49 => ?_)
          · skip
            rcases hbad with e | e | e | e | e | e | e | e | e | e
            · exact absurd e kb
            · exact absurd e kl
            · exact absurd e c10
            · exact absurd e h25
            · exact absurd e (zfi1 (by rw [a6, hwd] at h37; exact h37) (by omega) (by omega)).1
            · exact absurd e (zfi1 (by rw [a7, hhg] at h49; exact h49) (by omega) (by omega)).1
            · exact absurd e (zfi1 (by rw [a6, hwd] at h37; exact h37) (by omega) (by omega)).2.1
            · exact absurd e (zfi1 (by rw [a7, hhg] at h49; exact h49) (by omega) (by omega)).2.1
            · exact absurd e (by rw [hwd]; exact (zfi1 (by rw [a6, hwd] at h37; exact h37) (by omega) (by omega)).2.2)
            · exact absurd e (by rw [hhg]; exact (zfi1 (by rw [a7, hhg] at h49; exact h49) (by omega) (by omega)).2.2)
          · skip
            exact zr_iae hX rfl d_S_copy_52 d_S_copy_55 d_S_copy_56 d_S_copy_59 (by omega) (Nat.le_of_ble_eq_true rfl) (Nat.le_refl _) (Nat.le_refl _) ⟨rfl, rfl⟩
theorem c_S_copy_ok (g : zGt) (d : Nat) (hdd : 2 ≤ d) (G : zG) (w : zW) (u : zU) (cm : Nat) (hH : zHp w G) (hR : zRl w u cm) (p q c f x y : Nat) (lf tp wd hg : Nat) (hlf : u.i 16 = nI lf) (htp : u.i 17 = nI tp) (hwd : u.i 18 = nI wd) (hhg : u.i 19 = nI hg) (hr1 : lf + wd ≤ 32) (hr2 : tp + hg ≤ 32)  (hp : p < 4) (hq : q < 4) (hc : c < 24) (hf : f < 4) (hx1 : x < 32) (hy1 : y < 32) (hx2 : wd ≤ 32 - x) (hy2 : hg ≤ 32 - y) (ho0 : ¬ s_M_isBranch u (nI p) = 0) (ho1 : ¬ s_M_isLayer (nI q) = 0) (ho2 : ¬ s_M_isCommit u (nI c) = 0) (ho4 : ¬ s_M_isLayer (nI f) = 0) : zMet g y_S_copy b_S_copy 11 none [] d 0 0 [.ref (w.a 0 0), .int (nI p), .int (nI q), .int (nI c), .int (nI f), .int (nI x), .int (nI y)] G (fun r G1 => r = .inl none ∧ ∃ f1, G1 = zput G (w.a 4 p) (zJ 4096 f1) ∧ zEe p (zuc u 0 0) (t_M_copy u p q c f x y lf tp wd hg) f1) := by
  refine zMet.of (by decide) (Nat.le_of_ble_eq_true rfl) rfl (fun X hX => ?_)
  have a4 : w.i 0 4 = nI lf := (hR.2.2.1.2.1 4 (by omega) (by omega)).trans hlf
  have a5 : w.i 0 5 = nI tp := (hR.2.2.1.2.1 5 (by omega) (by omega)).trans htp
  have a6 : w.i 0 6 = nI wd := (hR.2.2.1.2.1 6 (by omega) (by omega)).trans hwd
  have a7 : w.i 0 7 = nI hg := (hR.2.2.1.2.1 7 (by omega) (by omega)).trans hhg
  obtain ⟨qb, hq3, hz, h7, ht9⟩ := hR.bra hp ho0
  have hE0 : zEe p (zuc u 0 0) (zuc u 0 0) (w.f 4 p) := zEe.of hR.iv (ht9.2.2.2.1)
  obtain ⟨qc, hcc, hqc, hzc, hcr⟩ := hR.cmt hc ho2
  refine zr_aload_n hX rfl d_S_copy_0 ?_
  refine zr_iload_n hX rfl d_S_copy_1 ?_
  refine zr_iload_n hX rfl d_S_copy_2 ?_
  refine zr_pV hX (c_S_branchToEdit_ok g (d - 1) (by omega) _ w u cm hH hR (nI p) (nI q) qb hz ho1) l_S_109 im_S_branchToEdit se_S_branchToEdit f_S_branchToEdit k_S.1 hH.x rfl (Nat.le_of_ble_eq_true rfl) (by omega) (Nat.zero_le _) (Nat.zero_le _) d_S_copy_3 ?_
  refine zs_astore hX (by decide) rfl d_S_copy_6 ?_
  refine zr_aload_n hX rfl d_S_copy_8 ?_
  refine zr_iload_n hX rfl d_S_copy_9 ?_
  refine zr_pV hX (c_S_commitAt_1 g (d - 1) _ w hH (nI c) qc hzc) l_S_77 im_S_commitAt se_S_commitAt f_S_commitAt k_S.1 hH.x rfl (Nat.le_of_ble_eq_true rfl) (by omega) (Nat.zero_le _) (Nat.zero_le _) d_S_copy_10 ?_
  refine zs_astore hX (by decide) rfl d_S_copy_13 ?_
  refine zr_aload hX rfl d_S_copy_15 ?_
  refine zr_ifnull hX d_S_copy_17 ?_
  refine zr_iload hX rfl d_S_copy_20 ?_
  refine zr_pS hX (c_S_isLayer g (d - 1) _ (nI f)) l_S_73 st_S_isLayer f_S_isLayer rfl (Nat.le_of_ble_eq_true rfl) (by omega) (Nat.zero_le _) (Nat.zero_le _) d_S_copy_22 ?_
  refine zr_if_eq hX (tgt := 52) d_S_copy_25 (by decide) (fun h9 => absurd h9 ho4) (fun _ => ?_)
  refine zr_iload hX rfl d_S_copy_28 ?_
  refine zr_aload_n hX rfl d_S_copy_30 ?_
  refine zr_get hX k_S 6 (by decide) q109 rfl hH.x (zsf6 a6) d_S_copy_31 ?_
  refine zr_pS hX (c_S_fits g (d - 1) _ (nI x) (nI wd)) l_S_99 st_S_fits f_S_fits rfl (Nat.le_of_ble_eq_true rfl) (by omega) (Nat.zero_le _) (Nat.zero_le _) d_S_copy_34 ?_
  refine zr_if_eq hX (tgt := 52) d_S_copy_37 (by decide) (fun h9 => absurd h9 (zfi0 (by omega) (by omega))) (fun _ => ?_)
  refine zr_iload hX rfl d_S_copy_40 ?_
  refine zr_aload_n hX rfl d_S_copy_42 ?_
  refine zr_get hX k_S 7 (by decide) q110 rfl hH.x (zsf7 a7) d_S_copy_43 ?_
  refine zr_pS hX (c_S_fits g (d - 1) _ (nI y) (nI hg)) l_S_99 st_S_fits f_S_fits rfl (Nat.le_of_ble_eq_true rfl) (by omega) (Nat.zero_le _) (Nat.zero_le _) d_S_copy_46 ?_
  refine zr_if_ne hX (tgt := 60) d_S_copy_49 (by decide) (fun _ => ?_) (fun h9 => absurd h9 (zfi0 (by omega) (by omega)))
  refine zr_iconst (v := 0) hX rfl d_S_copy_60 ?_
  refine zs_istore hX (by decide) rfl d_S_copy_61 ?_
  have L63 : ∀ j, j ≤ hg → ∀ (f1 : Nat → Int64) , zEe p (zuc u 0 0) (zfor j (st_M_copy_y p q c f x y lf tp wd) (zuc u 0 0)) f1 → zw g X (fun r G1 => r = .inl none ∧ ∃ f1, G1 = zput G (w.a 4 p) (zJ 4096 f1) ∧ zEe p (zuc u 0 0) (t_M_copy u p q c f x y lf tp wd hg) f1) 63 [some (.ref (w.a 0 0)), some (.int (nI p)), some (.int (nI q)), some (.int (nI c)), some (.int (nI f)), some (.int (nI x)), some (.int (nI y)), some (.ref qb), some (.ref qc), some (.int (nI j)), none] [] (zput G (w.a 4 p) (zJ 4096 f1)) 0 0 := by
    refine zup hg (fun j hj_s ih_s => ?_)
    intro f1  hs
    by_cases hlt_s : j < hg
    · skip
      refine zr_iload hX rfl d_S_copy_63 ?_
      refine zr_aload_n hX rfl d_S_copy_65 ?_
      refine zr_get hX k_S 7 (by decide) q110 rfl (zput_k (zne hH.x (hH.bj hq3) rfl) hH.x) (zsf7 a7) d_S_copy_66 ?_
      refine zr_icmp_ge hX (tgt := 126) d_S_copy_69 (by decide) (fun h9 => absurd h9 (nI_ge (a := j) (b := hg) (by omega) (by omega))) (fun _ => ?_)
      refine zr_iload hX rfl d_S_copy_72 ?_
      refine zr_aload_n hX rfl d_S_copy_74 ?_
      refine zr_get hX k_S 4 (by decide) q107 rfl (zput_k (zne hH.x (hH.bj hq3) rfl) hH.x) (zsf4 a4) d_S_copy_75 ?_
      refine zr_aload_n hX rfl d_S_copy_78 ?_
      refine zr_get hX k_S 5 (by decide) q108 rfl (zput_k (zne hH.x (hH.bj hq3) rfl) hH.x) (zsf5 a5) d_S_copy_79 ?_
      refine zr_iload hX rfl d_S_copy_82 ?_
      refine zn_iadd (a := tp) (b := j) hX d_S_copy_84 ?_
      refine zr_pS hX (c_S_indexOf g (d - 1) _ (nI f) (nI lf) (nI (tp + j))) l_S_117 st_S_indexOf f_S_indexOf rfl (Nat.le_of_ble_eq_true rfl) (by omega) (Nat.zero_le _) (Nat.zero_le _) d_S_copy_85 ?_
      rw [show s_S_indexOf (nI f) (nI lf) (nI (tp + j)) = nI (1024 * f + 32 * (tp + j) + lf) from zixS _ _ _]
      refine zs_istore hX (by decide) rfl d_S_copy_88 ?_
      refine zr_aload hX rfl d_S_copy_90 ?_
      refine zr_get hX k_C 3 (by decide) q46 rfl (zput_k (zne (hH.cmo hqc) (hH.bj hq3) rfl) (hH.cmo hqc)) rfl d_S_copy_92 ?_
      refine zr_iload hX rfl d_S_copy_95 ?_
      refine zr_aload hX rfl d_S_copy_97 ?_
      refine zr_get hX k_B 0 (by decide) q64 rfl (zput_k (zne (hH.bm hq3) (hH.bj hq3) rfl) (hH.bm hq3)) rfl d_S_copy_99 ?_
      refine zr_iload_n hX rfl d_S_copy_102 ?_
      refine zr_iload hX rfl d_S_copy_103 ?_
      refine zr_iload hX rfl d_S_copy_105 ?_
      refine zr_iload hX rfl d_S_copy_107 ?_
      refine zn_iadd (a := y) (b := j) hX d_S_copy_109 ?_
      refine zr_pS hX (c_S_indexOf g (d - 1) _ (nI q) (nI x) (nI (y + j))) l_S_117 st_S_indexOf f_S_indexOf rfl (Nat.le_of_ble_eq_true rfl) (by omega) (Nat.zero_le _) (Nat.zero_le _) d_S_copy_110 ?_
      rw [show s_S_indexOf (nI q) (nI x) (nI (y + j)) = nI (1024 * q + 32 * (y + j) + x) from zixS _ _ _]
      refine zr_aload_n hX rfl d_S_copy_113 ?_
      refine zr_get hX k_S 6 (by decide) q109 rfl (zput_k (zne hH.x (hH.bj hq3) rfl) hH.x) (zsf6 a6) d_S_copy_114 ?_
      refine zr_copyJN hX (1024 * f + 32 * (tp + j) + lf) (1024 * q + 32 * (y + j) + x) wd rfl rfl rfl (zput_k (Ne.symm (hH.ne 4 p 2 c (zmp hq3) (zmp hqc) (by omega))) (hH.cj hqc)) (zput_s _ _ _) (by omega) (by omega) (by decide) (by decide) q479 (Nat.le_of_ble_eq_true rfl) (by omega) d_S_copy_117 ?_
      refine zs_iinc (v := nI (j + 1)) hX rfl (nI_add _ 1) (by decide) rfl d_S_copy_120 ?_
      refine zr_goto hX (tgt := 63) (by decide) d_S_copy_123 ?_
      refine zw_drop 10 ?_
      refine zw_h (zput_z _ _ _ _).symm ?_
      exact ih_s hlt_s _  (by rw [zfor_s]; exact hs.copy hp hc hcr wd (by omega) (by omega) _ (fun k _ => rfl))
    · skip
      have ej_s : hg = j := by omega
      subst ej_s
      refine zr_iload hX rfl d_S_copy_63 ?_
      refine zr_aload_n hX rfl d_S_copy_65 ?_
      refine zr_get hX k_S 7 (by decide) q110 rfl (zput_k (zne hH.x (hH.bj hq3) rfl) hH.x) (zsf7 a7) d_S_copy_66 ?_
      refine zr_icmp_ge hX (tgt := 126) d_S_copy_69 (by decide) (fun _ => ?_) (fun h9 => absurd h9 (zq_leT (a := hg) (b := hg) (by omega) (by omega)))
      exact zr_vret hX d_S_copy_126 ⟨rfl, f1, rfl, hs⟩
  refine zw_h (zput_id (hH.bj hq3)) ?_
  exact L63 0 (Nat.zero_le _) _  hE0
