theorem zprobe (z j : Nat) : nI ((z + j) % 4096 + 1) &&& 4095 = nI ((z + (j + 1)) % 4096) := by
  rw [pk_andN (by omega) 12 (by decide)]
  congr 1
  omega
def st_M_isNew (u : zU) (p : Nat) (j : Nat) (s : Int32 × Int32) : Int32 × Int32 := if s.2 = 0 then if ((u.ar 1) ((p + ((j / 4) * 32)) + (j % 4))) = (-2147483648) then ((31 * s.1) + ((u.ar 1) ((p + ((j / 4) * 32)) + (j % 4))), 0) else ((31 * s.1) + ((u.ar 1) ((p + ((j / 4) * 32)) + (j % 4))), 1) else ((31 * s.1) + ((u.ar 1) ((p + ((j / 4) * 32)) + (j % 4))), 1)
theorem c_M_isNew_no (g : zGt) (d : Nat) (G : zG) (u : zU) (m : Nat) (h : zMv u m G) (p : Nat) (hp : p + 100 ≤ 114688) (hsm : (zfor 16 (st_M_isNew u p) (0, 0)).2 = 0) : zMet g y_M_isNew b_M_isNew 6 (some .boolean) [] d 0 0 [.ref m, .int (nI p)] G (zMq (some (.int 0)) u u m G) := by
  refine zMet.of (by decide) (Nat.le_of_ble_eq_true rfl) rfl (fun X hX => ?_)
  refine zr_iconst (v := 0) hX rfl d_M_isNew_0 ?_
  refine zs_istore_n hX (by decide) rfl d_M_isNew_1 ?_
  refine zr_iconst (v := 0) hX rfl d_M_isNew_2 ?_
  refine zs_istore_n hX (by decide) rfl d_M_isNew_3 ?_
  refine zr_iconst (v := 0) hX rfl d_M_isNew_4 ?_
  refine zs_istore hX (by decide) rfl d_M_isNew_5 ?_
  have L7 : ∀ j, j ≤ 16 → ∀ (s : Int32 × Int32), s = zfor j (st_M_isNew u p) (0, 0) → zw g X (zMq (some (.int 0)) u u m G) 7 [some (.ref m), some (.int (nI p)), some (.int s.1), some (.int s.2), some (.int (nI j)), none] [] G 0 0 := by
    refine zup 16 (fun j hj_s ih_s => ?_)
    intro s hs_s
    by_cases hlt_s : j < 16
    · skip
      refine zr_iload hX rfl d_M_isNew_7 ?_
      refine zr_bipush (v := 16) hX rfl d_M_isNew_9 ?_
      refine zr_icmp_ge hX (tgt := 66) d_M_isNew_11 (by decide) (fun h9 => absurd h9 (nI_ge (a := j) (b := 16) (by omega) (by decide))) (fun _ => ?_)
      refine zr_aload_n hX rfl d_M_isNew_14 ?_
      refine zr_get hX k_M 1 (by decide) q654 rfl h.m rfl d_M_isNew_15 ?_
      refine zr_iload_n hX rfl d_M_isNew_18 ?_
      refine zr_iload hX rfl d_M_isNew_19 ?_
      refine zr_iconst (v := 4) hX rfl d_M_isNew_21 ?_
      refine zn_idiv (a := j) (b := 4) hX (by omega) (by decide) (by decide) d_M_isNew_22 ?_
      refine zr_bipush (v := 32) hX rfl d_M_isNew_23 ?_
      refine zn_imul (a := (j / 4)) (b := 32) hX d_M_isNew_25 ?_
      refine zn_iadd (a := p) (b := ((j / 4) * 32)) hX d_M_isNew_26 ?_
      refine zr_iload hX rfl d_M_isNew_27 ?_
      refine zr_iconst (v := 4) hX rfl d_M_isNew_29 ?_
      refine zn_irem (a := j) (b := 4) hX (by omega) (by decide) (by decide) d_M_isNew_30 ?_
      refine zn_iadd (a := (p + ((j / 4) * 32))) (b := (j % 4)) hX d_M_isNew_31 ?_
      refine zr_ialdN hX (h.ar 1 rfl) ((p + ((j / 4) * 32)) + (j % 4)) rfl (by omega) (by decide) d_M_isNew_32 ?_
      refine zs_istore hX (by decide) rfl d_M_isNew_33 ?_
      refine zr_iload_n hX rfl d_M_isNew_35 ?_
      refine zr_if_ne hX (tgt := 46) d_M_isNew_36 (by decide) (fun h36 => ?_) (fun h36 => ?_)
      · skip
        refine zr_iconst (v := 1) hX rfl d_M_isNew_46 ?_
        refine zr_goto hX (tgt := 51) (by decide) d_M_isNew_47 ?_
        refine zs_istore_n hX (by decide) rfl d_M_isNew_51 ?_
        refine zr_bipush (v := 31) hX rfl d_M_isNew_52 ?_
        refine zr_iload_n hX rfl d_M_isNew_54 ?_
        refine zr_imul hX d_M_isNew_55 ?_
        refine zr_iload hX rfl d_M_isNew_56 ?_
        refine zr_iadd hX d_M_isNew_58 ?_
        refine zs_istore_n hX (by decide) rfl d_M_isNew_59 ?_
        refine zs_iinc (v := nI (j + 1)) hX rfl (nI_add _ 1) (by decide) rfl d_M_isNew_60 ?_
        refine zr_goto hX (tgt := 7) (by decide) d_M_isNew_63 ?_
        refine zw_drop 5 ?_
        exact ih_s hlt_s ((31 * s.1) + ((u.ar 1) ((p + ((j / 4) * 32)) + (j % 4))), 1) (by rw [zfor_s, ← hs_s]; unfold st_M_isNew; rw [if_neg h36])
      · skip
        refine zr_iload hX rfl d_M_isNew_39 ?_
        refine zr_ldc hX q652 d_M_isNew_41 ?_
        refine zr_icmp_eq hX (tgt := 50) d_M_isNew_43 (by decide) (fun h43 => ?_) (fun h43 => ?_)
        · skip
          refine zr_iconst (v := 0) hX rfl d_M_isNew_50 ?_
          refine zs_istore_n hX (by decide) rfl d_M_isNew_51 ?_
          refine zr_bipush (v := 31) hX rfl d_M_isNew_52 ?_
          refine zr_iload_n hX rfl d_M_isNew_54 ?_
          refine zr_imul hX d_M_isNew_55 ?_
          refine zr_iload hX rfl d_M_isNew_56 ?_
          refine zr_iadd hX d_M_isNew_58 ?_
          refine zs_istore_n hX (by decide) rfl d_M_isNew_59 ?_
          refine zs_iinc (v := nI (j + 1)) hX rfl (nI_add _ 1) (by decide) rfl d_M_isNew_60 ?_
          refine zr_goto hX (tgt := 7) (by decide) d_M_isNew_63 ?_
          refine zw_drop 5 ?_
          exact ih_s hlt_s ((31 * s.1) + ((u.ar 1) ((p + ((j / 4) * 32)) + (j % 4))), 0) (by rw [zfor_s, ← hs_s]; unfold st_M_isNew; rw [if_pos h36]; rw [if_pos h43])
        · skip
          refine zr_iconst (v := 1) hX rfl d_M_isNew_46 ?_
          refine zr_goto hX (tgt := 51) (by decide) d_M_isNew_47 ?_
          refine zs_istore_n hX (by decide) rfl d_M_isNew_51 ?_
          refine zr_bipush (v := 31) hX rfl d_M_isNew_52 ?_
          refine zr_iload_n hX rfl d_M_isNew_54 ?_
          refine zr_imul hX d_M_isNew_55 ?_
          refine zr_iload hX rfl d_M_isNew_56 ?_
          refine zr_iadd hX d_M_isNew_58 ?_
          refine zs_istore_n hX (by decide) rfl d_M_isNew_59 ?_
          refine zs_iinc (v := nI (j + 1)) hX rfl (nI_add _ 1) (by decide) rfl d_M_isNew_60 ?_
          refine zr_goto hX (tgt := 7) (by decide) d_M_isNew_63 ?_
          refine zw_drop 5 ?_
          exact ih_s hlt_s ((31 * s.1) + ((u.ar 1) ((p + ((j / 4) * 32)) + (j % 4))), 1) (by rw [zfor_s, ← hs_s]; unfold st_M_isNew; rw [if_pos h36]; rw [if_neg h43])
    · skip
      have ej_s : j = 16 := by omega
      rw [ej_s] at hs_s
      refine zr_iload hX rfl d_M_isNew_7 ?_
      refine zr_bipush (v := 16) hX rfl d_M_isNew_9 ?_
      refine zr_icmp_ge hX (tgt := 66) d_M_isNew_11 (by decide) (fun _ => ?_) (fun h9 => absurd h9 (zq_leT (a := 16) (b := j) (by omega) (by omega)))
      refine zr_iload_n hX rfl d_M_isNew_66 ?_
      refine zr_if_ne hX (tgt := 72) d_M_isNew_67 (by decide) (fun h9 => absurd h9 (not_not_intro (by rw [hs_s]; exact hsm))) (fun _ => ?_)
      refine zr_iconst (v := 0) hX rfl d_M_isNew_70 ?_
      exact zr_zret hX rfl d_M_isNew_71 ⟨rfl, h, zMf.rf, rfl⟩
  exact L7 0 (Nat.zero_le _) _ rfl
/-- where the reference begins its search for the block at p -/
def zhM (u : zU) (p : Nat) : Int32 := ((zfor 16 (st_M_isNew u p) (0, 0)).1 ^^^ ((zfor 16 (st_M_isNew u p) (0, 0)).1.toUInt32 >>> (Int32.toUInt32 12 &&& Int32.toUInt32 31)).toInt32 ^^^ ((zfor 16 (st_M_isNew u p) (0, 0)).1.toUInt32 >>> (Int32.toUInt32 20 &&& Int32.toUInt32 31)).toInt32) &&& 4095
def st_M_probe  (i : Nat) (t : Unit) : Unit := ()
theorem c_M_isNew_same (g : zGt) (d : Nat) (hdd : 1 ≤ d) (G : zG) (u : zU) (m : Nat) (h : zMv u m G) (p : Nat) (hp : p + 100 ≤ 114688) (hsm : ¬ (zfor 16 (st_M_isNew u p) (0, 0)).2 = 0) (z0 t9 : Nat) (hz : zhM u p = nI z0) (hz9 : z0 < 4096) (fa : Nat → Nat) (hocc : ∀ i, i < t9 → u.ar 27 ((z0 + i) % 4096) = nI (fa i) ∧ fa i + 100 ≤ 114688 ∧ s_M_sameBlock u (fa i) p = 0) (a9 : Nat) (ha9 : u.ar 27 ((z0 + t9) % 4096) = nI a9) (hb9 : a9 + 100 ≤ 114688) (hsame : ¬ s_M_sameBlock u a9 p = 0) : zMet g y_M_isNew b_M_isNew 6 (some .boolean) [] d 0 0 [.ref m, .int (nI p)] G (zMq (some (.int 0)) u u m G) := by
  refine zMet.of (by decide) (Nat.le_of_ble_eq_true rfl) rfl (fun X hX => ?_)
  refine zr_iconst (v := 0) hX rfl d_M_isNew_0 ?_
  refine zs_istore_n hX (by decide) rfl d_M_isNew_1 ?_
  refine zr_iconst (v := 0) hX rfl d_M_isNew_2 ?_
  refine zs_istore_n hX (by decide) rfl d_M_isNew_3 ?_
  refine zr_iconst (v := 0) hX rfl d_M_isNew_4 ?_
  refine zs_istore hX (by decide) rfl d_M_isNew_5 ?_
  have L7 : ∀ j, j ≤ 16 → ∀ (s : Int32 × Int32), s = zfor j (st_M_isNew u p) (0, 0) → zw g X (zMq (some (.int 0)) u u m G) 7 [some (.ref m), some (.int (nI p)), some (.int s.1), some (.int s.2), some (.int (nI j)), none] [] G 0 0 := by
    refine zup 16 (fun j hj_s ih_s => ?_)
    intro s hs_s
    by_cases hlt_s : j < 16
    · skip
      refine zr_iload hX rfl d_M_isNew_7 ?_
      refine zr_bipush (v := 16) hX rfl d_M_isNew_9 ?_
      refine zr_icmp_ge hX (tgt := 66) d_M_isNew_11 (by decide) (fun h9 => absurd h9 (nI_ge (a := j) (b := 16) (by omega) (by decide))) (fun _ => ?_)
      refine zr_aload_n hX rfl d_M_isNew_14 ?_
      refine zr_get hX k_M 1 (by decide) q654 rfl h.m rfl d_M_isNew_15 ?_
      refine zr_iload_n hX rfl d_M_isNew_18 ?_
      refine zr_iload hX rfl d_M_isNew_19 ?_
      refine zr_iconst (v := 4) hX rfl d_M_isNew_21 ?_
      refine zn_idiv (a := j) (b := 4) hX (by omega) (by decide) (by decide) d_M_isNew_22 ?_
      refine zr_bipush (v := 32) hX rfl d_M_isNew_23 ?_
      refine zn_imul (a := (j / 4)) (b := 32) hX d_M_isNew_25 ?_
      refine zn_iadd (a := p) (b := ((j / 4) * 32)) hX d_M_isNew_26 ?_
      refine zr_iload hX rfl d_M_isNew_27 ?_
      refine zr_iconst (v := 4) hX rfl d_M_isNew_29 ?_
      refine zn_irem (a := j) (b := 4) hX (by omega) (by decide) (by decide) d_M_isNew_30 ?_
      refine zn_iadd (a := (p + ((j / 4) * 32))) (b := (j % 4)) hX d_M_isNew_31 ?_
      refine zr_ialdN hX (h.ar 1 rfl) ((p + ((j / 4) * 32)) + (j % 4)) rfl (by omega) (by decide) d_M_isNew_32 ?_
      refine zs_istore hX (by decide) rfl d_M_isNew_33 ?_
      refine zr_iload_n hX rfl d_M_isNew_35 ?_
      refine zr_if_ne hX (tgt := 46) d_M_isNew_36 (by decide) (fun h36 => ?_) (fun h36 => ?_)
      · skip
        refine zr_iconst (v := 1) hX rfl d_M_isNew_46 ?_
        refine zr_goto hX (tgt := 51) (by decide) d_M_isNew_47 ?_
        refine zs_istore_n hX (by decide) rfl d_M_isNew_51 ?_
        refine zr_bipush (v := 31) hX rfl d_M_isNew_52 ?_
        refine zr_iload_n hX rfl d_M_isNew_54 ?_
        refine zr_imul hX d_M_isNew_55 ?_
        refine zr_iload hX rfl d_M_isNew_56 ?_
        refine zr_iadd hX d_M_isNew_58 ?_
        refine zs_istore_n hX (by decide) rfl d_M_isNew_59 ?_
        refine zs_iinc (v := nI (j + 1)) hX rfl (nI_add _ 1) (by decide) rfl d_M_isNew_60 ?_
        refine zr_goto hX (tgt := 7) (by decide) d_M_isNew_63 ?_
        refine zw_drop 5 ?_
        exact ih_s hlt_s ((31 * s.1) + ((u.ar 1) ((p + ((j / 4) * 32)) + (j % 4))), 1) (by rw [zfor_s, ← hs_s]; unfold st_M_isNew; rw [if_neg h36])
      · skip
        refine zr_iload hX rfl d_M_isNew_39 ?_
        refine zr_ldc hX q652 d_M_isNew_41 ?_
        refine zr_icmp_eq hX (tgt := 50) d_M_isNew_43 (by decide) (fun h43 => ?_) (fun h43 => ?_)
        · skip
          refine zr_iconst (v := 0) hX rfl d_M_isNew_50 ?_
          refine zs_istore_n hX (by decide) rfl d_M_isNew_51 ?_
          refine zr_bipush (v := 31) hX rfl d_M_isNew_52 ?_
          refine zr_iload_n hX rfl d_M_isNew_54 ?_
          refine zr_imul hX d_M_isNew_55 ?_
          refine zr_iload hX rfl d_M_isNew_56 ?_
          refine zr_iadd hX d_M_isNew_58 ?_
          refine zs_istore_n hX (by decide) rfl d_M_isNew_59 ?_
          refine zs_iinc (v := nI (j + 1)) hX rfl (nI_add _ 1) (by decide) rfl d_M_isNew_60 ?_
          refine zr_goto hX (tgt := 7) (by decide) d_M_isNew_63 ?_
          refine zw_drop 5 ?_
          exact ih_s hlt_s ((31 * s.1) + ((u.ar 1) ((p + ((j / 4) * 32)) + (j % 4))), 0) (by rw [zfor_s, ← hs_s]; unfold st_M_isNew; rw [if_pos h36]; rw [if_pos h43])
        · skip
          refine zr_iconst (v := 1) hX rfl d_M_isNew_46 ?_
          refine zr_goto hX (tgt := 51) (by decide) d_M_isNew_47 ?_
          refine zs_istore_n hX (by decide) rfl d_M_isNew_51 ?_
          refine zr_bipush (v := 31) hX rfl d_M_isNew_52 ?_
          refine zr_iload_n hX rfl d_M_isNew_54 ?_
          refine zr_imul hX d_M_isNew_55 ?_
          refine zr_iload hX rfl d_M_isNew_56 ?_
          refine zr_iadd hX d_M_isNew_58 ?_
          refine zs_istore_n hX (by decide) rfl d_M_isNew_59 ?_
          refine zs_iinc (v := nI (j + 1)) hX rfl (nI_add _ 1) (by decide) rfl d_M_isNew_60 ?_
          refine zr_goto hX (tgt := 7) (by decide) d_M_isNew_63 ?_
          refine zw_drop 5 ?_
          exact ih_s hlt_s ((31 * s.1) + ((u.ar 1) ((p + ((j / 4) * 32)) + (j % 4))), 1) (by rw [zfor_s, ← hs_s]; unfold st_M_isNew; rw [if_pos h36]; rw [if_neg h43])
    · skip
      have ej_s : j = 16 := by omega
      rw [ej_s] at hs_s
      refine zr_iload hX rfl d_M_isNew_7 ?_
      refine zr_bipush (v := 16) hX rfl d_M_isNew_9 ?_
      refine zr_icmp_ge hX (tgt := 66) d_M_isNew_11 (by decide) (fun _ => ?_) (fun h9 => absurd h9 (zq_leT (a := 16) (b := j) (by omega) (by omega)))
      refine zr_iload_n hX rfl d_M_isNew_66 ?_
      refine zr_if_ne hX (tgt := 72) d_M_isNew_67 (by decide) (fun _ => ?_) (fun h9 => absurd h9 (by rw [hs_s]; exact hsm))
      refine zr_iload_n hX rfl d_M_isNew_72 ?_
      refine zr_iload_n hX rfl d_M_isNew_73 ?_
      refine zr_bipush (v := 12) hX rfl d_M_isNew_74 ?_
      refine zr_iushr hX d_M_isNew_76 ?_
      refine zr_ixor hX d_M_isNew_77 ?_
      refine zr_iload_n hX rfl d_M_isNew_78 ?_
      refine zr_bipush (v := 20) hX rfl d_M_isNew_79 ?_
      refine zr_iushr hX d_M_isNew_81 ?_
      refine zr_ixor hX d_M_isNew_82 ?_
      refine zr_sipush (v := 4095) hX rfl d_M_isNew_83 ?_
      refine zr_iand hX d_M_isNew_86 ?_
      rw [show ((s.1 ^^^ ((s.1.toUInt32 >>> (Int32.toUInt32 12 &&& Int32.toUInt32 31)).toInt32)) ^^^ ((s.1.toUInt32 >>> (Int32.toUInt32 20 &&& Int32.toUInt32 31)).toInt32)) &&& 4095 = nI z0 from (by rw [hs_s]; exact hz)]
      refine zs_istore hX (by decide) rfl d_M_isNew_87 ?_
      have L89 : ∀ i, i ≤ t9 → ∀ (t : Unit), t = zfor i st_M_probe () → zw g X (zMq (some (.int 0)) u u m G) 89 [some (.ref m), some (.int (nI p)), some (.int s.1), some (.int s.2), some (.int (nI ((z0 + i) % 4096))), none] [] G 0 0 := by
        refine zup t9 (fun i hj_t ih_t => ?_)
        intro t hs_t
        by_cases hlt_t : i < t9
        · skip
          refine zr_aload_n hX rfl d_M_isNew_89 ?_
          have hb_i := (hocc i hlt_t).2.1
          refine zr_get hX k_M 27 (by decide) q680 rfl h.m rfl d_M_isNew_90 ?_
          refine zr_iload hX rfl d_M_isNew_93 ?_
          refine zr_ialdV hX (h.ar 27 rfl) ((z0 + i) % 4096) rfl (by omega) (by decide) (v := (nI (fa i))) (hocc i hlt_t).1 d_M_isNew_95 ?_
          refine zr_if_lt hX (tgt := 127) d_M_isNew_96 (by decide) (fun h9 => absurd h9 (nI_pos (n := (fa i)) (by omega))) (fun _ => ?_)
          refine zr_aload_n hX rfl d_M_isNew_99 ?_
          refine zr_aload_n hX rfl d_M_isNew_100 ?_
          refine zr_get hX k_M 27 (by decide) q680 rfl h.m rfl d_M_isNew_101 ?_
          refine zr_iload hX rfl d_M_isNew_104 ?_
          refine zr_ialdV hX (h.ar 27 rfl) ((z0 + i) % 4096) rfl (by omega) (by decide) (v := (nI (fa i))) (hocc i hlt_t).1 d_M_isNew_106 ?_
          refine zr_iload_n hX rfl d_M_isNew_107 ?_
          refine zr_pV hX (c_M_sameBlock g (d - 1) _ u m h (fa i) p (by omega) (by omega)) l_M_178 im_M_sameBlock se_M_sameBlock f_M_sameBlock k_M.1 h.m rfl (Nat.le_of_ble_eq_true rfl) (by omega) (Nat.zero_le _) (Nat.zero_le _) d_M_isNew_108 ?_
          refine zr_if_ne hX (tgt := 127) d_M_isNew_111 (by decide) (fun h9 => absurd h9 (not_not_intro (hocc i hlt_t).2.2)) (fun _ => ?_)
          refine zr_iload hX rfl d_M_isNew_114 ?_
          refine zr_iconst (v := 1) hX rfl d_M_isNew_116 ?_
          refine zn_iadd (a := ((z0 + i) % 4096)) (b := 1) hX d_M_isNew_117 ?_
          refine zr_sipush (v := 4095) hX rfl d_M_isNew_118 ?_
          refine zr_iand hX d_M_isNew_121 ?_
          rw [show (nI (((z0 + i) % 4096) + 1)) &&& 4095 = nI ((z0 + (i + 1)) % 4096) from (zprobe z0 i)]
          refine zs_istore hX (by decide) rfl d_M_isNew_122 ?_
          refine zr_goto hX (tgt := 89) (by decide) d_M_isNew_124 ?_
          exact ih_t hlt_t () (Subsingleton.elim _ _)
        · skip
          have ej_t : t9 = i := by omega
          subst ej_t
          refine zr_aload_n hX rfl d_M_isNew_89 ?_
          refine zr_get hX k_M 27 (by decide) q680 rfl h.m rfl d_M_isNew_90 ?_
          refine zr_iload hX rfl d_M_isNew_93 ?_
          refine zr_ialdV hX (h.ar 27 rfl) ((z0 + t9) % 4096) rfl (by omega) (by decide) (v := (nI a9)) ha9 d_M_isNew_95 ?_
          refine zr_if_lt hX (tgt := 127) d_M_isNew_96 (by decide) (fun h9 => absurd h9 (nI_pos (n := a9) (by omega))) (fun _ => ?_)
          refine zr_aload_n hX rfl d_M_isNew_99 ?_
          refine zr_aload_n hX rfl d_M_isNew_100 ?_
          refine zr_get hX k_M 27 (by decide) q680 rfl h.m rfl d_M_isNew_101 ?_
          refine zr_iload hX rfl d_M_isNew_104 ?_
          refine zr_ialdV hX (h.ar 27 rfl) ((z0 + t9) % 4096) rfl (by omega) (by decide) (v := (nI a9)) ha9 d_M_isNew_106 ?_
          refine zr_iload_n hX rfl d_M_isNew_107 ?_
          refine zr_pV hX (c_M_sameBlock g (d - 1) _ u m h a9 p (by omega) (by omega)) l_M_178 im_M_sameBlock se_M_sameBlock f_M_sameBlock k_M.1 h.m rfl (Nat.le_of_ble_eq_true rfl) (by omega) (Nat.zero_le _) (Nat.zero_le _) d_M_isNew_108 ?_
          refine zr_if_ne hX (tgt := 127) d_M_isNew_111 (by decide) (fun _ => ?_) (fun h9 => absurd h9 hsame)
          refine zr_aload_n hX rfl d_M_isNew_127 ?_
          refine zr_get hX k_M 27 (by decide) q680 rfl h.m rfl d_M_isNew_128 ?_
          refine zr_iload hX rfl d_M_isNew_131 ?_
          refine zr_ialdV hX (h.ar 27 rfl) ((z0 + t9) % 4096) rfl (by omega) (by decide) (v := (nI a9)) ha9 d_M_isNew_133 ?_
          refine zr_if_lt hX (tgt := 139) d_M_isNew_134 (by decide) (fun h9 => absurd h9 (nI_pos (n := a9) (by omega))) (fun _ => ?_)
          refine zr_iconst (v := 0) hX rfl d_M_isNew_137 ?_
          exact zr_zret hX rfl d_M_isNew_138 ⟨rfl, h, zMf.rf, rfl⟩
      rw [show nI z0 = nI ((z0 + 0) % 4096) by rw [Nat.add_zero, Nat.mod_eq_of_lt hz9]]
      exact L89 0 (Nat.zero_le _) _ rfl
  exact L7 0 (Nat.zero_le _) _ rfl
theorem c_M_isNew_free (g : zGt) (d : Nat) (hdd : 1 ≤ d) (G : zG) (u : zU) (m : Nat) (h : zMv u m G) (p : Nat) (hp : p + 100 ≤ 114688) (hsm : ¬ (zfor 16 (st_M_isNew u p) (0, 0)).2 = 0) (z0 t9 : Nat) (hz : zhM u p = nI z0) (hz9 : z0 < 4096) (fa : Nat → Nat) (hocc : ∀ i, i < t9 → u.ar 27 ((z0 + i) % 4096) = nI (fa i) ∧ fa i + 100 ≤ 114688 ∧ s_M_sameBlock u (fa i) p = 0) (hfree : u.ar 27 ((z0 + t9) % 4096) < 0) : zMet g y_M_isNew b_M_isNew 6 (some .boolean) [] d 0 0 [.ref m, .int (nI p)] G (zMq (some (.int 1)) (zua u 27 (upd (u.ar 27) ((z0 + t9) % 4096) (nI p))) u m G) := by
  refine zMet.of (by decide) (Nat.le_of_ble_eq_true rfl) rfl (fun X hX => ?_)
  refine zr_iconst (v := 0) hX rfl d_M_isNew_0 ?_
  refine zs_istore_n hX (by decide) rfl d_M_isNew_1 ?_
  refine zr_iconst (v := 0) hX rfl d_M_isNew_2 ?_
  refine zs_istore_n hX (by decide) rfl d_M_isNew_3 ?_
  refine zr_iconst (v := 0) hX rfl d_M_isNew_4 ?_
  refine zs_istore hX (by decide) rfl d_M_isNew_5 ?_
  have L7 : ∀ j, j ≤ 16 → ∀ (s : Int32 × Int32), s = zfor j (st_M_isNew u p) (0, 0) → zw g X (zMq (some (.int 1)) (zua u 27 (upd (u.ar 27) ((z0 + t9) % 4096) (nI p))) u m G) 7 [some (.ref m), some (.int (nI p)), some (.int s.1), some (.int s.2), some (.int (nI j)), none] [] G 0 0 := by
    refine zup 16 (fun j hj_s ih_s => ?_)
    intro s hs_s
    by_cases hlt_s : j < 16
    · skip
      refine zr_iload hX rfl d_M_isNew_7 ?_
      refine zr_bipush (v := 16) hX rfl d_M_isNew_9 ?_
      refine zr_icmp_ge hX (tgt := 66) d_M_isNew_11 (by decide) (fun h9 => absurd h9 (nI_ge (a := j) (b := 16) (by omega) (by decide))) (fun _ => ?_)
      refine zr_aload_n hX rfl d_M_isNew_14 ?_
      refine zr_get hX k_M 1 (by decide) q654 rfl h.m rfl d_M_isNew_15 ?_
      refine zr_iload_n hX rfl d_M_isNew_18 ?_
      refine zr_iload hX rfl d_M_isNew_19 ?_
      refine zr_iconst (v := 4) hX rfl d_M_isNew_21 ?_
      refine zn_idiv (a := j) (b := 4) hX (by omega) (by decide) (by decide) d_M_isNew_22 ?_
      refine zr_bipush (v := 32) hX rfl d_M_isNew_23 ?_
      refine zn_imul (a := (j / 4)) (b := 32) hX d_M_isNew_25 ?_
      refine zn_iadd (a := p) (b := ((j / 4) * 32)) hX d_M_isNew_26 ?_
      refine zr_iload hX rfl d_M_isNew_27 ?_
      refine zr_iconst (v := 4) hX rfl d_M_isNew_29 ?_
      refine zn_irem (a := j) (b := 4) hX (by omega) (by decide) (by decide) d_M_isNew_30 ?_
      refine zn_iadd (a := (p + ((j / 4) * 32))) (b := (j % 4)) hX d_M_isNew_31 ?_
      refine zr_ialdN hX (h.ar 1 rfl) ((p + ((j / 4) * 32)) + (j % 4)) rfl (by omega) (by decide) d_M_isNew_32 ?_
      refine zs_istore hX (by decide) rfl d_M_isNew_33 ?_
      refine zr_iload_n hX rfl d_M_isNew_35 ?_
      refine zr_if_ne hX (tgt := 46) d_M_isNew_36 (by decide) (fun h36 => ?_) (fun h36 => ?_)
      · skip
        refine zr_iconst (v := 1) hX rfl d_M_isNew_46 ?_
        refine zr_goto hX (tgt := 51) (by decide) d_M_isNew_47 ?_
        refine zs_istore_n hX (by decide) rfl d_M_isNew_51 ?_
        refine zr_bipush (v := 31) hX rfl d_M_isNew_52 ?_
        refine zr_iload_n hX rfl d_M_isNew_54 ?_
        refine zr_imul hX d_M_isNew_55 ?_
        refine zr_iload hX rfl d_M_isNew_56 ?_
        refine zr_iadd hX d_M_isNew_58 ?_
        refine zs_istore_n hX (by decide) rfl d_M_isNew_59 ?_
        refine zs_iinc (v := nI (j + 1)) hX rfl (nI_add _ 1) (by decide) rfl d_M_isNew_60 ?_
        refine zr_goto hX (tgt := 7) (by decide) d_M_isNew_63 ?_
        refine zw_drop 5 ?_
        exact ih_s hlt_s ((31 * s.1) + ((u.ar 1) ((p + ((j / 4) * 32)) + (j % 4))), 1) (by rw [zfor_s, ← hs_s]; unfold st_M_isNew; rw [if_neg h36])
      · skip
        refine zr_iload hX rfl d_M_isNew_39 ?_
        refine zr_ldc hX q652 d_M_isNew_41 ?_
        refine zr_icmp_eq hX (tgt := 50) d_M_isNew_43 (by decide) (fun h43 => ?_) (fun h43 => ?_)
        · skip
          refine zr_iconst (v := 0) hX rfl d_M_isNew_50 ?_
          refine zs_istore_n hX (by decide) rfl d_M_isNew_51 ?_
          refine zr_bipush (v := 31) hX rfl d_M_isNew_52 ?_
          refine zr_iload_n hX rfl d_M_isNew_54 ?_
          refine zr_imul hX d_M_isNew_55 ?_
          refine zr_iload hX rfl d_M_isNew_56 ?_
          refine zr_iadd hX d_M_isNew_58 ?_
          refine zs_istore_n hX (by decide) rfl d_M_isNew_59 ?_
          refine zs_iinc (v := nI (j + 1)) hX rfl (nI_add _ 1) (by decide) rfl d_M_isNew_60 ?_
          refine zr_goto hX (tgt := 7) (by decide) d_M_isNew_63 ?_
          refine zw_drop 5 ?_
          exact ih_s hlt_s ((31 * s.1) + ((u.ar 1) ((p + ((j / 4) * 32)) + (j % 4))), 0) (by rw [zfor_s, ← hs_s]; unfold st_M_isNew; rw [if_pos h36]; rw [if_pos h43])
        · skip
          refine zr_iconst (v := 1) hX rfl d_M_isNew_46 ?_
          refine zr_goto hX (tgt := 51) (by decide) d_M_isNew_47 ?_
          refine zs_istore_n hX (by decide) rfl d_M_isNew_51 ?_
          refine zr_bipush (v := 31) hX rfl d_M_isNew_52 ?_
          refine zr_iload_n hX rfl d_M_isNew_54 ?_
          refine zr_imul hX d_M_isNew_55 ?_
          refine zr_iload hX rfl d_M_isNew_56 ?_
          refine zr_iadd hX d_M_isNew_58 ?_
          refine zs_istore_n hX (by decide) rfl d_M_isNew_59 ?_
          refine zs_iinc (v := nI (j + 1)) hX rfl (nI_add _ 1) (by decide) rfl d_M_isNew_60 ?_
          refine zr_goto hX (tgt := 7) (by decide) d_M_isNew_63 ?_
          refine zw_drop 5 ?_
          exact ih_s hlt_s ((31 * s.1) + ((u.ar 1) ((p + ((j / 4) * 32)) + (j % 4))), 1) (by rw [zfor_s, ← hs_s]; unfold st_M_isNew; rw [if_pos h36]; rw [if_neg h43])
    · skip
      have ej_s : j = 16 := by omega
      rw [ej_s] at hs_s
      refine zr_iload hX rfl d_M_isNew_7 ?_
      refine zr_bipush (v := 16) hX rfl d_M_isNew_9 ?_
      refine zr_icmp_ge hX (tgt := 66) d_M_isNew_11 (by decide) (fun _ => ?_) (fun h9 => absurd h9 (zq_leT (a := 16) (b := j) (by omega) (by omega)))
      refine zr_iload_n hX rfl d_M_isNew_66 ?_
      refine zr_if_ne hX (tgt := 72) d_M_isNew_67 (by decide) (fun _ => ?_) (fun h9 => absurd h9 (by rw [hs_s]; exact hsm))
      refine zr_iload_n hX rfl d_M_isNew_72 ?_
      refine zr_iload_n hX rfl d_M_isNew_73 ?_
      refine zr_bipush (v := 12) hX rfl d_M_isNew_74 ?_
      refine zr_iushr hX d_M_isNew_76 ?_
      refine zr_ixor hX d_M_isNew_77 ?_
      refine zr_iload_n hX rfl d_M_isNew_78 ?_
      refine zr_bipush (v := 20) hX rfl d_M_isNew_79 ?_
      refine zr_iushr hX d_M_isNew_81 ?_
      refine zr_ixor hX d_M_isNew_82 ?_
      refine zr_sipush (v := 4095) hX rfl d_M_isNew_83 ?_
      refine zr_iand hX d_M_isNew_86 ?_
      rw [show ((s.1 ^^^ ((s.1.toUInt32 >>> (Int32.toUInt32 12 &&& Int32.toUInt32 31)).toInt32)) ^^^ ((s.1.toUInt32 >>> (Int32.toUInt32 20 &&& Int32.toUInt32 31)).toInt32)) &&& 4095 = nI z0 from (by rw [hs_s]; exact hz)]
      refine zs_istore hX (by decide) rfl d_M_isNew_87 ?_
      have L89 : ∀ i, i ≤ t9 → ∀ (t : Unit), t = zfor i st_M_probe () → zw g X (zMq (some (.int 1)) (zua u 27 (upd (u.ar 27) ((z0 + t9) % 4096) (nI p))) u m G) 89 [some (.ref m), some (.int (nI p)), some (.int s.1), some (.int s.2), some (.int (nI ((z0 + i) % 4096))), none] [] G 0 0 := by
        refine zup t9 (fun i hj_t ih_t => ?_)
        intro t hs_t
        by_cases hlt_t : i < t9
        · skip
          refine zr_aload_n hX rfl d_M_isNew_89 ?_
          have hb_i := (hocc i hlt_t).2.1
          refine zr_get hX k_M 27 (by decide) q680 rfl h.m rfl d_M_isNew_90 ?_
          refine zr_iload hX rfl d_M_isNew_93 ?_
          refine zr_ialdV hX (h.ar 27 rfl) ((z0 + i) % 4096) rfl (by omega) (by decide) (v := (nI (fa i))) (hocc i hlt_t).1 d_M_isNew_95 ?_
          refine zr_if_lt hX (tgt := 127) d_M_isNew_96 (by decide) (fun h9 => absurd h9 (nI_pos (n := (fa i)) (by omega))) (fun _ => ?_)
          refine zr_aload_n hX rfl d_M_isNew_99 ?_
          refine zr_aload_n hX rfl d_M_isNew_100 ?_
          refine zr_get hX k_M 27 (by decide) q680 rfl h.m rfl d_M_isNew_101 ?_
          refine zr_iload hX rfl d_M_isNew_104 ?_
          refine zr_ialdV hX (h.ar 27 rfl) ((z0 + i) % 4096) rfl (by omega) (by decide) (v := (nI (fa i))) (hocc i hlt_t).1 d_M_isNew_106 ?_
          refine zr_iload_n hX rfl d_M_isNew_107 ?_
          refine zr_pV hX (c_M_sameBlock g (d - 1) _ u m h (fa i) p (by omega) (by omega)) l_M_178 im_M_sameBlock se_M_sameBlock f_M_sameBlock k_M.1 h.m rfl (Nat.le_of_ble_eq_true rfl) (by omega) (Nat.zero_le _) (Nat.zero_le _) d_M_isNew_108 ?_
          refine zr_if_ne hX (tgt := 127) d_M_isNew_111 (by decide) (fun h9 => absurd h9 (not_not_intro (hocc i hlt_t).2.2)) (fun _ => ?_)
          refine zr_iload hX rfl d_M_isNew_114 ?_
          refine zr_iconst (v := 1) hX rfl d_M_isNew_116 ?_
          refine zn_iadd (a := ((z0 + i) % 4096)) (b := 1) hX d_M_isNew_117 ?_
          refine zr_sipush (v := 4095) hX rfl d_M_isNew_118 ?_
          refine zr_iand hX d_M_isNew_121 ?_
          rw [show (nI (((z0 + i) % 4096) + 1)) &&& 4095 = nI ((z0 + (i + 1)) % 4096) from (zprobe z0 i)]
          refine zs_istore hX (by decide) rfl d_M_isNew_122 ?_
          refine zr_goto hX (tgt := 89) (by decide) d_M_isNew_124 ?_
          exact ih_t hlt_t () (Subsingleton.elim _ _)
        · skip
          have ej_t : t9 = i := by omega
          subst ej_t
          refine zr_aload_n hX rfl d_M_isNew_89 ?_
          refine zr_get hX k_M 27 (by decide) q680 rfl h.m rfl d_M_isNew_90 ?_
          refine zr_iload hX rfl d_M_isNew_93 ?_
          refine zr_ialdN hX (h.ar 27 rfl) ((z0 + t9) % 4096) rfl (by omega) (by decide) d_M_isNew_95 ?_
          refine zr_if_lt hX (tgt := 127) d_M_isNew_96 (by decide) (fun _ => ?_) (fun h9 => absurd h9 (not_not_intro hfree))
          refine zr_aload_n hX rfl d_M_isNew_127 ?_
          refine zr_get hX k_M 27 (by decide) q680 rfl h.m rfl d_M_isNew_128 ?_
          refine zr_iload hX rfl d_M_isNew_131 ?_
          refine zr_ialdN hX (h.ar 27 rfl) ((z0 + t9) % 4096) rfl (by omega) (by decide) d_M_isNew_133 ?_
          refine zr_if_lt hX (tgt := 139) d_M_isNew_134 (by decide) (fun _ => ?_) (fun h9 => absurd h9 (not_not_intro hfree))
          refine zr_aload_n hX rfl d_M_isNew_139 ?_
          refine zr_get hX k_M 27 (by decide) q680 rfl h.m rfl d_M_isNew_140 ?_
          refine zr_iload hX rfl d_M_isNew_143 ?_
          refine zr_iload_n hX rfl d_M_isNew_145 ?_
          refine zr_iastN hX (h.ar 27 rfl) ((z0 + t9) % 4096) rfl (by omega) (by decide) d_M_isNew_146 ?_
          refine zr_iconst (v := 1) hX rfl d_M_isNew_147 ?_
          exact zr_zret hX rfl d_M_isNew_148 ⟨rfl, (zMv.arr h 27 rfl _), (zMf.arr zMf.rf 27 rfl rfl _), rfl⟩
      rw [show nI z0 = nI ((z0 + 0) % 4096) by rw [Nat.add_zero, Nat.mod_eq_of_lt hz9]]
      exact L89 0 (Nat.zero_le _) _ rfl
  exact L7 0 (Nat.zero_le _) _ rfl
