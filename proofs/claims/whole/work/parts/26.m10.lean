/-- behind 'base': its rows and stacks are new, the first row is f -/
def zBr (u u2 : zU) (f : Nat → Int32) : Prop := u2.1 = u.1 ∧ u2.2.1 = u.2.1 ∧ (∀ j, j ≠ 24 → j ≠ 25 → j ≠ 26 → u2.2.2 j = u.2.2 j) ∧ ∀ k, k < 4096 → u2.ar 26 k = f k
def zBq (u : zU) (m : Nat) (G : zG) (f : Nat → Int32) : zRes → zG → Prop := fun r G1 => r = .inl none ∧ ∃ u2, zMv u2 m G1 ∧ zMf u m G G1 ∧ zBr u u2 f
theorem c_M_merge_bad (g : zGt) (d : Nat) (hd : 1 ≤ d) (G : zG) (u : zU) (m : Nat) (h : zMv u m G) (p : Int32) (c : Int32) (hbad : s_M_isBranch u p = 0 ∨ s_M_isCommit u c = 0) : zMet g y_M_merge b_M_merge 9 (some .int) [] d 0 0 [.ref m, .int p, .int c] G (zMq (some (.int 0)) (zuc u 0 1) u m G) := by
  refine zMet.of (by decide) (Nat.le_of_ble_eq_true rfl) rfl (fun X hX => ?_)
  refine zr_aload_n hX rfl d_M_merge_0 ?_
  refine zr_aload_n hX rfl d_M_merge_1 ?_
  refine zr_iload_n hX rfl d_M_merge_2 ?_
  refine zr_pV hX (c_M_isBranch g (d - 1) _ u m h p) l_M_97 im_M_isBranch se_M_isBranch f_M_isBranch k_M.1 h.m rfl (Nat.le_of_ble_eq_true rfl) (by omega) (Nat.zero_le _) (Nat.zero_le _) d_M_merge_3 ?_
  refine zr_if_eq hX (tgt := 17) d_M_merge_6 (by decide) (fun h6 => ?_) (fun h6 => ?_)
  · skip
    refine zr_iconst (v := 1) hX rfl d_M_merge_17 ?_
    refine zr_goto hX (tgt := 54) (by decide) d_M_merge_18 ?_
    refine zr_put hX k_M 0 (by decide) q653 rfl rfl rfl rfl (Nat.le_of_ble_eq_true rfl) h.m d_M_merge_54 ?_
    refine zr_aload_n hX rfl d_M_merge_57 ?_
    refine zr_get hX k_M 0 (by decide) q653 rfl (zput_s _ _ _) rfl d_M_merge_58 ?_
    refine zr_if_le hX (tgt := 66) d_M_merge_61 (by decide) (fun h => absurd h (by decide)) (fun _ => ?_)
    refine zr_iconst (v := 0) hX rfl d_M_merge_64 ?_
    exact zr_iret hX d_M_merge_65 ⟨rfl, (zMv.put h (upd u.2.1 0 1)), (zMf.obj zMf.rf _), rfl⟩
  · skip
    refine zr_aload_n hX rfl d_M_merge_9 ?_
    refine zr_iload_n hX rfl d_M_merge_10 ?_
    refine zr_pV hX (c_M_isCommit g (d - 1) _ u m h c) l_M_93 im_M_isCommit se_M_isCommit f_M_isCommit k_M.1 h.m rfl (Nat.le_of_ble_eq_true rfl) (by omega) (Nat.zero_le _) (Nat.zero_le _) d_M_merge_11 ?_
    refine zr_if_ne hX (tgt := 21) d_M_merge_14 (by decide) (fun h14 => ?_) (fun h14 => ?_)
    · skip
      exact False.elim ((fun z => z.elim h6 h14) hbad)
    · skip
      refine zr_iconst (v := 1) hX rfl d_M_merge_17 ?_
      refine zr_goto hX (tgt := 54) (by decide) d_M_merge_18 ?_
      refine zr_put hX k_M 0 (by decide) q653 rfl rfl rfl rfl (Nat.le_of_ble_eq_true rfl) h.m d_M_merge_54 ?_
      refine zr_aload_n hX rfl d_M_merge_57 ?_
      refine zr_get hX k_M 0 (by decide) q653 rfl (zput_s _ _ _) rfl d_M_merge_58 ?_
      refine zr_if_le hX (tgt := 66) d_M_merge_61 (by decide) (fun h => absurd h (by decide)) (fun _ => ?_)
      refine zr_iconst (v := 0) hX rfl d_M_merge_64 ?_
      exact zr_iret hX d_M_merge_65 ⟨rfl, (zMv.put h (upd u.2.1 0 1)), (zMf.obj zMf.rf _), rfl⟩
theorem c_M_merge_two (g : zGt) (d : Nat) (hdd : 1 ≤ d) (G : zG) (u : zU) (m : Nat) (h : zMv u m G) (p : Nat) (c : Nat) (hp : p < 4) (ho0 : ¬ s_M_isBranch u (nI p) = 0) (ho1 : ¬ s_M_isCommit u (nI c) = 0) (hx : Nat) (hhd : u.ar 8 p = nI hx) (hh : hx < 24) (cm : Nat) (hc : u.i 6 = nI cm) (h1 : 1 ≤ cm) (h2 : cm ≤ 24) (hbad : ¬ s_M_isChanged u p hx = 0 ∨ ((s_M_ancestors u (1 <<< ((nI hx) &&& 31)) cm) >>> ((nI c) &&& 31)) &&& 1 = 1) : zMet g y_M_merge b_M_merge 9 (some .int) [] d 0 0 [.ref m, .int (nI p), .int (nI c)] G (zMq (some (.int 0)) (zuc u 0 2) u m G) := by
  refine zMet.of (by decide) (Nat.le_of_ble_eq_true rfl) rfl (fun X hX => ?_)
  refine zr_aload_n hX rfl d_M_merge_0 ?_
  refine zr_aload_n hX rfl d_M_merge_1 ?_
  refine zr_iload_n hX rfl d_M_merge_2 ?_
  refine zr_pV hX (c_M_isBranch g (d - 1) _ u m h (nI p)) l_M_97 im_M_isBranch se_M_isBranch f_M_isBranch k_M.1 h.m rfl (Nat.le_of_ble_eq_true rfl) (by omega) (Nat.zero_le _) (Nat.zero_le _) d_M_merge_3 ?_
  refine zr_if_eq hX (tgt := 17) d_M_merge_6 (by decide) (fun h9 => absurd h9 ho0) (fun _ => ?_)
  refine zr_aload_n hX rfl d_M_merge_9 ?_
  refine zr_iload_n hX rfl d_M_merge_10 ?_
  refine zr_pV hX (c_M_isCommit g (d - 1) _ u m h (nI c)) l_M_93 im_M_isCommit se_M_isCommit f_M_isCommit k_M.1 h.m rfl (Nat.le_of_ble_eq_true rfl) (by omega) (Nat.zero_le _) (Nat.zero_le _) d_M_merge_11 ?_
  refine zr_if_ne hX (tgt := 21) d_M_merge_14 (by decide) (fun _ => ?_) (fun h9 => absurd h9 ho1)
  refine zr_aload_n hX rfl d_M_merge_21 ?_
  refine zr_iload_n hX rfl d_M_merge_22 ?_
  refine zr_mV1 hX (c_M_isChanged g (d - 1) _ u m h p hx (by omega) hhd hh) l_M_135 im_M_isChanged se_M_isChanged f_M_isChanged rfl (Nat.le_of_ble_eq_true rfl) (by omega) (Nat.zero_le _) (Nat.zero_le _) d_M_merge_23 (Nat.zero_le _) (Nat.zero_le _) (zMv.m h) (fun G23 hk23 fk23 ek23 => ?_)
  refine zr_if_ne hX (tgt := 49) d_M_merge_26 (by decide) (fun h26 => ?_) (fun h26 => ?_)
  · skip
    refine zr_iconst (v := 2) hX rfl d_M_merge_49 ?_
    refine zr_goto hX (tgt := 54) (by decide) d_M_merge_50 ?_
    refine zr_put hX k_M 0 (by decide) q653 rfl rfl rfl rfl (Nat.le_of_ble_eq_true rfl) hk23.m d_M_merge_54 ?_
    refine zr_aload_n hX rfl d_M_merge_57 ?_
    refine zr_get hX k_M 0 (by decide) q653 rfl (zput_s _ _ _) rfl d_M_merge_58 ?_
    refine zr_if_le hX (tgt := 66) d_M_merge_61 (by decide) (fun h => absurd h (by decide)) (fun _ => ?_)
    refine zr_iconst (v := 0) hX rfl d_M_merge_64 ?_
    exact zr_iret hX d_M_merge_65 ⟨rfl, (zMv.put hk23 (upd u.2.1 0 2)), (zMf.obj (zMf.tr zMf.rf fk23 rfl) _), rfl⟩
  · skip
    refine zr_aload_n hX rfl d_M_merge_29 ?_
    refine zr_iconst (v := 1) hX rfl d_M_merge_30 ?_
    refine zr_aload_n hX rfl d_M_merge_31 ?_
    refine zr_get hX k_M 8 (by decide) q661 rfl hk23.m rfl d_M_merge_32 ?_
    refine zr_iload_n hX rfl d_M_merge_35 ?_
    refine zr_ialdV hX (hk23.ar 8 rfl) p rfl (by omega) (by decide) (v := (nI hx)) hhd d_M_merge_36 ?_
    refine zr_ishl hX d_M_merge_37 ?_
    refine zr_pV hX (c_M_ancestors g (d - 1) _ u m hk23 (1 <<< ((nI hx) &&& 31)) cm hc h1 h2) l_M_142 im_M_ancestors se_M_ancestors f_M_ancestors k_M.1 hk23.m rfl (Nat.le_of_ble_eq_true rfl) (by omega) (Nat.zero_le _) (Nat.zero_le _) d_M_merge_38 ?_
    refine zr_iload_n hX rfl d_M_merge_41 ?_
    refine zr_ishr hX d_M_merge_42 ?_
    refine zr_iconst (v := 1) hX rfl d_M_merge_43 ?_
    refine zr_iand hX d_M_merge_44 ?_
    refine zr_iconst (v := 1) hX rfl d_M_merge_45 ?_
    refine zr_icmp_ne hX (tgt := 53) d_M_merge_46 (by decide) (fun h46 => ?_) (fun h46 => ?_)
    · skip
      exact False.elim ((fun z => z.elim (fun z => z h26) h46) hbad)
    · skip
      refine zr_iconst (v := 2) hX rfl d_M_merge_49 ?_
      refine zr_goto hX (tgt := 54) (by decide) d_M_merge_50 ?_
      refine zr_put hX k_M 0 (by decide) q653 rfl rfl rfl rfl (Nat.le_of_ble_eq_true rfl) hk23.m d_M_merge_54 ?_
      refine zr_aload_n hX rfl d_M_merge_57 ?_
      refine zr_get hX k_M 0 (by decide) q653 rfl (zput_s _ _ _) rfl d_M_merge_58 ?_
      refine zr_if_le hX (tgt := 66) d_M_merge_61 (by decide) (fun h => absurd h (by decide)) (fun _ => ?_)
      refine zr_iconst (v := 0) hX rfl d_M_merge_64 ?_
      exact zr_iret hX d_M_merge_65 ⟨rfl, (zMv.put hk23 (upd u.2.1 0 2)), (zMf.obj (zMf.tr zMf.rf fk23 rfl) _), rfl⟩
