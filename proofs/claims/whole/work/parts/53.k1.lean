theorem c_K_forget (g : zGt) (d : Nat) (G : zG) (kq a0 a1 a2 a3 a4 : Nat) (c un : Int32) (hk : G kq = some (zO 3 [.ref a0, .ref a1, .ref a2, .ref a3, .ref a4, .int c, .int un]))   : zMet g y_K_forget b_K_forget 1 none [] d 0 0 [.ref kq] G (zD0 (zput G kq (zO 3 [.ref a0, .ref a1, .ref a2, .ref a3, .ref a4, .int 0, .int 0]))) := by
  refine zMet.of (by decide) (Nat.le_of_ble_eq_true rfl) rfl (fun X hX => ?_)
  refine zr_aload_n hX rfl d_K_forget_0 ?_
  refine zr_iconst (v := 0) hX rfl d_K_forget_1 ?_
  refine zr_put hX k_K 5 (by decide) q592 rfl rfl rfl rfl (Nat.le_of_ble_eq_true rfl) hk d_K_forget_2 ?_
  refine zr_aload_n hX rfl d_K_forget_5 ?_
  refine zr_iconst (v := 0) hX rfl d_K_forget_6 ?_
  refine zr_put hX k_K 6 (by decide) q594 rfl rfl rfl rfl (Nat.le_of_ble_eq_true rfl) (zput_s _ _ _) d_K_forget_7 ?_
  exact zr_vret hX d_K_forget_10 ⟨rfl, zput_z _ _ _ _⟩
def s_K_has (c i : Int32) : Int32 := if i < 0 then 0 else if c ≤ i then 0 else 1
theorem c_K_has (g : zGt) (d : Nat) (G : zG) (kq a0 a1 a2 a3 a4 : Nat) (c un i : Int32) (hk : G kq = some (zO 3 [.ref a0, .ref a1, .ref a2, .ref a3, .ref a4, .int c, .int un]))   : zMet g y_K_has b_K_has 2 (some .boolean) [] d 0 0 [.ref kq, .int i] G (zD1 (.int (s_K_has c i)) G) := by
  refine zMet.of (by decide) (Nat.le_of_ble_eq_true rfl) rfl (fun X hX => ?_)
  refine zr_iload_n hX rfl d_K_has_0 ?_
  refine zr_if_lt hX (tgt := 16) d_K_has_1 (by decide) (fun h1 => ?_) (fun h1 => ?_)
  · skip
    refine zr_iconst (v := 0) hX rfl d_K_has_16 ?_
    exact zr_zret hX rfl d_K_has_17 ⟨by unfold s_K_has; rw [if_pos h1], rfl⟩
  · skip
    refine zr_iload_n hX rfl d_K_has_4 ?_
    refine zr_aload_n hX rfl d_K_has_5 ?_
    refine zr_get hX k_K 5 (by decide) q592 rfl hk rfl d_K_has_6 ?_
    refine zr_icmp_ge hX (tgt := 16) d_K_has_9 (by decide) (fun h9 => ?_) (fun h9 => ?_)
    · skip
      refine zr_iconst (v := 0) hX rfl d_K_has_16 ?_
      exact zr_zret hX rfl d_K_has_17 ⟨by unfold s_K_has; rw [if_neg h1, if_pos h9], rfl⟩
    · skip
      refine zr_iconst (v := 1) hX rfl d_K_has_12 ?_
      refine zr_goto hX (tgt := 17) (by decide) d_K_has_13 ?_
      exact zr_zret hX rfl d_K_has_17 ⟨by unfold s_K_has; rw [if_neg h1, if_neg h9], rfl⟩
theorem c_K_add (g : zGt) (d : Nat) (G : zG) (kq a0 a1 a2 a3 a4 : Nat) (e : Nat) (un x y z t : Int32) (hk : G kq = some (zO 3 [.ref a0, .ref a1, .ref a2, .ref a3, .ref a4, .int (nI e), .int un])) (n0 n1 n2 n3 n4 : Nat → Int32) (h0 : G a0 = some (zI 4096 n0)) (h1 : G a1 = some (zI 4096 n1)) (h2 : G a2 = some (zI 4096 n2)) (h3 : G a3 = some (zI 4096 n3)) (h4 : G a4 = some (zB 4096 n4)) (hne : a0 ≠ a1 ∧ a0 ≠ a2 ∧ a0 ≠ a3 ∧ a1 ≠ a2 ∧ a1 ≠ a3 ∧ a2 ≠ a3)  (he : e < 4096) : zMet g y_K_add b_K_add 5 none [] d 0 0 [.ref kq, .int x, .int y, .int z, .int t] G (zD0 (zput (zput (zput (zput (zput (zput G a0 (zI 4096 (upd n0 e x))) a1 (zI 4096 (upd n1 e y))) a2 (zI 4096 (upd n2 e z))) a3 (zI 4096 (upd n3 e t))) a4 (zB 4096 (upd n4 e 0))) kq (zO 3 [.ref a0, .ref a1, .ref a2, .ref a3, .ref a4, .int (nI (e + 1)), .int (un + 1)]))) := by
  refine zMet.of (by decide) (Nat.le_of_ble_eq_true rfl) rfl (fun X hX => ?_)
  refine zr_aload_n hX rfl d_K_add_0 ?_
  refine zr_get hX k_K 5 (by decide) q592 rfl hk rfl d_K_add_1 ?_
  refine zr_sipush (v := 4096) hX rfl d_K_add_4 ?_
  refine zr_icmp_lt hX (tgt := 11) d_K_add_7 (by decide) (fun _ => ?_) (fun h9 => absurd h9 (zq_ltT (a := e) (b := 4096) (by omega) (by decide)))
  refine zr_aload_n hX rfl d_K_add_11 ?_
  refine zr_get hX k_K 0 (by decide) q586 rfl hk rfl d_K_add_12 ?_
  refine zr_aload_n hX rfl d_K_add_15 ?_
  refine zr_get hX k_K 5 (by decide) q592 rfl hk rfl d_K_add_16 ?_
  refine zr_iload_n hX rfl d_K_add_19 ?_
  refine zr_iastN hX h0 e rfl (by omega) (by decide) d_K_add_20 ?_
  refine zr_aload_n hX rfl d_K_add_21 ?_
  refine zr_get hX k_K 1 (by decide) q588 rfl (zput_k (zne hk h0 rfl) hk) rfl d_K_add_22 ?_
  refine zr_aload_n hX rfl d_K_add_25 ?_
  refine zr_get hX k_K 5 (by decide) q592 rfl (zput_k (zne hk h0 rfl) hk) rfl d_K_add_26 ?_
  refine zr_iload_n hX rfl d_K_add_29 ?_
  refine zr_iastN hX (zput_k (Ne.symm hne.1) h1) e rfl (by omega) (by decide) d_K_add_30 ?_
  refine zr_aload_n hX rfl d_K_add_31 ?_
  refine zr_get hX k_K 2 (by decide) q589 rfl (zput_k (zne hk h1 rfl) (zput_k (zne hk h0 rfl) hk)) rfl d_K_add_32 ?_
  refine zr_aload_n hX rfl d_K_add_35 ?_
  refine zr_get hX k_K 5 (by decide) q592 rfl (zput_k (zne hk h1 rfl) (zput_k (zne hk h0 rfl) hk)) rfl d_K_add_36 ?_
  refine zr_iload_n hX rfl d_K_add_39 ?_
  refine zr_iastN hX (zput_k (Ne.symm hne.2.2.2.1) (zput_k (Ne.symm hne.2.1) h2)) e rfl (by omega) (by decide) d_K_add_40 ?_
  refine zr_aload_n hX rfl d_K_add_41 ?_
  refine zr_get hX k_K 3 (by decide) q590 rfl (zput_k (zne hk h2 rfl) (zput_k (zne hk h1 rfl) (zput_k (zne hk h0 rfl) hk))) rfl d_K_add_42 ?_
  refine zr_aload_n hX rfl d_K_add_45 ?_
  refine zr_get hX k_K 5 (by decide) q592 rfl (zput_k (zne hk h2 rfl) (zput_k (zne hk h1 rfl) (zput_k (zne hk h0 rfl) hk))) rfl d_K_add_46 ?_
  refine zr_iload hX rfl d_K_add_49 ?_
  refine zr_iastN hX (zput_k (Ne.symm hne.2.2.2.2.2) (zput_k (Ne.symm hne.2.2.2.2.1) (zput_k (Ne.symm hne.2.2.1) h3))) e rfl (by omega) (by decide) d_K_add_51 ?_
  refine zr_aload_n hX rfl d_K_add_52 ?_
  refine zr_get hX k_K 4 (by decide) q591 rfl (zput_k (zne hk h3 rfl) (zput_k (zne hk h2 rfl) (zput_k (zne hk h1 rfl) (zput_k (zne hk h0 rfl) hk)))) rfl d_K_add_53 ?_
  refine zr_aload_n hX rfl d_K_add_56 ?_
  refine zr_get hX k_K 5 (by decide) q592 rfl (zput_k (zne hk h3 rfl) (zput_k (zne hk h2 rfl) (zput_k (zne hk h1 rfl) (zput_k (zne hk h0 rfl) hk)))) rfl d_K_add_57 ?_
  refine zr_iconst (v := 0) hX rfl d_K_add_60 ?_
  refine zr_zastN hX (zput_k (zne h4 h3 rfl) (zput_k (zne h4 h2 rfl) (zput_k (zne h4 h1 rfl) (zput_k (zne h4 h0 rfl) h4)))) e rfl (by omega) (by decide) rfl d_K_add_61 ?_
  refine zr_aload_n hX rfl d_K_add_62 ?_
  refine zr_dup hX rfl d_K_add_63 ?_
  refine zr_get hX k_K 5 (by decide) q592 rfl (zput_k (zne hk h4 rfl) (zput_k (zne hk h3 rfl) (zput_k (zne hk h2 rfl) (zput_k (zne hk h1 rfl) (zput_k (zne hk h0 rfl) hk))))) rfl d_K_add_64 ?_
  refine zr_iconst (v := 1) hX rfl d_K_add_67 ?_
  refine zn_iadd (a := e) (b := 1) hX d_K_add_68 ?_
  refine zr_put hX k_K 5 (by decide) q592 rfl rfl rfl rfl (Nat.le_of_ble_eq_true rfl) (zput_k (zne hk h4 rfl) (zput_k (zne hk h3 rfl) (zput_k (zne hk h2 rfl) (zput_k (zne hk h1 rfl) (zput_k (zne hk h0 rfl) hk))))) d_K_add_69 ?_
  refine zr_aload_n hX rfl d_K_add_72 ?_
  refine zr_dup hX rfl d_K_add_73 ?_
  refine zr_get hX k_K 6 (by decide) q594 rfl (zput_s _ _ _) rfl d_K_add_74 ?_
  refine zr_iconst (v := 1) hX rfl d_K_add_77 ?_
  refine zr_iadd hX d_K_add_78 ?_
  refine zr_put hX k_K 6 (by decide) q594 rfl rfl rfl rfl (Nat.le_of_ble_eq_true rfl) (zput_s _ _ _) d_K_add_79 ?_
  exact zr_vret hX d_K_add_82 ⟨rfl, zput_z _ _ _ _⟩
theorem c_K_markSettled (g : zGt) (d : Nat) (hdd : 1 ≤ d) (G : zG) (kq a0 a1 a2 a3 a4 : Nat) (c un : Int32) (i : Nat) (hk : G kq = some (zO 3 [.ref a0, .ref a1, .ref a2, .ref a3, .ref a4, .int c, .int un])) (n0 n1 n2 n3 n4 : Nat → Int32) (h0 : G a0 = some (zI 4096 n0)) (h1 : G a1 = some (zI 4096 n1)) (h2 : G a2 = some (zI 4096 n2)) (h3 : G a3 = some (zI 4096 n3)) (h4 : G a4 = some (zB 4096 n4)) (hne : a0 ≠ a1 ∧ a0 ≠ a2 ∧ a0 ≠ a3 ∧ a1 ≠ a2 ∧ a1 ≠ a3 ∧ a2 ≠ a3)  (hi : i < 4096) (hh : ¬ s_K_has c (nI i) = 0) : zMet g y_K_markSettled b_K_markSettled 2 none [] d 0 0 [.ref kq, .int (nI i)] G (zD0 (if n4 i = 0 then zput (zput G a4 (zB 4096 (upd n4 i 1))) kq (zO 3 [.ref a0, .ref a1, .ref a2, .ref a3, .ref a4, .int c, .int (un - 1)]) else G)) := by
  refine zMet.of (by decide) (Nat.le_of_ble_eq_true rfl) rfl (fun X hX => ?_)
  refine zr_aload_n hX rfl d_K_markSettled_0 ?_
  refine zr_iload_n hX rfl d_K_markSettled_1 ?_
  refine zr_pV hX (c_K_has g (d - 1) _ kq a0 a1 a2 a3 a4 c un (nI i) hk) l_K_35 im_K_has se_K_has f_K_has k_K.1 hk rfl (Nat.le_of_ble_eq_true rfl) (by omega) (Nat.zero_le _) (Nat.zero_le _) d_K_markSettled_2 ?_
  refine zr_if_eq hX (tgt := 34) d_K_markSettled_5 (by decide) (fun h9 => absurd h9 hh) (fun _ => ?_)
  refine zr_aload_n hX rfl d_K_markSettled_8 ?_
  refine zr_get hX k_K 4 (by decide) q591 rfl hk rfl d_K_markSettled_9 ?_
  refine zr_iload_n hX rfl d_K_markSettled_12 ?_
  refine zr_zaldN hX h4 i rfl (by omega) (by decide) d_K_markSettled_13 ?_
  refine zr_if_ne hX (tgt := 34) d_K_markSettled_14 (by decide) (fun h14 => ?_) (fun h14 => ?_)
  · skip
    exact zr_vret hX d_K_markSettled_34 ⟨rfl, by rw [if_neg h14]⟩
  · skip
    refine zr_aload_n hX rfl d_K_markSettled_17 ?_
    refine zr_get hX k_K 4 (by decide) q591 rfl hk rfl d_K_markSettled_18 ?_
    refine zr_iload_n hX rfl d_K_markSettled_21 ?_
    refine zr_iconst (v := 1) hX rfl d_K_markSettled_22 ?_
    refine zr_zastN hX h4 i rfl (by omega) (by decide) rfl d_K_markSettled_23 ?_
    refine zr_aload_n hX rfl d_K_markSettled_24 ?_
    refine zr_dup hX rfl d_K_markSettled_25 ?_
    refine zr_get hX k_K 6 (by decide) q594 rfl (zput_k (zne hk h4 rfl) hk) rfl d_K_markSettled_26 ?_
    refine zr_iconst (v := 1) hX rfl d_K_markSettled_29 ?_
    refine zr_isub hX d_K_markSettled_30 ?_
    refine zr_put hX k_K 6 (by decide) q594 rfl rfl rfl rfl (Nat.le_of_ble_eq_true rfl) (zput_k (zne hk h4 rfl) hk) d_K_markSettled_31 ?_
    exact zr_vret hX d_K_markSettled_34 ⟨rfl, by rw [if_pos h14]; rfl⟩
def s_K_tell (n0 n1 n2 n3 n4 : Nat → Int32) (c i q : Int32) : Int32 := if s_K_has c i = 0 then (-2147483648) else if q = 0 then s_S_layerOf (n0 i.toNatClampNeg) else if q = 1 then s_S_xOf (n0 i.toNatClampNeg) else if q = 2 then s_S_yOf (n0 i.toNatClampNeg) else if q = 3 then n1 i.toNatClampNeg else if q = 4 then n2 i.toNatClampNeg else if q = 5 then n3 i.toNatClampNeg else if q = 6 then (if n4 i.toNatClampNeg = 0 then 0 else 1) else (-2147483648)
theorem c_K_tell (g : zGt) (d : Nat) (hdd : 1 ≤ d) (G : zG) (kq a0 a1 a2 a3 a4 : Nat) (c un i q : Int32) (hk : G kq = some (zO 3 [.ref a0, .ref a1, .ref a2, .ref a3, .ref a4, .int c, .int un])) (n0 n1 n2 n3 n4 : Nat → Int32) (h0 : G a0 = some (zI 4096 n0)) (h1 : G a1 = some (zI 4096 n1)) (h2 : G a2 = some (zI 4096 n2)) (h3 : G a3 = some (zI 4096 n3)) (h4 : G a4 = some (zB 4096 n4)) (hne : a0 ≠ a1 ∧ a0 ≠ a2 ∧ a0 ≠ a3 ∧ a1 ≠ a2 ∧ a1 ≠ a3 ∧ a2 ≠ a3)  (hin : ¬ s_K_has c i = 0 → vp_in i 4096) : zMet g y_K_tell b_K_tell 3 (some .int) [] d 0 0 [.ref kq, .int i, .int q] G (zD1 (.int (s_K_tell n0 n1 n2 n3 n4 c i q)) G) := by
  refine zMet.of (by decide) (Nat.le_of_ble_eq_true rfl) rfl (fun X hX => ?_)
  refine zr_aload_n hX rfl d_K_tell_0 ?_
  refine zr_iload_n hX rfl d_K_tell_1 ?_
  refine zr_pV hX (c_K_has g (d - 1) _ kq a0 a1 a2 a3 a4 c un i hk) l_K_35 im_K_has se_K_has f_K_has k_K.1 hk rfl (Nat.le_of_ble_eq_true rfl) (by omega) (Nat.zero_le _) (Nat.zero_le _) d_K_tell_2 ?_
  refine zr_if_ne hX (tgt := 11) d_K_tell_5 (by decide) (fun h5 => ?_) (fun h5 => ?_)
  · skip
    refine zr_iload_n hX rfl d_K_tell_11 ?_
    by_cases h12_0 : q = 0
    · skip
      refine zr_tabN hX (tgt := 56) d_K_tell_12 0 h12_0 (by decide) (by decide) rfl (by decide) ?_
      refine zr_aload_n hX rfl d_K_tell_56 ?_
      refine zr_get hX k_K 0 (by decide) q586 rfl hk rfl d_K_tell_57 ?_
      refine zr_iload_n hX rfl d_K_tell_60 ?_
      refine zr_iald hX h0 (hin h5) d_K_tell_61 ?_
      refine zr_pS hX (c_S_layerOf g (d - 1) _ (n0 i.toNatClampNeg)) l_K_40 st_S_layerOf f_S_layerOf rfl (Nat.le_of_ble_eq_true rfl) (by omega) (Nat.zero_le _) (Nat.zero_le _) d_K_tell_62 ?_
      exact zr_iret hX d_K_tell_65 ⟨by unfold s_K_tell; rw [if_neg h5, if_pos h12_0], rfl⟩
    · skip
      by_cases h12_1 : q = 1
      · skip
        refine zr_tabN hX (tgt := 66) d_K_tell_12 1 h12_1 (by decide) (by decide) rfl (by decide) ?_
        refine zr_aload_n hX rfl d_K_tell_66 ?_
        refine zr_get hX k_K 0 (by decide) q586 rfl hk rfl d_K_tell_67 ?_
        refine zr_iload_n hX rfl d_K_tell_70 ?_
        refine zr_iald hX h0 (hin h5) d_K_tell_71 ?_
        refine zr_pS hX (c_S_xOf g (d - 1) _ (n0 i.toNatClampNeg)) l_K_44 st_S_xOf f_S_xOf rfl (Nat.le_of_ble_eq_true rfl) (by omega) (Nat.zero_le _) (Nat.zero_le _) d_K_tell_72 ?_
        exact zr_iret hX d_K_tell_75 ⟨by unfold s_K_tell; rw [if_neg h5, if_neg h12_0, if_pos h12_1], rfl⟩
      · skip
        by_cases h12_2 : q = 2
        · skip
          refine zr_tabN hX (tgt := 76) d_K_tell_12 2 h12_2 (by decide) (by decide) rfl (by decide) ?_
          refine zr_aload_n hX rfl d_K_tell_76 ?_
          refine zr_get hX k_K 0 (by decide) q586 rfl hk rfl d_K_tell_77 ?_
          refine zr_iload_n hX rfl d_K_tell_80 ?_
          refine zr_iald hX h0 (hin h5) d_K_tell_81 ?_
          refine zr_pS hX (c_S_yOf g (d - 1) _ (n0 i.toNatClampNeg)) l_K_47 st_S_yOf f_S_yOf rfl (Nat.le_of_ble_eq_true rfl) (by omega) (Nat.zero_le _) (Nat.zero_le _) d_K_tell_82 ?_
          exact zr_iret hX d_K_tell_85 ⟨by unfold s_K_tell; rw [if_neg h5, if_neg h12_0, if_neg h12_1, if_pos h12_2], rfl⟩
        · skip
          by_cases h12_3 : q = 3
          · skip
            refine zr_tabN hX (tgt := 86) d_K_tell_12 3 h12_3 (by decide) (by decide) rfl (by decide) ?_
            refine zr_aload_n hX rfl d_K_tell_86 ?_
            refine zr_get hX k_K 1 (by decide) q588 rfl hk rfl d_K_tell_87 ?_
            refine zr_iload_n hX rfl d_K_tell_90 ?_
            refine zr_iald hX h1 (hin h5) d_K_tell_91 ?_
            exact zr_iret hX d_K_tell_92 ⟨by unfold s_K_tell; rw [if_neg h5, if_neg h12_0, if_neg h12_1, if_neg h12_2, if_pos h12_3], rfl⟩
          · skip
            by_cases h12_4 : q = 4
            · skip
              refine zr_tabN hX (tgt := 93) d_K_tell_12 4 h12_4 (by decide) (by decide) rfl (by decide) ?_
              refine zr_aload_n hX rfl d_K_tell_93 ?_
              refine zr_get hX k_K 2 (by decide) q589 rfl hk rfl d_K_tell_94 ?_
              refine zr_iload_n hX rfl d_K_tell_97 ?_
              refine zr_iald hX h2 (hin h5) d_K_tell_98 ?_
              exact zr_iret hX d_K_tell_99 ⟨by unfold s_K_tell; rw [if_neg h5, if_neg h12_0, if_neg h12_1, if_neg h12_2, if_neg h12_3, if_pos h12_4], rfl⟩
            · skip
              by_cases h12_5 : q = 5
              · skip
                refine zr_tabN hX (tgt := 100) d_K_tell_12 5 h12_5 (by decide) (by decide) rfl (by decide) ?_
                refine zr_aload_n hX rfl d_K_tell_100 ?_
                refine zr_get hX k_K 3 (by decide) q590 rfl hk rfl d_K_tell_101 ?_
                refine zr_iload_n hX rfl d_K_tell_104 ?_
                refine zr_iald hX h3 (hin h5) d_K_tell_105 ?_
                exact zr_iret hX d_K_tell_106 ⟨by unfold s_K_tell; rw [if_neg h5, if_neg h12_0, if_neg h12_1, if_neg h12_2, if_neg h12_3, if_neg h12_4, if_pos h12_5], rfl⟩
              · skip
                by_cases h12_6 : q = 6
                · skip
                  refine zr_tabN hX (tgt := 107) d_K_tell_12 6 h12_6 (by decide) (by decide) rfl (by decide) ?_
                  refine zr_aload_n hX rfl d_K_tell_107 ?_
                  refine zr_get hX k_K 4 (by decide) q591 rfl hk rfl d_K_tell_108 ?_
                  refine zr_iload_n hX rfl d_K_tell_111 ?_
                  refine zr_zald hX h4 (hin h5) d_K_tell_112 ?_
                  refine zr_if_eq hX (tgt := 120) d_K_tell_113 (by decide) (fun h113 => ?_) (fun h113 => ?_)
                  · skip
                    refine zr_iconst (v := 0) hX rfl d_K_tell_120 ?_
                    exact zr_iret hX d_K_tell_121 ⟨by unfold s_K_tell; rw [if_neg h5, if_neg h12_0, if_neg h12_1, if_neg h12_2, if_neg h12_3, if_neg h12_4, if_neg h12_5, if_pos h12_6, if_pos h113], rfl⟩
                  · skip
                    refine zr_iconst (v := 1) hX rfl d_K_tell_116 ?_
                    refine zr_goto hX (tgt := 121) (by decide) d_K_tell_117 ?_
                    exact zr_iret hX d_K_tell_121 ⟨by unfold s_K_tell; rw [if_neg h5, if_neg h12_0, if_neg h12_1, if_neg h12_2, if_neg h12_3, if_neg h12_4, if_neg h12_5, if_pos h12_6, if_neg h113], rfl⟩
                · skip
                  refine zr_tabD hX (tgt := 122) (z := 6) d_K_tell_12 rfl (zsw6 h12_0 h12_1 h12_2 h12_3 h12_4 h12_5 h12_6) (by decide) ?_
                  refine zr_ldc hX q196 d_K_tell_122 ?_
                  exact zr_iret hX d_K_tell_124 ⟨by unfold s_K_tell; rw [if_neg h5, if_neg h12_0, if_neg h12_1, if_neg h12_2, if_neg h12_3, if_neg h12_4, if_neg h12_5, if_neg h12_6], rfl⟩
  · skip
    refine zr_ldc hX q196 d_K_tell_8 ?_
    exact zr_iret hX d_K_tell_10 ⟨by unfold s_K_tell; rw [if_pos h5], rfl⟩
theorem c_B_restAt_n (g : zGt) (d : Nat) (G : zG) (q bc : Nat) (t h9 mg n : Int32) (hq : G q = some (zO 2 [.ref bc, .int t, .int h9, .int mg, .null]))   : zMet g y_B_restAt b_B_restAt 2 none [] d 0 0 [.ref q, .int n] G (zD0 (zput G q (zO 2 [.ref bc, .int t, .int n, .int (-1), .null]))) := by
  refine zMet.of (by decide) (Nat.le_of_ble_eq_true rfl) rfl (fun X hX => ?_)
  refine zr_aload_n hX rfl d_B_restAt_0 ?_
  refine zr_iload_n hX rfl d_B_restAt_1 ?_
  refine zr_put hX k_B 2 (by decide) q67 rfl rfl rfl rfl (Nat.le_of_ble_eq_true rfl) hq d_B_restAt_2 ?_
  refine zr_aload_n hX rfl d_B_restAt_5 ?_
  refine zr_iconst (v := (-1)) hX rfl d_B_restAt_6 ?_
  refine zr_put hX k_B 3 (by decide) q69 rfl rfl rfl rfl (Nat.le_of_ble_eq_true rfl) (zput_s _ _ _) d_B_restAt_7 ?_
  refine zr_aload_n hX rfl d_B_restAt_10 ?_
  refine zr_get hX k_B 4 (by decide) q71 rfl (zput_s _ _ _) rfl d_B_restAt_11 ?_
  refine zr_ifnullN hX (tgt := 24) (by decide) d_B_restAt_14 ?_
  exact zr_vret hX d_B_restAt_24 ⟨rfl, zput_z _ _ _ _⟩
theorem c_B_startAt_n (g : zGt) (d : Nat) (hdd : 2 ≤ d) (G : zG) (q bc sc : Nat) (t h9 mg n : Int32) (f src : Nat → Int64) (hq : G q = some (zO 2 [.ref bc, .int t, .int h9, .int mg, .null])) (hb : G bc = some (zJ 4096 f)) (hs : G sc = some (zJ 4096 src))   : zMet g y_B_startAt b_B_startAt 3 none [] d 0 0 [.ref q, .int n, .ref sc] G (zD0 (zput (zput G bc (zJ 4096 (va_cpy src f 0 0 4096))) q (zO 2 [.ref bc, .int 1, .int n, .int (-1), .null]))) := by
  refine zMet.of (by decide) (Nat.le_of_ble_eq_true rfl) rfl (fun X hX => ?_)
  refine zr_aload_n hX rfl d_B_startAt_0 ?_
  refine zr_iconst (v := 0) hX rfl d_B_startAt_1 ?_
  refine zr_aload_n hX rfl d_B_startAt_2 ?_
  refine zr_get hX k_B 0 (by decide) q63 rfl hq rfl d_B_startAt_3 ?_
  refine zr_iconst (v := 0) hX rfl d_B_startAt_6 ?_
  refine zr_sipush (v := 4096) hX rfl d_B_startAt_7 ?_
  refine zr_copyJN hX 0 0 4096 rfl rfl rfl hs hb (by omega) (by omega) (by decide) (by decide) q88 (Nat.le_of_ble_eq_true rfl) (by omega) d_B_startAt_10 ?_
  refine zr_aload_n hX rfl d_B_startAt_13 ?_
  refine zr_iconst (v := 1) hX rfl d_B_startAt_14 ?_
  refine zr_put hX k_B 1 (by decide) q65 rfl rfl rfl rfl (Nat.le_of_ble_eq_true rfl) (zput_k (zne hq hb rfl) hq) d_B_startAt_15 ?_
  refine zr_aload_n hX rfl d_B_startAt_18 ?_
  refine zr_iload_n hX rfl d_B_startAt_19 ?_
  refine zr_uV0 hX (c_B_restAt_n g (d - 1) _ q bc 1 h9 mg n (zput_s _ _ _)) l_B_25 im_B_restAt se_B_restAt f_B_restAt k_B.1 (zput_s _ _ _) rfl (Nat.le_of_ble_eq_true rfl) (by omega) (Nat.zero_le _) (Nat.zero_le _) d_B_startAt_20 ?_
  exact zr_vret hX d_B_startAt_23 ⟨rfl, zput_z _ _ _ _⟩
theorem c_B_restAt_k (g : zGt) (d : Nat) (hdd : 1 ≤ d) (G : zG) (q bc : Nat) (t h9 mg n : Int32) (kq a0 a1 a2 a3 a4 : Nat) (c un : Int32) (hq : G q = some (zO 2 [.ref bc, .int t, .int h9, .int mg, .ref kq])) (hk : G kq = some (zO 3 [.ref a0, .ref a1, .ref a2, .ref a3, .ref a4, .int c, .int un]))   : zMet g y_B_restAt b_B_restAt 2 none [] d 0 0 [.ref q, .int n] G (zD0 (zput (zput G q (zO 2 [.ref bc, .int t, .int n, .int (-1), .ref kq])) kq (zO 3 [.ref a0, .ref a1, .ref a2, .ref a3, .ref a4, .int 0, .int 0]))) := by
  refine zMet.of (by decide) (Nat.le_of_ble_eq_true rfl) rfl (fun X hX => ?_)
  refine zr_aload_n hX rfl d_B_restAt_0 ?_
  refine zr_iload_n hX rfl d_B_restAt_1 ?_
  refine zr_put hX k_B 2 (by decide) q67 rfl rfl rfl rfl (Nat.le_of_ble_eq_true rfl) hq d_B_restAt_2 ?_
  refine zr_aload_n hX rfl d_B_restAt_5 ?_
  refine zr_iconst (v := (-1)) hX rfl d_B_restAt_6 ?_
  refine zr_put hX k_B 3 (by decide) q69 rfl rfl rfl rfl (Nat.le_of_ble_eq_true rfl) (zput_s _ _ _) d_B_restAt_7 ?_
  refine zr_aload_n hX rfl d_B_restAt_10 ?_
  refine zr_get hX k_B 4 (by decide) q71 rfl (zput_s _ _ _) rfl d_B_restAt_11 ?_
  refine zr_ifnull hX d_B_restAt_14 ?_
  refine zr_aload_n hX rfl d_B_restAt_17 ?_
  refine zr_get hX k_B 4 (by decide) q71 rfl (zput_s _ _ _) rfl d_B_restAt_18 ?_
  refine zr_uV0 hX (c_K_forget g (d - 1) _ kq a0 a1 a2 a3 a4 c un (zput_k (zne hk hq rfl) (zput_k (zne hk hq rfl) hk))) l_B_40 im_K_forget se_K_forget f_K_forget k_K.1 (zput_k (zne hk hq rfl) (zput_k (zne hk hq rfl) hk)) rfl (Nat.le_of_ble_eq_true rfl) (by omega) (Nat.zero_le _) (Nat.zero_le _) d_B_restAt_21 ?_
  exact zr_vret hX d_B_restAt_24 ⟨rfl, congrArg (fun z => zput z kq _) (zput_z _ _ _ _)⟩
theorem c_B_startAt_k (g : zGt) (d : Nat) (hdd : 2 ≤ d) (G : zG) (q bc sc : Nat) (t h9 mg n : Int32) (f src : Nat → Int64) (kq a0 a1 a2 a3 a4 : Nat) (c un : Int32) (hq : G q = some (zO 2 [.ref bc, .int t, .int h9, .int mg, .ref kq])) (hb : G bc = some (zJ 4096 f)) (hs : G sc = some (zJ 4096 src)) (hk : G kq = some (zO 3 [.ref a0, .ref a1, .ref a2, .ref a3, .ref a4, .int c, .int un]))   : zMet g y_B_startAt b_B_startAt 3 none [] d 0 0 [.ref q, .int n, .ref sc] G (zD0 (zput (zput (zput G bc (zJ 4096 (va_cpy src f 0 0 4096))) q (zO 2 [.ref bc, .int 1, .int n, .int (-1), .ref kq])) kq (zO 3 [.ref a0, .ref a1, .ref a2, .ref a3, .ref a4, .int 0, .int 0]))) := by
  refine zMet.of (by decide) (Nat.le_of_ble_eq_true rfl) rfl (fun X hX => ?_)
  refine zr_aload_n hX rfl d_B_startAt_0 ?_
  refine zr_iconst (v := 0) hX rfl d_B_startAt_1 ?_
  refine zr_aload_n hX rfl d_B_startAt_2 ?_
  refine zr_get hX k_B 0 (by decide) q63 rfl hq rfl d_B_startAt_3 ?_
  refine zr_iconst (v := 0) hX rfl d_B_startAt_6 ?_
  refine zr_sipush (v := 4096) hX rfl d_B_startAt_7 ?_
  refine zr_copyJN hX 0 0 4096 rfl rfl rfl hs hb (by omega) (by omega) (by decide) (by decide) q88 (Nat.le_of_ble_eq_true rfl) (by omega) d_B_startAt_10 ?_
  refine zr_aload_n hX rfl d_B_startAt_13 ?_
  refine zr_iconst (v := 1) hX rfl d_B_startAt_14 ?_
  refine zr_put hX k_B 1 (by decide) q65 rfl rfl rfl rfl (Nat.le_of_ble_eq_true rfl) (zput_k (zne hq hb rfl) hq) d_B_startAt_15 ?_
  refine zr_aload_n hX rfl d_B_startAt_18 ?_
  refine zr_iload_n hX rfl d_B_startAt_19 ?_
  refine zr_uV0 hX (c_B_restAt_k g (d - 1) (by omega) _ q bc 1 h9 mg n kq a0 a1 a2 a3 a4 c un (zput_s _ _ _) (zput_k (zne hk hq rfl) (zput_k (zne hk hb rfl) hk))) l_B_25 im_B_restAt se_B_restAt f_B_restAt k_B.1 (zput_s _ _ _) rfl (Nat.le_of_ble_eq_true rfl) (by omega) (Nat.zero_le _) (Nat.zero_le _) d_B_startAt_20 ?_
  exact zr_vret hX d_B_startAt_23 ⟨rfl, congrArg (fun z => zput z kq _) (zput_z _ _ _ _)⟩
theorem c_B_hasUnsettled_n (g : zGt) (d : Nat) (G : zG) (q bc : Nat) (t h9 mg : Int32) (hq : G q = some (zO 2 [.ref bc, .int t, .int h9, .int mg, .null]))   : zMet g y_B_hasUnsettled b_B_hasUnsettled 1 (some .boolean) [] d 0 0 [.ref q] G (zD1 (.int 0) G) := by
  refine zMet.of (by decide) (Nat.le_of_ble_eq_true rfl) rfl (fun X hX => ?_)
  refine zr_aload_n hX rfl d_B_hasUnsettled_0 ?_
  refine zr_get hX k_B 4 (by decide) q71 rfl hq rfl d_B_hasUnsettled_1 ?_
  refine zr_ifnullN hX (tgt := 21) (by decide) d_B_hasUnsettled_4 ?_
  refine zr_iconst (v := 0) hX rfl d_B_hasUnsettled_21 ?_
  exact zr_zret hX rfl d_B_hasUnsettled_22 ⟨rfl, rfl⟩
theorem c_B_hasUnsettled_k (g : zGt) (d : Nat) (G : zG) (q bc : Nat) (t h9 mg : Int32) (kq a0 a1 a2 a3 a4 : Nat) (c un : Int32) (hq : G q = some (zO 2 [.ref bc, .int t, .int h9, .int mg, .ref kq])) (hk : G kq = some (zO 3 [.ref a0, .ref a1, .ref a2, .ref a3, .ref a4, .int c, .int un]))   : zMet g y_B_hasUnsettled b_B_hasUnsettled 1 (some .boolean) [] d 0 0 [.ref q] G (zD1 (.int (if un ≤ 0 then 0 else 1)) G) := by
  refine zMet.of (by decide) (Nat.le_of_ble_eq_true rfl) rfl (fun X hX => ?_)
  refine zr_aload_n hX rfl d_B_hasUnsettled_0 ?_
  refine zr_get hX k_B 4 (by decide) q71 rfl hq rfl d_B_hasUnsettled_1 ?_
  refine zr_ifnull hX d_B_hasUnsettled_4 ?_
  refine zr_aload_n hX rfl d_B_hasUnsettled_7 ?_
  refine zr_get hX k_B 4 (by decide) q71 rfl hq rfl d_B_hasUnsettled_8 ?_
  refine zr_get hX k_K 6 (by decide) q595 rfl hk rfl d_B_hasUnsettled_11 ?_
  refine zr_if_le hX (tgt := 21) d_B_hasUnsettled_14 (by decide) (fun h14 => ?_) (fun h14 => ?_)
  · skip
    refine zr_iconst (v := 0) hX rfl d_B_hasUnsettled_21 ?_
    exact zr_zret hX rfl d_B_hasUnsettled_22 ⟨by rw [if_pos h14], rfl⟩
  · skip
    refine zr_iconst (v := 1) hX rfl d_B_hasUnsettled_17 ?_
    refine zr_goto hX (tgt := 22) (by decide) d_B_hasUnsettled_18 ?_
    exact zr_zret hX rfl d_B_hasUnsettled_22 ⟨by rw [if_neg h14], rfl⟩
theorem c_C_hasParent (g : zGt) (d : Nat) (G : zG) (q cc : Nat) (p1 p2 an n : Int32) (hq : G q = some (zO 1 [.int p1, .int p2, .int an, .ref cc]))  : zMet g y_C_hasParent b_C_hasParent 2 (some .boolean) [] d 0 0 [.ref q, .int n] G (zD1 (.int (if p1 = n then 1 else if p2 = n then 1 else 0)) G) := by
  refine zMet.of (by decide) (Nat.le_of_ble_eq_true rfl) rfl (fun X hX => ?_)
  refine zr_aload_n hX rfl d_C_hasParent_0 ?_
  refine zr_get hX k_C 0 (by decide) q39 rfl hq rfl d_C_hasParent_1 ?_
  refine zr_iload_n hX rfl d_C_hasParent_4 ?_
  refine zr_icmp_eq hX (tgt := 16) d_C_hasParent_5 (by decide) (fun h5 => ?_) (fun h5 => ?_)
  · skip
    refine zr_iconst (v := 1) hX rfl d_C_hasParent_16 ?_
    refine zr_goto hX (tgt := 21) (by decide) d_C_hasParent_17 ?_
    exact zr_zret hX rfl d_C_hasParent_21 ⟨by rw [if_pos h5], rfl⟩
  · skip
    refine zr_aload_n hX rfl d_C_hasParent_8 ?_
    refine zr_get hX k_C 1 (by decide) q41 rfl hq rfl d_C_hasParent_9 ?_
    refine zr_iload_n hX rfl d_C_hasParent_12 ?_
    refine zr_icmp_ne hX (tgt := 20) d_C_hasParent_13 (by decide) (fun h13 => ?_) (fun h13 => ?_)
    · skip
      refine zr_iconst (v := 0) hX rfl d_C_hasParent_20 ?_
      exact zr_zret hX rfl d_C_hasParent_21 ⟨by rw [if_neg h5, if_neg h13], rfl⟩
    · skip
      refine zr_iconst (v := 1) hX rfl d_C_hasParent_16 ?_
      refine zr_goto hX (tgt := 21) (by decide) d_C_hasParent_17 ?_
      exact zr_zret hX rfl d_C_hasParent_21 ⟨by rw [if_neg h5, if_pos h13], rfl⟩
theorem ztk {f g : Nat → Int32} {j : Nat} (h : ∀ k, k < j → f k = g k) : ∀ k, k < j + 1 → upd f j (g j) k = g k := fun k hk => by
  by_cases e : k = j
  · rw [e, pk_us]
  · rw [pk_un e]; exact h k (by omega)
theorem c_R_take (g : zGt) (d : Nat) (hdd : 1 ≤ d) (G : zG) (q rv sc : Nat) (n : Nat → Int32) (src : Nat → Int64) (hq : G q = some (zO 4 [.ref rv])) (hv : G rv = some (zI 4096 n)) (hs : G sc = some (zJ 4096 src))   : zMet g y_R_take b_R_take 3 none [] d 0 0 [.ref q, .ref sc] G (fun r G1 => r = .inl none ∧ ∃ f, G1 = zput G rv (zI 4096 f) ∧ ∀ k, k < 4096 → f k = s_S_valueOf (src k)) := by
  refine zMet.of (by decide) (Nat.le_of_ble_eq_true rfl) rfl (fun X hX => ?_)
  refine zr_iconst (v := 0) hX rfl d_R_take_0 ?_
  refine zs_istore_n hX (by decide) rfl d_R_take_1 ?_
  have L2 : ∀ j, j ≤ 4096 → ∀ (f : Nat → Int32) , (∀ k, k < j → f k = s_S_valueOf (src k)) → zw g X (fun r G1 => r = .inl none ∧ ∃ f, G1 = zput G rv (zI 4096 f) ∧ ∀ k, k < 4096 → f k = s_S_valueOf (src k)) 2 [some (.ref q), some (.ref sc), some (.int (nI j))] [] (zput G rv (zI 4096 f)) 0 0 := by
    refine zup 4096 (fun j hj_s ih_s => ?_)
    intro f  hI
    by_cases hlt_s : j < 4096
    · skip
      refine zr_iload_n hX rfl d_R_take_2 ?_
      refine zr_sipush (v := 4096) hX rfl d_R_take_3 ?_
      refine zr_icmp_ge hX (tgt := 27) d_R_take_6 (by decide) (fun h9 => absurd h9 (nI_ge (a := j) (b := 4096) (by omega) (by decide))) (fun _ => ?_)
      refine zr_aload_n hX rfl d_R_take_9 ?_
      refine zr_get hX k_R 0 (by decide) q554 rfl (zput_k (zne hq hv rfl) hq) rfl d_R_take_10 ?_
      refine zr_iload_n hX rfl d_R_take_13 ?_
      refine zr_aload_n hX rfl d_R_take_14 ?_
      refine zr_iload_n hX rfl d_R_take_15 ?_
      refine zr_laldN hX (zput_k (zne hs hv rfl) hs) j rfl (by omega) (by decide) d_R_take_16 ?_
      refine zr_pS hX (c_S_valueOf g (d - 1) _ (src j)) l_R_15 st_S_valueOf f_S_valueOf rfl (Nat.le_of_ble_eq_true rfl) (by omega) (Nat.zero_le _) (Nat.zero_le _) d_R_take_17 ?_
      refine zr_iastN hX (zput_s _ _ _) j rfl (by omega) (by decide) d_R_take_20 ?_
      refine zs_iinc (v := nI (j + 1)) hX rfl (nI_add _ 1) (by decide) rfl d_R_take_21 ?_
      refine zr_goto hX (tgt := 2) (by decide) d_R_take_24 ?_
      refine zw_h (zput_z _ _ _ _).symm ?_
      exact ih_s hlt_s _  (ztk hI)
    · skip
      have ej_s : 4096 = j := by omega
      subst ej_s
      refine zr_iload_n hX rfl d_R_take_2 ?_
      refine zr_sipush (v := 4096) hX rfl d_R_take_3 ?_
      refine zr_icmp_ge hX (tgt := 27) d_R_take_6 (by decide) (fun _ => ?_) (fun h9 => absurd h9 (zq_leT (a := 4096) (b := 4096) (by omega) (by decide)))
      exact zr_vret hX d_R_take_27 ⟨rfl, f, rfl, hI⟩
  refine zw_h (zput_id hv) ?_
  exact L2 0 (Nat.zero_le _) _  (fun k hk => absurd hk (Nat.not_lt_zero _))
theorem zmw_n {f n o bs : Nat → Int32} {j : Nat} (hI : ∀ k, k < 4096 → f k = if k < j then zjn n o bs k else n k) (hj : j < 4096) : f j = n j := by rw [hI j hj, if_neg (Nat.lt_irrefl _)]
theorem zmw_u {f n o bs : Nat → Int32} {j : Nat} {v : Int32} (hI : ∀ k, k < 4096 → f k = if k < j then zjn n o bs k else n k) (hj : j < 4096) (hv : v = zjn n o bs j) : ∀ k, k < 4096 → upd f j v k = if k < j + 1 then zjn n o bs k else n k := fun k hk => by
  by_cases e : k = j
  · rw [e, pk_us, if_pos (by omega), hv]
  · rw [pk_un e, hI k hk]
    by_cases c : k < j
    · rw [if_pos c, if_pos (by omega)]
    · rw [if_neg c, if_neg (by omega)]
theorem zmw_k {f n o bs : Nat → Int32} {j : Nat} (hI : ∀ k, k < 4096 → f k = if k < j then zjn n o bs k else n k) (hj : j < 4096) (hv : n j = zjn n o bs j) : ∀ k, k < 4096 → f k = if k < j + 1 then zjn n o bs k else n k := fun k hk => by
  by_cases e : k = j
  · rw [e, if_pos (by omega), zmw_n hI hj, hv]
  · rw [hI k hk]
    by_cases c : k < j
    · rw [if_pos c, if_pos (by omega)]
    · rw [if_neg c, if_neg (by omega)]
theorem zmw1 {f n o bs : Nat → Int32} {j : Nat} (hI : ∀ k, k < 4096 → f k = if k < j then zjn n o bs k else n k) (hj : j < 4096) (h : f j = bs j) : ∀ k, k < 4096 → upd f j (o j) k = if k < j + 1 then zjn n o bs k else n k := zmw_u hI hj (by
  rw [zmw_n hI hj] at h
  unfold zjn; rw [if_pos h])
theorem zmw2 {f n o bs : Nat → Int32} {j : Nat} (hI : ∀ k, k < 4096 → f k = if k < j then zjn n o bs k else n k) (hj : j < 4096) (h : ¬ f j = bs j) (hc : ¬ s_S_isConflict (f j) (o j) (bs j) = 0) : ∀ k, k < 4096 → upd f j (-2147483648) k = if k < j + 1 then zjn n o bs k else n k := zmw_u hI hj (by
  rw [zmw_n hI hj] at h hc
  unfold s_S_isConflict at hc
  unfold zjn
  rw [if_neg h] at hc ⊢
  by_cases c1 : o j = bs j
  · rw [if_pos c1] at hc; exact absurd rfl hc
  · rw [if_neg c1] at hc ⊢
    by_cases c2 : n j = o j
    · rw [if_pos c2] at hc; exact absurd rfl hc
    · rw [if_neg (fun q => c2 q.symm)])
theorem zmw0 {f n o bs : Nat → Int32} {j : Nat} (hI : ∀ k, k < 4096 → f k = if k < j then zjn n o bs k else n k) (hj : j < 4096) (h : ¬ f j = bs j) (hc : s_S_isConflict (f j) (o j) (bs j) = 0) : ∀ k, k < 4096 → f k = if k < j + 1 then zjn n o bs k else n k := zmw_k hI hj (by
  rw [zmw_n hI hj] at h hc
  unfold s_S_isConflict at hc
  unfold zjn
  rw [if_neg h] at hc ⊢
  by_cases c1 : o j = bs j
  · rw [if_pos c1]
  · rw [if_neg c1] at hc ⊢
    by_cases c2 : n j = o j
    · rw [if_pos c2.symm]
    · rw [if_neg c2] at hc; exact absurd hc (by decide))
theorem c_R_mergeWith (g : zGt) (d : Nat) (hdd : 1 ≤ d) (G : zG) (q rv sc : Nat) (n : Nat → Int32) (src : Nat → Int64) (bv : Nat) (bs : Nat → Int32) (hq : G q = some (zO 4 [.ref rv])) (hv : G rv = some (zI 4096 n)) (hs : G sc = some (zJ 4096 src)) (hbv : G bv = some (zI 4096 bs)) (hne : rv ≠ bv)  : zMet g y_R_mergeWith b_R_mergeWith 5 none [] d 0 0 [.ref q, .ref sc, .ref bv] G (fun r G1 => r = .inl none ∧ ∃ f, G1 = zput G rv (zI 4096 f) ∧ ∀ k, k < 4096 → f k = zjn n (fun i => s_S_valueOf (src i)) bs k) := by
  refine zMet.of (by decide) (Nat.le_of_ble_eq_true rfl) rfl (fun X hX => ?_)
  refine zr_iconst (v := 0) hX rfl d_R_mergeWith_0 ?_
  refine zs_istore_n hX (by decide) rfl d_R_mergeWith_1 ?_
  have L2 : ∀ j, j ≤ 4096 → ∀ (f : Nat → Int32) , (∀ k, k < 4096 → f k = if k < j then zjn n (fun i => s_S_valueOf (src i)) bs k else n k) → zw g X (fun r G1 => r = .inl none ∧ ∃ f, G1 = zput G rv (zI 4096 f) ∧ ∀ k, k < 4096 → f k = zjn n (fun i => s_S_valueOf (src i)) bs k) 2 [some (.ref q), some (.ref sc), some (.ref bv), some (.int (nI j)), none] [] (zput G rv (zI 4096 f)) 0 0 := by
    refine zup 4096 (fun j hj_s ih_s => ?_)
    intro f  hI
    by_cases hlt_s : j < 4096
    · skip
      refine zr_iload_n hX rfl d_R_mergeWith_2 ?_
      refine zr_sipush (v := 4096) hX rfl d_R_mergeWith_3 ?_
      refine zr_icmp_ge hX (tgt := 71) d_R_mergeWith_6 (by decide) (fun h9 => absurd h9 (nI_ge (a := j) (b := 4096) (by omega) (by decide))) (fun _ => ?_)
      refine zr_aload_n hX rfl d_R_mergeWith_9 ?_
      refine zr_iload_n hX rfl d_R_mergeWith_10 ?_
      refine zr_laldN hX (zput_k (zne hs hv rfl) hs) j rfl (by omega) (by decide) d_R_mergeWith_11 ?_
      refine zr_pS hX (c_S_valueOf g (d - 1) _ (src j)) l_R_15 st_S_valueOf f_S_valueOf rfl (Nat.le_of_ble_eq_true rfl) (by omega) (Nat.zero_le _) (Nat.zero_le _) d_R_mergeWith_12 ?_
      refine zs_istore hX (by decide) rfl d_R_mergeWith_15 ?_
      refine zr_aload_n hX rfl d_R_mergeWith_17 ?_
      refine zr_get hX k_R 0 (by decide) q554 rfl (zput_k (zne hq hv rfl) hq) rfl d_R_mergeWith_18 ?_
      refine zr_iload_n hX rfl d_R_mergeWith_21 ?_
      refine zr_ialdN hX (zput_s _ _ _) j rfl (by omega) (by decide) d_R_mergeWith_22 ?_
      refine zr_aload_n hX rfl d_R_mergeWith_23 ?_
      refine zr_iload_n hX rfl d_R_mergeWith_24 ?_
      refine zr_ialdN hX (zput_k (Ne.symm hne) hbv) j rfl (by omega) (by decide) d_R_mergeWith_25 ?_
      refine zr_icmp_ne hX (tgt := 40) d_R_mergeWith_26 (by decide) (fun h26 => ?_) (fun h26 => ?_)
      · skip
        refine zr_aload_n hX rfl d_R_mergeWith_40 ?_
        refine zr_get hX k_R 0 (by decide) q554 rfl (zput_k (zne hq hv rfl) hq) rfl d_R_mergeWith_41 ?_
        refine zr_iload_n hX rfl d_R_mergeWith_44 ?_
        refine zr_ialdN hX (zput_s _ _ _) j rfl (by omega) (by decide) d_R_mergeWith_45 ?_
        refine zr_iload hX rfl d_R_mergeWith_46 ?_
        refine zr_aload_n hX rfl d_R_mergeWith_48 ?_
        refine zr_iload_n hX rfl d_R_mergeWith_49 ?_
        refine zr_ialdN hX (zput_k (Ne.symm hne) hbv) j rfl (by omega) (by decide) d_R_mergeWith_50 ?_
        refine zr_pS hX (c_S_isConflict g (d - 1) _ (f j) (s_S_valueOf (src j)) (bs j)) l_R_19 st_S_isConflict f_S_isConflict rfl (Nat.le_of_ble_eq_true rfl) (by omega) (Nat.zero_le _) (Nat.zero_le _) d_R_mergeWith_51 ?_
        refine zr_if_eq hX (tgt := 65) d_R_mergeWith_54 (by decide) (fun h54 => ?_) (fun h54 => ?_)
        · skip
          refine zs_iinc (v := nI (j + 1)) hX rfl (nI_add _ 1) (by decide) rfl d_R_mergeWith_65 ?_
          refine zr_goto hX (tgt := 2) (by decide) d_R_mergeWith_68 ?_
          refine zw_drop 4 ?_
          exact ih_s hlt_s _  (zmw0 hI hlt_s h26 h54)
        · skip
          refine zr_aload_n hX rfl d_R_mergeWith_57 ?_
          refine zr_get hX k_R 0 (by decide) q554 rfl (zput_k (zne hq hv rfl) hq) rfl d_R_mergeWith_58 ?_
          refine zr_iload_n hX rfl d_R_mergeWith_61 ?_
          refine zr_ldc hX q575 d_R_mergeWith_62 ?_
          refine zr_iastN hX (zput_s _ _ _) j rfl (by omega) (by decide) d_R_mergeWith_64 ?_
          refine zs_iinc (v := nI (j + 1)) hX rfl (nI_add _ 1) (by decide) rfl d_R_mergeWith_65 ?_
          refine zr_goto hX (tgt := 2) (by decide) d_R_mergeWith_68 ?_
          refine zw_drop 4 ?_
          refine zw_h (zput_z _ _ _ _).symm ?_
          exact ih_s hlt_s _  (zmw2 hI hlt_s h26 h54)
      · skip
        refine zr_aload_n hX rfl d_R_mergeWith_29 ?_
        refine zr_get hX k_R 0 (by decide) q554 rfl (zput_k (zne hq hv rfl) hq) rfl d_R_mergeWith_30 ?_
        refine zr_iload_n hX rfl d_R_mergeWith_33 ?_
        refine zr_iload hX rfl d_R_mergeWith_34 ?_
        refine zr_iastN hX (zput_s _ _ _) j rfl (by omega) (by decide) d_R_mergeWith_36 ?_
        refine zr_goto hX (tgt := 65) (by decide) d_R_mergeWith_37 ?_
        refine zs_iinc (v := nI (j + 1)) hX rfl (nI_add _ 1) (by decide) rfl d_R_mergeWith_65 ?_
        refine zr_goto hX (tgt := 2) (by decide) d_R_mergeWith_68 ?_
        refine zw_drop 4 ?_
        refine zw_h (zput_z _ _ _ _).symm ?_
        exact ih_s hlt_s _  (zmw1 hI hlt_s h26)
    · skip
      have ej_s : 4096 = j := by omega
      subst ej_s
      refine zr_iload_n hX rfl d_R_mergeWith_2 ?_
      refine zr_sipush (v := 4096) hX rfl d_R_mergeWith_3 ?_
      refine zr_icmp_ge hX (tgt := 71) d_R_mergeWith_6 (by decide) (fun _ => ?_) (fun h9 => absurd h9 (zq_leT (a := 4096) (b := 4096) (by omega) (by decide)))
      exact zr_vret hX d_R_mergeWith_71 ⟨rfl, f, rfl, fun k hk => by rw [hI k hk, if_pos hk]⟩
  refine zw_h (zput_id hv) ?_
  exact L2 0 (Nat.zero_le _) _  (fun k hk => by rw [if_neg (Nat.not_lt_zero _)])
theorem zfl {f : Nat → Int32} {v : Int32} {j : Nat} (h : ∀ k, k < j → f k = v) : ∀ k, k < j + 1 → upd f j v k = v := fun k hk => by
  by_cases e : k = j
  · rw [e, pk_us]
  · rw [pk_un e]; exact h k (by omega)
theorem c_A_fillI (g : zGt) (d : Nat) (G : zG) (a N : Nat) (f0 : Nat → Int32) (v : Int32) (hN : N < 2 ^ 31) (ha : G a = some (zI N f0))  : zMet g y_A_fillI b_A_fillI 4 none [] d 0 0 [.ref a, .int v] G (fun r G1 => r = .inl none ∧ ∃ f, G1 = zput G a (zI N f) ∧ ∀ k, k < N → f k = v) := by
  refine zMet.of (by decide) (Nat.le_of_ble_eq_true rfl) rfl (fun X hX => ?_)
  refine zr_iconst (v := 0) hX rfl d_A_fillI_0 ?_
  refine zs_istore_n hX (by decide) rfl d_A_fillI_1 ?_
  refine zr_aload_n hX rfl d_A_fillI_2 ?_
  refine zr_ilen hX ha d_A_fillI_3 ?_
  rw [show (Int32.ofNat N) = nI N from rfl]
  refine zs_istore_n hX (by decide) rfl d_A_fillI_4 ?_
  have L5 : ∀ j, j ≤ N → ∀ (f : Nat → Int32) , (∀ k, k < j → f k = v) → zw g X (fun r G1 => r = .inl none ∧ ∃ f, G1 = zput G a (zI N f) ∧ ∀ k, k < N → f k = v) 5 [some (.ref a), some (.int v), some (.int (nI j)), some (.int (nI N))] [] (zput G a (zI N f)) 0 0 := by
    refine zup N (fun j hj_s ih_s => ?_)
    intro f  hI
    by_cases hlt_s : j < N
    · skip
      refine zr_iload_n hX rfl d_A_fillI_5 ?_
      refine zr_iload_n hX rfl d_A_fillI_6 ?_
      refine zr_icmp_ge hX (tgt := 20) d_A_fillI_7 (by decide) (fun h9 => absurd h9 (nI_ge (a := j) (b := N) (by omega) (by omega))) (fun _ => ?_)
      refine zr_aload_n hX rfl d_A_fillI_10 ?_
      refine zr_iload_n hX rfl d_A_fillI_11 ?_
      refine zr_iload_n hX rfl d_A_fillI_12 ?_
      refine zr_iastN hX (zput_s _ _ _) j rfl (by omega) (by assumption) d_A_fillI_13 ?_
      refine zs_iinc (v := nI (j + 1)) hX rfl (nI_add _ 1) (by decide) rfl d_A_fillI_14 ?_
      refine zr_goto hX (tgt := 5) (by decide) d_A_fillI_17 ?_
      refine zw_h (zput_z _ _ _ _).symm ?_
      exact ih_s hlt_s _  (zfl hI)
    · skip
      have ej_s : N = j := by omega
      subst ej_s
      refine zr_iload_n hX rfl d_A_fillI_5 ?_
      refine zr_iload_n hX rfl d_A_fillI_6 ?_
      refine zr_icmp_ge hX (tgt := 20) d_A_fillI_7 (by decide) (fun _ => ?_) (fun h9 => absurd h9 (zq_leT (a := N) (b := N) (by omega) (by omega)))
      exact zr_vret hX d_A_fillI_20 ⟨rfl, f, rfl, hI⟩
  refine zw_h (zput_id ha) ?_
  exact L5 0 (Nat.zero_le _) _  (fun k hk => absurd hk (Nat.not_lt_zero _))
theorem zflJ {f : Nat → Int64} {v : Int64} {j : Nat} (h : ∀ k, k < j → f k = v) : ∀ k, k < j + 1 → vp_updL f j v k = v := fun k hk => by
  by_cases e : k = j
  · rw [e, pk_uLs]
  · rw [pk_uLn e]; exact h k (by omega)
theorem c_A_fillJ (g : zGt) (d : Nat) (G : zG) (a N : Nat) (f0 : Nat → Int64) (v : Int64) (hN : N < 2 ^ 31) (ha : G a = some (zJ N f0))  : zMet g y_A_fillJ b_A_fillJ 5 none [] d 0 0 [.ref a, .long v] G (fun r G1 => r = .inl none ∧ ∃ f, G1 = zput G a (zJ N f) ∧ ∀ k, k < N → f k = v) := by
  refine zMet.of (by decide) (Nat.le_of_ble_eq_true rfl) rfl (fun X hX => ?_)
  refine zr_iconst (v := 0) hX rfl d_A_fillJ_0 ?_
  refine zs_istore_n hX (by decide) rfl d_A_fillJ_1 ?_
  refine zr_aload_n hX rfl d_A_fillJ_2 ?_
  refine zr_llen hX ha d_A_fillJ_3 ?_
  rw [show (Int32.ofNat N) = nI N from rfl]
  refine zs_istore hX (by decide) rfl d_A_fillJ_4 ?_
  have L6 : ∀ j, j ≤ N → ∀ (f : Nat → Int64) , (∀ k, k < j → f k = v) → zw g X (fun r G1 => r = .inl none ∧ ∃ f, G1 = zput G a (zJ N f) ∧ ∀ k, k < N → f k = v) 6 [some (.ref a), some (.long v), none, some (.int (nI j)), some (.int (nI N))] [] (zput G a (zJ N f)) 0 0 := by
    refine zup N (fun j hj_s ih_s => ?_)
    intro f  hI
    by_cases hlt_s : j < N
    · skip
      refine zr_iload_n hX rfl d_A_fillJ_6 ?_
      refine zr_iload hX rfl d_A_fillJ_7 ?_
      refine zr_icmp_ge hX (tgt := 22) d_A_fillJ_9 (by decide) (fun h9 => absurd h9 (nI_ge (a := j) (b := N) (by omega) (by omega))) (fun _ => ?_)
      refine zr_aload_n hX rfl d_A_fillJ_12 ?_
      refine zr_iload_n hX rfl d_A_fillJ_13 ?_
      refine zr_lload_n hX rfl d_A_fillJ_14 ?_
      refine zr_lastN hX (zput_s _ _ _) j rfl (by omega) (by assumption) d_A_fillJ_15 ?_
      refine zs_iinc (v := nI (j + 1)) hX rfl (nI_add _ 1) (by decide) rfl d_A_fillJ_16 ?_
      refine zr_goto hX (tgt := 6) (by decide) d_A_fillJ_19 ?_
      refine zw_h (zput_z _ _ _ _).symm ?_
      exact ih_s hlt_s _  (zflJ hI)
    · skip
      have ej_s : N = j := by omega
      subst ej_s
      refine zr_iload_n hX rfl d_A_fillJ_6 ?_
      refine zr_iload hX rfl d_A_fillJ_7 ?_
      refine zr_icmp_ge hX (tgt := 22) d_A_fillJ_9 (by decide) (fun _ => ?_) (fun h9 => absurd h9 (zq_leT (a := N) (b := N) (by omega) (by omega)))
      exact zr_vret hX d_A_fillJ_22 ⟨rfl, f, rfl, hI⟩
  refine zw_h (zput_id ha) ?_
  exact L6 0 (Nat.zero_le _) _  (fun k hk => absurd hk (Nat.not_lt_zero _))
