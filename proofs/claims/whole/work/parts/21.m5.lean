def st_M_unsettled (u : zU) (p : Nat) (j : Nat) (s : Int32) : Int32 := if ((u.ar 15) (4096 * p + j)) = 0 then (s + 1) else (s + 0)
theorem c_M_unsettled (g : zGt) (d : Nat) (G : zG) (u : zU) (m : Nat) (h : zMv u m G) (p : Nat) (hp : p < 4) (e : Nat) (he : u.ar 14 p = nI e) (hl : e ≤ 4096) : zMet g y_M_unsettled b_M_unsettled 4 (some .int) [] d 0 0 [.ref m, .int (nI p)] G (zMq (some (.int (zfor e (st_M_unsettled u p) 0))) u u m G) := by
  refine zMet.of (by decide) (Nat.le_of_ble_eq_true rfl) rfl (fun X hX => ?_)
  refine zr_iconst (v := 0) hX rfl d_M_unsettled_0 ?_
  refine zs_istore_n hX (by decide) rfl d_M_unsettled_1 ?_
  refine zr_iconst (v := 0) hX rfl d_M_unsettled_2 ?_
  refine zs_istore_n hX (by decide) rfl d_M_unsettled_3 ?_
  have L4 : ∀ j, j ≤ e → ∀ (s : Int32) (G_s : zG), s = zfor j (st_M_unsettled u p) 0 → zMv u m G_s → zMf u m G G_s → zw g X (zMq (some (.int (zfor e (st_M_unsettled u p) 0))) u u m G) 4 [some (.ref m), some (.int (nI p)), some (.int s), some (.int (nI j))] [] G_s 0 0 := by
    refine zup e (fun j hj_s ih_s => ?_)
    intro s G_s hs_s hk_s fk_s
    by_cases hlt_s : j < e
    · skip
      refine zr_iload_n hX rfl d_M_unsettled_4 ?_
      refine zr_aload_n hX rfl d_M_unsettled_5 ?_
      refine zr_get hX k_M 14 (by decide) q667 rfl hk_s.m rfl d_M_unsettled_6 ?_
      refine zr_iload_n hX rfl d_M_unsettled_9 ?_
      refine zr_ialdN hX (hk_s.ar 14 rfl) p rfl (by omega) (by decide) d_M_unsettled_10 ?_
      refine zr_icmp_ge hX (tgt := 43) d_M_unsettled_11 (by decide) (fun h9 => absurd h9 (by rw [he]; exact nI_ge hlt_s (by omega))) (fun _ => ?_)
      refine zr_iload_n hX rfl d_M_unsettled_14 ?_
      refine zr_aload_n hX rfl d_M_unsettled_15 ?_
      refine zr_get hX k_M 15 (by decide) q668 rfl hk_s.m rfl d_M_unsettled_16 ?_
      refine zr_sipush (v := 4096) hX rfl d_M_unsettled_19 ?_
      refine zr_iload_n hX rfl d_M_unsettled_22 ?_
      refine zr_imul hX d_M_unsettled_23 ?_
      refine zr_iload_n hX rfl d_M_unsettled_24 ?_
      refine zr_iadd hX d_M_unsettled_25 ?_
      refine zr_zaldN hX (hk_s.ar 15 rfl) (4096 * p + j) (zpl _ _) (by omega) (by decide) d_M_unsettled_26 ?_
      refine zr_if_eq hX (tgt := 34) d_M_unsettled_27 (by decide) (fun h27 => ?_) (fun h27 => ?_)
      · skip
        refine zr_iconst (v := 1) hX rfl d_M_unsettled_34 ?_
        refine zr_iadd hX d_M_unsettled_35 ?_
        refine zs_istore_n hX (by decide) rfl d_M_unsettled_36 ?_
        refine zs_iinc (v := nI (j + 1)) hX rfl (znI1 _) (by decide) rfl d_M_unsettled_37 ?_
        refine zr_goto hX (tgt := 4) (by decide) d_M_unsettled_40 ?_
        exact ih_s hlt_s (s + 1) _ (by rw [zfor_s, ← hs_s]; unfold st_M_unsettled; rw [if_pos h27]) hk_s fk_s
      · skip
        refine zr_iconst (v := 0) hX rfl d_M_unsettled_30 ?_
        refine zr_goto hX (tgt := 35) (by decide) d_M_unsettled_31 ?_
        refine zr_iadd hX d_M_unsettled_35 ?_
        refine zs_istore_n hX (by decide) rfl d_M_unsettled_36 ?_
        refine zs_iinc (v := nI (j + 1)) hX rfl (znI1 _) (by decide) rfl d_M_unsettled_37 ?_
        refine zr_goto hX (tgt := 4) (by decide) d_M_unsettled_40 ?_
        exact ih_s hlt_s (s + 0) _ (by rw [zfor_s, ← hs_s]; unfold st_M_unsettled; rw [if_neg h27]) hk_s fk_s
    · skip
      have ej_s : j = e := by omega
      rw [ej_s] at hs_s
      refine zr_iload_n hX rfl d_M_unsettled_4 ?_
      refine zr_aload_n hX rfl d_M_unsettled_5 ?_
      refine zr_get hX k_M 14 (by decide) q667 rfl hk_s.m rfl d_M_unsettled_6 ?_
      refine zr_iload_n hX rfl d_M_unsettled_9 ?_
      refine zr_ialdN hX (hk_s.ar 14 rfl) p rfl (by omega) (by decide) d_M_unsettled_10 ?_
      refine zr_icmp_ge hX (tgt := 43) d_M_unsettled_11 (by decide) (fun _ => ?_) (fun h9 => absurd h9 (not_not_intro (by rw [he]; exact nI_le (Nat.le_of_not_lt hlt_s) (by omega))))
      refine zr_iload_n hX rfl d_M_unsettled_43 ?_
      exact zr_iret hX d_M_unsettled_44 ⟨by rw [hs_s], hk_s, fk_s, rfl⟩
  exact L4 0 (Nat.zero_le _) _ _ rfl h zMf.rf
def st_M_isChanged (u : zU) (p hd : Nat) (j : Nat) (s : Int32) : Int32 := if s = 0 then if ((u.ar 1) (4096 * (24 + p) + j)) = ((u.ar 1) (4096 * hd + j)) then if ((u.ar 2) (4096 * (24 + p) + j)) = ((u.ar 2) (4096 * hd + j)) then 0 else 1 else 1 else s
theorem z01_chg {u : zU} {p hd n : Nat} {c s : Int32} (hc : c = 0 ∨ c = 1) (e : s = zfor n (st_M_isChanged u p hd) c) : s = 0 ∨ s = 1 := by
  subst e
  refine zfor_inv (N := n) (fun _ s => s = 0 ∨ s = 1) hc (fun j s _ hs => ?_) n (Nat.le_refl _)
  unfold st_M_isChanged
  split
  · split
    · split
      · exact Or.inl rfl
      · exact Or.inr rfl
    · exact Or.inr rfl
  · exact hs
def s_M_isChanged (u : zU) (p hd : Nat) : Int32 := if ((u.ar 9) p) < 0 then (zfor 4096 (st_M_isChanged u p hd) 0) else (zfor 4096 (st_M_isChanged u p hd) 1)
theorem c_M_isChanged (g : zGt) (d : Nat) (G : zG) (u : zU) (m : Nat) (h : zMv u m G) (p : Nat) (hd : Nat) (hp : p < 4) (hhd : u.ar 8 p = nI hd) (hh : hd < 24) : zMet g y_M_isChanged b_M_isChanged 4 (some .boolean) [] d 0 0 [.ref m, .int (nI p)] G (zMq (some (.int (s_M_isChanged u p hd))) u u m G) := by
  refine zMet.of (by decide) (Nat.le_of_ble_eq_true rfl) rfl (fun X hX => ?_)
  refine zr_aload_n hX rfl d_M_isChanged_0 ?_
  refine zr_get hX k_M 9 (by decide) q662 rfl h.m rfl d_M_isChanged_1 ?_
  refine zr_iload_n hX rfl d_M_isChanged_4 ?_
  refine zr_ialdN hX (h.ar 9 rfl) p rfl (by omega) (by decide) d_M_isChanged_5 ?_
  refine zr_if_lt hX (tgt := 13) d_M_isChanged_6 (by decide) (fun h6 => ?_) (fun h6 => ?_)
  · skip
    refine zr_iconst (v := 0) hX rfl d_M_isChanged_13 ?_
    refine zs_istore_n hX (by decide) rfl d_M_isChanged_14 ?_
    refine zr_iconst (v := 0) hX rfl d_M_isChanged_15 ?_
    refine zs_istore_n hX (by decide) rfl d_M_isChanged_16 ?_
    have L17 : ∀ j, j ≤ 4096 → ∀ (s : Int32) (G_s : zG), s = zfor j (st_M_isChanged u p hd) 0 → zMv u m G_s → zMf u m G G_s → zw g X (zMq (some (.int (s_M_isChanged u p hd))) u u m G) 17 [some (.ref m), some (.int (nI p)), some (.int s), some (.int (nI j))] [] G_s 0 0 := by
      refine zup 4096 (fun j hj_s ih_s => ?_)
      intro s G_s hs_s hk_s fk_s
      by_cases hlt_s : j < 4096
      · skip
        refine zr_iload_n hX rfl d_M_isChanged_17 ?_
        refine zr_sipush (v := 4096) hX rfl d_M_isChanged_18 ?_
        refine zr_icmp_ge hX (tgt := 110) d_M_isChanged_21 (by decide) (fun h9 => absurd h9 (nI_ge (b := 4096) hlt_s (by decide))) (fun _ => ?_)
        refine zr_iload_n hX rfl d_M_isChanged_24 ?_
        refine zr_if_ne hX (tgt := 110) d_M_isChanged_25 (by decide) (fun h25 => ?_) (fun h25 => ?_)
        · skip
          have hs9 := zfor_fix (fun k => by unfold st_M_isChanged; rw [if_neg h25]) hj_s hs_s
          refine zr_iload_n hX rfl d_M_isChanged_110 ?_
          exact zr_zret hX (z01 (z01_chg (by decide) hs9)) d_M_isChanged_111 ⟨(by unfold s_M_isChanged; rw [← hs9]; rw [if_pos h6]), hk_s, fk_s, rfl⟩
        · skip
          refine zr_aload_n hX rfl d_M_isChanged_28 ?_
          refine zr_get hX k_M 1 (by decide) q654 rfl hk_s.m rfl d_M_isChanged_29 ?_
          refine zr_sipush (v := 4096) hX rfl d_M_isChanged_32 ?_
          refine zr_bipush (v := 24) hX rfl d_M_isChanged_35 ?_
          refine zr_iload_n hX rfl d_M_isChanged_37 ?_
          refine zr_iadd hX d_M_isChanged_38 ?_
          refine zr_imul hX d_M_isChanged_39 ?_
          refine zr_iload_n hX rfl d_M_isChanged_40 ?_
          refine zr_iadd hX d_M_isChanged_41 ?_
          refine zr_ialdN hX (hk_s.ar 1 rfl) (4096 * (24 + p) + j) (zpl24 _ _) (by omega) (by decide) d_M_isChanged_42 ?_
          refine zr_aload_n hX rfl d_M_isChanged_43 ?_
          refine zr_get hX k_M 1 (by decide) q654 rfl hk_s.m rfl d_M_isChanged_44 ?_
          refine zr_sipush (v := 4096) hX rfl d_M_isChanged_47 ?_
          refine zr_aload_n hX rfl d_M_isChanged_50 ?_
          refine zr_get hX k_M 8 (by decide) q661 rfl hk_s.m rfl d_M_isChanged_51 ?_
          refine zr_iload_n hX rfl d_M_isChanged_54 ?_
          refine zr_ialdN hX (hk_s.ar 8 rfl) p rfl (by omega) (by decide) d_M_isChanged_55 ?_
          refine zr_imul hX d_M_isChanged_56 ?_
          refine zr_iload_n hX rfl d_M_isChanged_57 ?_
          refine zr_iadd hX d_M_isChanged_58 ?_
          refine zr_ialdN hX (hk_s.ar 1 rfl) (4096 * hd + j) (by rw [hhd]; exact zpl _ _) (by omega) (by decide) d_M_isChanged_59 ?_
          refine zr_icmp_ne hX (tgt := 98) d_M_isChanged_60 (by decide) (fun h60 => ?_) (fun h60 => ?_)
          · skip
            refine zr_iconst (v := 1) hX rfl d_M_isChanged_98 ?_
            refine zr_goto hX (tgt := 103) (by decide) d_M_isChanged_99 ?_
            refine zs_istore_n hX (by decide) rfl d_M_isChanged_103 ?_
            refine zs_iinc (v := nI (j + 1)) hX rfl (znI1 _) (by decide) rfl d_M_isChanged_104 ?_
            refine zr_goto hX (tgt := 17) (by decide) d_M_isChanged_107 ?_
            exact ih_s hlt_s 1 _ (by rw [zfor_s, ← hs_s]; unfold st_M_isChanged; rw [if_pos h25]; rw [if_neg h60]) hk_s fk_s
          · skip
            refine zr_aload_n hX rfl d_M_isChanged_63 ?_
            refine zr_get hX k_M 2 (by decide) q655 rfl hk_s.m rfl d_M_isChanged_64 ?_
            refine zr_sipush (v := 4096) hX rfl d_M_isChanged_67 ?_
            refine zr_bipush (v := 24) hX rfl d_M_isChanged_70 ?_
            refine zr_iload_n hX rfl d_M_isChanged_72 ?_
            refine zr_iadd hX d_M_isChanged_73 ?_
            refine zr_imul hX d_M_isChanged_74 ?_
            refine zr_iload_n hX rfl d_M_isChanged_75 ?_
            refine zr_iadd hX d_M_isChanged_76 ?_
            refine zr_ialdN hX (hk_s.ar 2 rfl) (4096 * (24 + p) + j) (zpl24 _ _) (by omega) (by decide) d_M_isChanged_77 ?_
            refine zr_aload_n hX rfl d_M_isChanged_78 ?_
            refine zr_get hX k_M 2 (by decide) q655 rfl hk_s.m rfl d_M_isChanged_79 ?_
            refine zr_sipush (v := 4096) hX rfl d_M_isChanged_82 ?_
            refine zr_aload_n hX rfl d_M_isChanged_85 ?_
            refine zr_get hX k_M 8 (by decide) q661 rfl hk_s.m rfl d_M_isChanged_86 ?_
            refine zr_iload_n hX rfl d_M_isChanged_89 ?_
            refine zr_ialdN hX (hk_s.ar 8 rfl) p rfl (by omega) (by decide) d_M_isChanged_90 ?_
            refine zr_imul hX d_M_isChanged_91 ?_
            refine zr_iload_n hX rfl d_M_isChanged_92 ?_
            refine zr_iadd hX d_M_isChanged_93 ?_
            refine zr_ialdN hX (hk_s.ar 2 rfl) (4096 * hd + j) (by rw [hhd]; exact zpl _ _) (by omega) (by decide) d_M_isChanged_94 ?_
            refine zr_icmp_eq hX (tgt := 102) d_M_isChanged_95 (by decide) (fun h95 => ?_) (fun h95 => ?_)
            · skip
              refine zr_iconst (v := 0) hX rfl d_M_isChanged_102 ?_
              refine zs_istore_n hX (by decide) rfl d_M_isChanged_103 ?_
              refine zs_iinc (v := nI (j + 1)) hX rfl (znI1 _) (by decide) rfl d_M_isChanged_104 ?_
              refine zr_goto hX (tgt := 17) (by decide) d_M_isChanged_107 ?_
              exact ih_s hlt_s 0 _ (by rw [zfor_s, ← hs_s]; unfold st_M_isChanged; rw [if_pos h25]; rw [if_pos h60]; rw [if_pos h95]) hk_s fk_s
            · skip
              refine zr_iconst (v := 1) hX rfl d_M_isChanged_98 ?_
              refine zr_goto hX (tgt := 103) (by decide) d_M_isChanged_99 ?_
              refine zs_istore_n hX (by decide) rfl d_M_isChanged_103 ?_
              refine zs_iinc (v := nI (j + 1)) hX rfl (znI1 _) (by decide) rfl d_M_isChanged_104 ?_
              refine zr_goto hX (tgt := 17) (by decide) d_M_isChanged_107 ?_
              exact ih_s hlt_s 1 _ (by rw [zfor_s, ← hs_s]; unfold st_M_isChanged; rw [if_pos h25]; rw [if_pos h60]; rw [if_neg h95]) hk_s fk_s
      · skip
        have ej_s : j = 4096 := by omega
        rw [ej_s] at hs_s
        refine zr_iload_n hX rfl d_M_isChanged_17 ?_
        refine zr_sipush (v := 4096) hX rfl d_M_isChanged_18 ?_
        refine zr_icmp_ge hX (tgt := 110) d_M_isChanged_21 (by decide) (fun _ => ?_) (fun h9 => absurd h9 (not_not_intro (nI_le (b := j) (Nat.le_of_not_lt hlt_s) (by omega))))
        refine zr_iload_n hX rfl d_M_isChanged_110 ?_
        exact zr_zret hX (z01 (z01_chg (by decide) hs_s)) d_M_isChanged_111 ⟨(by unfold s_M_isChanged; rw [← hs_s]; rw [if_pos h6]), hk_s, fk_s, rfl⟩
    exact L17 0 (Nat.zero_le _) _ _ rfl h zMf.rf
  · skip
    refine zr_iconst (v := 1) hX rfl d_M_isChanged_9 ?_
    refine zr_goto hX (tgt := 14) (by decide) d_M_isChanged_10 ?_
    refine zs_istore_n hX (by decide) rfl d_M_isChanged_14 ?_
    refine zr_iconst (v := 0) hX rfl d_M_isChanged_15 ?_
    refine zs_istore_n hX (by decide) rfl d_M_isChanged_16 ?_
    have L17 : ∀ j, j ≤ 4096 → ∀ (s : Int32) (G_s : zG), s = zfor j (st_M_isChanged u p hd) 1 → zMv u m G_s → zMf u m G G_s → zw g X (zMq (some (.int (s_M_isChanged u p hd))) u u m G) 17 [some (.ref m), some (.int (nI p)), some (.int s), some (.int (nI j))] [] G_s 0 0 := by
      refine zup 4096 (fun j hj_s ih_s => ?_)
      intro s G_s hs_s hk_s fk_s
      by_cases hlt_s : j < 4096
      · skip
        refine zr_iload_n hX rfl d_M_isChanged_17 ?_
        refine zr_sipush (v := 4096) hX rfl d_M_isChanged_18 ?_
        refine zr_icmp_ge hX (tgt := 110) d_M_isChanged_21 (by decide) (fun h9 => absurd h9 (nI_ge (b := 4096) hlt_s (by decide))) (fun _ => ?_)
        refine zr_iload_n hX rfl d_M_isChanged_24 ?_
        refine zr_if_ne hX (tgt := 110) d_M_isChanged_25 (by decide) (fun h25 => ?_) (fun h25 => ?_)
        · skip
          have hs9 := zfor_fix (fun k => by unfold st_M_isChanged; rw [if_neg h25]) hj_s hs_s
          refine zr_iload_n hX rfl d_M_isChanged_110 ?_
          exact zr_zret hX (z01 (z01_chg (by decide) hs9)) d_M_isChanged_111 ⟨(by unfold s_M_isChanged; rw [← hs9]; rw [if_neg h6]), hk_s, fk_s, rfl⟩
        · skip
          refine zr_aload_n hX rfl d_M_isChanged_28 ?_
          refine zr_get hX k_M 1 (by decide) q654 rfl hk_s.m rfl d_M_isChanged_29 ?_
          refine zr_sipush (v := 4096) hX rfl d_M_isChanged_32 ?_
          refine zr_bipush (v := 24) hX rfl d_M_isChanged_35 ?_
          refine zr_iload_n hX rfl d_M_isChanged_37 ?_
          refine zr_iadd hX d_M_isChanged_38 ?_
          refine zr_imul hX d_M_isChanged_39 ?_
          refine zr_iload_n hX rfl d_M_isChanged_40 ?_
          refine zr_iadd hX d_M_isChanged_41 ?_
          refine zr_ialdN hX (hk_s.ar 1 rfl) (4096 * (24 + p) + j) (zpl24 _ _) (by omega) (by decide) d_M_isChanged_42 ?_
          refine zr_aload_n hX rfl d_M_isChanged_43 ?_
          refine zr_get hX k_M 1 (by decide) q654 rfl hk_s.m rfl d_M_isChanged_44 ?_
          refine zr_sipush (v := 4096) hX rfl d_M_isChanged_47 ?_
          refine zr_aload_n hX rfl d_M_isChanged_50 ?_
          refine zr_get hX k_M 8 (by decide) q661 rfl hk_s.m rfl d_M_isChanged_51 ?_
          refine zr_iload_n hX rfl d_M_isChanged_54 ?_
          refine zr_ialdN hX (hk_s.ar 8 rfl) p rfl (by omega) (by decide) d_M_isChanged_55 ?_
          refine zr_imul hX d_M_isChanged_56 ?_
          refine zr_iload_n hX rfl d_M_isChanged_57 ?_
          refine zr_iadd hX d_M_isChanged_58 ?_
          refine zr_ialdN hX (hk_s.ar 1 rfl) (4096 * hd + j) (by rw [hhd]; exact zpl _ _) (by omega) (by decide) d_M_isChanged_59 ?_
          refine zr_icmp_ne hX (tgt := 98) d_M_isChanged_60 (by decide) (fun h60 => ?_) (fun h60 => ?_)
          · skip
            refine zr_iconst (v := 1) hX rfl d_M_isChanged_98 ?_
            refine zr_goto hX (tgt := 103) (by decide) d_M_isChanged_99 ?_
            refine zs_istore_n hX (by decide) rfl d_M_isChanged_103 ?_
            refine zs_iinc (v := nI (j + 1)) hX rfl (znI1 _) (by decide) rfl d_M_isChanged_104 ?_
            refine zr_goto hX (tgt := 17) (by decide) d_M_isChanged_107 ?_
            exact ih_s hlt_s 1 _ (by rw [zfor_s, ← hs_s]; unfold st_M_isChanged; rw [if_pos h25]; rw [if_neg h60]) hk_s fk_s
          · skip
            refine zr_aload_n hX rfl d_M_isChanged_63 ?_
            refine zr_get hX k_M 2 (by decide) q655 rfl hk_s.m rfl d_M_isChanged_64 ?_
            refine zr_sipush (v := 4096) hX rfl d_M_isChanged_67 ?_
            refine zr_bipush (v := 24) hX rfl d_M_isChanged_70 ?_
            refine zr_iload_n hX rfl d_M_isChanged_72 ?_
            refine zr_iadd hX d_M_isChanged_73 ?_
            refine zr_imul hX d_M_isChanged_74 ?_
            refine zr_iload_n hX rfl d_M_isChanged_75 ?_
            refine zr_iadd hX d_M_isChanged_76 ?_
            refine zr_ialdN hX (hk_s.ar 2 rfl) (4096 * (24 + p) + j) (zpl24 _ _) (by omega) (by decide) d_M_isChanged_77 ?_
            refine zr_aload_n hX rfl d_M_isChanged_78 ?_
            refine zr_get hX k_M 2 (by decide) q655 rfl hk_s.m rfl d_M_isChanged_79 ?_
            refine zr_sipush (v := 4096) hX rfl d_M_isChanged_82 ?_
            refine zr_aload_n hX rfl d_M_isChanged_85 ?_
            refine zr_get hX k_M 8 (by decide) q661 rfl hk_s.m rfl d_M_isChanged_86 ?_
            refine zr_iload_n hX rfl d_M_isChanged_89 ?_
            refine zr_ialdN hX (hk_s.ar 8 rfl) p rfl (by omega) (by decide) d_M_isChanged_90 ?_
            refine zr_imul hX d_M_isChanged_91 ?_
            refine zr_iload_n hX rfl d_M_isChanged_92 ?_
            refine zr_iadd hX d_M_isChanged_93 ?_
            refine zr_ialdN hX (hk_s.ar 2 rfl) (4096 * hd + j) (by rw [hhd]; exact zpl _ _) (by omega) (by decide) d_M_isChanged_94 ?_
            refine zr_icmp_eq hX (tgt := 102) d_M_isChanged_95 (by decide) (fun h95 => ?_) (fun h95 => ?_)
            · skip
              refine zr_iconst (v := 0) hX rfl d_M_isChanged_102 ?_
              refine zs_istore_n hX (by decide) rfl d_M_isChanged_103 ?_
              refine zs_iinc (v := nI (j + 1)) hX rfl (znI1 _) (by decide) rfl d_M_isChanged_104 ?_
              refine zr_goto hX (tgt := 17) (by decide) d_M_isChanged_107 ?_
              exact ih_s hlt_s 0 _ (by rw [zfor_s, ← hs_s]; unfold st_M_isChanged; rw [if_pos h25]; rw [if_pos h60]; rw [if_pos h95]) hk_s fk_s
            · skip
              refine zr_iconst (v := 1) hX rfl d_M_isChanged_98 ?_
              refine zr_goto hX (tgt := 103) (by decide) d_M_isChanged_99 ?_
              refine zs_istore_n hX (by decide) rfl d_M_isChanged_103 ?_
              refine zs_iinc (v := nI (j + 1)) hX rfl (znI1 _) (by decide) rfl d_M_isChanged_104 ?_
              refine zr_goto hX (tgt := 17) (by decide) d_M_isChanged_107 ?_
              exact ih_s hlt_s 1 _ (by rw [zfor_s, ← hs_s]; unfold st_M_isChanged; rw [if_pos h25]; rw [if_pos h60]; rw [if_neg h95]) hk_s fk_s
      · skip
        have ej_s : j = 4096 := by omega
        rw [ej_s] at hs_s
        refine zr_iload_n hX rfl d_M_isChanged_17 ?_
        refine zr_sipush (v := 4096) hX rfl d_M_isChanged_18 ?_
        refine zr_icmp_ge hX (tgt := 110) d_M_isChanged_21 (by decide) (fun _ => ?_) (fun h9 => absurd h9 (not_not_intro (nI_le (b := j) (Nat.le_of_not_lt hlt_s) (by omega))))
        refine zr_iload_n hX rfl d_M_isChanged_110 ?_
        exact zr_zret hX (z01 (z01_chg (by decide) hs_s)) d_M_isChanged_111 ⟨(by unfold s_M_isChanged; rw [← hs_s]; rw [if_neg h6]), hk_s, fk_s, rfl⟩
    exact L17 0 (Nat.zero_le _) _ _ rfl h zMf.rf
