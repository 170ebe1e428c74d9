theorem c_B_set (g : zGt) (d : Nat) (hdd : 1 ≤ d) (G : zG) (q bc : Nat) (t h9 mg : Int32) (kf : Option Nat) (f : Nat → Int64) (hq : G q = some (zO 2 [.ref bc, .int t, .int h9, .int mg, va_rf kf])) (hb : G bc = some (zJ 4096 f)) (i : Nat) (w : Int32) (hi : i < 4096) : zMet g y_B_set b_B_set 3 none [] d 0 0 [.ref q, .int (nI i), .int w] G (zD0 (zput G bc (zJ 4096 (vp_updL f i (zcell w (nI (98304 + i))))))) := by
  refine zMet.of (by decide) (Nat.le_of_ble_eq_true rfl) rfl (fun X hX => ?_)
  refine zr_aload_n hX rfl d_B_set_0 ?_
  refine zr_get hX k_B 0 (by decide) q63 rfl hq rfl d_B_set_1 ?_
  refine zr_iload_n hX rfl d_B_set_4 ?_
  refine zr_iload_n hX rfl d_B_set_5 ?_
  refine zr_ldc hX q449 d_B_set_6 ?_
  refine zr_icmp_ne hX (tgt := 17) d_B_set_8 (by decide) (fun h8 => ?_) (fun h8 => ?_)
  · skip
    refine zr_iload_n hX rfl d_B_set_17 ?_
    refine zr_bipush (v := 24) hX rfl d_B_set_18 ?_
    refine zr_iload_n hX rfl d_B_set_20 ?_
    refine zr_pS hX (c_S_originOf g (d - 1) _ 24 (nI i)) l_B_52 st_S_originOf f_S_originOf rfl (Nat.le_of_ble_eq_true rfl) (by omega) (Nat.zero_le _) (Nat.zero_le _) d_B_set_21 ?_
    refine zr_pS hX (c_S_cellOf g (d - 1) _ w (s_S_originOf 24 (nI i))) l_B_56 st_S_cellOf f_S_cellOf rfl (Nat.le_of_ble_eq_true rfl) (by omega) (Nat.zero_le _) (Nat.zero_le _) d_B_set_24 ?_
    refine zr_lastN hX hb i rfl (by omega) (by decide) d_B_set_27 ?_
    exact zr_vret hX d_B_set_28 ⟨rfl, by rw [← zset_v w hi, if_neg h8]⟩
  · skip
    refine zr_ldc2 hX q450 d_B_set_11 ?_
    refine zr_goto hX (tgt := 27) (by decide) d_B_set_14 ?_
    refine zr_lastN hX hb i rfl (by omega) (by decide) d_B_set_27 ?_
    exact zr_vret hX d_B_set_28 ⟨rfl, by rw [← zset_v w hi, if_pos h8]⟩
/-- what setIfOther leaves -/
def zsio (f : Nat → Int64) (i : Nat) (w : Int32) : Nat → Int64 := if s_S_valueOf (f i) = w then f else vp_updL f i (zcell w (nI (98304 + i)))
theorem c_S_setIfOther (g : zGt) (d : Nat) (hdd : 2 ≤ d) (G : zG) (q bc : Nat) (t h9 mg : Int32) (kf : Option Nat) (f : Nat → Int64) (hq : G q = some (zO 2 [.ref bc, .int t, .int h9, .int mg, va_rf kf])) (hb : G bc = some (zJ 4096 f)) (i : Nat) (w : Int32) (hi : i < 4096) : zMet g y_S_setIfOther b_S_setIfOther 3 none [] d 0 0 [.ref q, .int (nI i), .int w] G (zD0 (zput G bc (zJ 4096 (zsio f i w)))) := by
  refine zMet.of (by decide) (Nat.le_of_ble_eq_true rfl) rfl (fun X hX => ?_)
  refine zr_aload_n hX rfl d_S_setIfOther_0 ?_
  refine zr_get hX k_B 0 (by decide) q64 rfl hq rfl d_S_setIfOther_1 ?_
  refine zr_iload_n hX rfl d_S_setIfOther_4 ?_
  refine zr_laldN hX hb i rfl (by omega) (by decide) d_S_setIfOther_5 ?_
  refine zr_pS hX (c_S_valueOf g (d - 1) _ (f i)) l_S_142 st_S_valueOf f_S_valueOf rfl (Nat.le_of_ble_eq_true rfl) (by omega) (Nat.zero_le _) (Nat.zero_le _) d_S_setIfOther_6 ?_
  refine zr_iload_n hX rfl d_S_setIfOther_9 ?_
  refine zr_icmp_eq hX (tgt := 19) d_S_setIfOther_10 (by decide) (fun h10 => ?_) (fun h10 => ?_)
  · skip
    exact zr_vret hX d_S_setIfOther_19 ⟨rfl, by unfold zsio; rw [if_pos h10]; exact (zput_id hb).symm⟩
  · skip
    refine zr_aload_n hX rfl d_S_setIfOther_13 ?_
    refine zr_iload_n hX rfl d_S_setIfOther_14 ?_
    refine zr_iload_n hX rfl d_S_setIfOther_15 ?_
    refine zr_uV0 hX (c_B_set g (d - 1) (by omega) _ q bc t h9 mg kf f hq hb i w (by omega)) l_S_121 im_B_set se_B_set f_B_set k_B.1 hq rfl (Nat.le_of_ble_eq_true rfl) (by omega) (Nat.zero_le _) (Nat.zero_le _) d_S_setIfOther_16 ?_
    exact zr_vret hX d_S_setIfOther_19 ⟨rfl, by unfold zsio; rw [if_neg h10]⟩
def sp_S_mapped (v : zV) (w : Int32) (j : Nat) (_ : Unit) : Unit ⊕ Int32 := if v.ar 10 j = w then .inr (v.ar 11 j) else .inl ()
def s_S_mapped (v : zV) (w : Int32) : Int32 := zsel (zfor 8 (zstp (sp_S_mapped v w)) (.inl ())) (fun _ => w)
theorem c_S_mapped (g : zGt) (d : Nat) (G : zG) (v : zV) (x : Nat) (h : zSv v x G) (w : Int32)  : zMet g y_S_mapped b_S_mapped 3 (some .int) [] d 0 0 [.ref x, .int w] G (zD1 (.int (s_S_mapped v w)) G) := by
  refine zMet.of (by decide) (Nat.le_of_ble_eq_true rfl) rfl (fun X hX => ?_)
  refine zr_iconst (v := 0) hX rfl d_S_mapped_0 ?_
  refine zs_istore_n hX (by decide) rfl d_S_mapped_1 ?_
  have L2 : ∀ j, j ≤ 8 → ∀ (_ : Unit), (.inl () : Unit ⊕ Int32) = zfor j (zstp (sp_S_mapped v w)) (.inl ()) → zw g X (zD1 (.int (s_S_mapped v w)) G) 2 [some (.ref x), some (.int w), some (.int (nI j))] [] G 0 0 := by
    refine zup 8 (fun j hj_s ih_s => ?_)
    intro _  hs
    by_cases hlt_s : j < 8
    · skip
      refine zr_iload_n hX rfl d_S_mapped_2 ?_
      refine zr_bipush (v := 8) hX rfl d_S_mapped_3 ?_
      refine zr_icmp_ge hX (tgt := 31) d_S_mapped_5 (by decide) (fun h9 => absurd h9 (nI_ge (a := j) (b := 8) (by omega) (by decide))) (fun _ => ?_)
      refine zr_aload_n hX rfl d_S_mapped_8 ?_
      refine zr_get hX k_S 10 (by decide) q113 rfl h.x rfl d_S_mapped_9 ?_
      refine zr_iload_n hX rfl d_S_mapped_12 ?_
      refine zr_ialdN hX h.a10 j rfl (by omega) (by decide) d_S_mapped_13 ?_
      refine zr_iload_n hX rfl d_S_mapped_14 ?_
      refine zr_icmp_ne hX (tgt := 25) d_S_mapped_15 (by decide) (fun h15 => ?_) (fun h15 => ?_)
      · skip
        refine zs_iinc (v := nI (j + 1)) hX rfl (nI_add _ 1) (by decide) rfl d_S_mapped_25 ?_
        refine zr_goto hX (tgt := 2) (by decide) d_S_mapped_28 ?_
        exact ih_s hlt_s () (zstp_s hs (by unfold sp_S_mapped; rw [if_neg h15]))
      · skip
        refine zr_aload_n hX rfl d_S_mapped_18 ?_
        refine zr_get hX k_S 11 (by decide) q114 rfl h.x rfl d_S_mapped_19 ?_
        refine zr_iload_n hX rfl d_S_mapped_22 ?_
        refine zr_ialdN hX h.a11 j rfl (by omega) (by decide) d_S_mapped_23 ?_
        exact zr_iret hX d_S_mapped_24 ⟨by unfold s_S_mapped; rw [zstp_r (Nat.succ_le_of_lt hlt_s) (zstp_s (t := .inr (v.ar 11 j)) hs (by unfold sp_S_mapped; rw [if_pos h15]))]; rfl, rfl⟩
    · skip
      have ej_s : 8 = j := by omega
      subst ej_s
      refine zr_iload_n hX rfl d_S_mapped_2 ?_
      refine zr_bipush (v := 8) hX rfl d_S_mapped_3 ?_
      refine zr_icmp_ge hX (tgt := 31) d_S_mapped_5 (by decide) (fun _ => ?_) (fun h9 => absurd h9 (zq_leT (a := 8) (b := 8) (by omega) (by decide)))
      refine zr_iload_n hX rfl d_S_mapped_31 ?_
      exact zr_iret hX d_S_mapped_32 ⟨by unfold s_S_mapped; rw [← hs]; rfl, rfl⟩
  exact L2 0 (Nat.zero_le _) () rfl
