def st_M_become (p q : Nat) (j : Nat) (s : zU) : zU := (zua (zua s 1 (upd (s.ar 1) (4096 * p + j) ((s.ar 1) (4096 * q + j)))) 2 (upd (s.ar 2) (4096 * p + j) ((s.ar 2) (4096 * q + j))))
theorem c_M_become (g : zGt) (d : Nat) (G : zG) (u : zU) (m : Nat) (h : zMv u m G) (p : Nat) (q : Nat) (hp : p < 28) (hq : q < 28) : zMet g y_M_become b_M_become 4 none [] d 0 0 [.ref m, .int (nI p), .int (nI q)] G (zMq none (zfor 4096 (st_M_become p q) u) u m G) := by
  refine zMet.of (by decide) (Nat.le_of_ble_eq_true rfl) rfl (fun X hX => ?_)
  refine zr_iconst (v := 0) hX rfl d_M_become_0 ?_
  refine zr_istore_n hX (by decide) d_M_become_1 ?_
  have L2 : ∀ j, j ≤ 4096 → ∀ (s : zU) (G_s : zG), s = zfor j (st_M_become p q) u → zMv s m G_s → zMf u m G G_s → s.1 = u.1 → zw g X (zMq none (zfor 4096 (st_M_become p q) u) u m G) 2 [some (.ref m), some (.int (nI p)), some (.int (nI q)), some (.int (nI j))] [] G_s 0 0 := by
    refine zup 4096 (fun j hj_s ih_s => ?_)
    intro s G_s hs_s hk_s fk_s ek_s
    by_cases hlt_s : j < 4096
    · skip
      refine zr_iload_n hX rfl d_M_become_2 ?_
      refine zr_sipush (v := 4096) hX rfl d_M_become_3 ?_
      refine zr_icmp_ge hX (tgt := 63) d_M_become_6 (by decide) (fun h9 => absurd h9 (nI_ge (b := 4096) hlt_s (by decide))) (fun _ => ?_)
      refine zr_aload_n hX rfl d_M_become_9 ?_
      refine zr_get hX k_M 1 (by decide) q654 rfl hk_s.m rfl d_M_become_10 ?_
      refine zr_sipush (v := 4096) hX rfl d_M_become_13 ?_
      refine zr_iload_n hX rfl d_M_become_16 ?_
      refine zr_imul hX d_M_become_17 ?_
      refine zr_iload_n hX rfl d_M_become_18 ?_
      refine zr_iadd hX d_M_become_19 ?_
      refine zr_aload_n hX rfl d_M_become_20 ?_
      refine zr_get hX k_M 1 (by decide) q654 rfl hk_s.m rfl d_M_become_21 ?_
      refine zr_sipush (v := 4096) hX rfl d_M_become_24 ?_
      refine zr_iload_n hX rfl d_M_become_27 ?_
      refine zr_imul hX d_M_become_28 ?_
      refine zr_iload_n hX rfl d_M_become_29 ?_
      refine zr_iadd hX d_M_become_30 ?_
      refine zr_ialdN hX (hk_s.ar 1 rfl) (4096 * q + j) (zpl _ _) (by omega) (by decide) d_M_become_31 ?_
      refine zr_iastN hX (hk_s.ar 1 rfl) (4096 * p + j) (zpl _ _) (by omega) (by decide) d_M_become_32 ?_
      refine zr_aload_n hX rfl d_M_become_33 ?_
      refine zr_get hX k_M 2 (by decide) q655 rfl (zput_k (zne hk_s.m (hk_s.ar 1 rfl) rfl) hk_s.m) rfl d_M_become_34 ?_
      refine zr_sipush (v := 4096) hX rfl d_M_become_37 ?_
      refine zr_iload_n hX rfl d_M_become_40 ?_
      refine zr_imul hX d_M_become_41 ?_
      refine zr_iload_n hX rfl d_M_become_42 ?_
      refine zr_iadd hX d_M_become_43 ?_
      refine zr_aload_n hX rfl d_M_become_44 ?_
      refine zr_get hX k_M 2 (by decide) q655 rfl (zput_k (zne hk_s.m (hk_s.ar 1 rfl) rfl) hk_s.m) rfl d_M_become_45 ?_
      refine zr_sipush (v := 4096) hX rfl d_M_become_48 ?_
      refine zr_iload_n hX rfl d_M_become_51 ?_
      refine zr_imul hX d_M_become_52 ?_
      refine zr_iload_n hX rfl d_M_become_53 ?_
      refine zr_iadd hX d_M_become_54 ?_
      refine zr_ialdN hX (zput_k (hk_s.ne 2 1 rfl rfl (by decide)) (hk_s.ar 2 rfl)) (4096 * q + j) (zpl _ _) (by omega) (by decide) d_M_become_55 ?_
      refine zr_iastN hX (zput_k (hk_s.ne 2 1 rfl rfl (by decide)) (hk_s.ar 2 rfl)) (4096 * p + j) (zpl _ _) (by omega) (by decide) d_M_become_56 ?_
      refine zr_iinc (v := nI (j + 1)) hX rfl (znI1 _) (by decide) d_M_become_57 ?_
      refine zr_goto hX (tgt := 2) (by decide) d_M_become_60 ?_
      exact ih_s hlt_s (zua (zua s 1 (upd (s.ar 1) (4096 * p + j) ((s.ar 1) (4096 * q + j)))) 2 (upd (s.ar 2) (4096 * p + j) ((s.ar 2) (4096 * q + j)))) _ (by rw [zfor_s, ← hs_s]; unfold st_M_become; rfl) (zMv.arr (zMv.arr hk_s 1 rfl _) 2 rfl _) (zMf.arr (zMf.arr fk_s 1 rfl (congrFun ek_s 1) _) 2 rfl (congrFun ek_s 2) _) ek_s
    · skip
      have ej_s : j = 4096 := by omega
      rw [ej_s] at hs_s
      refine zr_iload_n hX rfl d_M_become_2 ?_
      refine zr_sipush (v := 4096) hX rfl d_M_become_3 ?_
      refine zr_icmp_ge hX (tgt := 63) d_M_become_6 (by decide) (fun _ => ?_) (fun h9 => absurd h9 (not_not_intro (nI_le (b := j) (Nat.le_of_not_lt hlt_s) (by omega))))
      exact zr_vret hX d_M_become_63 ⟨rfl, hs_s ▸ hk_s, fk_s, hs_s ▸ ek_s⟩
  exact L2 0 (Nat.zero_le _) _ _ rfl h zMf.rf rfl
