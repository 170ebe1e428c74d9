def st_M_become (p q : Nat) (j : Nat) (s : zU) : zU := (zua (zua s 1 (upd (s.ar 1) (4096 * p + j) ((s.ar 1) (4096 * q + j)))) 2 (upd (s.ar 2) (4096 * p + j) ((s.ar 2) (4096 * q + j))))
theorem c_M_become (g : zGt) (d : Nat) (G : zG) (u : zU) (m : Nat) (h : zMv u m G) (p : Nat) (q : Nat) (hp : p < 28) (hq : q < 28) : zMet g y_M_become b_M_become 4 none [] d 0 0 [.ref m, .int (nI p), .int (nI q)] G (zMq none (zfor 4096 (st_M_become p q) u) u m G) := by
  refine zMet.of (by decide) (Nat.le_of_ble_eq_true rfl) rfl (fun X hX => ?_)
  refine zr_iconst (v := 0) hX rfl d_M_become_0 ?_
  refine zs_istore_n hX (by decide) rfl d_M_become_1 ?_
  have L2 : ∀ j, j ≤ 4096 → ∀ (s : zU) (G_s : zG), s = zfor j (st_M_become p q) u → zMv s m G_s → zMf u m G G_s → s.1 = u.1 → s.2.1 = u.2.1 → zw g X (zMq none (zfor 4096 (st_M_become p q) u) u m G) 2 [some (.ref m), some (.int (nI p)), some (.int (nI q)), some (.int (nI j))] [] G_s 0 0 := by
    refine zup 4096 (fun j hj_s ih_s => ?_)
    intro s G_s hs_s hk_s fk_s ek_s ik_s
    by_cases hlt_s : j < 4096
    · skip
      refine zr_iload_n hX rfl d_M_become_2 ?_
      refine zr_sipush (v := 4096) hX rfl d_M_become_3 ?_
      refine zr_icmp_ge hX (tgt := 63) d_M_become_6 (by decide) (fun h9 => absurd h9 (nI_ge (b := 4096) hlt_s (by decide))) (fun _ => ?_)
      refine zr_aload_n hX rfl d_M_become_9 ?_
      refine zr_get hX k_M 1 (by decide) q654 rfl hk_s.m rfl d_M_become_10 ?_
      refine zr_sipush (v := 4096) hX rfl d_M_become_13 ?_
      refine zr_iload_n hX rfl d_M_become_16 ?_
      refine zr_imul hX d_M_become_17 ?_
      refine zr_iload_n hX rfl d_M_become_18 ?_
      refine zr_iadd hX d_M_become_19 ?_
      refine zr_aload_n hX rfl d_M_become_20 ?_
      refine zr_get hX k_M 1 (by decide) q654 rfl hk_s.m rfl d_M_become_21 ?_
      refine zr_sipush (v := 4096) hX rfl d_M_become_24 ?_
      refine zr_iload_n hX rfl d_M_become_27 ?_
      refine zr_imul hX d_M_become_28 ?_
      refine zr_iload_n hX rfl d_M_become_29 ?_
      refine zr_iadd hX d_M_become_30 ?_
      refine zr_ialdN hX (hk_s.ar 1 rfl) (4096 * q + j) (zpl _ _) (by omega) (by decide) d_M_become_31 ?_
      refine zr_iastN hX (hk_s.ar 1 rfl) (4096 * p + j) (zpl _ _) (by omega) (by decide) d_M_become_32 ?_
      refine zr_aload_n hX rfl d_M_become_33 ?_
      refine zr_get hX k_M 2 (by decide) q655 rfl (zput_k (zne hk_s.m (hk_s.ar 1 rfl) rfl) hk_s.m) rfl d_M_become_34 ?_
      refine zr_sipush (v := 4096) hX rfl d_M_become_37 ?_
      refine zr_iload_n hX rfl d_M_become_40 ?_
      refine zr_imul hX d_M_become_41 ?_
      refine zr_iload_n hX rfl d_M_become_42 ?_
      refine zr_iadd hX d_M_become_43 ?_
      refine zr_aload_n hX rfl d_M_become_44 ?_
      refine zr_get hX k_M 2 (by decide) q655 rfl (zput_k (zne hk_s.m (hk_s.ar 1 rfl) rfl) hk_s.m) rfl d_M_become_45 ?_
      refine zr_sipush (v := 4096) hX rfl d_M_become_48 ?_
      refine zr_iload_n hX rfl d_M_become_51 ?_
      refine zr_imul hX d_M_become_52 ?_
      refine zr_iload_n hX rfl d_M_become_53 ?_
      refine zr_iadd hX d_M_become_54 ?_
      refine zr_ialdN hX (zput_k (hk_s.ne 2 1 rfl rfl (by decide)) (hk_s.ar 2 rfl)) (4096 * q + j) (zpl _ _) (by omega) (by decide) d_M_become_55 ?_
      refine zr_iastN hX (zput_k (hk_s.ne 2 1 rfl rfl (by decide)) (hk_s.ar 2 rfl)) (4096 * p + j) (zpl _ _) (by omega) (by decide) d_M_become_56 ?_
      refine zs_iinc (v := nI (j + 1)) hX rfl (znI1 _) (by decide) rfl d_M_become_57 ?_
      refine zr_goto hX (tgt := 2) (by decide) d_M_become_60 ?_
      exact ih_s hlt_s (zua (zua s 1 (upd (s.ar 1) (4096 * p + j) ((s.ar 1) (4096 * q + j)))) 2 (upd (s.ar 2) (4096 * p + j) ((s.ar 2) (4096 * q + j)))) _ (by rw [zfor_s, ← hs_s]; unfold st_M_become; rfl) (zMv.arr (zMv.arr hk_s 1 rfl _) 2 rfl _) (zMf.arr (zMf.arr fk_s 1 rfl (congrFun ek_s 1) _) 2 rfl (congrFun ek_s 2) _) ek_s ik_s
    · skip
      have ej_s : j = 4096 := by omega
      rw [ej_s] at hs_s
      refine zr_iload_n hX rfl d_M_become_2 ?_
      refine zr_sipush (v := 4096) hX rfl d_M_become_3 ?_
      refine zr_icmp_ge hX (tgt := 63) d_M_become_6 (by decide) (fun _ => ?_) (fun h9 => absurd h9 (not_not_intro (nI_le (b := j) (Nat.le_of_not_lt hlt_s) (by omega))))
      exact zr_vret hX d_M_become_63 ⟨rfl, hs_s ▸ hk_s, fk_s, hs_s ▸ ek_s⟩
  exact L2 0 (Nat.zero_le _) _ _ rfl h zMf.rf rfl rfl
def s_M_fails (p : Int32) : Int32 := if p = 0 then 0 else 1
theorem c_M_fails (g : zGt) (d : Nat) (G : zG) (u : zU) (m : Nat) (h : zMv u m G) (p : Int32) (hp : p = 0 ∨ p = 1) : zMet g y_M_fails b_M_fails 2 (some .boolean) [] d 0 0 [.ref m, .int p] G (zMq (some (.int p)) (zuc u 0 (s_M_fails p)) u m G) := by
  refine zMet.of (by decide) (Nat.le_of_ble_eq_true rfl) rfl (fun X hX => ?_)
  refine zr_aload_n hX rfl d_M_fails_0 ?_
  refine zr_iload_n hX rfl d_M_fails_1 ?_
  refine zr_if_eq hX (tgt := 9) d_M_fails_2 (by decide) (fun h2 => ?_) (fun h2 => ?_)
  · skip
    refine zr_iconst (v := 0) hX rfl d_M_fails_9 ?_
    refine zr_put hX k_M 0 (by decide) q653 rfl rfl rfl rfl (Nat.le_of_ble_eq_true rfl) h.m d_M_fails_10 ?_
    refine zr_iload_n hX rfl d_M_fails_13 ?_
    exact zr_zret hX (z01 hp) d_M_fails_14 ⟨rfl, by unfold s_M_fails; rw [if_pos h2]; exact (zMv.put h (upd u.2.1 0 0)), (zMf.obj zMf.rf _), rfl⟩
  · skip
    refine zr_iconst (v := 1) hX rfl d_M_fails_5 ?_
    refine zr_goto hX (tgt := 10) (by decide) d_M_fails_6 ?_
    refine zr_put hX k_M 0 (by decide) q653 rfl rfl rfl rfl (Nat.le_of_ble_eq_true rfl) h.m d_M_fails_10 ?_
    refine zr_iload_n hX rfl d_M_fails_13 ?_
    exact zr_zret hX (z01 hp) d_M_fails_14 ⟨rfl, by unfold s_M_fails; rw [if_neg h2]; exact (zMv.put h (upd u.2.1 0 1)), (zMf.obj zMf.rf _), rfl⟩
theorem c_M_fails0 (g : zGt) (d : Nat) (G : zG) (u : zU) (m : Nat) (h : zMv u m G) : zMet g y_M_fails b_M_fails 2 (some .boolean) [] d 0 0 [.ref m, .int 0] G (zMq (some (.int 0)) (zuc u 0 0) u m G) := c_M_fails g d G u m h 0 (Or.inl rfl)
theorem c_M_fails1 (g : zGt) (d : Nat) (G : zG) (u : zU) (m : Nat) (h : zMv u m G) : zMet g y_M_fails b_M_fails 2 (some .boolean) [] d 0 0 [.ref m, .int 1] G (zMq (some (.int 1)) (zuc u 0 1) u m G) := c_M_fails g d G u m h 1 (Or.inr rfl)
/-- the reference's 'give': branch b's cell c gets the value w -/
def zgive (u : zU) (b c : Nat) (w : Int32) : zU := zua (zua u 1 (upd (u.ar 1) (4096 * (24 + b) + c) w)) 2 (upd (u.ar 2) (4096 * (24 + b) + c) (if w = (-2147483648) then (-1) else 98304 + nI c))
theorem c_M_give (g : zGt) (d : Nat) (G : zG) (u : zU) (m : Nat) (h : zMv u m G) (p : Nat) (q : Nat) (w : Int32) (hp : p < 4) (hq : q < 4096) : zMet g y_M_give b_M_give 4 none [] d 0 0 [.ref m, .int (nI p), .int (nI q), .int w] G (zMq none (zgive u p q w) u m G) := by
  refine zMet.of (by decide) (Nat.le_of_ble_eq_true rfl) rfl (fun X hX => ?_)
  refine zr_aload_n hX rfl d_M_give_0 ?_
  refine zr_get hX k_M 1 (by decide) q654 rfl h.m rfl d_M_give_1 ?_
  refine zr_sipush (v := 4096) hX rfl d_M_give_4 ?_
  refine zr_bipush (v := 24) hX rfl d_M_give_7 ?_
  refine zr_iload_n hX rfl d_M_give_9 ?_
  refine zr_iadd hX d_M_give_10 ?_
  refine zr_imul hX d_M_give_11 ?_
  refine zr_iload_n hX rfl d_M_give_12 ?_
  refine zr_iadd hX d_M_give_13 ?_
  refine zr_iload_n hX rfl d_M_give_14 ?_
  refine zr_iastN hX (h.ar 1 rfl) (4096 * (24 + p) + q) (zpl24 _ _) (by omega) (by decide) d_M_give_15 ?_
  refine zr_aload_n hX rfl d_M_give_16 ?_
  refine zr_get hX k_M 2 (by decide) q655 rfl (zput_k (zne h.m (h.ar 1 rfl) rfl) h.m) rfl d_M_give_17 ?_
  refine zr_sipush (v := 4096) hX rfl d_M_give_20 ?_
  refine zr_bipush (v := 24) hX rfl d_M_give_23 ?_
  refine zr_iload_n hX rfl d_M_give_25 ?_
  refine zr_iadd hX d_M_give_26 ?_
  refine zr_imul hX d_M_give_27 ?_
  refine zr_iload_n hX rfl d_M_give_28 ?_
  refine zr_iadd hX d_M_give_29 ?_
  refine zr_iload_n hX rfl d_M_give_30 ?_
  refine zr_ldc hX q652 d_M_give_31 ?_
  refine zr_icmp_ne hX (tgt := 40) d_M_give_33 (by decide) (fun h33 => ?_) (fun h33 => ?_)
  · skip
    refine zr_ldc hX q793 d_M_give_40 ?_
    refine zr_iload_n hX rfl d_M_give_42 ?_
    refine zr_iadd hX d_M_give_43 ?_
    refine zr_iastN hX (zput_k (h.ne 2 1 rfl rfl (by decide)) (h.ar 2 rfl)) (4096 * (24 + p) + q) (zpl24 _ _) (by omega) (by decide) d_M_give_44 ?_
    exact zr_vret hX d_M_give_45 ⟨rfl, by unfold zgive; rw [if_neg h33]; exact (zMv.arr (zMv.arr h 1 rfl _) 2 rfl _), (zMf.arr (zMf.arr zMf.rf 1 rfl rfl _) 2 rfl rfl _), rfl⟩
  · skip
    refine zr_iconst (v := (-1)) hX rfl d_M_give_36 ?_
    refine zr_goto hX (tgt := 44) (by decide) d_M_give_37 ?_
    refine zr_iastN hX (zput_k (h.ne 2 1 rfl rfl (by decide)) (h.ar 2 rfl)) (4096 * (24 + p) + q) (zpl24 _ _) (by omega) (by decide) d_M_give_44 ?_
    exact zr_vret hX d_M_give_45 ⟨rfl, by unfold zgive; rw [if_pos h33]; exact (zMv.arr (zMv.arr h 1 rfl _) 2 rfl _), (zMf.arr (zMf.arr zMf.rf 1 rfl rfl _) 2 rfl rfl _), rfl⟩
def s_M_madeIn (u : zU) (p : Nat) : Int32 := if 0 ≤ u.ar 2 p then u.ar 2 p / 4096 else (-1)
theorem c_M_madeIn (g : zGt) (d : Nat) (G : zG) (u : zU) (m : Nat) (h : zMv u m G) (p : Nat) (hp : p < 114688) : zMet g y_M_madeIn b_M_madeIn 2 (some .int) [] d 0 0 [.ref m, .int (nI p)] G (zD1 (.int (s_M_madeIn u p)) G) := by
  refine zMet.of (by decide) (Nat.le_of_ble_eq_true rfl) rfl (fun X hX => ?_)
  refine zr_aload_n hX rfl d_M_madeIn_0 ?_
  refine zr_get hX k_M 2 (by decide) q655 rfl h.m rfl d_M_madeIn_1 ?_
  refine zr_iload_n hX rfl d_M_madeIn_4 ?_
  refine zr_ialdN hX (h.ar 2 rfl) p rfl hp (by decide) d_M_madeIn_5 ?_
  refine zr_if_ge hX (tgt := 13) d_M_madeIn_6 (by decide) (fun h6 => ?_) (fun h6 => ?_)
  · skip
    refine zr_aload_n hX rfl d_M_madeIn_13 ?_
    refine zr_get hX k_M 2 (by decide) q655 rfl h.m rfl d_M_madeIn_14 ?_
    refine zr_iload_n hX rfl d_M_madeIn_17 ?_
    refine zr_ialdN hX (h.ar 2 rfl) p rfl hp (by decide) d_M_madeIn_18 ?_
    refine zr_sipush (v := 4096) hX rfl d_M_madeIn_19 ?_
    refine zr_idiv hX (by decide) d_M_madeIn_22 ?_
    exact zr_iret hX d_M_madeIn_23 (zD1.i (by unfold s_M_madeIn; rw [if_pos h6]))
  · skip
    refine zr_iconst (v := (-1)) hX rfl d_M_madeIn_9 ?_
    refine zr_goto hX (tgt := 23) (by decide) d_M_madeIn_10 ?_
    exact zr_iret hX d_M_madeIn_23 (zD1.i (by unfold s_M_madeIn; rw [if_neg h6]))
def znote (u : zU) (b : Nat) (c x y z : Int32) (e : Nat) : zU := zua (zua (zua (zua (zua (zua u 10 (upd (u.ar 10) (4096 * b + e) c)) 11 (upd (u.ar 11) (4096 * b + e) x)) 12 (upd (u.ar 12) (4096 * b + e) y)) 13 (upd (u.ar 13) (4096 * b + e) z)) 15 (upd (u.ar 15) (4096 * b + e) 0)) 14 (upd (u.ar 14) b (u.ar 14 b + 1))
theorem c_M_note (g : zGt) (d : Nat) (G : zG) (u : zU) (m : Nat) (h : zMv u m G) (p : Nat) (c : Int32) (x : Int32) (y : Int32) (z : Int32) (hp : p < 4) (e : Nat) (he : u.ar 14 p = nI e) (hl : e < 4096) : zMet g y_M_note b_M_note 7 none [] d 0 0 [.ref m, .int (nI p), .int c, .int x, .int y, .int z] G (zMq none (znote u p c x y z e) u m G) := by
  refine zMet.of (by decide) (Nat.le_of_ble_eq_true rfl) rfl (fun X hX => ?_)
  refine zr_sipush (v := 4096) hX rfl d_M_note_0 ?_
  refine zr_iload_n hX rfl d_M_note_3 ?_
  refine zr_imul hX d_M_note_4 ?_
  refine zr_aload_n hX rfl d_M_note_5 ?_
  refine zr_get hX k_M 14 (by decide) q667 rfl h.m rfl d_M_note_6 ?_
  refine zr_iload_n hX rfl d_M_note_9 ?_
  refine zr_ialdN hX (h.ar 14 rfl) p rfl (by omega) (by decide) d_M_note_10 ?_
  refine zr_iadd hX d_M_note_11 ?_
  refine zs_istore hX (by decide) rfl d_M_note_12 ?_
  refine zr_aload_n hX rfl d_M_note_14 ?_
  refine zr_get hX k_M 10 (by decide) q663 rfl h.m rfl d_M_note_15 ?_
  refine zr_iload hX rfl d_M_note_18 ?_
  refine zr_iload_n hX rfl d_M_note_20 ?_
  refine zr_iastN hX (h.ar 10 rfl) (4096 * p + e) (by rw [he]; exact zpl _ _) (by omega) (by decide) d_M_note_21 ?_
  refine zr_aload_n hX rfl d_M_note_22 ?_
  refine zr_get hX k_M 11 (by decide) q664 rfl (zput_k (zne h.m (h.ar 10 rfl) rfl) h.m) rfl d_M_note_23 ?_
  refine zr_iload hX rfl d_M_note_26 ?_
  refine zr_iload_n hX rfl d_M_note_28 ?_
  refine zr_iastN hX (zput_k (h.ne 11 10 rfl rfl (by decide)) (h.ar 11 rfl)) (4096 * p + e) (by rw [he]; exact zpl _ _) (by omega) (by decide) d_M_note_29 ?_
  refine zr_aload_n hX rfl d_M_note_30 ?_
  refine zr_get hX k_M 12 (by decide) q665 rfl (zput_k (zne h.m (h.ar 11 rfl) rfl) (zput_k (zne h.m (h.ar 10 rfl) rfl) h.m)) rfl d_M_note_31 ?_
  refine zr_iload hX rfl d_M_note_34 ?_
  refine zr_iload hX rfl d_M_note_36 ?_
  refine zr_iastN hX (zput_k (h.ne 12 11 rfl rfl (by decide)) (zput_k (h.ne 12 10 rfl rfl (by decide)) (h.ar 12 rfl))) (4096 * p + e) (by rw [he]; exact zpl _ _) (by omega) (by decide) d_M_note_38 ?_
  refine zr_aload_n hX rfl d_M_note_39 ?_
  refine zr_get hX k_M 13 (by decide) q666 rfl (zput_k (zne h.m (h.ar 12 rfl) rfl) (zput_k (zne h.m (h.ar 11 rfl) rfl) (zput_k (zne h.m (h.ar 10 rfl) rfl) h.m))) rfl d_M_note_40 ?_
  refine zr_iload hX rfl d_M_note_43 ?_
  refine zr_iload hX rfl d_M_note_45 ?_
  refine zr_iastN hX (zput_k (h.ne 13 12 rfl rfl (by decide)) (zput_k (h.ne 13 11 rfl rfl (by decide)) (zput_k (h.ne 13 10 rfl rfl (by decide)) (h.ar 13 rfl)))) (4096 * p + e) (by rw [he]; exact zpl _ _) (by omega) (by decide) d_M_note_47 ?_
  refine zr_aload_n hX rfl d_M_note_48 ?_
  refine zr_get hX k_M 15 (by decide) q668 rfl (zput_k (zne h.m (h.ar 13 rfl) rfl) (zput_k (zne h.m (h.ar 12 rfl) rfl) (zput_k (zne h.m (h.ar 11 rfl) rfl) (zput_k (zne h.m (h.ar 10 rfl) rfl) h.m)))) rfl d_M_note_49 ?_
  refine zr_iload hX rfl d_M_note_52 ?_
  refine zr_iconst (v := 0) hX rfl d_M_note_54 ?_
  refine zr_zastN hX (zput_k (h.ne 15 13 rfl rfl (by decide)) (zput_k (h.ne 15 12 rfl rfl (by decide)) (zput_k (h.ne 15 11 rfl rfl (by decide)) (zput_k (h.ne 15 10 rfl rfl (by decide)) (h.ar 15 rfl))))) (4096 * p + e) (by rw [he]; exact zpl _ _) (by omega) (by decide) rfl d_M_note_55 ?_
  refine zr_aload_n hX rfl d_M_note_56 ?_
  refine zr_get hX k_M 14 (by decide) q667 rfl (zput_k (zne h.m (h.ar 15 rfl) rfl) (zput_k (zne h.m (h.ar 13 rfl) rfl) (zput_k (zne h.m (h.ar 12 rfl) rfl) (zput_k (zne h.m (h.ar 11 rfl) rfl) (zput_k (zne h.m (h.ar 10 rfl) rfl) h.m))))) rfl d_M_note_57 ?_
  refine zr_iload_n hX rfl d_M_note_60 ?_
  refine zr_dup2 hX rfl rfl d_M_note_61 ?_
  refine zr_ialdN hX (zput_k (h.ne 14 15 rfl rfl (by decide)) (zput_k (h.ne 14 13 rfl rfl (by decide)) (zput_k (h.ne 14 12 rfl rfl (by decide)) (zput_k (h.ne 14 11 rfl rfl (by decide)) (zput_k (h.ne 14 10 rfl rfl (by decide)) (h.ar 14 rfl)))))) p rfl (by omega) (by decide) d_M_note_62 ?_
  refine zr_iconst (v := 1) hX rfl d_M_note_63 ?_
  refine zr_iadd hX d_M_note_64 ?_
  refine zr_iastN hX (zput_k (h.ne 14 15 rfl rfl (by decide)) (zput_k (h.ne 14 13 rfl rfl (by decide)) (zput_k (h.ne 14 12 rfl rfl (by decide)) (zput_k (h.ne 14 11 rfl rfl (by decide)) (zput_k (h.ne 14 10 rfl rfl (by decide)) (h.ar 14 rfl)))))) p rfl (by omega) (by decide) d_M_note_65 ?_
  exact zr_vret hX d_M_note_66 ⟨rfl, (zMv.arr (zMv.arr (zMv.arr (zMv.arr (zMv.arr (zMv.arr h 10 rfl _) 11 rfl _) 12 rfl _) 13 rfl _) 15 rfl _) 14 rfl _), (zMf.arr (zMf.arr (zMf.arr (zMf.arr (zMf.arr (zMf.arr zMf.rf 10 rfl rfl _) 11 rfl rfl _) 12 rfl rfl _) 13 rfl rfl _) 15 rfl rfl _) 14 rfl rfl _), rfl⟩
