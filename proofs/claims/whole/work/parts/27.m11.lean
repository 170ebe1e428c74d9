def st_M_merge (p c : Nat) (j : Nat) (s : zU) : zU := if ((s.ar 1) ((4096 * (24 + p)) + j)) = ((s.ar 1) ((4096 * c) + j)) then s else if ((s.ar 1) ((4096 * c) + j)) = ((s.ar 26) j) then s else if ((s.ar 1) ((4096 * (24 + p)) + j)) = ((s.ar 26) j) then (zua (zua s 1 (upd (s.ar 1) ((4096 * (24 + p)) + j) ((s.ar 1) ((4096 * c) + j)))) 2 (upd (s.ar 2) ((4096 * (24 + p)) + j) ((s.ar 2) ((4096 * c) + j)))) else if ((s.ar 3) (j / 1024)) = 1 then if ((s.ar 1) ((4096 * (24 + p)) + j)) < ((s.ar 1) ((4096 * c) + j)) then if ((s.ar 3) (j / 1024)) = 0 then (zua (zua (znote s p (nI j) ((s.ar 1) ((4096 * (24 + p)) + j)) ((s.ar 1) ((4096 * c) + j)) ((s.ar 26) j) (s.ar 14 p).toNatClampNeg) 1 (upd ((znote s p (nI j) ((s.ar 1) ((4096 * (24 + p)) + j)) ((s.ar 1) ((4096 * c) + j)) ((s.ar 26) j) (s.ar 14 p).toNatClampNeg).ar 1) ((4096 * (24 + p)) + j) ((s.ar 1) ((4096 * c) + j)))) 2 (upd ((znote s p (nI j) ((s.ar 1) ((4096 * (24 + p)) + j)) ((s.ar 1) ((4096 * c) + j)) ((s.ar 26) j) (s.ar 14 p).toNatClampNeg).ar 2) ((4096 * (24 + p)) + j) (((znote s p (nI j) ((s.ar 1) ((4096 * (24 + p)) + j)) ((s.ar 1) ((4096 * c) + j)) ((s.ar 26) j) (s.ar 14 p).toNatClampNeg).ar 2) ((4096 * c) + j)))) else (zua (zua s 1 (upd (s.ar 1) ((4096 * (24 + p)) + j) ((s.ar 1) ((4096 * c) + j)))) 2 (upd (s.ar 2) ((4096 * (24 + p)) + j) ((s.ar 2) ((4096 * c) + j)))) else if ((s.ar 3) (j / 1024)) = 2 then if ((s.ar 1) ((4096 * c) + j)) < ((s.ar 1) ((4096 * (24 + p)) + j)) then if ((s.ar 3) (j / 1024)) = 0 then (zua (zua (znote s p (nI j) ((s.ar 1) ((4096 * (24 + p)) + j)) ((s.ar 1) ((4096 * c) + j)) ((s.ar 26) j) (s.ar 14 p).toNatClampNeg) 1 (upd ((znote s p (nI j) ((s.ar 1) ((4096 * (24 + p)) + j)) ((s.ar 1) ((4096 * c) + j)) ((s.ar 26) j) (s.ar 14 p).toNatClampNeg).ar 1) ((4096 * (24 + p)) + j) ((s.ar 1) ((4096 * c) + j)))) 2 (upd ((znote s p (nI j) ((s.ar 1) ((4096 * (24 + p)) + j)) ((s.ar 1) ((4096 * c) + j)) ((s.ar 26) j) (s.ar 14 p).toNatClampNeg).ar 2) ((4096 * (24 + p)) + j) (((znote s p (nI j) ((s.ar 1) ((4096 * (24 + p)) + j)) ((s.ar 1) ((4096 * c) + j)) ((s.ar 26) j) (s.ar 14 p).toNatClampNeg).ar 2) ((4096 * c) + j)))) else (zua (zua s 1 (upd (s.ar 1) ((4096 * (24 + p)) + j) ((s.ar 1) ((4096 * c) + j)))) 2 (upd (s.ar 2) ((4096 * (24 + p)) + j) ((s.ar 2) ((4096 * c) + j)))) else if ((s.ar 3) (j / 1024)) = 3 then if (s_M_madeIn s ((4096 * c) + j)) ≤ (s_M_madeIn s ((4096 * (24 + p)) + j)) then if ((s.ar 3) (j / 1024)) = 0 then (znote s p (nI j) ((s.ar 1) ((4096 * (24 + p)) + j)) ((s.ar 1) ((4096 * c) + j)) ((s.ar 26) j) (s.ar 14 p).toNatClampNeg) else s else if ((s.ar 3) (j / 1024)) = 0 then (zua (zua (znote s p (nI j) ((s.ar 1) ((4096 * (24 + p)) + j)) ((s.ar 1) ((4096 * c) + j)) ((s.ar 26) j) (s.ar 14 p).toNatClampNeg) 1 (upd ((znote s p (nI j) ((s.ar 1) ((4096 * (24 + p)) + j)) ((s.ar 1) ((4096 * c) + j)) ((s.ar 26) j) (s.ar 14 p).toNatClampNeg).ar 1) ((4096 * (24 + p)) + j) ((s.ar 1) ((4096 * c) + j)))) 2 (upd ((znote s p (nI j) ((s.ar 1) ((4096 * (24 + p)) + j)) ((s.ar 1) ((4096 * c) + j)) ((s.ar 26) j) (s.ar 14 p).toNatClampNeg).ar 2) ((4096 * (24 + p)) + j) (((znote s p (nI j) ((s.ar 1) ((4096 * (24 + p)) + j)) ((s.ar 1) ((4096 * c) + j)) ((s.ar 26) j) (s.ar 14 p).toNatClampNeg).ar 2) ((4096 * c) + j)))) else (zua (zua s 1 (upd (s.ar 1) ((4096 * (24 + p)) + j) ((s.ar 1) ((4096 * c) + j)))) 2 (upd (s.ar 2) ((4096 * (24 + p)) + j) ((s.ar 2) ((4096 * c) + j)))) else if ((s.ar 3) (j / 1024)) = 0 then (znote s p (nI j) ((s.ar 1) ((4096 * (24 + p)) + j)) ((s.ar 1) ((4096 * c) + j)) ((s.ar 26) j) (s.ar 14 p).toNatClampNeg) else s else if ((s.ar 3) (j / 1024)) = 3 then if (s_M_madeIn s ((4096 * c) + j)) ≤ (s_M_madeIn s ((4096 * (24 + p)) + j)) then if ((s.ar 3) (j / 1024)) = 0 then (znote s p (nI j) ((s.ar 1) ((4096 * (24 + p)) + j)) ((s.ar 1) ((4096 * c) + j)) ((s.ar 26) j) (s.ar 14 p).toNatClampNeg) else s else if ((s.ar 3) (j / 1024)) = 0 then (zua (zua (znote s p (nI j) ((s.ar 1) ((4096 * (24 + p)) + j)) ((s.ar 1) ((4096 * c) + j)) ((s.ar 26) j) (s.ar 14 p).toNatClampNeg) 1 (upd ((znote s p (nI j) ((s.ar 1) ((4096 * (24 + p)) + j)) ((s.ar 1) ((4096 * c) + j)) ((s.ar 26) j) (s.ar 14 p).toNatClampNeg).ar 1) ((4096 * (24 + p)) + j) ((s.ar 1) ((4096 * c) + j)))) 2 (upd ((znote s p (nI j) ((s.ar 1) ((4096 * (24 + p)) + j)) ((s.ar 1) ((4096 * c) + j)) ((s.ar 26) j) (s.ar 14 p).toNatClampNeg).ar 2) ((4096 * (24 + p)) + j) (((znote s p (nI j) ((s.ar 1) ((4096 * (24 + p)) + j)) ((s.ar 1) ((4096 * c) + j)) ((s.ar 26) j) (s.ar 14 p).toNatClampNeg).ar 2) ((4096 * c) + j)))) else (zua (zua s 1 (upd (s.ar 1) ((4096 * (24 + p)) + j) ((s.ar 1) ((4096 * c) + j)))) 2 (upd (s.ar 2) ((4096 * (24 + p)) + j) ((s.ar 2) ((4096 * c) + j)))) else if ((s.ar 3) (j / 1024)) = 0 then (znote s p (nI j) ((s.ar 1) ((4096 * (24 + p)) + j)) ((s.ar 1) ((4096 * c) + j)) ((s.ar 26) j) (s.ar 14 p).toNatClampNeg) else s else if ((s.ar 3) (j / 1024)) = 2 then if ((s.ar 1) ((4096 * c) + j)) < ((s.ar 1) ((4096 * (24 + p)) + j)) then if ((s.ar 3) (j / 1024)) = 0 then (zua (zua (znote s p (nI j) ((s.ar 1) ((4096 * (24 + p)) + j)) ((s.ar 1) ((4096 * c) + j)) ((s.ar 26) j) (s.ar 14 p).toNatClampNeg) 1 (upd ((znote s p (nI j) ((s.ar 1) ((4096 * (24 + p)) + j)) ((s.ar 1) ((4096 * c) + j)) ((s.ar 26) j) (s.ar 14 p).toNatClampNeg).ar 1) ((4096 * (24 + p)) + j) ((s.ar 1) ((4096 * c) + j)))) 2 (upd ((znote s p (nI j) ((s.ar 1) ((4096 * (24 + p)) + j)) ((s.ar 1) ((4096 * c) + j)) ((s.ar 26) j) (s.ar 14 p).toNatClampNeg).ar 2) ((4096 * (24 + p)) + j) (((znote s p (nI j) ((s.ar 1) ((4096 * (24 + p)) + j)) ((s.ar 1) ((4096 * c) + j)) ((s.ar 26) j) (s.ar 14 p).toNatClampNeg).ar 2) ((4096 * c) + j)))) else (zua (zua s 1 (upd (s.ar 1) ((4096 * (24 + p)) + j) ((s.ar 1) ((4096 * c) + j)))) 2 (upd (s.ar 2) ((4096 * (24 + p)) + j) ((s.ar 2) ((4096 * c) + j)))) else if ((s.ar 3) (j / 1024)) = 3 then if (s_M_madeIn s ((4096 * c) + j)) ≤ (s_M_madeIn s ((4096 * (24 + p)) + j)) then if ((s.ar 3) (j / 1024)) = 0 then (znote s p (nI j) ((s.ar 1) ((4096 * (24 + p)) + j)) ((s.ar 1) ((4096 * c) + j)) ((s.ar 26) j) (s.ar 14 p).toNatClampNeg) else s else if ((s.ar 3) (j / 1024)) = 0 then (zua (zua (znote s p (nI j) ((s.ar 1) ((4096 * (24 + p)) + j)) ((s.ar 1) ((4096 * c) + j)) ((s.ar 26) j) (s.ar 14 p).toNatClampNeg) 1 (upd ((znote s p (nI j) ((s.ar 1) ((4096 * (24 + p)) + j)) ((s.ar 1) ((4096 * c) + j)) ((s.ar 26) j) (s.ar 14 p).toNatClampNeg).ar 1) ((4096 * (24 + p)) + j) ((s.ar 1) ((4096 * c) + j)))) 2 (upd ((znote s p (nI j) ((s.ar 1) ((4096 * (24 + p)) + j)) ((s.ar 1) ((4096 * c) + j)) ((s.ar 26) j) (s.ar 14 p).toNatClampNeg).ar 2) ((4096 * (24 + p)) + j) (((znote s p (nI j) ((s.ar 1) ((4096 * (24 + p)) + j)) ((s.ar 1) ((4096 * c) + j)) ((s.ar 26) j) (s.ar 14 p).toNatClampNeg).ar 2) ((4096 * c) + j)))) else (zua (zua s 1 (upd (s.ar 1) ((4096 * (24 + p)) + j) ((s.ar 1) ((4096 * c) + j)))) 2 (upd (s.ar 2) ((4096 * (24 + p)) + j) ((s.ar 2) ((4096 * c) + j)))) else if ((s.ar 3) (j / 1024)) = 0 then (znote s p (nI j) ((s.ar 1) ((4096 * (24 + p)) + j)) ((s.ar 1) ((4096 * c) + j)) ((s.ar 26) j) (s.ar 14 p).toNatClampNeg) else s else if ((s.ar 3) (j / 1024)) = 3 then if (s_M_madeIn s ((4096 * c) + j)) ≤ (s_M_madeIn s ((4096 * (24 + p)) + j)) then if ((s.ar 3) (j / 1024)) = 0 then (znote s p (nI j) ((s.ar 1) ((4096 * (24 + p)) + j)) ((s.ar 1) ((4096 * c) + j)) ((s.ar 26) j) (s.ar 14 p).toNatClampNeg) else s else if ((s.ar 3) (j / 1024)) = 0 then (zua (zua (znote s p (nI j) ((s.ar 1) ((4096 * (24 + p)) + j)) ((s.ar 1) ((4096 * c) + j)) ((s.ar 26) j) (s.ar 14 p).toNatClampNeg) 1 (upd ((znote s p (nI j) ((s.ar 1) ((4096 * (24 + p)) + j)) ((s.ar 1) ((4096 * c) + j)) ((s.ar 26) j) (s.ar 14 p).toNatClampNeg).ar 1) ((4096 * (24 + p)) + j) ((s.ar 1) ((4096 * c) + j)))) 2 (upd ((znote s p (nI j) ((s.ar 1) ((4096 * (24 + p)) + j)) ((s.ar 1) ((4096 * c) + j)) ((s.ar 26) j) (s.ar 14 p).toNatClampNeg).ar 2) ((4096 * (24 + p)) + j) (((znote s p (nI j) ((s.ar 1) ((4096 * (24 + p)) + j)) ((s.ar 1) ((4096 * c) + j)) ((s.ar 26) j) (s.ar 14 p).toNatClampNeg).ar 2) ((4096 * c) + j)))) else (zua (zua s 1 (upd (s.ar 1) ((4096 * (24 + p)) + j) ((s.ar 1) ((4096 * c) + j)))) 2 (upd (s.ar 2) ((4096 * (24 + p)) + j) ((s.ar 2) ((4096 * c) + j)))) else if ((s.ar 3) (j / 1024)) = 0 then (znote s p (nI j) ((s.ar 1) ((4096 * (24 + p)) + j)) ((s.ar 1) ((4096 * c) + j)) ((s.ar 26) j) (s.ar 14 p).toNatClampNeg) else s
def zcn (p j : Nat) (s : zU) : Prop := ∃ e, s.ar 14 p = nI e ∧ e ≤ j
theorem z_mcount {p c j : Nat} {s u0 : zU} (hs : s = zfor j (st_M_merge p c) u0) (h0 : u0.ar 14 p = 0) (hj : j < 4096) : s.ar 14 p = nI (s.ar 14 p).toNatClampNeg ∧ (s.ar 14 p).toNatClampNeg < 4096 := by
  have key := zfor_inv (f := st_M_merge p c) (s0 := u0) (N := 4096) (fun j s => zcn p j s) ⟨0, h0, Nat.le_refl _⟩ (fun j s hj hs => by
    obtain ⟨e, he, hle⟩ := hs
    have hn : ∀ (x y z w : Int32) (k : Nat), zcn p (j + 1) (znote s p x y z w k) := fun x y z w k => ⟨e + 1, by
      refine (zua_at _ 14 _ p).trans (pk_us.trans ?_)
      rw [he, nI_1], by omega⟩
    have hn2 : ∀ (x y z w : Int32) (k : Nat) (f1 f2 : Nat → Int32), zcn p (j + 1) (zua (zua (znote s p x y z w k) 1 f1) 2 f2) := fun x y z w k _ _ => hn x y z w k
    have h0 : zcn p (j + 1) s := ⟨e, he, by omega⟩
    have h2 : ∀ (f1 f2 : Nat → Int32), zcn p (j + 1) (zua (zua s 1 f1) 2 f2) := fun _ _ => h0
    unfold st_M_merge
    repeat' with_reducible refine zite (zcn p (j + 1)) ?_ ?_
    all_goals first | with_reducible exact h0 | with_reducible exact hn _ _ _ _ _ | with_reducible exact h2 _ _ | with_reducible exact hn2 _ _ _ _ _ _ _) j (by omega)
  obtain ⟨e, he, hle⟩ := key
  rw [← hs] at he
  rw [he, nI_clamp (by omega)]
  exact ⟨rfl, by omega⟩
/-- the reference's merge, behind 'base' -/
def t_M_merge (u : zU) (p c : Nat) : zU := zfor 4096 (st_M_merge p c) (zua (zua u 9 (upd (u.ar 9) p (nI c))) 14 (upd (u.ar 14) p 0))
set_option maxRecDepth 1000000 in
set_option maxHeartbeats 8000000 in
theorem c_M_merge_ok (g : zGt) (d : Nat) (hdd : 9 ≤ d) (G : zG) (u : zU) (m : Nat) (h : zMv u m G) (p : Nat) (c : Nat) (hp : p < 4) (hc9 : c < 24) (ho0 : ¬ s_M_isBranch u (nI p) = 0) (ho1 : ¬ s_M_isCommit u (nI c) = 0) (hx : Nat) (hhd : u.ar 8 p = nI hx) (hh : hx < 24) (cm : Nat) (hc : u.i 6 = nI cm) (h1 : 1 ≤ cm) (h2 : cm ≤ 24) (ho2 : s_M_isChanged u p hx = 0) (ho3 : ¬ ((s_M_ancestors u (1 <<< ((nI hx) &&& 31)) cm) >>> ((nI c) &&& 31)) &&& 1 = 1) (bf : Nat → Int32) (hB : ∀ (d : Nat), 7 ≤ d → ∀ (G : zG) (u9 : zU) (m : Nat), zMv u9 m G → (∀ j, u9.2.2 j = u.2.2 j) → u9.i 6 = u.i 6 → zMet g y_M_base b_M_base 6 none [] d 0 0 [.ref m, .int (nI hx), .int (nI c)] G (zBq u9 m G bf)) : zMet g y_M_merge b_M_merge 9 (some .int) [] d 0 0 [.ref m, .int (nI p), .int (nI c)] G (fun r G1 => ∃ u2, zBr (zuc u 0 0) u2 bf ∧ zMq (some (.int ((t_M_merge u2 p c).ar 14 p))) (t_M_merge u2 p c) u m G r G1) := by
  refine zMet.of (by decide) (Nat.le_of_ble_eq_true rfl) rfl (fun X hX => ?_)
  refine zr_aload_n hX rfl d_M_merge_0 ?_
  refine zr_aload_n hX rfl d_M_merge_1 ?_
  refine zr_iload_n hX rfl d_M_merge_2 ?_
  refine zr_pV hX (c_M_isBranch g (d - 1) _ u m h (nI p)) l_M_97 im_M_isBranch se_M_isBranch f_M_isBranch k_M.1 h.m rfl (Nat.le_of_ble_eq_true rfl) (by omega) (Nat.zero_le _) (Nat.zero_le _) d_M_merge_3 ?_
  refine zr_if_eq hX (tgt := 17) d_M_merge_6 (by decide) (fun h9 => absurd h9 ho0) (fun _ => ?_)
  refine zr_aload_n hX rfl d_M_merge_9 ?_
  refine zr_iload_n hX rfl d_M_merge_10 ?_
  refine zr_pV hX (c_M_isCommit g (d - 1) _ u m h (nI c)) l_M_93 im_M_isCommit se_M_isCommit f_M_isCommit k_M.1 h.m rfl (Nat.le_of_ble_eq_true rfl) (by omega) (Nat.zero_le _) (Nat.zero_le _) d_M_merge_11 ?_
  refine zr_if_ne hX (tgt := 21) d_M_merge_14 (by decide) (fun _ => ?_) (fun h9 => absurd h9 ho1)
  refine zr_aload_n hX rfl d_M_merge_21 ?_
  refine zr_iload_n hX rfl d_M_merge_22 ?_
  refine zr_mV1 hX (c_M_isChanged g (d - 1) _ u m h p hx (by omega) hhd hh) l_M_135 im_M_isChanged se_M_isChanged f_M_isChanged rfl (Nat.le_of_ble_eq_true rfl) (by omega) (Nat.zero_le _) (Nat.zero_le _) d_M_merge_23 (Nat.zero_le _) (Nat.zero_le _) (zMv.m h) (fun G23 hk23 fk23 ek23 => ?_)
  refine zr_if_ne hX (tgt := 49) d_M_merge_26 (by decide) (fun h9 => absurd h9 (not_not_intro ho2)) (fun _ => ?_)
  refine zr_aload_n hX rfl d_M_merge_29 ?_
  refine zr_iconst (v := 1) hX rfl d_M_merge_30 ?_
  refine zr_aload_n hX rfl d_M_merge_31 ?_
  refine zr_get hX k_M 8 (by decide) q661 rfl hk23.m rfl d_M_merge_32 ?_
  refine zr_iload_n hX rfl d_M_merge_35 ?_
  refine zr_ialdV hX (hk23.ar 8 rfl) p rfl (by omega) (by decide) (v := (nI hx)) hhd d_M_merge_36 ?_
  refine zr_ishl hX d_M_merge_37 ?_
  refine zr_pV hX (c_M_ancestors g (d - 1) _ u m hk23 (1 <<< ((nI hx) &&& 31)) cm hc h1 h2) l_M_142 im_M_ancestors se_M_ancestors f_M_ancestors k_M.1 hk23.m rfl (Nat.le_of_ble_eq_true rfl) (by omega) (Nat.zero_le _) (Nat.zero_le _) d_M_merge_38 ?_
  refine zr_iload_n hX rfl d_M_merge_41 ?_
  refine zr_ishr hX d_M_merge_42 ?_
  refine zr_iconst (v := 1) hX rfl d_M_merge_43 ?_
  refine zr_iand hX d_M_merge_44 ?_
  refine zr_iconst (v := 1) hX rfl d_M_merge_45 ?_
  refine zr_icmp_ne hX (tgt := 53) d_M_merge_46 (by decide) (fun _ => ?_) (fun h9 => absurd h9 ho3)
  refine zr_iconst (v := 0) hX rfl d_M_merge_53 ?_
  refine zr_put hX k_M 0 (by decide) q653 rfl rfl rfl rfl (Nat.le_of_ble_eq_true rfl) hk23.m d_M_merge_54 ?_
  refine zr_aload_n hX rfl d_M_merge_57 ?_
  refine zr_get hX k_M 0 (by decide) q653 rfl (zput_s _ _ _) rfl d_M_merge_58 ?_
  refine zr_if_le hX (tgt := 66) d_M_merge_61 (by decide) (fun _ => ?_) (fun h => absurd h (by decide))
  refine zr_aload_n hX rfl d_M_merge_66 ?_
  refine zr_aload_n hX rfl d_M_merge_67 ?_
  refine zr_get hX k_M 8 (by decide) q661 rfl (zput_s _ _ _) rfl d_M_merge_68 ?_
  refine zr_iload_n hX rfl d_M_merge_71 ?_
  refine zr_ialdV hX (zput_k (zne (hk23.ar 8 rfl) hk23.m rfl) (hk23.ar 8 rfl)) p rfl (by omega) (by decide) (v := (nI hx)) hhd d_M_merge_72 ?_
  refine zr_iload_n hX rfl d_M_merge_73 ?_
  refine zr_callV (ci := 6) hX (hB (d - 1) (by omega) _ (zuc u 0 0) m (zMv.put hk23 (upd u.2.1 0 0)) (fun j => rfl) rfl) l_M_158 im_M_base se_M_base f_M_base rfl (zMv.m (zMv.put hk23 (upd u.2.1 0 0))) rfl (Nat.le_of_ble_eq_true rfl) (by omega) (Nat.zero_le _) (Nat.zero_le _) d_M_merge_74 (fun v G74 hq74 => ?_) (fun E G9 h9 => by obtain ⟨h8, -⟩ := h9; cases h8)
  obtain ⟨hv74, u74, hk74, fk74, ek74, ei74, ea74, er74⟩ := hq74
  cases hv74
  refine zr_aload_n hX rfl d_M_merge_77 ?_
  refine zr_get hX k_M 9 (by decide) q662 rfl hk74.m rfl d_M_merge_78 ?_
  refine zr_iload_n hX rfl d_M_merge_81 ?_
  refine zr_iload_n hX rfl d_M_merge_82 ?_
  refine zr_iastN hX (hk74.ar 9 rfl) p rfl (by omega) (by decide) d_M_merge_83 ?_
  refine zr_aload_n hX rfl d_M_merge_84 ?_
  refine zr_get hX k_M 14 (by decide) q667 rfl (zput_k (zne hk74.m (hk74.ar 9 rfl) rfl) hk74.m) rfl d_M_merge_85 ?_
  refine zr_iload_n hX rfl d_M_merge_88 ?_
  refine zr_iconst (v := 0) hX rfl d_M_merge_89 ?_
  refine zr_iastN hX (zput_k (hk74.ne 14 9 rfl rfl (by decide)) (hk74.ar 14 rfl)) p rfl (by omega) (by decide) d_M_merge_90 ?_
  refine zr_iconst (v := 0) hX rfl d_M_merge_91 ?_
  refine zs_istore_n hX (by decide) rfl d_M_merge_92 ?_
  have L93 : ∀ j, j ≤ 4096 → ∀ (s : zU) (G_s : zG), s = zfor j (st_M_merge p c) (zua (zua u74 9 (upd (u74.ar 9) p (nI c))) 14 (upd (u74.ar 14) p 0)) → zMv s m G_s → zMf u m G G_s → s.1 = u.1 → s.2.1 = (zua (zua u74 9 (upd (u74.ar 9) p (nI c))) 14 (upd (u74.ar 14) p 0)).2.1 → zw g X (fun r G1 => ∃ u2, zBr (zuc u 0 0) u2 bf ∧ zMq (some (.int ((t_M_merge u2 p c).ar 14 p))) (t_M_merge u2 p c) u m G r G1) 93 [some (.ref m), some (.int (nI p)), some (.int (nI c)), some (.int (nI j)), none, none, none, none, none] [] G_s 0 0 := by
    refine zup 4096 (fun j hj_s ih_s => ?_)
    intro s G_s hs_s hk_s fk_s ek_s ik_s
    by_cases hlt_s : j < 4096
    · skip
      refine zr_iload_n hX rfl d_M_merge_93 ?_
      refine zr_sipush (v := 4096) hX rfl d_M_merge_94 ?_
      refine zr_icmp_ge hX (tgt := 313) d_M_merge_97 (by decide) (fun h9 => absurd h9 (nI_ge (a := j) (b := 4096) (by omega) (by decide))) (fun _ => ?_)
      obtain ⟨hn9, hn10⟩ := z_mcount hs_s ((zua_at _ 14 _ p).trans pk_us) hlt_s
      refine zr_sipush (v := 4096) hX rfl d_M_merge_100 ?_
      refine zr_bipush (v := 24) hX rfl d_M_merge_103 ?_
      refine zr_iload_n hX rfl d_M_merge_105 ?_
      refine zn_iadd (a := 24) (b := p) hX d_M_merge_106 ?_
      refine zn_imul (a := 4096) (b := (24 + p)) hX d_M_merge_107 ?_
      refine zr_iload_n hX rfl d_M_merge_108 ?_
      refine zn_iadd (a := (4096 * (24 + p))) (b := j) hX d_M_merge_109 ?_
      refine zs_istore hX (by decide) rfl d_M_merge_110 ?_
      refine zr_aload_n hX rfl d_M_merge_112 ?_
      refine zr_get hX k_M 1 (by decide) q654 rfl hk_s.m rfl d_M_merge_113 ?_
      refine zr_iload hX rfl d_M_merge_116 ?_
      refine zr_ialdN hX (hk_s.ar 1 rfl) ((4096 * (24 + p)) + j) rfl (by omega) (by decide) d_M_merge_118 ?_
      refine zs_istore hX (by decide) rfl d_M_merge_119 ?_
      refine zr_aload_n hX rfl d_M_merge_121 ?_
      refine zr_get hX k_M 1 (by decide) q654 rfl hk_s.m rfl d_M_merge_122 ?_
      refine zr_sipush (v := 4096) hX rfl d_M_merge_125 ?_
      refine zr_iload_n hX rfl d_M_merge_128 ?_
      refine zn_imul (a := 4096) (b := c) hX d_M_merge_129 ?_
      refine zr_iload_n hX rfl d_M_merge_130 ?_
      refine zn_iadd (a := (4096 * c)) (b := j) hX d_M_merge_131 ?_
      refine zr_ialdN hX (hk_s.ar 1 rfl) ((4096 * c) + j) rfl (by omega) (by decide) d_M_merge_132 ?_
      refine zs_istore hX (by decide) rfl d_M_merge_133 ?_
      refine zr_iload hX rfl d_M_merge_135 ?_
      refine zr_iload hX rfl d_M_merge_137 ?_
      refine zr_icmp_eq hX (tgt := 307) d_M_merge_139 (by decide) (fun h139 => ?_) (fun h139 => ?_)
      · skip
        refine zs_iinc (v := nI (j + 1)) hX rfl (nI_add _ 1) (by decide) rfl d_M_merge_307 ?_
        refine zr_goto hX (tgt := 93) (by decide) d_M_merge_310 ?_
        refine zw_drop 4 ?_
        refine zw_drop 5 ?_
        refine zw_drop 6 ?_
        exact ih_s hlt_s s _ (by rw [zfor_s, ← hs_s]; unfold st_M_merge; rw [if_pos h139]) hk_s fk_s ek_s ik_s
      · skip
        refine zr_iload hX rfl d_M_merge_142 ?_
        refine zr_aload_n hX rfl d_M_merge_144 ?_
        refine zr_get hX k_M 26 (by decide) q679 rfl hk_s.m rfl d_M_merge_145 ?_
        refine zr_iload_n hX rfl d_M_merge_148 ?_
        refine zr_ialdN hX (hk_s.ar 26 rfl) j rfl (by omega) (by decide) d_M_merge_149 ?_
        refine zr_icmp_ne hX (tgt := 156) d_M_merge_150 (by decide) (fun h150 => ?_) (fun h150 => ?_)
        · skip
          refine zr_iload hX rfl d_M_merge_156 ?_
          refine zr_aload_n hX rfl d_M_merge_158 ?_
          refine zr_get hX k_M 26 (by decide) q679 rfl hk_s.m rfl d_M_merge_159 ?_
          refine zr_iload_n hX rfl d_M_merge_162 ?_
          refine zr_ialdN hX (hk_s.ar 26 rfl) j rfl (by omega) (by decide) d_M_merge_163 ?_
          refine zr_icmp_ne hX (tgt := 171) d_M_merge_164 (by decide) (fun h164 => ?_) (fun h164 => ?_)
          · skip
            refine zr_iconst (v := 0) hX rfl d_M_merge_171 ?_
            refine zs_istore hX (by decide) rfl d_M_merge_172 ?_
            refine zr_aload_n hX rfl d_M_merge_174 ?_
            refine zr_get hX k_M 3 (by decide) q656 rfl hk_s.m rfl d_M_merge_175 ?_
            refine zr_iload_n hX rfl d_M_merge_178 ?_
            refine zr_sipush (v := 1024) hX rfl d_M_merge_179 ?_
            refine zn_idiv (a := j) (b := 1024) hX (by omega) (by decide) (by decide) d_M_merge_182 ?_
            refine zr_ialdN hX (hk_s.ar 3 rfl) (j / 1024) rfl (by omega) (by decide) d_M_merge_183 ?_
            refine zs_istore hX (by decide) rfl d_M_merge_184 ?_
            refine zr_iload hX rfl d_M_merge_186 ?_
            refine zr_if_ne hX (tgt := 271) d_M_merge_188 (by decide) (fun h => absurd h (by decide)) (fun _ => ?_)
            refine zr_iload hX rfl d_M_merge_191 ?_
            refine zr_iconst (v := 1) hX rfl d_M_merge_193 ?_
            refine zr_icmp_ne hX (tgt := 204) d_M_merge_194 (by decide) (fun h194 => ?_) (fun h194 => ?_)
            · skip
              refine zr_iload hX rfl d_M_merge_204 ?_
              refine zr_iconst (v := 2) hX rfl d_M_merge_206 ?_
              refine zr_icmp_ne hX (tgt := 217) d_M_merge_207 (by decide) (fun h207 => ?_) (fun h207 => ?_)
              · skip
                refine zr_iload hX rfl d_M_merge_217 ?_
                refine zr_iconst (v := 3) hX rfl d_M_merge_219 ?_
                refine zr_icmp_ne hX (tgt := 247) d_M_merge_220 (by decide) (fun h220 => ?_) (fun h220 => ?_)
                · skip
                  refine zr_iconst (v := 0) hX rfl d_M_merge_247 ?_
                  refine zs_istore hX (by decide) rfl d_M_merge_248 ?_
                  refine zr_iload hX rfl d_M_merge_250 ?_
                  refine zr_if_ne hX (tgt := 271) d_M_merge_252 (by decide) (fun h252 => ?_) (fun h252 => ?_)
                  · skip
                    refine zr_iload hX rfl d_M_merge_271 ?_
                    refine zr_if_ne hX (tgt := 279) d_M_merge_273 (by decide) (fun h => absurd h (by decide)) (fun _ => ?_)
                    refine zr_goto hX (tgt := 307) (by decide) d_M_merge_276 ?_
                    refine zs_iinc (v := nI (j + 1)) hX rfl (nI_add _ 1) (by decide) rfl d_M_merge_307 ?_
                    refine zr_goto hX (tgt := 93) (by decide) d_M_merge_310 ?_
                    refine zw_drop 4 ?_
                    refine zw_drop 5 ?_
                    refine zw_drop 6 ?_
                    refine zw_drop 7 ?_
                    refine zw_drop 8 ?_
                    exact ih_s hlt_s s _ (by rw [zfor_s, ← hs_s]; unfold st_M_merge; rw [if_neg h139]; rw [if_neg h150]; rw [if_neg h164]; rw [if_neg h194]; rw [if_neg h207]; rw [if_neg h220]; rw [if_neg h252]) hk_s fk_s ek_s ik_s
                  · skip
                    refine zr_aload_n hX rfl d_M_merge_255 ?_
                    refine zr_iload_n hX rfl d_M_merge_256 ?_
                    refine zr_iload_n hX rfl d_M_merge_257 ?_
                    refine zr_iload hX rfl d_M_merge_258 ?_
                    refine zr_iload hX rfl d_M_merge_260 ?_
                    refine zr_aload_n hX rfl d_M_merge_262 ?_
                    refine zr_get hX k_M 26 (by decide) q679 rfl hk_s.m rfl d_M_merge_263 ?_
                    refine zr_iload_n hX rfl d_M_merge_266 ?_
                    refine zr_ialdN hX (hk_s.ar 26 rfl) j rfl (by omega) (by decide) d_M_merge_267 ?_
                    refine zr_mV0 hX (c_M_note g (d - 1) _ s m hk_s p (nI j) ((s.ar 1) ((4096 * (24 + p)) + j)) ((s.ar 1) ((4096 * c) + j)) ((s.ar 26) j) (by omega) (s.ar 14 p).toNatClampNeg hn9 hn10) l_M_164 im_M_note se_M_note f_M_note rfl (Nat.le_of_ble_eq_true rfl) (by omega) (Nat.zero_le _) (Nat.zero_le _) d_M_merge_268 (Nat.zero_le _) (Nat.zero_le _) (zMv.m hk_s) (fun G268 hk268 fk268 ek268 => ?_)
                    refine zr_iload hX rfl d_M_merge_271 ?_
                    refine zr_if_ne hX (tgt := 279) d_M_merge_273 (by decide) (fun h => absurd h (by decide)) (fun _ => ?_)
                    refine zr_goto hX (tgt := 307) (by decide) d_M_merge_276 ?_
                    refine zs_iinc (v := nI (j + 1)) hX rfl (nI_add _ 1) (by decide) rfl d_M_merge_307 ?_
                    refine zr_goto hX (tgt := 93) (by decide) d_M_merge_310 ?_
                    refine zw_drop 4 ?_
                    refine zw_drop 5 ?_
                    refine zw_drop 6 ?_
                    refine zw_drop 7 ?_
                    refine zw_drop 8 ?_
                    exact ih_s hlt_s (znote s p (nI j) ((s.ar 1) ((4096 * (24 + p)) + j)) ((s.ar 1) ((4096 * c) + j)) ((s.ar 26) j) (s.ar 14 p).toNatClampNeg) _ (by rw [zfor_s, ← hs_s]; unfold st_M_merge; rw [if_neg h139]; rw [if_neg h150]; rw [if_neg h164]; rw [if_neg h194]; rw [if_neg h207]; rw [if_neg h220]; rw [if_pos h252]) hk268 (zMf.tr fk_s fk268 ek_s) (Eq.trans ek268 ek_s) ik_s
                · skip
                  refine zr_aload_n hX rfl d_M_merge_223 ?_
                  refine zr_sipush (v := 4096) hX rfl d_M_merge_224 ?_
                  refine zr_iload_n hX rfl d_M_merge_227 ?_
                  refine zn_imul (a := 4096) (b := c) hX d_M_merge_228 ?_
                  refine zr_iload_n hX rfl d_M_merge_229 ?_
                  refine zn_iadd (a := (4096 * c)) (b := j) hX d_M_merge_230 ?_
                  refine zr_pV hX (c_M_madeIn g (d - 1) _ s m hk_s ((4096 * c) + j) (by omega)) l_M_161 im_M_madeIn se_M_madeIn f_M_madeIn k_M.1 hk_s.m rfl (Nat.le_of_ble_eq_true rfl) (by omega) (Nat.zero_le _) (Nat.zero_le _) d_M_merge_231 ?_
                  refine zr_aload_n hX rfl d_M_merge_234 ?_
                  refine zr_iload hX rfl d_M_merge_235 ?_
                  refine zr_pV hX (c_M_madeIn g (d - 1) _ s m hk_s ((4096 * (24 + p)) + j) (by omega)) l_M_161 im_M_madeIn se_M_madeIn f_M_madeIn k_M.1 hk_s.m rfl (Nat.le_of_ble_eq_true rfl) (by omega) (Nat.zero_le _) (Nat.zero_le _) d_M_merge_237 ?_
                  refine zr_icmp_le hX (tgt := 247) d_M_merge_240 (by decide) (fun h240 => ?_) (fun h240 => ?_)
                  · skip
                    refine zr_iconst (v := 0) hX rfl d_M_merge_247 ?_
                    refine zs_istore hX (by decide) rfl d_M_merge_248 ?_
                    refine zr_iload hX rfl d_M_merge_250 ?_
                    refine zr_if_ne hX (tgt := 271) d_M_merge_252 (by decide) (fun h252 => ?_) (fun h252 => ?_)
                    · skip
                      refine zr_iload hX rfl d_M_merge_271 ?_
                      refine zr_if_ne hX (tgt := 279) d_M_merge_273 (by decide) (fun h => absurd h (by decide)) (fun _ => ?_)
                      refine zr_goto hX (tgt := 307) (by decide) d_M_merge_276 ?_
                      refine zs_iinc (v := nI (j + 1)) hX rfl (nI_add _ 1) (by decide) rfl d_M_merge_307 ?_
                      refine zr_goto hX (tgt := 93) (by decide) d_M_merge_310 ?_
                      refine zw_drop 4 ?_
                      refine zw_drop 5 ?_
                      refine zw_drop 6 ?_
                      refine zw_drop 7 ?_
                      refine zw_drop 8 ?_
                      exact ih_s hlt_s s _ (by rw [zfor_s, ← hs_s]; unfold st_M_merge; rw [if_neg h139]; rw [if_neg h150]; rw [if_neg h164]; rw [if_neg h194]; rw [if_neg h207]; rw [if_pos h220]; rw [if_pos h240]; rw [if_neg h252]) hk_s fk_s ek_s ik_s
                    · skip
                      refine zr_aload_n hX rfl d_M_merge_255 ?_
                      refine zr_iload_n hX rfl d_M_merge_256 ?_
                      refine zr_iload_n hX rfl d_M_merge_257 ?_
                      refine zr_iload hX rfl d_M_merge_258 ?_
                      refine zr_iload hX rfl d_M_merge_260 ?_
                      refine zr_aload_n hX rfl d_M_merge_262 ?_
                      refine zr_get hX k_M 26 (by decide) q679 rfl hk_s.m rfl d_M_merge_263 ?_
                      refine zr_iload_n hX rfl d_M_merge_266 ?_
                      refine zr_ialdN hX (hk_s.ar 26 rfl) j rfl (by omega) (by decide) d_M_merge_267 ?_
                      refine zr_mV0 hX (c_M_note g (d - 1) _ s m hk_s p (nI j) ((s.ar 1) ((4096 * (24 + p)) + j)) ((s.ar 1) ((4096 * c) + j)) ((s.ar 26) j) (by omega) (s.ar 14 p).toNatClampNeg hn9 hn10) l_M_164 im_M_note se_M_note f_M_note rfl (Nat.le_of_ble_eq_true rfl) (by omega) (Nat.zero_le _) (Nat.zero_le _) d_M_merge_268 (Nat.zero_le _) (Nat.zero_le _) (zMv.m hk_s) (fun G268 hk268 fk268 ek268 => ?_)
                      refine zr_iload hX rfl d_M_merge_271 ?_
                      refine zr_if_ne hX (tgt := 279) d_M_merge_273 (by decide) (fun h => absurd h (by decide)) (fun _ => ?_)
                      refine zr_goto hX (tgt := 307) (by decide) d_M_merge_276 ?_
                      refine zs_iinc (v := nI (j + 1)) hX rfl (nI_add _ 1) (by decide) rfl d_M_merge_307 ?_
                      refine zr_goto hX (tgt := 93) (by decide) d_M_merge_310 ?_
                      refine zw_drop 4 ?_
                      refine zw_drop 5 ?_
                      refine zw_drop 6 ?_
                      refine zw_drop 7 ?_
                      refine zw_drop 8 ?_
                      exact ih_s hlt_s (znote s p (nI j) ((s.ar 1) ((4096 * (24 + p)) + j)) ((s.ar 1) ((4096 * c) + j)) ((s.ar 26) j) (s.ar 14 p).toNatClampNeg) _ (by rw [zfor_s, ← hs_s]; unfold st_M_merge; rw [if_neg h139]; rw [if_neg h150]; rw [if_neg h164]; rw [if_neg h194]; rw [if_neg h207]; rw [if_pos h220]; rw [if_pos h240]; rw [if_pos h252]) hk268 (zMf.tr fk_s fk268 ek_s) (Eq.trans ek268 ek_s) ik_s
                  · skip
                    refine zr_iconst (v := 1) hX rfl d_M_merge_243 ?_
                    refine zr_goto hX (tgt := 248) (by decide) d_M_merge_244 ?_
                    refine zs_istore hX (by decide) rfl d_M_merge_248 ?_
                    refine zr_iload hX rfl d_M_merge_250 ?_
                    refine zr_if_ne hX (tgt := 271) d_M_merge_252 (by decide) (fun h252 => ?_) (fun h252 => ?_)
                    · skip
                      refine zr_iload hX rfl d_M_merge_271 ?_
                      refine zr_if_ne hX (tgt := 279) d_M_merge_273 (by decide) (fun _ => ?_) (fun h => absurd h (by decide))
                      refine zr_aload_n hX rfl d_M_merge_279 ?_
                      refine zr_get hX k_M 1 (by decide) q654 rfl hk_s.m rfl d_M_merge_280 ?_
                      refine zr_iload hX rfl d_M_merge_283 ?_
                      refine zr_iload hX rfl d_M_merge_285 ?_
                      refine zr_iastN hX (hk_s.ar 1 rfl) ((4096 * (24 + p)) + j) rfl (by omega) (by decide) d_M_merge_287 ?_
                      refine zr_aload_n hX rfl d_M_merge_288 ?_
                      refine zr_get hX k_M 2 (by decide) q655 rfl (zput_k (zne hk_s.m (hk_s.ar 1 rfl) rfl) hk_s.m) rfl d_M_merge_289 ?_
                      refine zr_iload hX rfl d_M_merge_292 ?_
                      refine zr_aload_n hX rfl d_M_merge_294 ?_
                      refine zr_get hX k_M 2 (by decide) q655 rfl (zput_k (zne hk_s.m (hk_s.ar 1 rfl) rfl) hk_s.m) rfl d_M_merge_295 ?_
                      refine zr_sipush (v := 4096) hX rfl d_M_merge_298 ?_
                      refine zr_iload_n hX rfl d_M_merge_301 ?_
                      refine zn_imul (a := 4096) (b := c) hX d_M_merge_302 ?_
                      refine zr_iload_n hX rfl d_M_merge_303 ?_
                      refine zn_iadd (a := (4096 * c)) (b := j) hX d_M_merge_304 ?_
                      refine zr_ialdN hX (zput_k (hk_s.ne 2 1 rfl rfl (by decide)) (hk_s.ar 2 rfl)) ((4096 * c) + j) rfl (by omega) (by decide) d_M_merge_305 ?_
                      refine zr_iastN hX (zput_k (hk_s.ne 2 1 rfl rfl (by decide)) (hk_s.ar 2 rfl)) ((4096 * (24 + p)) + j) rfl (by omega) (by decide) d_M_merge_306 ?_
                      refine zs_iinc (v := nI (j + 1)) hX rfl (nI_add _ 1) (by decide) rfl d_M_merge_307 ?_
                      refine zr_goto hX (tgt := 93) (by decide) d_M_merge_310 ?_
                      refine zw_drop 4 ?_
                      refine zw_drop 5 ?_
                      refine zw_drop 6 ?_
                      refine zw_drop 7 ?_
                      refine zw_drop 8 ?_
                      exact ih_s hlt_s (zua (zua s 1 (upd (s.ar 1) ((4096 * (24 + p)) + j) ((s.ar 1) ((4096 * c) + j)))) 2 (upd (s.ar 2) ((4096 * (24 + p)) + j) ((s.ar 2) ((4096 * c) + j)))) _ (by rw [zfor_s, ← hs_s]; unfold st_M_merge; rw [if_neg h139]; rw [if_neg h150]; rw [if_neg h164]; rw [if_neg h194]; rw [if_neg h207]; rw [if_pos h220]; rw [if_neg h240]; rw [if_neg h252]) (zMv.arr (zMv.arr hk_s 1 rfl _) 2 rfl _) (zMf.arr (zMf.arr fk_s 1 rfl (congrFun ek_s 1) _) 2 rfl (congrFun ek_s 2) _) ek_s ik_s
                    · skip
                      refine zr_aload_n hX rfl d_M_merge_255 ?_
                      refine zr_iload_n hX rfl d_M_merge_256 ?_
                      refine zr_iload_n hX rfl d_M_merge_257 ?_
                      refine zr_iload hX rfl d_M_merge_258 ?_
                      refine zr_iload hX rfl d_M_merge_260 ?_
                      refine zr_aload_n hX rfl d_M_merge_262 ?_
                      refine zr_get hX k_M 26 (by decide) q679 rfl hk_s.m rfl d_M_merge_263 ?_
                      refine zr_iload_n hX rfl d_M_merge_266 ?_
                      refine zr_ialdN hX (hk_s.ar 26 rfl) j rfl (by omega) (by decide) d_M_merge_267 ?_
                      refine zr_mV0 hX (c_M_note g (d - 1) _ s m hk_s p (nI j) ((s.ar 1) ((4096 * (24 + p)) + j)) ((s.ar 1) ((4096 * c) + j)) ((s.ar 26) j) (by omega) (s.ar 14 p).toNatClampNeg hn9 hn10) l_M_164 im_M_note se_M_note f_M_note rfl (Nat.le_of_ble_eq_true rfl) (by omega) (Nat.zero_le _) (Nat.zero_le _) d_M_merge_268 (Nat.zero_le _) (Nat.zero_le _) (zMv.m hk_s) (fun G268 hk268 fk268 ek268 => ?_)
                      refine zr_iload hX rfl d_M_merge_271 ?_
                      refine zr_if_ne hX (tgt := 279) d_M_merge_273 (by decide) (fun _ => ?_) (fun h => absurd h (by decide))
                      refine zr_aload_n hX rfl d_M_merge_279 ?_
                      refine zr_get hX k_M 1 (by decide) q654 rfl hk268.m rfl d_M_merge_280 ?_
                      refine zr_iload hX rfl d_M_merge_283 ?_
                      refine zr_iload hX rfl d_M_merge_285 ?_
                      refine zr_iastN hX (hk268.ar 1 rfl) ((4096 * (24 + p)) + j) rfl (by omega) (by decide) d_M_merge_287 ?_
                      refine zr_aload_n hX rfl d_M_merge_288 ?_
                      refine zr_get hX k_M 2 (by decide) q655 rfl (zput_k (zne hk268.m (hk268.ar 1 rfl) rfl) hk268.m) rfl d_M_merge_289 ?_
                      refine zr_iload hX rfl d_M_merge_292 ?_
                      refine zr_aload_n hX rfl d_M_merge_294 ?_
                      refine zr_get hX k_M 2 (by decide) q655 rfl (zput_k (zne hk268.m (hk268.ar 1 rfl) rfl) hk268.m) rfl d_M_merge_295 ?_
                      refine zr_sipush (v := 4096) hX rfl d_M_merge_298 ?_
                      refine zr_iload_n hX rfl d_M_merge_301 ?_
                      refine zn_imul (a := 4096) (b := c) hX d_M_merge_302 ?_
                      refine zr_iload_n hX rfl d_M_merge_303 ?_
                      refine zn_iadd (a := (4096 * c)) (b := j) hX d_M_merge_304 ?_
                      refine zr_ialdN hX (zput_k (hk268.ne 2 1 rfl rfl (by decide)) (hk268.ar 2 rfl)) ((4096 * c) + j) rfl (by omega) (by decide) d_M_merge_305 ?_
                      refine zr_iastN hX (zput_k (hk268.ne 2 1 rfl rfl (by decide)) (hk268.ar 2 rfl)) ((4096 * (24 + p)) + j) rfl (by omega) (by decide) d_M_merge_306 ?_
                      refine zs_iinc (v := nI (j + 1)) hX rfl (nI_add _ 1) (by decide) rfl d_M_merge_307 ?_
                      refine zr_goto hX (tgt := 93) (by decide) d_M_merge_310 ?_
                      refine zw_drop 4 ?_
                      refine zw_drop 5 ?_
                      refine zw_drop 6 ?_
                      refine zw_drop 7 ?_
                      refine zw_drop 8 ?_
                      exact ih_s hlt_s (zua (zua (znote s p (nI j) ((s.ar 1) ((4096 * (24 + p)) + j)) ((s.ar 1) ((4096 * c) + j)) ((s.ar 26) j) (s.ar 14 p).toNatClampNeg) 1 (upd ((znote s p (nI j) ((s.ar 1) ((4096 * (24 + p)) + j)) ((s.ar 1) ((4096 * c) + j)) ((s.ar 26) j) (s.ar 14 p).toNatClampNeg).ar 1) ((4096 * (24 + p)) + j) ((s.ar 1) ((4096 * c) + j)))) 2 (upd ((znote s p (nI j) ((s.ar 1) ((4096 * (24 + p)) + j)) ((s.ar 1) ((4096 * c) + j)) ((s.ar 26) j) (s.ar 14 p).toNatClampNeg).ar 2) ((4096 * (24 + p)) + j) (((znote s p (nI j) ((s.ar 1) ((4096 * (24 + p)) + j)) ((s.ar 1) ((4096 * c) + j)) ((s.ar 26) j) (s.ar 14 p).toNatClampNeg).ar 2) ((4096 * c) + j)))) _ (by rw [zfor_s, ← hs_s]; unfold st_M_merge; rw [if_neg h139]; rw [if_neg h150]; rw [if_neg h164]; rw [if_neg h194]; rw [if_neg h207]; rw [if_pos h220]; rw [if_neg h240]; rw [if_pos h252]) (zMv.arr (zMv.arr hk268 1 rfl _) 2 rfl _) (zMf.arr (zMf.arr (zMf.tr fk_s fk268 ek_s) 1 rfl (congrFun (Eq.trans ek268 ek_s) 1) _) 2 rfl (congrFun (Eq.trans ek268 ek_s) 2) _) (Eq.trans ek268 ek_s) ik_s
              · skip
                refine zr_iload hX rfl d_M_merge_210 ?_
                refine zr_iload hX rfl d_M_merge_212 ?_
                refine zr_icmp_lt hX (tgt := 243) d_M_merge_214 (by decide) (fun h214 => ?_) (fun h214 => ?_)
                · skip
                  refine zr_iconst (v := 1) hX rfl d_M_merge_243 ?_
                  refine zr_goto hX (tgt := 248) (by decide) d_M_merge_244 ?_
                  refine zs_istore hX (by decide) rfl d_M_merge_248 ?_
                  refine zr_iload hX rfl d_M_merge_250 ?_
                  refine zr_if_ne hX (tgt := 271) d_M_merge_252 (by decide) (fun h252 => ?_) (fun h252 => ?_)
                  · skip
                    refine zr_iload hX rfl d_M_merge_271 ?_
                    refine zr_if_ne hX (tgt := 279) d_M_merge_273 (by decide) (fun _ => ?_) (fun h => absurd h (by decide))
                    refine zr_aload_n hX rfl d_M_merge_279 ?_
                    refine zr_get hX k_M 1 (by decide) q654 rfl hk_s.m rfl d_M_merge_280 ?_
                    refine zr_iload hX rfl d_M_merge_283 ?_
                    refine zr_iload hX rfl d_M_merge_285 ?_
                    refine zr_iastN hX (hk_s.ar 1 rfl) ((4096 * (24 + p)) + j) rfl (by omega) (by decide) d_M_merge_287 ?_
                    refine zr_aload_n hX rfl d_M_merge_288 ?_
                    refine zr_get hX k_M 2 (by decide) q655 rfl (zput_k (zne hk_s.m (hk_s.ar 1 rfl) rfl) hk_s.m) rfl d_M_merge_289 ?_
                    refine zr_iload hX rfl d_M_merge_292 ?_
                    refine zr_aload_n hX rfl d_M_merge_294 ?_
                    refine zr_get hX k_M 2 (by decide) q655 rfl (zput_k (zne hk_s.m (hk_s.ar 1 rfl) rfl) hk_s.m) rfl d_M_merge_295 ?_
                    refine zr_sipush (v := 4096) hX rfl d_M_merge_298 ?_
                    refine zr_iload_n hX rfl d_M_merge_301 ?_
                    refine zn_imul (a := 4096) (b := c) hX d_M_merge_302 ?_
                    refine zr_iload_n hX rfl d_M_merge_303 ?_
                    refine zn_iadd (a := (4096 * c)) (b := j) hX d_M_merge_304 ?_
                    refine zr_ialdN hX (zput_k (hk_s.ne 2 1 rfl rfl (by decide)) (hk_s.ar 2 rfl)) ((4096 * c) + j) rfl (by omega) (by decide) d_M_merge_305 ?_
                    refine zr_iastN hX (zput_k (hk_s.ne 2 1 rfl rfl (by decide)) (hk_s.ar 2 rfl)) ((4096 * (24 + p)) + j) rfl (by omega) (by decide) d_M_merge_306 ?_
                    refine zs_iinc (v := nI (j + 1)) hX rfl (nI_add _ 1) (by decide) rfl d_M_merge_307 ?_
                    refine zr_goto hX (tgt := 93) (by decide) d_M_merge_310 ?_
                    refine zw_drop 4 ?_
                    refine zw_drop 5 ?_
                    refine zw_drop 6 ?_
                    refine zw_drop 7 ?_
                    refine zw_drop 8 ?_
                    exact ih_s hlt_s (zua (zua s 1 (upd (s.ar 1) ((4096 * (24 + p)) + j) ((s.ar 1) ((4096 * c) + j)))) 2 (upd (s.ar 2) ((4096 * (24 + p)) + j) ((s.ar 2) ((4096 * c) + j)))) _ (by rw [zfor_s, ← hs_s]; unfold st_M_merge; rw [if_neg h139]; rw [if_neg h150]; rw [if_neg h164]; rw [if_neg h194]; rw [if_pos h207]; rw [if_pos h214]; rw [if_neg h252]) (zMv.arr (zMv.arr hk_s 1 rfl _) 2 rfl _) (zMf.arr (zMf.arr fk_s 1 rfl (congrFun ek_s 1) _) 2 rfl (congrFun ek_s 2) _) ek_s ik_s
                  · skip
                    refine zr_aload_n hX rfl d_M_merge_255 ?_
                    refine zr_iload_n hX rfl d_M_merge_256 ?_
                    refine zr_iload_n hX rfl d_M_merge_257 ?_
                    refine zr_iload hX rfl d_M_merge_258 ?_
                    refine zr_iload hX rfl d_M_merge_260 ?_
                    refine zr_aload_n hX rfl d_M_merge_262 ?_
                    refine zr_get hX k_M 26 (by decide) q679 rfl hk_s.m rfl d_M_merge_263 ?_
                    refine zr_iload_n hX rfl d_M_merge_266 ?_
                    refine zr_ialdN hX (hk_s.ar 26 rfl) j rfl (by omega) (by decide) d_M_merge_267 ?_
                    refine zr_mV0 hX (c_M_note g (d - 1) _ s m hk_s p (nI j) ((s.ar 1) ((4096 * (24 + p)) + j)) ((s.ar 1) ((4096 * c) + j)) ((s.ar 26) j) (by omega) (s.ar 14 p).toNatClampNeg hn9 hn10) l_M_164 im_M_note se_M_note f_M_note rfl (Nat.le_of_ble_eq_true rfl) (by omega) (Nat.zero_le _) (Nat.zero_le _) d_M_merge_268 (Nat.zero_le _) (Nat.zero_le _) (zMv.m hk_s) (fun G268 hk268 fk268 ek268 => ?_)
                    refine zr_iload hX rfl d_M_merge_271 ?_
                    refine zr_if_ne hX (tgt := 279) d_M_merge_273 (by decide) (fun _ => ?_) (fun h => absurd h (by decide))
                    refine zr_aload_n hX rfl d_M_merge_279 ?_
                    refine zr_get hX k_M 1 (by decide) q654 rfl hk268.m rfl d_M_merge_280 ?_
                    refine zr_iload hX rfl d_M_merge_283 ?_
                    refine zr_iload hX rfl d_M_merge_285 ?_
                    refine zr_iastN hX (hk268.ar 1 rfl) ((4096 * (24 + p)) + j) rfl (by omega) (by decide) d_M_merge_287 ?_
                    refine zr_aload_n hX rfl d_M_merge_288 ?_
                    refine zr_get hX k_M 2 (by decide) q655 rfl (zput_k (zne hk268.m (hk268.ar 1 rfl) rfl) hk268.m) rfl d_M_merge_289 ?_
                    refine zr_iload hX rfl d_M_merge_292 ?_
                    refine zr_aload_n hX rfl d_M_merge_294 ?_
                    refine zr_get hX k_M 2 (by decide) q655 rfl (zput_k (zne hk268.m (hk268.ar 1 rfl) rfl) hk268.m) rfl d_M_merge_295 ?_
                    refine zr_sipush (v := 4096) hX rfl d_M_merge_298 ?_
                    refine zr_iload_n hX rfl d_M_merge_301 ?_
                    refine zn_imul (a := 4096) (b := c) hX d_M_merge_302 ?_
                    refine zr_iload_n hX rfl d_M_merge_303 ?_
                    refine zn_iadd (a := (4096 * c)) (b := j) hX d_M_merge_304 ?_
                    refine zr_ialdN hX (zput_k (hk268.ne 2 1 rfl rfl (by decide)) (hk268.ar 2 rfl)) ((4096 * c) + j) rfl (by omega) (by decide) d_M_merge_305 ?_
                    refine zr_iastN hX (zput_k (hk268.ne 2 1 rfl rfl (by decide)) (hk268.ar 2 rfl)) ((4096 * (24 + p)) + j) rfl (by omega) (by decide) d_M_merge_306 ?_
                    refine zs_iinc (v := nI (j + 1)) hX rfl (nI_add _ 1) (by decide) rfl d_M_merge_307 ?_
                    refine zr_goto hX (tgt := 93) (by decide) d_M_merge_310 ?_
                    refine zw_drop 4 ?_
                    refine zw_drop 5 ?_
                    refine zw_drop 6 ?_
                    refine zw_drop 7 ?_
                    refine zw_drop 8 ?_
                    exact ih_s hlt_s (zua (zua (znote s p (nI j) ((s.ar 1) ((4096 * (24 + p)) + j)) ((s.ar 1) ((4096 * c) + j)) ((s.ar 26) j) (s.ar 14 p).toNatClampNeg) 1 (upd ((znote s p (nI j) ((s.ar 1) ((4096 * (24 + p)) + j)) ((s.ar 1) ((4096 * c) + j)) ((s.ar 26) j) (s.ar 14 p).toNatClampNeg).ar 1) ((4096 * (24 + p)) + j) ((s.ar 1) ((4096 * c) + j)))) 2 (upd ((znote s p (nI j) ((s.ar 1) ((4096 * (24 + p)) + j)) ((s.ar 1) ((4096 * c) + j)) ((s.ar 26) j) (s.ar 14 p).toNatClampNeg).ar 2) ((4096 * (24 + p)) + j) (((znote s p (nI j) ((s.ar 1) ((4096 * (24 + p)) + j)) ((s.ar 1) ((4096 * c) + j)) ((s.ar 26) j) (s.ar 14 p).toNatClampNeg).ar 2) ((4096 * c) + j)))) _ (by rw [zfor_s, ← hs_s]; unfold st_M_merge; rw [if_neg h139]; rw [if_neg h150]; rw [if_neg h164]; rw [if_neg h194]; rw [if_pos h207]; rw [if_pos h214]; rw [if_pos h252]) (zMv.arr (zMv.arr hk268 1 rfl _) 2 rfl _) (zMf.arr (zMf.arr (zMf.tr fk_s fk268 ek_s) 1 rfl (congrFun (Eq.trans ek268 ek_s) 1) _) 2 rfl (congrFun (Eq.trans ek268 ek_s) 2) _) (Eq.trans ek268 ek_s) ik_s
                · skip
                  refine zr_iload hX rfl d_M_merge_217 ?_
                  refine zr_iconst (v := 3) hX rfl d_M_merge_219 ?_
                  refine zr_icmp_ne hX (tgt := 247) d_M_merge_220 (by decide) (fun h220 => ?_) (fun h220 => ?_)
                  · skip
                    refine zr_iconst (v := 0) hX rfl d_M_merge_247 ?_
                    refine zs_istore hX (by decide) rfl d_M_merge_248 ?_
                    refine zr_iload hX rfl d_M_merge_250 ?_
                    refine zr_if_ne hX (tgt := 271) d_M_merge_252 (by decide) (fun h252 => ?_) (fun h252 => ?_)
                    · skip
                      refine zr_iload hX rfl d_M_merge_271 ?_
                      refine zr_if_ne hX (tgt := 279) d_M_merge_273 (by decide) (fun h => absurd h (by decide)) (fun _ => ?_)
                      refine zr_goto hX (tgt := 307) (by decide) d_M_merge_276 ?_
                      refine zs_iinc (v := nI (j + 1)) hX rfl (nI_add _ 1) (by decide) rfl d_M_merge_307 ?_
                      refine zr_goto hX (tgt := 93) (by decide) d_M_merge_310 ?_
                      refine zw_drop 4 ?_
                      refine zw_drop 5 ?_
                      refine zw_drop 6 ?_
                      refine zw_drop 7 ?_
                      refine zw_drop 8 ?_
                      exact ih_s hlt_s s _ (by rw [zfor_s, ← hs_s]; unfold st_M_merge; rw [if_neg h139]; rw [if_neg h150]; rw [if_neg h164]; rw [if_neg h194]; rw [if_pos h207]; rw [if_neg h214]; rw [if_neg h220]; rw [if_neg h252]) hk_s fk_s ek_s ik_s
                    · skip
                      refine zr_aload_n hX rfl d_M_merge_255 ?_
                      refine zr_iload_n hX rfl d_M_merge_256 ?_
                      refine zr_iload_n hX rfl d_M_merge_257 ?_
                      refine zr_iload hX rfl d_M_merge_258 ?_
                      refine zr_iload hX rfl d_M_merge_260 ?_
                      refine zr_aload_n hX rfl d_M_merge_262 ?_
                      refine zr_get hX k_M 26 (by decide) q679 rfl hk_s.m rfl d_M_merge_263 ?_
                      refine zr_iload_n hX rfl d_M_merge_266 ?_
                      refine zr_ialdN hX (hk_s.ar 26 rfl) j rfl (by omega) (by decide) d_M_merge_267 ?_
                      refine zr_mV0 hX (c_M_note g (d - 1) _ s m hk_s p (nI j) ((s.ar 1) ((4096 * (24 + p)) + j)) ((s.ar 1) ((4096 * c) + j)) ((s.ar 26) j) (by omega) (s.ar 14 p).toNatClampNeg hn9 hn10) l_M_164 im_M_note se_M_note f_M_note rfl (Nat.le_of_ble_eq_true rfl) (by omega) (Nat.zero_le _) (Nat.zero_le _) d_M_merge_268 (Nat.zero_le _) (Nat.zero_le _) (zMv.m hk_s) (fun G268 hk268 fk268 ek268 => ?_)
                      refine zr_iload hX rfl d_M_merge_271 ?_
                      refine zr_if_ne hX (tgt := 279) d_M_merge_273 (by decide) (fun h => absurd h (by decide)) (fun _ => ?_)
                      refine zr_goto hX (tgt := 307) (by decide) d_M_merge_276 ?_
                      refine zs_iinc (v := nI (j + 1)) hX rfl (nI_add _ 1) (by decide) rfl d_M_merge_307 ?_
                      refine zr_goto hX (tgt := 93) (by decide) d_M_merge_310 ?_
                      refine zw_drop 4 ?_
                      refine zw_drop 5 ?_
                      refine zw_drop 6 ?_
                      refine zw_drop 7 ?_
                      refine zw_drop 8 ?_
                      exact ih_s hlt_s (znote s p (nI j) ((s.ar 1) ((4096 * (24 + p)) + j)) ((s.ar 1) ((4096 * c) + j)) ((s.ar 26) j) (s.ar 14 p).toNatClampNeg) _ (by rw [zfor_s, ← hs_s]; unfold st_M_merge; rw [if_neg h139]; rw [if_neg h150]; rw [if_neg h164]; rw [if_neg h194]; rw [if_pos h207]; rw [if_neg h214]; rw [if_neg h220]; rw [if_pos h252]) hk268 (zMf.tr fk_s fk268 ek_s) (Eq.trans ek268 ek_s) ik_s
                  · skip
                    refine zr_aload_n hX rfl d_M_merge_223 ?_
                    refine zr_sipush (v := 4096) hX rfl d_M_merge_224 ?_
                    refine zr_iload_n hX rfl d_M_merge_227 ?_
                    refine zn_imul (a := 4096) (b := c) hX d_M_merge_228 ?_
                    refine zr_iload_n hX rfl d_M_merge_229 ?_
                    refine zn_iadd (a := (4096 * c)) (b := j) hX d_M_merge_230 ?_
                    refine zr_pV hX (c_M_madeIn g (d - 1) _ s m hk_s ((4096 * c) + j) (by omega)) l_M_161 im_M_madeIn se_M_madeIn f_M_madeIn k_M.1 hk_s.m rfl (Nat.le_of_ble_eq_true rfl) (by omega) (Nat.zero_le _) (Nat.zero_le _) d_M_merge_231 ?_
                    refine zr_aload_n hX rfl d_M_merge_234 ?_
                    refine zr_iload hX rfl d_M_merge_235 ?_
                    refine zr_pV hX (c_M_madeIn g (d - 1) _ s m hk_s ((4096 * (24 + p)) + j) (by omega)) l_M_161 im_M_madeIn se_M_madeIn f_M_madeIn k_M.1 hk_s.m rfl (Nat.le_of_ble_eq_true rfl) (by omega) (Nat.zero_le _) (Nat.zero_le _) d_M_merge_237 ?_
                    refine zr_icmp_le hX (tgt := 247) d_M_merge_240 (by decide) (fun h240 => ?_) (fun h240 => ?_)
                    · skip
                      refine zr_iconst (v := 0) hX rfl d_M_merge_247 ?_
                      refine zs_istore hX (by decide) rfl d_M_merge_248 ?_
                      refine zr_iload hX rfl d_M_merge_250 ?_
                      refine zr_if_ne hX (tgt := 271) d_M_merge_252 (by decide) (fun h252 => ?_) (fun h252 => ?_)
                      · skip
                        refine zr_iload hX rfl d_M_merge_271 ?_
                        refine zr_if_ne hX (tgt := 279) d_M_merge_273 (by decide) (fun h => absurd h (by decide)) (fun _ => ?_)
                        refine zr_goto hX (tgt := 307) (by decide) d_M_merge_276 ?_
                        refine zs_iinc (v := nI (j + 1)) hX rfl (nI_add _ 1) (by decide) rfl d_M_merge_307 ?_
                        refine zr_goto hX (tgt := 93) (by decide) d_M_merge_310 ?_
                        refine zw_drop 4 ?_
                        refine zw_drop 5 ?_
                        refine zw_drop 6 ?_
                        refine zw_drop 7 ?_
                        refine zw_drop 8 ?_
                        exact ih_s hlt_s s _ (by rw [zfor_s, ← hs_s]; unfold st_M_merge; rw [if_neg h139]; rw [if_neg h150]; rw [if_neg h164]; rw [if_neg h194]; rw [if_pos h207]; rw [if_neg h214]; rw [if_pos h220]; rw [if_pos h240]; rw [if_neg h252]) hk_s fk_s ek_s ik_s
                      · skip
                        refine zr_aload_n hX rfl d_M_merge_255 ?_
                        refine zr_iload_n hX rfl d_M_merge_256 ?_
                        refine zr_iload_n hX rfl d_M_merge_257 ?_
                        refine zr_iload hX rfl d_M_merge_258 ?_
                        refine zr_iload hX rfl d_M_merge_260 ?_
                        refine zr_aload_n hX rfl d_M_merge_262 ?_
                        refine zr_get hX k_M 26 (by decide) q679 rfl hk_s.m rfl d_M_merge_263 ?_
                        refine zr_iload_n hX rfl d_M_merge_266 ?_
                        refine zr_ialdN hX (hk_s.ar 26 rfl) j rfl (by omega) (by decide) d_M_merge_267 ?_
                        refine zr_mV0 hX (c_M_note g (d - 1) _ s m hk_s p (nI j) ((s.ar 1) ((4096 * (24 + p)) + j)) ((s.ar 1) ((4096 * c) + j)) ((s.ar 26) j) (by omega) (s.ar 14 p).toNatClampNeg hn9 hn10) l_M_164 im_M_note se_M_note f_M_note rfl (Nat.le_of_ble_eq_true rfl) (by omega) (Nat.zero_le _) (Nat.zero_le _) d_M_merge_268 (Nat.zero_le _) (Nat.zero_le _) (zMv.m hk_s) (fun G268 hk268 fk268 ek268 => ?_)
                        refine zr_iload hX rfl d_M_merge_271 ?_
                        refine zr_if_ne hX (tgt := 279) d_M_merge_273 (by decide) (fun h => absurd h (by decide)) (fun _ => ?_)
                        refine zr_goto hX (tgt := 307) (by decide) d_M_merge_276 ?_
                        refine zs_iinc (v := nI (j + 1)) hX rfl (nI_add _ 1) (by decide) rfl d_M_merge_307 ?_
                        refine zr_goto hX (tgt := 93) (by decide) d_M_merge_310 ?_
                        refine zw_drop 4 ?_
                        refine zw_drop 5 ?_
                        refine zw_drop 6 ?_
                        refine zw_drop 7 ?_
                        refine zw_drop 8 ?_
                        exact ih_s hlt_s (znote s p (nI j) ((s.ar 1) ((4096 * (24 + p)) + j)) ((s.ar 1) ((4096 * c) + j)) ((s.ar 26) j) (s.ar 14 p).toNatClampNeg) _ (by rw [zfor_s, ← hs_s]; unfold st_M_merge; rw [if_neg h139]; rw [if_neg h150]; rw [if_neg h164]; rw [if_neg h194]; rw [if_pos h207]; rw [if_neg h214]; rw [if_pos h220]; rw [if_pos h240]; rw [if_pos h252]) hk268 (zMf.tr fk_s fk268 ek_s) (Eq.trans ek268 ek_s) ik_s
                    · skip
                      refine zr_iconst (v := 1) hX rfl d_M_merge_243 ?_
                      refine zr_goto hX (tgt := 248) (by decide) d_M_merge_244 ?_
                      refine zs_istore hX (by decide) rfl d_M_merge_248 ?_
                      refine zr_iload hX rfl d_M_merge_250 ?_
                      refine zr_if_ne hX (tgt := 271) d_M_merge_252 (by decide) (fun h252 => ?_) (fun h252 => ?_)
                      · skip
                        refine zr_iload hX rfl d_M_merge_271 ?_
                        refine zr_if_ne hX (tgt := 279) d_M_merge_273 (by decide) (fun _ => ?_) (fun h => absurd h (by decide))
                        refine zr_aload_n hX rfl d_M_merge_279 ?_
                        refine zr_get hX k_M 1 (by decide) q654 rfl hk_s.m rfl d_M_merge_280 ?_
                        refine zr_iload hX rfl d_M_merge_283 ?_
                        refine zr_iload hX rfl d_M_merge_285 ?_
                        refine zr_iastN hX (hk_s.ar 1 rfl) ((4096 * (24 + p)) + j) rfl (by omega) (by decide) d_M_merge_287 ?_
                        refine zr_aload_n hX rfl d_M_merge_288 ?_
                        refine zr_get hX k_M 2 (by decide) q655 rfl (zput_k (zne hk_s.m (hk_s.ar 1 rfl) rfl) hk_s.m) rfl d_M_merge_289 ?_
                        refine zr_iload hX rfl d_M_merge_292 ?_
                        refine zr_aload_n hX rfl d_M_merge_294 ?_
                        refine zr_get hX k_M 2 (by decide) q655 rfl (zput_k (zne hk_s.m (hk_s.ar 1 rfl) rfl) hk_s.m) rfl d_M_merge_295 ?_
                        refine zr_sipush (v := 4096) hX rfl d_M_merge_298 ?_
                        refine zr_iload_n hX rfl d_M_merge_301 ?_
                        refine zn_imul (a := 4096) (b := c) hX d_M_merge_302 ?_
                        refine zr_iload_n hX rfl d_M_merge_303 ?_
                        refine zn_iadd (a := (4096 * c)) (b := j) hX d_M_merge_304 ?_
                        refine zr_ialdN hX (zput_k (hk_s.ne 2 1 rfl rfl (by decide)) (hk_s.ar 2 rfl)) ((4096 * c) + j) rfl (by omega) (by decide) d_M_merge_305 ?_
                        refine zr_iastN hX (zput_k (hk_s.ne 2 1 rfl rfl (by decide)) (hk_s.ar 2 rfl)) ((4096 * (24 + p)) + j) rfl (by omega) (by decide) d_M_merge_306 ?_
                        refine zs_iinc (v := nI (j + 1)) hX rfl (nI_add _ 1) (by decide) rfl d_M_merge_307 ?_
                        refine zr_goto hX (tgt := 93) (by decide) d_M_merge_310 ?_
                        refine zw_drop 4 ?_
                        refine zw_drop 5 ?_
                        refine zw_drop 6 ?_
                        refine zw_drop 7 ?_
                        refine zw_drop 8 ?_
                        exact ih_s hlt_s (zua (zua s 1 (upd (s.ar 1) ((4096 * (24 + p)) + j) ((s.ar 1) ((4096 * c) + j)))) 2 (upd (s.ar 2) ((4096 * (24 + p)) + j) ((s.ar 2) ((4096 * c) + j)))) _ (by rw [zfor_s, ← hs_s]; unfold st_M_merge; rw [if_neg h139]; rw [if_neg h150]; rw [if_neg h164]; rw [if_neg h194]; rw [if_pos h207]; rw [if_neg h214]; rw [if_pos h220]; rw [if_neg h240]; rw [if_neg h252]) (zMv.arr (zMv.arr hk_s 1 rfl _) 2 rfl _) (zMf.arr (zMf.arr fk_s 1 rfl (congrFun ek_s 1) _) 2 rfl (congrFun ek_s 2) _) ek_s ik_s
                      · skip
                        refine zr_aload_n hX rfl d_M_merge_255 ?_
                        refine zr_iload_n hX rfl d_M_merge_256 ?_
                        refine zr_iload_n hX rfl d_M_merge_257 ?_
                        refine zr_iload hX rfl d_M_merge_258 ?_
                        refine zr_iload hX rfl d_M_merge_260 ?_
                        refine zr_aload_n hX rfl d_M_merge_262 ?_
                        refine zr_get hX k_M 26 (by decide) q679 rfl hk_s.m rfl d_M_merge_263 ?_
                        refine zr_iload_n hX rfl d_M_merge_266 ?_
                        refine zr_ialdN hX (hk_s.ar 26 rfl) j rfl (by omega) (by decide) d_M_merge_267 ?_
                        refine zr_mV0 hX (c_M_note g (d - 1) _ s m hk_s p (nI j) ((s.ar 1) ((4096 * (24 + p)) + j)) ((s.ar 1) ((4096 * c) + j)) ((s.ar 26) j) (by omega) (s.ar 14 p).toNatClampNeg hn9 hn10) l_M_164 im_M_note se_M_note f_M_note rfl (Nat.le_of_ble_eq_true rfl) (by omega) (Nat.zero_le _) (Nat.zero_le _) d_M_merge_268 (Nat.zero_le _) (Nat.zero_le _) (zMv.m hk_s) (fun G268 hk268 fk268 ek268 => ?_)
                        refine zr_iload hX rfl d_M_merge_271 ?_
                        refine zr_if_ne hX (tgt := 279) d_M_merge_273 (by decide) (fun _ => ?_) (fun h => absurd h (by decide))
                        refine zr_aload_n hX rfl d_M_merge_279 ?_
                        refine zr_get hX k_M 1 (by decide) q654 rfl hk268.m rfl d_M_merge_280 ?_
                        refine zr_iload hX rfl d_M_merge_283 ?_
                        refine zr_iload hX rfl d_M_merge_285 ?_
                        refine zr_iastN hX (hk268.ar 1 rfl) ((4096 * (24 + p)) + j) rfl (by omega) (by decide) d_M_merge_287 ?_
                        refine zr_aload_n hX rfl d_M_merge_288 ?_
                        refine zr_get hX k_M 2 (by decide) q655 rfl (zput_k (zne hk268.m (hk268.ar 1 rfl) rfl) hk268.m) rfl d_M_merge_289 ?_
                        refine zr_iload hX rfl d_M_merge_292 ?_
                        refine zr_aload_n hX rfl d_M_merge_294 ?_
                        refine zr_get hX k_M 2 (by decide) q655 rfl (zput_k (zne hk268.m (hk268.ar 1 rfl) rfl) hk268.m) rfl d_M_merge_295 ?_
                        refine zr_sipush (v := 4096) hX rfl d_M_merge_298 ?_
                        refine zr_iload_n hX rfl d_M_merge_301 ?_
                        refine zn_imul (a := 4096) (b := c) hX d_M_merge_302 ?_
                        refine zr_iload_n hX rfl d_M_merge_303 ?_
                        refine zn_iadd (a := (4096 * c)) (b := j) hX d_M_merge_304 ?_
                        refine zr_ialdN hX (zput_k (hk268.ne 2 1 rfl rfl (by decide)) (hk268.ar 2 rfl)) ((4096 * c) + j) rfl (by omega) (by decide) d_M_merge_305 ?_
                        refine zr_iastN hX (zput_k (hk268.ne 2 1 rfl rfl (by decide)) (hk268.ar 2 rfl)) ((4096 * (24 + p)) + j) rfl (by omega) (by decide) d_M_merge_306 ?_
                        refine zs_iinc (v := nI (j + 1)) hX rfl (nI_add _ 1) (by decide) rfl d_M_merge_307 ?_
                        refine zr_goto hX (tgt := 93) (by decide) d_M_merge_310 ?_
                        refine zw_drop 4 ?_
                        refine zw_drop 5 ?_
                        refine zw_drop 6 ?_
                        refine zw_drop 7 ?_
                        refine zw_drop 8 ?_
                        exact ih_s hlt_s (zua (zua (znote s p (nI j) ((s.ar 1) ((4096 * (24 + p)) + j)) ((s.ar 1) ((4096 * c) + j)) ((s.ar 26) j) (s.ar 14 p).toNatClampNeg) 1 (upd ((znote s p (nI j) ((s.ar 1) ((4096 * (24 + p)) + j)) ((s.ar 1) ((4096 * c) + j)) ((s.ar 26) j) (s.ar 14 p).toNatClampNeg).ar 1) ((4096 * (24 + p)) + j) ((s.ar 1) ((4096 * c) + j)))) 2 (upd ((znote s p (nI j) ((s.ar 1) ((4096 * (24 + p)) + j)) ((s.ar 1) ((4096 * c) + j)) ((s.ar 26) j) (s.ar 14 p).toNatClampNeg).ar 2) ((4096 * (24 + p)) + j) (((znote s p (nI j) ((s.ar 1) ((4096 * (24 + p)) + j)) ((s.ar 1) ((4096 * c) + j)) ((s.ar 26) j) (s.ar 14 p).toNatClampNeg).ar 2) ((4096 * c) + j)))) _ (by rw [zfor_s, ← hs_s]; unfold st_M_merge; rw [if_neg h139]; rw [if_neg h150]; rw [if_neg h164]; rw [if_neg h194]; rw [if_pos h207]; rw [if_neg h214]; rw [if_pos h220]; rw [if_neg h240]; rw [if_pos h252]) (zMv.arr (zMv.arr hk268 1 rfl _) 2 rfl _) (zMf.arr (zMf.arr (zMf.tr fk_s fk268 ek_s) 1 rfl (congrFun (Eq.trans ek268 ek_s) 1) _) 2 rfl (congrFun (Eq.trans ek268 ek_s) 2) _) (Eq.trans ek268 ek_s) ik_s
            · skip
              refine zr_iload hX rfl d_M_merge_197 ?_
              refine zr_iload hX rfl d_M_merge_199 ?_
              refine zr_icmp_gt hX (tgt := 243) d_M_merge_201 (by decide) (fun h201 => ?_) (fun h201 => ?_)
              · skip
                refine zr_iconst (v := 1) hX rfl d_M_merge_243 ?_
                refine zr_goto hX (tgt := 248) (by decide) d_M_merge_244 ?_
                refine zs_istore hX (by decide) rfl d_M_merge_248 ?_
                refine zr_iload hX rfl d_M_merge_250 ?_
                refine zr_if_ne hX (tgt := 271) d_M_merge_252 (by decide) (fun h252 => ?_) (fun h252 => ?_)
                · skip
                  refine zr_iload hX rfl d_M_merge_271 ?_
                  refine zr_if_ne hX (tgt := 279) d_M_merge_273 (by decide) (fun _ => ?_) (fun h => absurd h (by decide))
                  refine zr_aload_n hX rfl d_M_merge_279 ?_
                  refine zr_get hX k_M 1 (by decide) q654 rfl hk_s.m rfl d_M_merge_280 ?_
                  refine zr_iload hX rfl d_M_merge_283 ?_
                  refine zr_iload hX rfl d_M_merge_285 ?_
                  refine zr_iastN hX (hk_s.ar 1 rfl) ((4096 * (24 + p)) + j) rfl (by omega) (by decide) d_M_merge_287 ?_
                  refine zr_aload_n hX rfl d_M_merge_288 ?_
                  refine zr_get hX k_M 2 (by decide) q655 rfl (zput_k (zne hk_s.m (hk_s.ar 1 rfl) rfl) hk_s.m) rfl d_M_merge_289 ?_
                  refine zr_iload hX rfl d_M_merge_292 ?_
                  refine zr_aload_n hX rfl d_M_merge_294 ?_
                  refine zr_get hX k_M 2 (by decide) q655 rfl (zput_k (zne hk_s.m (hk_s.ar 1 rfl) rfl) hk_s.m) rfl d_M_merge_295 ?_
                  refine zr_sipush (v := 4096) hX rfl d_M_merge_298 ?_
                  refine zr_iload_n hX rfl d_M_merge_301 ?_
                  refine zn_imul (a := 4096) (b := c) hX d_M_merge_302 ?_
                  refine zr_iload_n hX rfl d_M_merge_303 ?_
                  refine zn_iadd (a := (4096 * c)) (b := j) hX d_M_merge_304 ?_
                  refine zr_ialdN hX (zput_k (hk_s.ne 2 1 rfl rfl (by decide)) (hk_s.ar 2 rfl)) ((4096 * c) + j) rfl (by omega) (by decide) d_M_merge_305 ?_
                  refine zr_iastN hX (zput_k (hk_s.ne 2 1 rfl rfl (by decide)) (hk_s.ar 2 rfl)) ((4096 * (24 + p)) + j) rfl (by omega) (by decide) d_M_merge_306 ?_
                  refine zs_iinc (v := nI (j + 1)) hX rfl (nI_add _ 1) (by decide) rfl d_M_merge_307 ?_
                  refine zr_goto hX (tgt := 93) (by decide) d_M_merge_310 ?_
                  refine zw_drop 4 ?_
                  refine zw_drop 5 ?_
                  refine zw_drop 6 ?_
                  refine zw_drop 7 ?_
                  refine zw_drop 8 ?_
                  exact ih_s hlt_s (zua (zua s 1 (upd (s.ar 1) ((4096 * (24 + p)) + j) ((s.ar 1) ((4096 * c) + j)))) 2 (upd (s.ar 2) ((4096 * (24 + p)) + j) ((s.ar 2) ((4096 * c) + j)))) _ (by rw [zfor_s, ← hs_s]; unfold st_M_merge; rw [if_neg h139]; rw [if_neg h150]; rw [if_neg h164]; rw [if_pos h194]; rw [if_pos h201]; rw [if_neg h252]) (zMv.arr (zMv.arr hk_s 1 rfl _) 2 rfl _) (zMf.arr (zMf.arr fk_s 1 rfl (congrFun ek_s 1) _) 2 rfl (congrFun ek_s 2) _) ek_s ik_s
                · skip
                  refine zr_aload_n hX rfl d_M_merge_255 ?_
                  refine zr_iload_n hX rfl d_M_merge_256 ?_
                  refine zr_iload_n hX rfl d_M_merge_257 ?_
                  refine zr_iload hX rfl d_M_merge_258 ?_
                  refine zr_iload hX rfl d_M_merge_260 ?_
                  refine zr_aload_n hX rfl d_M_merge_262 ?_
                  refine zr_get hX k_M 26 (by decide) q679 rfl hk_s.m rfl d_M_merge_263 ?_
                  refine zr_iload_n hX rfl d_M_merge_266 ?_
                  refine zr_ialdN hX (hk_s.ar 26 rfl) j rfl (by omega) (by decide) d_M_merge_267 ?_
                  refine zr_mV0 hX (c_M_note g (d - 1) _ s m hk_s p (nI j) ((s.ar 1) ((4096 * (24 + p)) + j)) ((s.ar 1) ((4096 * c) + j)) ((s.ar 26) j) (by omega) (s.ar 14 p).toNatClampNeg hn9 hn10) l_M_164 im_M_note se_M_note f_M_note rfl (Nat.le_of_ble_eq_true rfl) (by omega) (Nat.zero_le _) (Nat.zero_le _) d_M_merge_268 (Nat.zero_le _) (Nat.zero_le _) (zMv.m hk_s) (fun G268 hk268 fk268 ek268 => ?_)
                  refine zr_iload hX rfl d_M_merge_271 ?_
                  refine zr_if_ne hX (tgt := 279) d_M_merge_273 (by decide) (fun _ => ?_) (fun h => absurd h (by decide))
                  refine zr_aload_n hX rfl d_M_merge_279 ?_
                  refine zr_get hX k_M 1 (by decide) q654 rfl hk268.m rfl d_M_merge_280 ?_
                  refine zr_iload hX rfl d_M_merge_283 ?_
                  refine zr_iload hX rfl d_M_merge_285 ?_
                  refine zr_iastN hX (hk268.ar 1 rfl) ((4096 * (24 + p)) + j) rfl (by omega) (by decide) d_M_merge_287 ?_
                  refine zr_aload_n hX rfl d_M_merge_288 ?_
                  refine zr_get hX k_M 2 (by decide) q655 rfl (zput_k (zne hk268.m (hk268.ar 1 rfl) rfl) hk268.m) rfl d_M_merge_289 ?_
                  refine zr_iload hX rfl d_M_merge_292 ?_
                  refine zr_aload_n hX rfl d_M_merge_294 ?_
                  refine zr_get hX k_M 2 (by decide) q655 rfl (zput_k (zne hk268.m (hk268.ar 1 rfl) rfl) hk268.m) rfl d_M_merge_295 ?_
                  refine zr_sipush (v := 4096) hX rfl d_M_merge_298 ?_
                  refine zr_iload_n hX rfl d_M_merge_301 ?_
                  refine zn_imul (a := 4096) (b := c) hX d_M_merge_302 ?_
                  refine zr_iload_n hX rfl d_M_merge_303 ?_
                  refine zn_iadd (a := (4096 * c)) (b := j) hX d_M_merge_304 ?_
                  refine zr_ialdN hX (zput_k (hk268.ne 2 1 rfl rfl (by decide)) (hk268.ar 2 rfl)) ((4096 * c) + j) rfl (by omega) (by decide) d_M_merge_305 ?_
                  refine zr_iastN hX (zput_k (hk268.ne 2 1 rfl rfl (by decide)) (hk268.ar 2 rfl)) ((4096 * (24 + p)) + j) rfl (by omega) (by decide) d_M_merge_306 ?_
                  refine zs_iinc (v := nI (j + 1)) hX rfl (nI_add _ 1) (by decide) rfl d_M_merge_307 ?_
                  refine zr_goto hX (tgt := 93) (by decide) d_M_merge_310 ?_
                  refine zw_drop 4 ?_
                  refine zw_drop 5 ?_
                  refine zw_drop 6 ?_
                  refine zw_drop 7 ?_
                  refine zw_drop 8 ?_
                  exact ih_s hlt_s (zua (zua (znote s p (nI j) ((s.ar 1) ((4096 * (24 + p)) + j)) ((s.ar 1) ((4096 * c) + j)) ((s.ar 26) j) (s.ar 14 p).toNatClampNeg) 1 (upd ((znote s p (nI j) ((s.ar 1) ((4096 * (24 + p)) + j)) ((s.ar 1) ((4096 * c) + j)) ((s.ar 26) j) (s.ar 14 p).toNatClampNeg).ar 1) ((4096 * (24 + p)) + j) ((s.ar 1) ((4096 * c) + j)))) 2 (upd ((znote s p (nI j) ((s.ar 1) ((4096 * (24 + p)) + j)) ((s.ar 1) ((4096 * c) + j)) ((s.ar 26) j) (s.ar 14 p).toNatClampNeg).ar 2) ((4096 * (24 + p)) + j) (((znote s p (nI j) ((s.ar 1) ((4096 * (24 + p)) + j)) ((s.ar 1) ((4096 * c) + j)) ((s.ar 26) j) (s.ar 14 p).toNatClampNeg).ar 2) ((4096 * c) + j)))) _ (by rw [zfor_s, ← hs_s]; unfold st_M_merge; rw [if_neg h139]; rw [if_neg h150]; rw [if_neg h164]; rw [if_pos h194]; rw [if_pos h201]; rw [if_pos h252]) (zMv.arr (zMv.arr hk268 1 rfl _) 2 rfl _) (zMf.arr (zMf.arr (zMf.tr fk_s fk268 ek_s) 1 rfl (congrFun (Eq.trans ek268 ek_s) 1) _) 2 rfl (congrFun (Eq.trans ek268 ek_s) 2) _) (Eq.trans ek268 ek_s) ik_s
              · skip
                refine zr_iload hX rfl d_M_merge_204 ?_
                refine zr_iconst (v := 2) hX rfl d_M_merge_206 ?_
                refine zr_icmp_ne hX (tgt := 217) d_M_merge_207 (by decide) (fun h207 => ?_) (fun h207 => ?_)
                · skip
                  refine zr_iload hX rfl d_M_merge_217 ?_
                  refine zr_iconst (v := 3) hX rfl d_M_merge_219 ?_
                  refine zr_icmp_ne hX (tgt := 247) d_M_merge_220 (by decide) (fun h220 => ?_) (fun h220 => ?_)
                  · skip
                    refine zr_iconst (v := 0) hX rfl d_M_merge_247 ?_
                    refine zs_istore hX (by decide) rfl d_M_merge_248 ?_
                    refine zr_iload hX rfl d_M_merge_250 ?_
                    refine zr_if_ne hX (tgt := 271) d_M_merge_252 (by decide) (fun h252 => ?_) (fun h252 => ?_)
                    · skip
                      refine zr_iload hX rfl d_M_merge_271 ?_
                      refine zr_if_ne hX (tgt := 279) d_M_merge_273 (by decide) (fun h => absurd h (by decide)) (fun _ => ?_)
                      refine zr_goto hX (tgt := 307) (by decide) d_M_merge_276 ?_
                      refine zs_iinc (v := nI (j + 1)) hX rfl (nI_add _ 1) (by decide) rfl d_M_merge_307 ?_
                      refine zr_goto hX (tgt := 93) (by decide) d_M_merge_310 ?_
                      refine zw_drop 4 ?_
                      refine zw_drop 5 ?_
                      refine zw_drop 6 ?_
                      refine zw_drop 7 ?_
                      refine zw_drop 8 ?_
                      exact ih_s hlt_s s _ (by rw [zfor_s, ← hs_s]; unfold st_M_merge; rw [if_neg h139]; rw [if_neg h150]; rw [if_neg h164]; rw [if_pos h194]; rw [if_neg h201]; rw [if_neg h207]; rw [if_neg h220]; rw [if_neg h252]) hk_s fk_s ek_s ik_s
                    · skip
                      refine zr_aload_n hX rfl d_M_merge_255 ?_
                      refine zr_iload_n hX rfl d_M_merge_256 ?_
                      refine zr_iload_n hX rfl d_M_merge_257 ?_
                      refine zr_iload hX rfl d_M_merge_258 ?_
                      refine zr_iload hX rfl d_M_merge_260 ?_
                      refine zr_aload_n hX rfl d_M_merge_262 ?_
                      refine zr_get hX k_M 26 (by decide) q679 rfl hk_s.m rfl d_M_merge_263 ?_
                      refine zr_iload_n hX rfl d_M_merge_266 ?_
                      refine zr_ialdN hX (hk_s.ar 26 rfl) j rfl (by omega) (by decide) d_M_merge_267 ?_
                      refine zr_mV0 hX (c_M_note g (d - 1) _ s m hk_s p (nI j) ((s.ar 1) ((4096 * (24 + p)) + j)) ((s.ar 1) ((4096 * c) + j)) ((s.ar 26) j) (by omega) (s.ar 14 p).toNatClampNeg hn9 hn10) l_M_164 im_M_note se_M_note f_M_note rfl (Nat.le_of_ble_eq_true rfl) (by omega) (Nat.zero_le _) (Nat.zero_le _) d_M_merge_268 (Nat.zero_le _) (Nat.zero_le _) (zMv.m hk_s) (fun G268 hk268 fk268 ek268 => ?_)
                      refine zr_iload hX rfl d_M_merge_271 ?_
                      refine zr_if_ne hX (tgt := 279) d_M_merge_273 (by decide) (fun h => absurd h (by decide)) (fun _ => ?_)
                      refine zr_goto hX (tgt := 307) (by decide) d_M_merge_276 ?_
                      refine zs_iinc (v := nI (j + 1)) hX rfl (nI_add _ 1) (by decide) rfl d_M_merge_307 ?_
                      refine zr_goto hX (tgt := 93) (by decide) d_M_merge_310 ?_
                      refine zw_drop 4 ?_
                      refine zw_drop 5 ?_
                      refine zw_drop 6 ?_
                      refine zw_drop 7 ?_
                      refine zw_drop 8 ?_
                      exact ih_s hlt_s (znote s p (nI j) ((s.ar 1) ((4096 * (24 + p)) + j)) ((s.ar 1) ((4096 * c) + j)) ((s.ar 26) j) (s.ar 14 p).toNatClampNeg) _ (by rw [zfor_s, ← hs_s]; unfold st_M_merge; rw [if_neg h139]; rw [if_neg h150]; rw [if_neg h164]; rw [if_pos h194]; rw [if_neg h201]; rw [if_neg h207]; rw [if_neg h220]; rw [if_pos h252]) hk268 (zMf.tr fk_s fk268 ek_s) (Eq.trans ek268 ek_s) ik_s
                  · skip
                    refine zr_aload_n hX rfl d_M_merge_223 ?_
                    refine zr_sipush (v := 4096) hX rfl d_M_merge_224 ?_
                    refine zr_iload_n hX rfl d_M_merge_227 ?_
                    refine zn_imul (a := 4096) (b := c) hX d_M_merge_228 ?_
                    refine zr_iload_n hX rfl d_M_merge_229 ?_
                    refine zn_iadd (a := (4096 * c)) (b := j) hX d_M_merge_230 ?_
                    refine zr_pV hX (c_M_madeIn g (d - 1) _ s m hk_s ((4096 * c) + j) (by omega)) l_M_161 im_M_madeIn se_M_madeIn f_M_madeIn k_M.1 hk_s.m rfl (Nat.le_of_ble_eq_true rfl) (by omega) (Nat.zero_le _) (Nat.zero_le _) d_M_merge_231 ?_
                    refine zr_aload_n hX rfl d_M_merge_234 ?_
                    refine zr_iload hX rfl d_M_merge_235 ?_
                    refine zr_pV hX (c_M_madeIn g (d - 1) _ s m hk_s ((4096 * (24 + p)) + j) (by omega)) l_M_161 im_M_madeIn se_M_madeIn f_M_madeIn k_M.1 hk_s.m rfl (Nat.le_of_ble_eq_true rfl) (by omega) (Nat.zero_le _) (Nat.zero_le _) d_M_merge_237 ?_
                    refine zr_icmp_le hX (tgt := 247) d_M_merge_240 (by decide) (fun h240 => ?_) (fun h240 => ?_)
                    · skip
                      refine zr_iconst (v := 0) hX rfl d_M_merge_247 ?_
                      refine zs_istore hX (by decide) rfl d_M_merge_248 ?_
                      refine zr_iload hX rfl d_M_merge_250 ?_
                      refine zr_if_ne hX (tgt := 271) d_M_merge_252 (by decide) (fun h252 => ?_) (fun h252 => ?_)
                      · skip
                        refine zr_iload hX rfl d_M_merge_271 ?_
                        refine zr_if_ne hX (tgt := 279) d_M_merge_273 (by decide) (fun h => absurd h (by decide)) (fun _ => ?_)
                        refine zr_goto hX (tgt := 307) (by decide) d_M_merge_276 ?_
                        refine zs_iinc (v := nI (j + 1)) hX rfl (nI_add _ 1) (by decide) rfl d_M_merge_307 ?_
                        refine zr_goto hX (tgt := 93) (by decide) d_M_merge_310 ?_
                        refine zw_drop 4 ?_
                        refine zw_drop 5 ?_
                        refine zw_drop 6 ?_
                        refine zw_drop 7 ?_
                        refine zw_drop 8 ?_
                        exact ih_s hlt_s s _ (by rw [zfor_s, ← hs_s]; unfold st_M_merge; rw [if_neg h139]; rw [if_neg h150]; rw [if_neg h164]; rw [if_pos h194]; rw [if_neg h201]; rw [if_neg h207]; rw [if_pos h220]; rw [if_pos h240]; rw [if_neg h252]) hk_s fk_s ek_s ik_s
                      · skip
                        refine zr_aload_n hX rfl d_M_merge_255 ?_
                        refine zr_iload_n hX rfl d_M_merge_256 ?_
                        refine zr_iload_n hX rfl d_M_merge_257 ?_
                        refine zr_iload hX rfl d_M_merge_258 ?_
                        refine zr_iload hX rfl d_M_merge_260 ?_
                        refine zr_aload_n hX rfl d_M_merge_262 ?_
                        refine zr_get hX k_M 26 (by decide) q679 rfl hk_s.m rfl d_M_merge_263 ?_
                        refine zr_iload_n hX rfl d_M_merge_266 ?_
                        refine zr_ialdN hX (hk_s.ar 26 rfl) j rfl (by omega) (by decide) d_M_merge_267 ?_
                        refine zr_mV0 hX (c_M_note g (d - 1) _ s m hk_s p (nI j) ((s.ar 1) ((4096 * (24 + p)) + j)) ((s.ar 1) ((4096 * c) + j)) ((s.ar 26) j) (by omega) (s.ar 14 p).toNatClampNeg hn9 hn10) l_M_164 im_M_note se_M_note f_M_note rfl (Nat.le_of_ble_eq_true rfl) (by omega) (Nat.zero_le _) (Nat.zero_le _) d_M_merge_268 (Nat.zero_le _) (Nat.zero_le _) (zMv.m hk_s) (fun G268 hk268 fk268 ek268 => ?_)
                        refine zr_iload hX rfl d_M_merge_271 ?_
                        refine zr_if_ne hX (tgt := 279) d_M_merge_273 (by decide) (fun h => absurd h (by decide)) (fun _ => ?_)
                        refine zr_goto hX (tgt := 307) (by decide) d_M_merge_276 ?_
                        refine zs_iinc (v := nI (j + 1)) hX rfl (nI_add _ 1) (by decide) rfl d_M_merge_307 ?_
                        refine zr_goto hX (tgt := 93) (by decide) d_M_merge_310 ?_
                        refine zw_drop 4 ?_
                        refine zw_drop 5 ?_
                        refine zw_drop 6 ?_
                        refine zw_drop 7 ?_
                        refine zw_drop 8 ?_
                        exact ih_s hlt_s (znote s p (nI j) ((s.ar 1) ((4096 * (24 + p)) + j)) ((s.ar 1) ((4096 * c) + j)) ((s.ar 26) j) (s.ar 14 p).toNatClampNeg) _ (by rw [zfor_s, ← hs_s]; unfold st_M_merge; rw [if_neg h139]; rw [if_neg h150]; rw [if_neg h164]; rw [if_pos h194]; rw [if_neg h201]; rw [if_neg h207]; rw [if_pos h220]; rw [if_pos h240]; rw [if_pos h252]) hk268 (zMf.tr fk_s fk268 ek_s) (Eq.trans ek268 ek_s) ik_s
                    · skip
                      refine zr_iconst (v := 1) hX rfl d_M_merge_243 ?_
                      refine zr_goto hX (tgt := 248) (by decide) d_M_merge_244 ?_
                      refine zs_istore hX (by decide) rfl d_M_merge_248 ?_
                      refine zr_iload hX rfl d_M_merge_250 ?_
                      refine zr_if_ne hX (tgt := 271) d_M_merge_252 (by decide) (fun h252 => ?_) (fun h252 => ?_)
                      · skip
                        refine zr_iload hX rfl d_M_merge_271 ?_
                        refine zr_if_ne hX (tgt := 279) d_M_merge_273 (by decide) (fun _ => ?_) (fun h => absurd h (by decide))
                        refine zr_aload_n hX rfl d_M_merge_279 ?_
                        refine zr_get hX k_M 1 (by decide) q654 rfl hk_s.m rfl d_M_merge_280 ?_
                        refine zr_iload hX rfl d_M_merge_283 ?_
                        refine zr_iload hX rfl d_M_merge_285 ?_
                        refine zr_iastN hX (hk_s.ar 1 rfl) ((4096 * (24 + p)) + j) rfl (by omega) (by decide) d_M_merge_287 ?_
                        refine zr_aload_n hX rfl d_M_merge_288 ?_
                        refine zr_get hX k_M 2 (by decide) q655 rfl (zput_k (zne hk_s.m (hk_s.ar 1 rfl) rfl) hk_s.m) rfl d_M_merge_289 ?_
                        refine zr_iload hX rfl d_M_merge_292 ?_
                        refine zr_aload_n hX rfl d_M_merge_294 ?_
                        refine zr_get hX k_M 2 (by decide) q655 rfl (zput_k (zne hk_s.m (hk_s.ar 1 rfl) rfl) hk_s.m) rfl d_M_merge_295 ?_
                        refine zr_sipush (v := 4096) hX rfl d_M_merge_298 ?_
                        refine zr_iload_n hX rfl d_M_merge_301 ?_
                        refine zn_imul (a := 4096) (b := c) hX d_M_merge_302 ?_
                        refine zr_iload_n hX rfl d_M_merge_303 ?_
                        refine zn_iadd (a := (4096 * c)) (b := j) hX d_M_merge_304 ?_
                        refine zr_ialdN hX (zput_k (hk_s.ne 2 1 rfl rfl (by decide)) (hk_s.ar 2 rfl)) ((4096 * c) + j) rfl (by omega) (by decide) d_M_merge_305 ?_
                        refine zr_iastN hX (zput_k (hk_s.ne 2 1 rfl rfl (by decide)) (hk_s.ar 2 rfl)) ((4096 * (24 + p)) + j) rfl (by omega) (by decide) d_M_merge_306 ?_
                        refine zs_iinc (v := nI (j + 1)) hX rfl (nI_add _ 1) (by decide) rfl d_M_merge_307 ?_
                        refine zr_goto hX (tgt := 93) (by decide) d_M_merge_310 ?_
                        refine zw_drop 4 ?_
                        refine zw_drop 5 ?_
                        refine zw_drop 6 ?_
                        refine zw_drop 7 ?_
                        refine zw_drop 8 ?_
                        exact ih_s hlt_s (zua (zua s 1 (upd (s.ar 1) ((4096 * (24 + p)) + j) ((s.ar 1) ((4096 * c) + j)))) 2 (upd (s.ar 2) ((4096 * (24 + p)) + j) ((s.ar 2) ((4096 * c) + j)))) _ (by rw [zfor_s, ← hs_s]; unfold st_M_merge; rw [if_neg h139]; rw [if_neg h150]; rw [if_neg h164]; rw [if_pos h194]; rw [if_neg h201]; rw [if_neg h207]; rw [if_pos h220]; rw [if_neg h240]; rw [if_neg h252]) (zMv.arr (zMv.arr hk_s 1 rfl _) 2 rfl _) (zMf.arr (zMf.arr fk_s 1 rfl (congrFun ek_s 1) _) 2 rfl (congrFun ek_s 2) _) ek_s ik_s
                      · skip
                        refine zr_aload_n hX rfl d_M_merge_255 ?_
                        refine zr_iload_n hX rfl d_M_merge_256 ?_
                        refine zr_iload_n hX rfl d_M_merge_257 ?_
                        refine zr_iload hX rfl d_M_merge_258 ?_
                        refine zr_iload hX rfl d_M_merge_260 ?_
                        refine zr_aload_n hX rfl d_M_merge_262 ?_
                        refine zr_get hX k_M 26 (by decide) q679 rfl hk_s.m rfl d_M_merge_263 ?_
                        refine zr_iload_n hX rfl d_M_merge_266 ?_
                        refine zr_ialdN hX (hk_s.ar 26 rfl) j rfl (by omega) (by decide) d_M_merge_267 ?_
                        refine zr_mV0 hX (c_M_note g (d - 1) _ s m hk_s p (nI j) ((s.ar 1) ((4096 * (24 + p)) + j)) ((s.ar 1) ((4096 * c) + j)) ((s.ar 26) j) (by omega) (s.ar 14 p).toNatClampNeg hn9 hn10) l_M_164 im_M_note se_M_note f_M_note rfl (Nat.le_of_ble_eq_true rfl) (by omega) (Nat.zero_le _) (Nat.zero_le _) d_M_merge_268 (Nat.zero_le _) (Nat.zero_le _) (zMv.m hk_s) (fun G268 hk268 fk268 ek268 => ?_)
                        refine zr_iload hX rfl d_M_merge_271 ?_
                        refine zr_if_ne hX (tgt := 279) d_M_merge_273 (by decide) (fun _ => ?_) (fun h => absurd h (by decide))
                        refine zr_aload_n hX rfl d_M_merge_279 ?_
                        refine zr_get hX k_M 1 (by decide) q654 rfl hk268.m rfl d_M_merge_280 ?_
                        refine zr_iload hX rfl d_M_merge_283 ?_
                        refine zr_iload hX rfl d_M_merge_285 ?_
                        refine zr_iastN hX (hk268.ar 1 rfl) ((4096 * (24 + p)) + j) rfl (by omega) (by decide) d_M_merge_287 ?_
                        refine zr_aload_n hX rfl d_M_merge_288 ?_
                        refine zr_get hX k_M 2 (by decide) q655 rfl (zput_k (zne hk268.m (hk268.ar 1 rfl) rfl) hk268.m) rfl d_M_merge_289 ?_
                        refine zr_iload hX rfl d_M_merge_292 ?_
                        refine zr_aload_n hX rfl d_M_merge_294 ?_
                        refine zr_get hX k_M 2 (by decide) q655 rfl (zput_k (zne hk268.m (hk268.ar 1 rfl) rfl) hk268.m) rfl d_M_merge_295 ?_
                        refine zr_sipush (v := 4096) hX rfl d_M_merge_298 ?_
                        refine zr_iload_n hX rfl d_M_merge_301 ?_
                        refine zn_imul (a := 4096) (b := c) hX d_M_merge_302 ?_
                        refine zr_iload_n hX rfl d_M_merge_303 ?_
                        refine zn_iadd (a := (4096 * c)) (b := j) hX d_M_merge_304 ?_
                        refine zr_ialdN hX (zput_k (hk268.ne 2 1 rfl rfl (by decide)) (hk268.ar 2 rfl)) ((4096 * c) + j) rfl (by omega) (by decide) d_M_merge_305 ?_
                        refine zr_iastN hX (zput_k (hk268.ne 2 1 rfl rfl (by decide)) (hk268.ar 2 rfl)) ((4096 * (24 + p)) + j) rfl (by omega) (by decide) d_M_merge_306 ?_
                        refine zs_iinc (v := nI (j + 1)) hX rfl (nI_add _ 1) (by decide) rfl d_M_merge_307 ?_
                        refine zr_goto hX (tgt := 93) (by decide) d_M_merge_310 ?_
                        refine zw_drop 4 ?_
                        refine zw_drop 5 ?_
                        refine zw_drop 6 ?_
                        refine zw_drop 7 ?_
                        refine zw_drop 8 ?_
                        exact ih_s hlt_s (zua (zua (znote s p (nI j) ((s.ar 1) ((4096 * (24 + p)) + j)) ((s.ar 1) ((4096 * c) + j)) ((s.ar 26) j) (s.ar 14 p).toNatClampNeg) 1 (upd ((znote s p (nI j) ((s.ar 1) ((4096 * (24 + p)) + j)) ((s.ar 1) ((4096 * c) + j)) ((s.ar 26) j) (s.ar 14 p).toNatClampNeg).ar 1) ((4096 * (24 + p)) + j) ((s.ar 1) ((4096 * c) + j)))) 2 (upd ((znote s p (nI j) ((s.ar 1) ((4096 * (24 + p)) + j)) ((s.ar 1) ((4096 * c) + j)) ((s.ar 26) j) (s.ar 14 p).toNatClampNeg).ar 2) ((4096 * (24 + p)) + j) (((znote s p (nI j) ((s.ar 1) ((4096 * (24 + p)) + j)) ((s.ar 1) ((4096 * c) + j)) ((s.ar 26) j) (s.ar 14 p).toNatClampNeg).ar 2) ((4096 * c) + j)))) _ (by rw [zfor_s, ← hs_s]; unfold st_M_merge; rw [if_neg h139]; rw [if_neg h150]; rw [if_neg h164]; rw [if_pos h194]; rw [if_neg h201]; rw [if_neg h207]; rw [if_pos h220]; rw [if_neg h240]; rw [if_pos h252]) (zMv.arr (zMv.arr hk268 1 rfl _) 2 rfl _) (zMf.arr (zMf.arr (zMf.tr fk_s fk268 ek_s) 1 rfl (congrFun (Eq.trans ek268 ek_s) 1) _) 2 rfl (congrFun (Eq.trans ek268 ek_s) 2) _) (Eq.trans ek268 ek_s) ik_s
                · skip
                  refine zr_iload hX rfl d_M_merge_210 ?_
                  refine zr_iload hX rfl d_M_merge_212 ?_
                  refine zr_icmp_lt hX (tgt := 243) d_M_merge_214 (by decide) (fun h214 => ?_) (fun h214 => ?_)
                  · skip
                    refine zr_iconst (v := 1) hX rfl d_M_merge_243 ?_
                    refine zr_goto hX (tgt := 248) (by decide) d_M_merge_244 ?_
                    refine zs_istore hX (by decide) rfl d_M_merge_248 ?_
                    refine zr_iload hX rfl d_M_merge_250 ?_
                    refine zr_if_ne hX (tgt := 271) d_M_merge_252 (by decide) (fun h252 => ?_) (fun h252 => ?_)
                    · skip
                      refine zr_iload hX rfl d_M_merge_271 ?_
                      refine zr_if_ne hX (tgt := 279) d_M_merge_273 (by decide) (fun _ => ?_) (fun h => absurd h (by decide))
                      refine zr_aload_n hX rfl d_M_merge_279 ?_
                      refine zr_get hX k_M 1 (by decide) q654 rfl hk_s.m rfl d_M_merge_280 ?_
                      refine zr_iload hX rfl d_M_merge_283 ?_
                      refine zr_iload hX rfl d_M_merge_285 ?_
                      refine zr_iastN hX (hk_s.ar 1 rfl) ((4096 * (24 + p)) + j) rfl (by omega) (by decide) d_M_merge_287 ?_
                      refine zr_aload_n hX rfl d_M_merge_288 ?_
                      refine zr_get hX k_M 2 (by decide) q655 rfl (zput_k (zne hk_s.m (hk_s.ar 1 rfl) rfl) hk_s.m) rfl d_M_merge_289 ?_
                      refine zr_iload hX rfl d_M_merge_292 ?_
                      refine zr_aload_n hX rfl d_M_merge_294 ?_
                      refine zr_get hX k_M 2 (by decide) q655 rfl (zput_k (zne hk_s.m (hk_s.ar 1 rfl) rfl) hk_s.m) rfl d_M_merge_295 ?_
                      refine zr_sipush (v := 4096) hX rfl d_M_merge_298 ?_
                      refine zr_iload_n hX rfl d_M_merge_301 ?_
                      refine zn_imul (a := 4096) (b := c) hX d_M_merge_302 ?_
                      refine zr_iload_n hX rfl d_M_merge_303 ?_
                      refine zn_iadd (a := (4096 * c)) (b := j) hX d_M_merge_304 ?_
                      refine zr_ialdN hX (zput_k (hk_s.ne 2 1 rfl rfl (by decide)) (hk_s.ar 2 rfl)) ((4096 * c) + j) rfl (by omega) (by decide) d_M_merge_305 ?_
                      refine zr_iastN hX (zput_k (hk_s.ne 2 1 rfl rfl (by decide)) (hk_s.ar 2 rfl)) ((4096 * (24 + p)) + j) rfl (by omega) (by decide) d_M_merge_306 ?_
                      refine zs_iinc (v := nI (j + 1)) hX rfl (nI_add _ 1) (by decide) rfl d_M_merge_307 ?_
                      refine zr_goto hX (tgt := 93) (by decide) d_M_merge_310 ?_
                      refine zw_drop 4 ?_
                      refine zw_drop 5 ?_
                      refine zw_drop 6 ?_
                      refine zw_drop 7 ?_
                      refine zw_drop 8 ?_
                      exact ih_s hlt_s (zua (zua s 1 (upd (s.ar 1) ((4096 * (24 + p)) + j) ((s.ar 1) ((4096 * c) + j)))) 2 (upd (s.ar 2) ((4096 * (24 + p)) + j) ((s.ar 2) ((4096 * c) + j)))) _ (by rw [zfor_s, ← hs_s]; unfold st_M_merge; rw [if_neg h139]; rw [if_neg h150]; rw [if_neg h164]; rw [if_pos h194]; rw [if_neg h201]; rw [if_pos h207]; rw [if_pos h214]; rw [if_neg h252]) (zMv.arr (zMv.arr hk_s 1 rfl _) 2 rfl _) (zMf.arr (zMf.arr fk_s 1 rfl (congrFun ek_s 1) _) 2 rfl (congrFun ek_s 2) _) ek_s ik_s
                    · skip
                      refine zr_aload_n hX rfl d_M_merge_255 ?_
                      refine zr_iload_n hX rfl d_M_merge_256 ?_
                      refine zr_iload_n hX rfl d_M_merge_257 ?_
                      refine zr_iload hX rfl d_M_merge_258 ?_
                      refine zr_iload hX rfl d_M_merge_260 ?_
                      refine zr_aload_n hX rfl d_M_merge_262 ?_
                      refine zr_get hX k_M 26 (by decide) q679 rfl hk_s.m rfl d_M_merge_263 ?_
                      refine zr_iload_n hX rfl d_M_merge_266 ?_
                      refine zr_ialdN hX (hk_s.ar 26 rfl) j rfl (by omega) (by decide) d_M_merge_267 ?_
                      refine zr_mV0 hX (c_M_note g (d - 1) _ s m hk_s p (nI j) ((s.ar 1) ((4096 * (24 + p)) + j)) ((s.ar 1) ((4096 * c) + j)) ((s.ar 26) j) (by omega) (s.ar 14 p).toNatClampNeg hn9 hn10) l_M_164 im_M_note se_M_note f_M_note rfl (Nat.le_of_ble_eq_true rfl) (by omega) (Nat.zero_le _) (Nat.zero_le _) d_M_merge_268 (Nat.zero_le _) (Nat.zero_le _) (zMv.m hk_s) (fun G268 hk268 fk268 ek268 => ?_)
                      refine zr_iload hX rfl d_M_merge_271 ?_
                      refine zr_if_ne hX (tgt := 279) d_M_merge_273 (by decide) (fun _ => ?_) (fun h => absurd h (by decide))
                      refine zr_aload_n hX rfl d_M_merge_279 ?_
                      refine zr_get hX k_M 1 (by decide) q654 rfl hk268.m rfl d_M_merge_280 ?_
                      refine zr_iload hX rfl d_M_merge_283 ?_
                      refine zr_iload hX rfl d_M_merge_285 ?_
                      refine zr_iastN hX (hk268.ar 1 rfl) ((4096 * (24 + p)) + j) rfl (by omega) (by decide) d_M_merge_287 ?_
                      refine zr_aload_n hX rfl d_M_merge_288 ?_
                      refine zr_get hX k_M 2 (by decide) q655 rfl (zput_k (zne hk268.m (hk268.ar 1 rfl) rfl) hk268.m) rfl d_M_merge_289 ?_
                      refine zr_iload hX rfl d_M_merge_292 ?_
                      refine zr_aload_n hX rfl d_M_merge_294 ?_
                      refine zr_get hX k_M 2 (by decide) q655 rfl (zput_k (zne hk268.m (hk268.ar 1 rfl) rfl) hk268.m) rfl d_M_merge_295 ?_
                      refine zr_sipush (v := 4096) hX rfl d_M_merge_298 ?_
                      refine zr_iload_n hX rfl d_M_merge_301 ?_
                      refine zn_imul (a := 4096) (b := c) hX d_M_merge_302 ?_
                      refine zr_iload_n hX rfl d_M_merge_303 ?_
                      refine zn_iadd (a := (4096 * c)) (b := j) hX d_M_merge_304 ?_
                      refine zr_ialdN hX (zput_k (hk268.ne 2 1 rfl rfl (by decide)) (hk268.ar 2 rfl)) ((4096 * c) + j) rfl (by omega) (by decide) d_M_merge_305 ?_
                      refine zr_iastN hX (zput_k (hk268.ne 2 1 rfl rfl (by decide)) (hk268.ar 2 rfl)) ((4096 * (24 + p)) + j) rfl (by omega) (by decide) d_M_merge_306 ?_
                      refine zs_iinc (v := nI (j + 1)) hX rfl (nI_add _ 1) (by decide) rfl d_M_merge_307 ?_
                      refine zr_goto hX (tgt := 93) (by decide) d_M_merge_310 ?_
                      refine zw_drop 4 ?_
                      refine zw_drop 5 ?_
                      refine zw_drop 6 ?_
                      refine zw_drop 7 ?_
                      refine zw_drop 8 ?_
                      exact ih_s hlt_s (zua (zua (znote s p (nI j) ((s.ar 1) ((4096 * (24 + p)) + j)) ((s.ar 1) ((4096 * c) + j)) ((s.ar 26) j) (s.ar 14 p).toNatClampNeg) 1 (upd ((znote s p (nI j) ((s.ar 1) ((4096 * (24 + p)) + j)) ((s.ar 1) ((4096 * c) + j)) ((s.ar 26) j) (s.ar 14 p).toNatClampNeg).ar 1) ((4096 * (24 + p)) + j) ((s.ar 1) ((4096 * c) + j)))) 2 (upd ((znote s p (nI j) ((s.ar 1) ((4096 * (24 + p)) + j)) ((s.ar 1) ((4096 * c) + j)) ((s.ar 26) j) (s.ar 14 p).toNatClampNeg).ar 2) ((4096 * (24 + p)) + j) (((znote s p (nI j) ((s.ar 1) ((4096 * (24 + p)) + j)) ((s.ar 1) ((4096 * c) + j)) ((s.ar 26) j) (s.ar 14 p).toNatClampNeg).ar 2) ((4096 * c) + j)))) _ (by rw [zfor_s, ← hs_s]; unfold st_M_merge; rw [if_neg h139]; rw [if_neg h150]; rw [if_neg h164]; rw [if_pos h194]; rw [if_neg h201]; rw [if_pos h207]; rw [if_pos h214]; rw [if_pos h252]) (zMv.arr (zMv.arr hk268 1 rfl _) 2 rfl _) (zMf.arr (zMf.arr (zMf.tr fk_s fk268 ek_s) 1 rfl (congrFun (Eq.trans ek268 ek_s) 1) _) 2 rfl (congrFun (Eq.trans ek268 ek_s) 2) _) (Eq.trans ek268 ek_s) ik_s
                  · skip
                    refine zr_iload hX rfl d_M_merge_217 ?_
                    refine zr_iconst (v := 3) hX rfl d_M_merge_219 ?_
                    refine zr_icmp_ne hX (tgt := 247) d_M_merge_220 (by decide) (fun h220 => ?_) (fun h220 => ?_)
                    · skip
                      refine zr_iconst (v := 0) hX rfl d_M_merge_247 ?_
                      refine zs_istore hX (by decide) rfl d_M_merge_248 ?_
                      refine zr_iload hX rfl d_M_merge_250 ?_
                      refine zr_if_ne hX (tgt := 271) d_M_merge_252 (by decide) (fun h252 => ?_) (fun h252 => ?_)
                      · skip
                        refine zr_iload hX rfl d_M_merge_271 ?_
                        refine zr_if_ne hX (tgt := 279) d_M_merge_273 (by decide) (fun h => absurd h (by decide)) (fun _ => ?_)
                        refine zr_goto hX (tgt := 307) (by decide) d_M_merge_276 ?_
                        refine zs_iinc (v := nI (j + 1)) hX rfl (nI_add _ 1) (by decide) rfl d_M_merge_307 ?_
                        refine zr_goto hX (tgt := 93) (by decide) d_M_merge_310 ?_
                        refine zw_drop 4 ?_
                        refine zw_drop 5 ?_
                        refine zw_drop 6 ?_
                        refine zw_drop 7 ?_
                        refine zw_drop 8 ?_
                        exact ih_s hlt_s s _ (by rw [zfor_s, ← hs_s]; unfold st_M_merge; rw [if_neg h139]; rw [if_neg h150]; rw [if_neg h164]; rw [if_pos h194]; rw [if_neg h201]; rw [if_pos h207]; rw [if_neg h214]; rw [if_neg h220]; rw [if_neg h252]) hk_s fk_s ek_s ik_s
                      · skip
                        refine zr_aload_n hX rfl d_M_merge_255 ?_
                        refine zr_iload_n hX rfl d_M_merge_256 ?_
                        refine zr_iload_n hX rfl d_M_merge_257 ?_
                        refine zr_iload hX rfl d_M_merge_258 ?_
                        refine zr_iload hX rfl d_M_merge_260 ?_
                        refine zr_aload_n hX rfl d_M_merge_262 ?_
                        refine zr_get hX k_M 26 (by decide) q679 rfl hk_s.m rfl d_M_merge_263 ?_
                        refine zr_iload_n hX rfl d_M_merge_266 ?_
                        refine zr_ialdN hX (hk_s.ar 26 rfl) j rfl (by omega) (by decide) d_M_merge_267 ?_
                        refine zr_mV0 hX (c_M_note g (d - 1) _ s m hk_s p (nI j) ((s.ar 1) ((4096 * (24 + p)) + j)) ((s.ar 1) ((4096 * c) + j)) ((s.ar 26) j) (by omega) (s.ar 14 p).toNatClampNeg hn9 hn10) l_M_164 im_M_note se_M_note f_M_note rfl (Nat.le_of_ble_eq_true rfl) (by omega) (Nat.zero_le _) (Nat.zero_le _) d_M_merge_268 (Nat.zero_le _) (Nat.zero_le _) (zMv.m hk_s) (fun G268 hk268 fk268 ek268 => ?_)
                        refine zr_iload hX rfl d_M_merge_271 ?_
                        refine zr_if_ne hX (tgt := 279) d_M_merge_273 (by decide) (fun h => absurd h (by decide)) (fun _ => ?_)
                        refine zr_goto hX (tgt := 307) (by decide) d_M_merge_276 ?_
                        refine zs_iinc (v := nI (j + 1)) hX rfl (nI_add _ 1) (by decide) rfl d_M_merge_307 ?_
                        refine zr_goto hX (tgt := 93) (by decide) d_M_merge_310 ?_
                        refine zw_drop 4 ?_
                        refine zw_drop 5 ?_
                        refine zw_drop 6 ?_
                        refine zw_drop 7 ?_
                        refine zw_drop 8 ?_
                        exact ih_s hlt_s (znote s p (nI j) ((s.ar 1) ((4096 * (24 + p)) + j)) ((s.ar 1) ((4096 * c) + j)) ((s.ar 26) j) (s.ar 14 p).toNatClampNeg) _ (by rw [zfor_s, ← hs_s]; unfold st_M_merge; rw [if_neg h139]; rw [if_neg h150]; rw [if_neg h164]; rw [if_pos h194]; rw [if_neg h201]; rw [if_pos h207]; rw [if_neg h214]; rw [if_neg h220]; rw [if_pos h252]) hk268 (zMf.tr fk_s fk268 ek_s) (Eq.trans ek268 ek_s) ik_s
                    · skip
                      refine zr_aload_n hX rfl d_M_merge_223 ?_
                      refine zr_sipush (v := 4096) hX rfl d_M_merge_224 ?_
                      refine zr_iload_n hX rfl d_M_merge_227 ?_
                      refine zn_imul (a := 4096) (b := c) hX d_M_merge_228 ?_
                      refine zr_iload_n hX rfl d_M_merge_229 ?_
                      refine zn_iadd (a := (4096 * c)) (b := j) hX d_M_merge_230 ?_
                      refine zr_pV hX (c_M_madeIn g (d - 1) _ s m hk_s ((4096 * c) + j) (by omega)) l_M_161 im_M_madeIn se_M_madeIn f_M_madeIn k_M.1 hk_s.m rfl (Nat.le_of_ble_eq_true rfl) (by omega) (Nat.zero_le _) (Nat.zero_le _) d_M_merge_231 ?_
                      refine zr_aload_n hX rfl d_M_merge_234 ?_
                      refine zr_iload hX rfl d_M_merge_235 ?_
                      refine zr_pV hX (c_M_madeIn g (d - 1) _ s m hk_s ((4096 * (24 + p)) + j) (by omega)) l_M_161 im_M_madeIn se_M_madeIn f_M_madeIn k_M.1 hk_s.m rfl (Nat.le_of_ble_eq_true rfl) (by omega) (Nat.zero_le _) (Nat.zero_le _) d_M_merge_237 ?_
                      refine zr_icmp_le hX (tgt := 247) d_M_merge_240 (by decide) (fun h240 => ?_) (fun h240 => ?_)
                      · skip
                        refine zr_iconst (v := 0) hX rfl d_M_merge_247 ?_
                        refine zs_istore hX (by decide) rfl d_M_merge_248 ?_
                        refine zr_iload hX rfl d_M_merge_250 ?_
                        refine zr_if_ne hX (tgt := 271) d_M_merge_252 (by decide) (fun h252 => ?_) (fun h252 => ?_)
                        · skip
                          refine zr_iload hX rfl d_M_merge_271 ?_
                          refine zr_if_ne hX (tgt := 279) d_M_merge_273 (by decide) (fun h => absurd h (by decide)) (fun _ => ?_)
                          refine zr_goto hX (tgt := 307) (by decide) d_M_merge_276 ?_
                          refine zs_iinc (v := nI (j + 1)) hX rfl (nI_add _ 1) (by decide) rfl d_M_merge_307 ?_
                          refine zr_goto hX (tgt := 93) (by decide) d_M_merge_310 ?_
                          refine zw_drop 4 ?_
                          refine zw_drop 5 ?_
                          refine zw_drop 6 ?_
                          refine zw_drop 7 ?_
                          refine zw_drop 8 ?_
                          exact ih_s hlt_s s _ (by rw [zfor_s, ← hs_s]; unfold st_M_merge; rw [if_neg h139]; rw [if_neg h150]; rw [if_neg h164]; rw [if_pos h194]; rw [if_neg h201]; rw [if_pos h207]; rw [if_neg h214]; rw [if_pos h220]; rw [if_pos h240]; rw [if_neg h252]) hk_s fk_s ek_s ik_s
                        · skip
                          refine zr_aload_n hX rfl d_M_merge_255 ?_
                          refine zr_iload_n hX rfl d_M_merge_256 ?_
                          refine zr_iload_n hX rfl d_M_merge_257 ?_
                          refine zr_iload hX rfl d_M_merge_258 ?_
                          refine zr_iload hX rfl d_M_merge_260 ?_
                          refine zr_aload_n hX rfl d_M_merge_262 ?_
                          refine zr_get hX k_M 26 (by decide) q679 rfl hk_s.m rfl d_M_merge_263 ?_
                          refine zr_iload_n hX rfl d_M_merge_266 ?_
                          refine zr_ialdN hX (hk_s.ar 26 rfl) j rfl (by omega) (by decide) d_M_merge_267 ?_
                          refine zr_mV0 hX (c_M_note g (d - 1) _ s m hk_s p (nI j) ((s.ar 1) ((4096 * (24 + p)) + j)) ((s.ar 1) ((4096 * c) + j)) ((s.ar 26) j) (by omega) (s.ar 14 p).toNatClampNeg hn9 hn10) l_M_164 im_M_note se_M_note f_M_note rfl (Nat.le_of_ble_eq_true rfl) (by omega) (Nat.zero_le _) (Nat.zero_le _) d_M_merge_268 (Nat.zero_le _) (Nat.zero_le _) (zMv.m hk_s) (fun G268 hk268 fk268 ek268 => ?_)
                          refine zr_iload hX rfl d_M_merge_271 ?_
                          refine zr_if_ne hX (tgt := 279) d_M_merge_273 (by decide) (fun h => absurd h (by decide)) (fun _ => ?_)
                          refine zr_goto hX (tgt := 307) (by decide) d_M_merge_276 ?_
                          refine zs_iinc (v := nI (j + 1)) hX rfl (nI_add _ 1) (by decide) rfl d_M_merge_307 ?_
                          refine zr_goto hX (tgt := 93) (by decide) d_M_merge_310 ?_
                          refine zw_drop 4 ?_
                          refine zw_drop 5 ?_
                          refine zw_drop 6 ?_
                          refine zw_drop 7 ?_
                          refine zw_drop 8 ?_
                          exact ih_s hlt_s (znote s p (nI j) ((s.ar 1) ((4096 * (24 + p)) + j)) ((s.ar 1) ((4096 * c) + j)) ((s.ar 26) j) (s.ar 14 p).toNatClampNeg) _ (by rw [zfor_s, ← hs_s]; unfold st_M_merge; rw [if_neg h139]; rw [if_neg h150]; rw [if_neg h164]; rw [if_pos h194]; rw [if_neg h201]; rw [if_pos h207]; rw [if_neg h214]; rw [if_pos h220]; rw [if_pos h240]; rw [if_pos h252]) hk268 (zMf.tr fk_s fk268 ek_s) (Eq.trans ek268 ek_s) ik_s
                      · skip
                        refine zr_iconst (v := 1) hX rfl d_M_merge_243 ?_
                        refine zr_goto hX (tgt := 248) (by decide) d_M_merge_244 ?_
                        refine zs_istore hX (by decide) rfl d_M_merge_248 ?_
                        refine zr_iload hX rfl d_M_merge_250 ?_
                        refine zr_if_ne hX (tgt := 271) d_M_merge_252 (by decide) (fun h252 => ?_) (fun h252 => ?_)
                        · skip
                          refine zr_iload hX rfl d_M_merge_271 ?_
                          refine zr_if_ne hX (tgt := 279) d_M_merge_273 (by decide) (fun _ => ?_) (fun h => absurd h (by decide))
                          refine zr_aload_n hX rfl d_M_merge_279 ?_
                          refine zr_get hX k_M 1 (by decide) q654 rfl hk_s.m rfl d_M_merge_280 ?_
                          refine zr_iload hX rfl d_M_merge_283 ?_
                          refine zr_iload hX rfl d_M_merge_285 ?_
                          refine zr_iastN hX (hk_s.ar 1 rfl) ((4096 * (24 + p)) + j) rfl (by omega) (by decide) d_M_merge_287 ?_
                          refine zr_aload_n hX rfl d_M_merge_288 ?_
                          refine zr_get hX k_M 2 (by decide) q655 rfl (zput_k (zne hk_s.m (hk_s.ar 1 rfl) rfl) hk_s.m) rfl d_M_merge_289 ?_
                          refine zr_iload hX rfl d_M_merge_292 ?_
                          refine zr_aload_n hX rfl d_M_merge_294 ?_
                          refine zr_get hX k_M 2 (by decide) q655 rfl (zput_k (zne hk_s.m (hk_s.ar 1 rfl) rfl) hk_s.m) rfl d_M_merge_295 ?_
                          refine zr_sipush (v := 4096) hX rfl d_M_merge_298 ?_
                          refine zr_iload_n hX rfl d_M_merge_301 ?_
                          refine zn_imul (a := 4096) (b := c) hX d_M_merge_302 ?_
                          refine zr_iload_n hX rfl d_M_merge_303 ?_
                          refine zn_iadd (a := (4096 * c)) (b := j) hX d_M_merge_304 ?_
                          refine zr_ialdN hX (zput_k (hk_s.ne 2 1 rfl rfl (by decide)) (hk_s.ar 2 rfl)) ((4096 * c) + j) rfl (by omega) (by decide) d_M_merge_305 ?_
                          refine zr_iastN hX (zput_k (hk_s.ne 2 1 rfl rfl (by decide)) (hk_s.ar 2 rfl)) ((4096 * (24 + p)) + j) rfl (by omega) (by decide) d_M_merge_306 ?_
                          refine zs_iinc (v := nI (j + 1)) hX rfl (nI_add _ 1) (by decide) rfl d_M_merge_307 ?_
                          refine zr_goto hX (tgt := 93) (by decide) d_M_merge_310 ?_
                          refine zw_drop 4 ?_
                          refine zw_drop 5 ?_
                          refine zw_drop 6 ?_
                          refine zw_drop 7 ?_
                          refine zw_drop 8 ?_
                          exact ih_s hlt_s (zua (zua s 1 (upd (s.ar 1) ((4096 * (24 + p)) + j) ((s.ar 1) ((4096 * c) + j)))) 2 (upd (s.ar 2) ((4096 * (24 + p)) + j) ((s.ar 2) ((4096 * c) + j)))) _ (by rw [zfor_s, ← hs_s]; unfold st_M_merge; rw [if_neg h139]; rw [if_neg h150]; rw [if_neg h164]; rw [if_pos h194]; rw [if_neg h201]; rw [if_pos h207]; rw [if_neg h214]; rw [if_pos h220]; rw [if_neg h240]; rw [if_neg h252]) (zMv.arr (zMv.arr hk_s 1 rfl _) 2 rfl _) (zMf.arr (zMf.arr fk_s 1 rfl (congrFun ek_s 1) _) 2 rfl (congrFun ek_s 2) _) ek_s ik_s
                        · skip
                          refine zr_aload_n hX rfl d_M_merge_255 ?_
                          refine zr_iload_n hX rfl d_M_merge_256 ?_
                          refine zr_iload_n hX rfl d_M_merge_257 ?_
                          refine zr_iload hX rfl d_M_merge_258 ?_
                          refine zr_iload hX rfl d_M_merge_260 ?_
                          refine zr_aload_n hX rfl d_M_merge_262 ?_
                          refine zr_get hX k_M 26 (by decide) q679 rfl hk_s.m rfl d_M_merge_263 ?_
                          refine zr_iload_n hX rfl d_M_merge_266 ?_
                          refine zr_ialdN hX (hk_s.ar 26 rfl) j rfl (by omega) (by decide) d_M_merge_267 ?_
                          refine zr_mV0 hX (c_M_note g (d - 1) _ s m hk_s p (nI j) ((s.ar 1) ((4096 * (24 + p)) + j)) ((s.ar 1) ((4096 * c) + j)) ((s.ar 26) j) (by omega) (s.ar 14 p).toNatClampNeg hn9 hn10) l_M_164 im_M_note se_M_note f_M_note rfl (Nat.le_of_ble_eq_true rfl) (by omega) (Nat.zero_le _) (Nat.zero_le _) d_M_merge_268 (Nat.zero_le _) (Nat.zero_le _) (zMv.m hk_s) (fun G268 hk268 fk268 ek268 => ?_)
                          refine zr_iload hX rfl d_M_merge_271 ?_
                          refine zr_if_ne hX (tgt := 279) d_M_merge_273 (by decide) (fun _ => ?_) (fun h => absurd h (by decide))
                          refine zr_aload_n hX rfl d_M_merge_279 ?_
                          refine zr_get hX k_M 1 (by decide) q654 rfl hk268.m rfl d_M_merge_280 ?_
                          refine zr_iload hX rfl d_M_merge_283 ?_
                          refine zr_iload hX rfl d_M_merge_285 ?_
                          refine zr_iastN hX (hk268.ar 1 rfl) ((4096 * (24 + p)) + j) rfl (by omega) (by decide) d_M_merge_287 ?_
                          refine zr_aload_n hX rfl d_M_merge_288 ?_
                          refine zr_get hX k_M 2 (by decide) q655 rfl (zput_k (zne hk268.m (hk268.ar 1 rfl) rfl) hk268.m) rfl d_M_merge_289 ?_
                          refine zr_iload hX rfl d_M_merge_292 ?_
                          refine zr_aload_n hX rfl d_M_merge_294 ?_
                          refine zr_get hX k_M 2 (by decide) q655 rfl (zput_k (zne hk268.m (hk268.ar 1 rfl) rfl) hk268.m) rfl d_M_merge_295 ?_
                          refine zr_sipush (v := 4096) hX rfl d_M_merge_298 ?_
                          refine zr_iload_n hX rfl d_M_merge_301 ?_
                          refine zn_imul (a := 4096) (b := c) hX d_M_merge_302 ?_
                          refine zr_iload_n hX rfl d_M_merge_303 ?_
                          refine zn_iadd (a := (4096 * c)) (b := j) hX d_M_merge_304 ?_
                          refine zr_ialdN hX (zput_k (hk268.ne 2 1 rfl rfl (by decide)) (hk268.ar 2 rfl)) ((4096 * c) + j) rfl (by omega) (by decide) d_M_merge_305 ?_
                          refine zr_iastN hX (zput_k (hk268.ne 2 1 rfl rfl (by decide)) (hk268.ar 2 rfl)) ((4096 * (24 + p)) + j) rfl (by omega) (by decide) d_M_merge_306 ?_
                          refine zs_iinc (v := nI (j + 1)) hX rfl (nI_add _ 1) (by decide) rfl d_M_merge_307 ?_
                          refine zr_goto hX (tgt := 93) (by decide) d_M_merge_310 ?_
                          refine zw_drop 4 ?_
                          refine zw_drop 5 ?_
                          refine zw_drop 6 ?_
                          refine zw_drop 7 ?_
                          refine zw_drop 8 ?_
                          exact ih_s hlt_s (zua (zua (znote s p (nI j) ((s.ar 1) ((4096 * (24 + p)) + j)) ((s.ar 1) ((4096 * c) + j)) ((s.ar 26) j) (s.ar 14 p).toNatClampNeg) 1 (upd ((znote s p (nI j) ((s.ar 1) ((4096 * (24 + p)) + j)) ((s.ar 1) ((4096 * c) + j)) ((s.ar 26) j) (s.ar 14 p).toNatClampNeg).ar 1) ((4096 * (24 + p)) + j) ((s.ar 1) ((4096 * c) + j)))) 2 (upd ((znote s p (nI j) ((s.ar 1) ((4096 * (24 + p)) + j)) ((s.ar 1) ((4096 * c) + j)) ((s.ar 26) j) (s.ar 14 p).toNatClampNeg).ar 2) ((4096 * (24 + p)) + j) (((znote s p (nI j) ((s.ar 1) ((4096 * (24 + p)) + j)) ((s.ar 1) ((4096 * c) + j)) ((s.ar 26) j) (s.ar 14 p).toNatClampNeg).ar 2) ((4096 * c) + j)))) _ (by rw [zfor_s, ← hs_s]; unfold st_M_merge; rw [if_neg h139]; rw [if_neg h150]; rw [if_neg h164]; rw [if_pos h194]; rw [if_neg h201]; rw [if_pos h207]; rw [if_neg h214]; rw [if_pos h220]; rw [if_neg h240]; rw [if_pos h252]) (zMv.arr (zMv.arr hk268 1 rfl _) 2 rfl _) (zMf.arr (zMf.arr (zMf.tr fk_s fk268 ek_s) 1 rfl (congrFun (Eq.trans ek268 ek_s) 1) _) 2 rfl (congrFun (Eq.trans ek268 ek_s) 2) _) (Eq.trans ek268 ek_s) ik_s
          · skip
            refine zr_iconst (v := 1) hX rfl d_M_merge_167 ?_
            refine zr_goto hX (tgt := 172) (by decide) d_M_merge_168 ?_
            refine zs_istore hX (by decide) rfl d_M_merge_172 ?_
            refine zr_aload_n hX rfl d_M_merge_174 ?_
            refine zr_get hX k_M 3 (by decide) q656 rfl hk_s.m rfl d_M_merge_175 ?_
            refine zr_iload_n hX rfl d_M_merge_178 ?_
            refine zr_sipush (v := 1024) hX rfl d_M_merge_179 ?_
            refine zn_idiv (a := j) (b := 1024) hX (by omega) (by decide) (by decide) d_M_merge_182 ?_
            refine zr_ialdN hX (hk_s.ar 3 rfl) (j / 1024) rfl (by omega) (by decide) d_M_merge_183 ?_
            refine zs_istore hX (by decide) rfl d_M_merge_184 ?_
            refine zr_iload hX rfl d_M_merge_186 ?_
            refine zr_if_ne hX (tgt := 271) d_M_merge_188 (by decide) (fun _ => ?_) (fun h => absurd h (by decide))
            refine zr_iload hX rfl d_M_merge_271 ?_
            refine zr_if_ne hX (tgt := 279) d_M_merge_273 (by decide) (fun _ => ?_) (fun h => absurd h (by decide))
            refine zr_aload_n hX rfl d_M_merge_279 ?_
            refine zr_get hX k_M 1 (by decide) q654 rfl hk_s.m rfl d_M_merge_280 ?_
            refine zr_iload hX rfl d_M_merge_283 ?_
            refine zr_iload hX rfl d_M_merge_285 ?_
            refine zr_iastN hX (hk_s.ar 1 rfl) ((4096 * (24 + p)) + j) rfl (by omega) (by decide) d_M_merge_287 ?_
            refine zr_aload_n hX rfl d_M_merge_288 ?_
            refine zr_get hX k_M 2 (by decide) q655 rfl (zput_k (zne hk_s.m (hk_s.ar 1 rfl) rfl) hk_s.m) rfl d_M_merge_289 ?_
            refine zr_iload hX rfl d_M_merge_292 ?_
            refine zr_aload_n hX rfl d_M_merge_294 ?_
            refine zr_get hX k_M 2 (by decide) q655 rfl (zput_k (zne hk_s.m (hk_s.ar 1 rfl) rfl) hk_s.m) rfl d_M_merge_295 ?_
            refine zr_sipush (v := 4096) hX rfl d_M_merge_298 ?_
            refine zr_iload_n hX rfl d_M_merge_301 ?_
            refine zn_imul (a := 4096) (b := c) hX d_M_merge_302 ?_
            refine zr_iload_n hX rfl d_M_merge_303 ?_
            refine zn_iadd (a := (4096 * c)) (b := j) hX d_M_merge_304 ?_
            refine zr_ialdN hX (zput_k (hk_s.ne 2 1 rfl rfl (by decide)) (hk_s.ar 2 rfl)) ((4096 * c) + j) rfl (by omega) (by decide) d_M_merge_305 ?_
            refine zr_iastN hX (zput_k (hk_s.ne 2 1 rfl rfl (by decide)) (hk_s.ar 2 rfl)) ((4096 * (24 + p)) + j) rfl (by omega) (by decide) d_M_merge_306 ?_
            refine zs_iinc (v := nI (j + 1)) hX rfl (nI_add _ 1) (by decide) rfl d_M_merge_307 ?_
            refine zr_goto hX (tgt := 93) (by decide) d_M_merge_310 ?_
            refine zw_drop 4 ?_
            refine zw_drop 5 ?_
            refine zw_drop 6 ?_
            refine zw_drop 7 ?_
            refine zw_drop 8 ?_
            exact ih_s hlt_s (zua (zua s 1 (upd (s.ar 1) ((4096 * (24 + p)) + j) ((s.ar 1) ((4096 * c) + j)))) 2 (upd (s.ar 2) ((4096 * (24 + p)) + j) ((s.ar 2) ((4096 * c) + j)))) _ (by rw [zfor_s, ← hs_s]; unfold st_M_merge; rw [if_neg h139]; rw [if_neg h150]; rw [if_pos h164]) (zMv.arr (zMv.arr hk_s 1 rfl _) 2 rfl _) (zMf.arr (zMf.arr fk_s 1 rfl (congrFun ek_s 1) _) 2 rfl (congrFun ek_s 2) _) ek_s ik_s
        · skip
          refine zr_goto hX (tgt := 307) (by decide) d_M_merge_153 ?_
          refine zs_iinc (v := nI (j + 1)) hX rfl (nI_add _ 1) (by decide) rfl d_M_merge_307 ?_
          refine zr_goto hX (tgt := 93) (by decide) d_M_merge_310 ?_
          refine zw_drop 4 ?_
          refine zw_drop 5 ?_
          refine zw_drop 6 ?_
          exact ih_s hlt_s s _ (by rw [zfor_s, ← hs_s]; unfold st_M_merge; rw [if_neg h139]; rw [if_pos h150]) hk_s fk_s ek_s ik_s
    · skip
      have ej_s : j = 4096 := by omega
      rw [ej_s] at hs_s
      refine zr_iload_n hX rfl d_M_merge_93 ?_
      refine zr_sipush (v := 4096) hX rfl d_M_merge_94 ?_
      refine zr_icmp_ge hX (tgt := 313) d_M_merge_97 (by decide) (fun _ => ?_) (fun h9 => absurd h9 (zq_leT (a := 4096) (b := j) (by omega) (by omega)))
      refine zr_aload_n hX rfl d_M_merge_313 ?_
      refine zr_get hX k_M 14 (by decide) q667 rfl hk_s.m rfl d_M_merge_314 ?_
      refine zr_iload_n hX rfl d_M_merge_317 ?_
      refine zr_ialdN hX (hk_s.ar 14 rfl) p rfl (by omega) (by decide) d_M_merge_318 ?_
      exact zr_iret hX d_M_merge_319 ⟨u74, ⟨ek74, ei74, ea74, er74⟩, (by unfold t_M_merge; rw [← hs_s]), (by unfold t_M_merge; rw [← hs_s]; exact hk_s), fk_s, (by unfold t_M_merge; rw [← hs_s]; exact ek_s)⟩
  exact L93 0 (Nat.zero_le _) _ _ rfl (zMv.arr (zMv.arr hk74 9 rfl _) 14 rfl _) (zMf.arr (zMf.arr (zMf.tr (zMf.obj (zMf.tr zMf.rf fk23 rfl) _) fk74 (Eq.trans ek23 rfl)) 9 rfl (congrFun (Eq.trans ek74 (Eq.trans ek23 rfl)) 9) _) 14 rfl (congrFun (Eq.trans ek74 (Eq.trans ek23 rfl)) 14) _) (Eq.trans ek74 (Eq.trans ek23 rfl)) rfl
