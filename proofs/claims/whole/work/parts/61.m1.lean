theorem c_S_conflict (g : zGt) (d : Nat) (hdd : 3 ≤ d) (G : zG) (w : zW) (u : zU) (cm : Nat) (hH : zHp w G) (hR : zRl w u cm) (p q e : Int32)   : zMet g y_S_conflict b_S_conflict 5 (some .int) [] d 0 0 [.ref (w.a 0 0), .int p, .int q, .int e] G (zD1 (.int (s_M_conflict u p q e)) G) := by
  refine zMet.of (by decide) (Nat.le_of_ble_eq_true rfl) rfl (fun X hX => ?_)
  refine zr_aload_n hX rfl d_S_conflict_0 ?_
  refine zr_iload_n hX rfl d_S_conflict_1 ?_
  by_cases k2 : s_M_isBranch u p = 0
  · skip
    refine zr_pV hX (c_S_branchAt_0 g (d - 1) _ w u cm hH hR p k2) l_S_84 im_S_branchAt se_S_branchAt f_S_branchAt k_S.1 hH.x rfl (Nat.le_of_ble_eq_true rfl) (by omega) (Nat.zero_le _) (Nat.zero_le _) d_S_conflict_2 ?_
    refine zs_astoreN hX (by decide) rfl d_S_conflict_5 ?_
    refine zr_aloadN hX rfl d_S_conflict_7 ?_
    refine zr_ifnullN hX (tgt := 20) (by decide) d_S_conflict_9 ?_
    refine zr_ldc hX q99 d_S_conflict_20 ?_
    exact zr_iret hX d_S_conflict_22 ⟨by unfold s_M_conflict s_M_isConflict; rw [if_pos (show s_M_isBranch (zuc u 0 0) p = 0 from k2), if_pos rfl], rfl⟩
  · skip
    obtain ⟨b9, qb, hb9, eb9, hq3, hz, h79, ht9⟩ := hR.bra1 k2
    refine zr_pV hX (c_S_branchAt_1 g (d - 1) _ w hH p qb hz) l_S_84 im_S_branchAt se_S_branchAt f_S_branchAt k_S.1 hH.x rfl (Nat.le_of_ble_eq_true rfl) (by omega) (Nat.zero_le _) (Nat.zero_le _) d_S_conflict_2 ?_
    refine zs_astore hX (by decide) rfl d_S_conflict_5 ?_
    refine zr_aload hX rfl d_S_conflict_7 ?_
    refine zr_ifnull hX d_S_conflict_9 ?_
    refine zr_aload hX rfl d_S_conflict_12 ?_
    refine zr_get hX k_B 4 (by decide) q72 rfl (hH.bm hq3) rfl d_S_conflict_14 ?_
    rcases zopt (w.o 5 b9) with o14 | o14
    · skip
      rw [o14]
      refine zr_ifnonnullN hX d_S_conflict_17 ?_
      refine zr_ldc hX q99 d_S_conflict_20 ?_
      exact zr_iret hX d_S_conflict_22 ⟨by unfold s_M_conflict; rw [eb9, if_pos (show s_M_isConflict (zuc u 0 0) (nI b9) q = 0 from zcnone hb9 ht9.2.2.2.2 o14 q)], rfl⟩
    · skip
      rw [o14]
      refine zr_ifnonnull hX (tgt := 23) (by decide) d_S_conflict_17 ?_
      refine zr_aload hX rfl d_S_conflict_23 ?_
      refine zr_get hX k_B 4 (by decide) q72 rfl (hH.bm hq3) rfl d_S_conflict_25 ?_
      rw [o14]
      refine zr_iload_n hX rfl d_S_conflict_28 ?_
      refine zr_iload_n hX rfl d_S_conflict_29 ?_
      obtain ⟨e9, e91, e92, e93, e94⟩ := id ht9.2.2.2.2
      refine zr_pV hX (c_K_tell g (d - 1) (by omega) _ ((w.o 5 b9).getD 0) (w.a 10 b9) (w.a 11 b9) (w.a 12 b9) (w.a 13 b9) (w.a 14 b9) (w.i 7 b9) (w.i 8 b9) q e (hH.km o14) (w.n 10 b9) (w.n 11 b9) (w.n 12 b9) (w.n 13 b9) (w.n 14 b9) (hH.k0 o14) (hH.k1 o14) (hH.k2 o14) (hH.k3 o14) (hH.k4 o14) (hH.kne o14) (fun z => zkvp (e94 _ o14).1 e91 z)) l_S_213 im_K_tell se_K_tell f_K_tell k_K.1 (hH.km o14) rfl (Nat.le_of_ble_eq_true rfl) (by omega) (Nat.zero_le _) (Nat.zero_le _) d_S_conflict_30 ?_
      exact zr_iret hX d_S_conflict_33 ⟨by rw [ztell hb9 (eb9 ▸ k2) ht9.2.2.2.2 o14, eb9], rfl⟩
theorem c_S_settle_bad (g : zGt) (d : Nat) (hdd : 6 ≤ d) (G : zG) (w : zW) (u : zU) (cm : Nat) (hH : zHp w G) (hR : zRl w u cm) (p q v : Int32)  (hbad : s_M_isConflict u p q = 0 ∨ s_M_isValue v = 0) : zMet g y_S_settle b_S_settle 5 (some .int) [] d 1 6 [.ref (w.a 0 0), .int p, .int q, .int v] G (zDx "java/lang/IllegalArgumentException" G) := by
  refine zMet.of (by decide) (Nat.le_of_ble_eq_true rfl) rfl (fun X hX => ?_)
  refine zr_aload_n hX rfl d_S_settle_0 ?_
  refine zr_iload_n hX rfl d_S_settle_1 ?_
  by_cases k2 : s_M_isBranch u p = 0
  · skip
    refine zr_pV hX (c_S_branchAt_0 g (d - 1) _ w u cm hH hR p k2) l_S_84 im_S_branchAt se_S_branchAt f_S_branchAt k_S.1 hH.x rfl (Nat.le_of_ble_eq_true rfl) (by omega) (Nat.zero_le _) (Nat.zero_le _) d_S_settle_2 ?_
    refine zs_astoreN hX (by decide) rfl d_S_settle_5 ?_
    refine zr_aloadN hX rfl d_S_settle_7 ?_
    refine zr_ifnullN hX (tgt := 39) (by decide) d_S_settle_9 ?_
    exact zr_iae hX rfl d_S_settle_39 d_S_settle_42 d_S_settle_43 d_S_settle_46 (by omega) (Nat.le_of_ble_eq_true rfl) (Nat.le_refl _) (Nat.le_refl _) ⟨rfl, rfl⟩
  · skip
    obtain ⟨b9, qb, hb9, eb9, hq3, hz, h79, ht9⟩ := hR.bra1 k2
    refine zr_pV hX (c_S_branchAt_1 g (d - 1) _ w hH p qb hz) l_S_84 im_S_branchAt se_S_branchAt f_S_branchAt k_S.1 hH.x rfl (Nat.le_of_ble_eq_true rfl) (by omega) (Nat.zero_le _) (Nat.zero_le _) d_S_settle_2 ?_
    refine zs_astore hX (by decide) rfl d_S_settle_5 ?_
    refine zr_aload hX rfl d_S_settle_7 ?_
    refine zr_ifnull hX d_S_settle_9 ?_
    refine zr_aload hX rfl d_S_settle_12 ?_
    refine zr_get hX k_B 4 (by decide) q72 rfl (hH.bm hq3) rfl d_S_settle_14 ?_
    rcases zopt (w.o 5 b9) with o14 | o14
    · skip
      rw [o14]
      refine zr_ifnullN hX (tgt := 39) (by decide) d_S_settle_17 ?_
      exact zr_iae hX rfl d_S_settle_39 d_S_settle_42 d_S_settle_43 d_S_settle_46 (by omega) (Nat.le_of_ble_eq_true rfl) (Nat.le_refl _) (Nat.le_refl _) ⟨rfl, rfl⟩
    · skip
      rw [o14]
      refine zr_ifnull hX d_S_settle_17 ?_
      refine zr_aload hX rfl d_S_settle_20 ?_
      refine zr_get hX k_B 4 (by decide) q72 rfl (hH.bm hq3) rfl d_S_settle_22 ?_
      rw [o14]
      refine zr_iload_n hX rfl d_S_settle_25 ?_
      refine zr_pV hX (c_K_has g (d - 1) _ ((w.o 5 b9).getD 0) (w.a 10 b9) (w.a 11 b9) (w.a 12 b9) (w.a 13 b9) (w.a 14 b9) (w.i 7 b9) (w.i 8 b9) q (hH.km o14)) l_S_217 im_K_has se_K_has f_K_has k_K.1 (hH.km o14) rfl (Nat.le_of_ble_eq_true rfl) (by omega) (Nat.zero_le _) (Nat.zero_le _) d_S_settle_26 ?_
      refine zr_if_eq hX (tgt := 39) d_S_settle_29 (by decide) (fun h29 => ?_) (fun h29 => ?_)
      · skip
        exact zr_iae hX rfl d_S_settle_39 d_S_settle_42 d_S_settle_43 d_S_settle_46 (by omega) (Nat.le_of_ble_eq_true rfl) (Nat.le_refl _) (Nat.le_refl _) ⟨rfl, rfl⟩
      · skip
        refine zr_iload_n hX rfl d_S_settle_32 ?_
        refine zr_pS hX (c_S_isValue g (d - 1) _ v) l_S_139 st_S_isValue f_S_isValue rfl (Nat.le_of_ble_eq_true rfl) (by omega) (Nat.zero_le _) (Nat.zero_le _) d_S_settle_33 ?_
        refine zr_if_ne hX (tgt := 47) d_S_settle_36 (by decide) (fun h36 => ?_) (fun h36 => ?_)
        · skip
          rcases hbad with e | e
          · exact absurd e (by obtain ⟨e9, -, e92, -, e94⟩ := id ht9.2.2.2.2; rw [eb9, ← zkhas (e94 _ o14).1 e92 hb9 (eb9 ▸ k2)]; exact h29)
          · exact absurd e h36
        · skip
          exact zr_iae hX rfl d_S_settle_39 d_S_settle_42 d_S_settle_43 d_S_settle_46 (by omega) (Nat.le_of_ble_eq_true rfl) (Nat.le_refl _) (Nat.le_refl _) ⟨rfl, rfl⟩
theorem zset_y {w : zW} {wm : Nat} {u : zU} {cm p q e ct qb kq : Nat} {v : Int32} {G : zG} (hI : zIn w wm u cm) (hH : zHp w G) (hp : p < 4) (h7 : ¬ u.ar 7 p = 0) (hq3 : w.o 3 p = some qb) (hk : w.o 5 p = some kq) (he : u.ar 14 p = nI e) (hl : e ≤ 4096) (hq : q < e) (hc4 : ct < 4096) (a1 : w.i 7 p = nI e) (a2 : w.i 8 p = zfor e (st_M_unsettled u p) 0) (a3 : w.n 10 p q = u.ar 10 (4096 * p + q) ∧ (∃ ct, ct < 4096 ∧ u.ar 10 (4096 * p + q) = nI ct) ∧ w.n 11 p q = u.ar 11 (4096 * p + q) ∧ w.n 12 p q = u.ar 12 (4096 * p + q) ∧ w.n 13 p q = u.ar 13 (4096 * p + q) ∧ w.n 14 p q = u.ar 15 (4096 * p + q) ∧ (u.ar 15 (4096 * p + q) = 0 ∨ u.ar 15 (4096 * p + q) = 1)) (hz4 : w.n 14 p q = 0) :
    zSq (.inl (some (.int (s_M_settle u p q v ct e)))) w wm (t_M_settle u p q v ct e) cm 0 0 G (.inl (some (.int (w.i 8 p - 1)))) (zput (zput (zput G (w.a 4 p) (zJ 4096 (vp_updL (w.f 4 p) ct (zcell v (nI (98304 + ct)))))) (w.a 14 p) (zB 4096 (upd (w.n 14 p) q 1))) kq (zO 3 [.ref (w.a 10 p), .ref (w.a 11 p), .ref (w.a 12 p), .ref (w.a 13 p), .ref (w.a 14 p), .int (nI e), .int (w.i 8 p - 1)])) := by
  have h1 := hH.wf4 hq3 (vp_updL (w.f 4 p) ct (zcell v (nI (98304 + ct))))
  have h2 := h1.wn 14 p (q := w.a 14 p) (zmp hk) (upd (w.n 14 p) q 1) (c := zB 4096 (upd (w.n 14 p) q 1)) (congrArg (zB 4096) (zud_s _ _ _ _))
  have h3 := h2.w5 (b := p) (q := kq) hk (nI e) (w.i 8 p - 1)
  have f1 : zFr w G (zWf w 4 p (vp_updL (w.f 4 p) ct (zcell v (nI (98304 + ct))))) (zput G (w.a 4 p) (zJ 4096 (vp_updL (w.f 4 p) ct (zcell v (nI (98304 + ct)))))) := zFr.put 4 p (zmp hq3) (zAd_f _ _ _ _) _ rfl
  have f2 := f1.tr (zFr.put (w2 := zWn (zWf w 4 p (vp_updL (w.f 4 p) ct (zcell v (nI (98304 + ct))))) 14 p (upd (w.n 14 p) q 1)) 14 p (q := w.a 14 p) (zmp hk) (zAd_n _ _ _ _) (zB 4096 (upd (w.n 14 p) q 1)) rfl)
  have f3 := f2.tr (zFr.put (w2 := zW5 (zWn (zWf w 4 p (vp_updL (w.f 4 p) ct (zcell v (nI (98304 + ct))))) 14 p (upd (w.n 14 p) q 1)) p (nI e) (w.i 8 p - 1)) 5 p (q := kq) hk rfl (zO 3 [.ref (w.a 10 p), .ref (w.a 11 p), .ref (w.a 12 p), .ref (w.a 13 p), .ref (w.a 14 p), .int (nI e), .int (w.i 8 p - 1)]) rfl)
  have hz5 : u.ar 15 (4096 * p + q) = 0 := a3.2.2.2.2.2.1.symm.trans hz4
  obtain ⟨W, hW⟩ : ∃ W, W = zW5 (zWn (zWf w 4 p (vp_updL (w.f 4 p) ct (zcell v (nI (98304 + ct))))) 14 p (upd (w.n 14 p) q 1)) p (nI e) (w.i 8 p - 1) := ⟨_, rfl⟩
  have hi : ∀ k j, ¬ (j = p ∧ 7 ≤ k ∧ k ≤ 8) → W.i k j = w.i k j := fun k j hh => by rw [hW]; exact zW5_n _ _ _ hh
  have hi8 : W.i 8 p = w.i 8 p - 1 := by rw [hW]; exact zW5_8 _ _ _ _
  have hi7 : W.i 7 p = w.i 7 p := by rw [hW, a1]; exact zW5_7 _ _ _ _
  have hf : ∀ a b, ¬ (a = 4 ∧ b = p) → W.f a b = w.f a b := fun a b hh => by rw [hW]; exact zud_n hh
  have hf4 : W.f 4 p = vp_updL (w.f 4 p) ct (zcell v (nI (98304 + ct))) := by rw [hW]; exact zud_s _ _ _ _
  have hn : ∀ a b, ¬ (a = 14 ∧ b = p) → W.n a b = w.n a b := fun a b hh => by rw [hW]; exact zud_n hh
  have hn14 : W.n 14 p = upd (w.n 14 p) q 1 := by rw [hW]; exact zud_s _ _ _ _
  have ho : W.o = w.o := by rw [hW]; rfl
  have hS := hI.1.settle (w2 := W) (u := u) (p := p) (q := q) (ct := ct) (e := e) (r := kq) (x := v) hp h7 hk he hl hq hc4 ⟨fun k hk9 => funext fun j => hi k j (by omega), fun k k1 k2 b hb => hi k b (by omega), by rw [ho], fun b hb => ⟨by rw [ho], by rw [ho], hf 4 b (by omega)⟩, funext fun b => hf 2 b (by omega), funext fun b => hn 9 b (by omega), fun b hb j j1 j2 => hn j b (by omega)⟩ (by rw [ho]) (by rw [ho]) (fun k k1 k2 => by
      by_cases e7 : k = 7
      · rw [e7]; exact hi7
      · exact hi k p (by omega)) (by rw [hi8, if_pos hz5]) hf4 (fun j j1 j2 => hn j p (by omega)) (fun k => by
      rw [hn14]
      by_cases e : k = q
      · rw [if_pos e, e, pk_us]
      · rw [if_neg e, pk_un e])
  rw [← hS.2, hi8]
  rw [← hW] at h3 f3
  exact zSq.of hI h3 f3 hS.1 (by rw [ho]) (by rw [ho]) (by rw [ho]) (fun b hb => by rw [ho] at hb; exact hb) (by omega) (by omega)
theorem zset_n {w : zW} {wm : Nat} {u : zU} {cm p q e ct qb kq : Nat} {v : Int32} {G : zG} (hI : zIn w wm u cm) (hH : zHp w G) (hp : p < 4) (h7 : ¬ u.ar 7 p = 0) (hq3 : w.o 3 p = some qb) (hk : w.o 5 p = some kq) (he : u.ar 14 p = nI e) (hl : e ≤ 4096) (hq : q < e) (hc4 : ct < 4096) (a1 : w.i 7 p = nI e) (a2 : w.i 8 p = zfor e (st_M_unsettled u p) 0) (a3 : w.n 10 p q = u.ar 10 (4096 * p + q) ∧ (∃ ct, ct < 4096 ∧ u.ar 10 (4096 * p + q) = nI ct) ∧ w.n 11 p q = u.ar 11 (4096 * p + q) ∧ w.n 12 p q = u.ar 12 (4096 * p + q) ∧ w.n 13 p q = u.ar 13 (4096 * p + q) ∧ w.n 14 p q = u.ar 15 (4096 * p + q) ∧ (u.ar 15 (4096 * p + q) = 0 ∨ u.ar 15 (4096 * p + q) = 1)) (hz4 : ¬ w.n 14 p q = 0) :
    zSq (.inl (some (.int (s_M_settle u p q v ct e)))) w wm (t_M_settle u p q v ct e) cm 0 0 G (.inl (some (.int (w.i 8 p)))) (zput G (w.a 4 p) (zJ 4096 (vp_updL (w.f 4 p) ct (zcell v (nI (98304 + ct)))))) := by
  have h1 := hH.wf4 hq3 (vp_updL (w.f 4 p) ct (zcell v (nI (98304 + ct))))
  have f1 : zFr w G (zWf w 4 p (vp_updL (w.f 4 p) ct (zcell v (nI (98304 + ct))))) (zput G (w.a 4 p) (zJ 4096 (vp_updL (w.f 4 p) ct (zcell v (nI (98304 + ct)))))) := zFr.put 4 p (zmp hq3) (zAd_f _ _ _ _) _ rfl
  have hz5 : ¬ u.ar 15 (4096 * p + q) = 0 := fun z => hz4 (a3.2.2.2.2.2.1.trans z)
  have hz1 : w.n 14 p q = 1 := a3.2.2.2.2.2.1.trans (a3.2.2.2.2.2.2.resolve_left hz5)
  obtain ⟨W, hW⟩ : ∃ W, W = zWf w 4 p (vp_updL (w.f 4 p) ct (zcell v (nI (98304 + ct)))) := ⟨_, rfl⟩
  have hf : ∀ a b, ¬ (a = 4 ∧ b = p) → W.f a b = w.f a b := fun a b hh => by rw [hW]; exact zud_n hh
  have hf4 : W.f 4 p = vp_updL (w.f 4 p) ct (zcell v (nI (98304 + ct))) := by rw [hW]; exact zud_s _ _ _ _
  have ho : W.o = w.o := by rw [hW]; rfl
  have hi : W.i = w.i := by rw [hW]; rfl
  have hn : W.n = w.n := by rw [hW]; rfl
  have hS := hI.1.settle (w2 := W) (u := u) (p := p) (q := q) (ct := ct) (e := e) (r := kq) (x := v) hp h7 hk he hl hq hc4 ⟨fun k _ => by rw [hi], fun k k1 k2 b hb => by rw [hi], by rw [ho], fun b hb => ⟨by rw [ho], by rw [ho], hf 4 b (by omega)⟩, funext fun b => hf 2 b (by omega), by rw [hn], fun b hb j j1 j2 => by rw [hn]⟩ (by rw [ho]) (by rw [ho]) (fun k k1 k2 => by rw [hi]) (by rw [hi, if_neg hz5]) hf4 (fun j j1 j2 => by rw [hn]) (fun k => by
      rw [hn]
      by_cases e : k = q
      · rw [if_pos e, e, hz1]
      · rw [if_neg e])
  rw [← hS.2, hi]
  rw [← hW] at h1 f1
  exact zSq.of hI h1 f1 hS.1 (by rw [ho]) (by rw [ho]) (by rw [ho]) (fun b hb => by rw [ho] at hb; exact hb) (by omega) (by omega)
theorem c_S_settle_ok (g : zGt) (d : Nat) (hdd : 2 ≤ d) (G : zG) (w : zW) (wm : Nat) (u : zU) (cm : Nat) (hH : zHp w G) (hI : zIn w wm u cm) (p q : Nat) (v : Int32)  (hp : p < 4) (e9 : Nat) (he : u.ar 14 p = nI e9) (hl : e9 ≤ 4096) (hq : q < e9) (ct : Nat) (hct : u.ar 10 (4096 * p + q) = nI ct) (hc4 : ct < 4096) (ho0 : ¬ s_M_isConflict u (nI p) (nI q) = 0) (ho1 : ¬ s_M_isValue v = 0) : zMet g y_S_settle b_S_settle 5 (some .int) [] d 0 0 [.ref (w.a 0 0), .int (nI p), .int (nI q), .int v] G (zSq (.inl (some (.int (s_M_settle u p q v ct e9)))) w wm (t_M_settle u p q v ct e9) cm 0 0 G) := by
  refine zMet.of (by decide) (Nat.le_of_ble_eq_true rfl) rfl (fun X hX => ?_)
  have hR := hI.1
  have hob : ¬ s_M_isBranch u (nI p) = 0 := fun z => ho0 (by unfold s_M_isConflict; rw [if_pos z])
  obtain ⟨qb, hq3, hz, h7, ht9⟩ := hR.bra hp hob
  obtain ⟨e, e1, e2, e3, e4⟩ := id ht9.2.2.2.2
  have ee : e = e9 := (nI_eq (by omega) (by omega)).mp (e2.symm.trans he)
  subst ee
  obtain ⟨kq, hk⟩ : ∃ kq, w.o 5 p = some kq := by
    cases ho : w.o 5 p with
    | none => exact absurd (e3 ho) (by omega)
    | some k => exact ⟨k, rfl⟩
  obtain ⟨a1, a2, a3⟩ := e4 kq hk
  have hk9 : G kq = some (zO 3 [.ref (w.a 10 p), .ref (w.a 11 p), .ref (w.a 12 p), .ref (w.a 13 p), .ref (w.a 14 p), .int (nI e), .int (w.i 8 p)]) := by
    rw [← a1]; exact hH.km hk
  have hix : w.n 10 p q = nI ct := (a3 q hq).1.trans hct
  have hhas : ¬ s_K_has (nI e) (nI q) = 0 := by
    rw [zkhas rfl he hp hob]; exact ho0
  refine zr_aload_n hX rfl d_S_settle_0 ?_
  refine zr_iload_n hX rfl d_S_settle_1 ?_
  refine zr_pV hX (c_S_branchAt_1 g (d - 1) _ w hH (nI p) qb hz) l_S_84 im_S_branchAt se_S_branchAt f_S_branchAt k_S.1 hH.x rfl (Nat.le_of_ble_eq_true rfl) (by omega) (Nat.zero_le _) (Nat.zero_le _) d_S_settle_2 ?_
  refine zs_astore hX (by decide) rfl d_S_settle_5 ?_
  refine zr_aload hX rfl d_S_settle_7 ?_
  refine zr_ifnull hX d_S_settle_9 ?_
  refine zr_aload hX rfl d_S_settle_12 ?_
  refine zr_get hX k_B 4 (by decide) q72 rfl (hH.bmk hq3 hk) rfl d_S_settle_14 ?_
  refine zr_ifnull hX d_S_settle_17 ?_
  refine zr_aload hX rfl d_S_settle_20 ?_
  refine zr_get hX k_B 4 (by decide) q72 rfl (hH.bmk hq3 hk) rfl d_S_settle_22 ?_
  refine zr_iload_n hX rfl d_S_settle_25 ?_
  refine zr_pV hX (c_K_has g (d - 1) _ kq (w.a 10 p) (w.a 11 p) (w.a 12 p) (w.a 13 p) (w.a 14 p) (nI e) (w.i 8 p) (nI q) hk9) l_S_217 im_K_has se_K_has f_K_has k_K.1 hk9 rfl (Nat.le_of_ble_eq_true rfl) (by omega) (Nat.zero_le _) (Nat.zero_le _) d_S_settle_26 ?_
  refine zr_if_eq hX (tgt := 39) d_S_settle_29 (by decide) (fun h9 => absurd h9 hhas) (fun _ => ?_)
  refine zr_iload_n hX rfl d_S_settle_32 ?_
  refine zr_pS hX (c_S_isValue g (d - 1) _ v) l_S_139 st_S_isValue f_S_isValue rfl (Nat.le_of_ble_eq_true rfl) (by omega) (Nat.zero_le _) (Nat.zero_le _) d_S_settle_33 ?_
  refine zr_if_ne hX (tgt := 47) d_S_settle_36 (by decide) (fun _ => ?_) (fun h9 => absurd h9 ho1)
  refine zr_aload hX rfl d_S_settle_47 ?_
  refine zr_aload hX rfl d_S_settle_49 ?_
  refine zr_get hX k_B 4 (by decide) q72 rfl (hH.bmk hq3 hk) rfl d_S_settle_51 ?_
  refine zr_get hX k_K 0 (by decide) q587 rfl hk9 rfl d_S_settle_54 ?_
  refine zr_iload_n hX rfl d_S_settle_57 ?_
  refine zr_ialdV hX (hH.k0 hk) q rfl (by omega) (by decide) (v := (nI ct)) hix d_S_settle_58 ?_
  refine zr_iload_n hX rfl d_S_settle_59 ?_
  refine zr_uV0 hX (c_B_set g (d - 1) (by omega) _ qb (w.a 4 p) (w.i 4 p) (w.i 5 p) (w.i 6 p) (some kq) (w.f 4 p) (hH.bmk hq3 hk) (hH.bj hq3) ct v hc4) l_S_121 im_B_set se_B_set f_B_set k_B.1 (hH.bmk hq3 hk) rfl (Nat.le_of_ble_eq_true rfl) (by omega) (Nat.zero_le _) (Nat.zero_le _) d_S_settle_60 ?_
  refine zr_aload hX rfl d_S_settle_63 ?_
  refine zr_get hX k_B 4 (by decide) q72 rfl (zput_k (zne (hH.bmk hq3 hk) (hH.bj hq3) rfl) (hH.bmk hq3 hk)) rfl d_S_settle_65 ?_
  refine zr_iload_n hX rfl d_S_settle_68 ?_
  by_cases hz4 : w.n 14 p q = 0
  · skip
    have cmk := c_K_markSettled g (d - 1) (by omega) (zput G (w.a 4 p) (zJ 4096 (vp_updL (w.f 4 p) ct (zcell v (nI (98304 + ct)))))) kq (w.a 10 p) (w.a 11 p) (w.a 12 p) (w.a 13 p) (w.a 14 p) (nI e) (w.i 8 p) q (zput_k (zne hk9 (hH.bj hq3) rfl) hk9) (w.n 10 p) (w.n 11 p) (w.n 12 p) (w.n 13 p) (w.n 14 p) (zput_k (zne (hH.k0 hk) (hH.bj hq3) rfl) (hH.k0 hk)) (zput_k (zne (hH.k1 hk) (hH.bj hq3) rfl) (hH.k1 hk)) (zput_k (zne (hH.k2 hk) (hH.bj hq3) rfl) (hH.k2 hk)) (zput_k (zne (hH.k3 hk) (hH.bj hq3) rfl) (hH.k3 hk)) (zput_k (zne (hH.k4 hk) (hH.bj hq3) rfl) (hH.k4 hk)) (hH.kne hk) (by omega) hhas
    rw [if_pos hz4] at cmk
    refine zr_uV0 hX cmk l_S_223 im_K_markSettled se_K_markSettled f_K_markSettled k_K.1 (zput_k (zne hk9 (hH.bj hq3) rfl) hk9) rfl (Nat.le_of_ble_eq_true rfl) (by omega) (Nat.zero_le _) (Nat.zero_le _) d_S_settle_69 ?_
    refine zr_aload hX rfl d_S_settle_72 ?_
    refine zr_get hX k_B 4 (by decide) q72 rfl (zput_k (zne (hH.bmk hq3 hk) hk9 rfl) (zput_k (zne (hH.bmk hq3 hk) (hH.k4 hk) rfl) (zput_k (zne (hH.bmk hq3 hk) (hH.bj hq3) rfl) (hH.bmk hq3 hk)))) rfl d_S_settle_74 ?_
    refine zr_get hX k_K 6 (by decide) q596 rfl (zput_s _ _ _) rfl d_S_settle_77 ?_
    exact zr_iret hX d_S_settle_80 (zset_y hI hH hp h7 hq3 hk he hl hq hc4 a1 a2 (a3 q hq) hz4)
  · skip
    have cmk := c_K_markSettled g (d - 1) (by omega) (zput G (w.a 4 p) (zJ 4096 (vp_updL (w.f 4 p) ct (zcell v (nI (98304 + ct)))))) kq (w.a 10 p) (w.a 11 p) (w.a 12 p) (w.a 13 p) (w.a 14 p) (nI e) (w.i 8 p) q (zput_k (zne hk9 (hH.bj hq3) rfl) hk9) (w.n 10 p) (w.n 11 p) (w.n 12 p) (w.n 13 p) (w.n 14 p) (zput_k (zne (hH.k0 hk) (hH.bj hq3) rfl) (hH.k0 hk)) (zput_k (zne (hH.k1 hk) (hH.bj hq3) rfl) (hH.k1 hk)) (zput_k (zne (hH.k2 hk) (hH.bj hq3) rfl) (hH.k2 hk)) (zput_k (zne (hH.k3 hk) (hH.bj hq3) rfl) (hH.k3 hk)) (zput_k (zne (hH.k4 hk) (hH.bj hq3) rfl) (hH.k4 hk)) (hH.kne hk) (by omega) hhas
    rw [if_neg hz4] at cmk
    refine zr_uV0 hX cmk l_S_223 im_K_markSettled se_K_markSettled f_K_markSettled k_K.1 (zput_k (zne hk9 (hH.bj hq3) rfl) hk9) rfl (Nat.le_of_ble_eq_true rfl) (by omega) (Nat.zero_le _) (Nat.zero_le _) d_S_settle_69 ?_
    refine zr_aload hX rfl d_S_settle_72 ?_
    refine zr_get hX k_B 4 (by decide) q72 rfl (zput_k (zne (hH.bmk hq3 hk) (hH.bj hq3) rfl) (hH.bmk hq3 hk)) rfl d_S_settle_74 ?_
    refine zr_get hX k_K 6 (by decide) q596 rfl (zput_k (zne hk9 (hH.bj hq3) rfl) hk9) rfl d_S_settle_77 ?_
    exact zr_iret hX d_S_settle_80 (zset_n hI hH hp h7 hq3 hk he hl hq hc4 a1 a2 (a3 q hq) hz4)
theorem zcpS1 {f f0 : Nat → Int64} {cm j : Nat} (h : ∀ k, k < 4096 → f k = if k < j then zclS cm (f0 k) else f0 k) (hj : j < 4096) (hc : s_S_originCommitOf (f j) = 24) : ∀ k, k < 4096 → vp_updL f j (s_S_cellOf (s_S_valueOf (f j)) (s_S_originOf (nI cm) (s_S_originIndexOf (f j)))) k = if k < j + 1 then zclS cm (f0 k) else f0 k := fun k hk => by
  have e : f j = f0 j := by rw [h j hj, if_neg (Nat.lt_irrefl _)]
  by_cases q : k = j
  · rw [q, pk_uLs, if_pos (by omega)]
    rw [e] at hc ⊢
    unfold zclS
    rw [if_pos hc]
  · rw [pk_uLn q, h k hk]
    by_cases c : k < j
    · rw [if_pos c, if_pos (by omega)]
    · rw [if_neg c, if_neg (by omega)]
theorem zcpS0 {f f0 : Nat → Int64} {cm j : Nat} (h : ∀ k, k < 4096 → f k = if k < j then zclS cm (f0 k) else f0 k) (hj : j < 4096) (hc : ¬ s_S_originCommitOf (f j) = 24) : ∀ k, k < 4096 → f k = if k < j + 1 then zclS cm (f0 k) else f0 k := fun k hk => by
  have e : f j = f0 j := by rw [h j hj, if_neg (Nat.lt_irrefl _)]
  by_cases q : k = j
  · rw [q, if_pos (by omega), e]
    rw [e] at hc
    unfold zclS
    rw [if_neg hc]
  · rw [h k hk]
    by_cases c : k < j
    · rw [if_pos c, if_pos (by omega)]
    · rw [if_neg c, if_neg (by omega)]
theorem c_S_claimPending (g : zGt) (d : Nat) (hdd : 2 ≤ d) (G : zG) (bc cm : Nat) (f0 : Nat → Int64) (hb : G bc = some (zJ 4096 f0))   : zMet g y_S_claimPending b_S_claimPending 3 none [] d 0 0 [.ref bc, .int (nI cm)] G (fun r G1 => r = .inl none ∧ ∃ f, G1 = zput G bc (zJ 4096 f) ∧ ∀ k, k < 4096 → f k = zclS cm (f0 k)) := by
  refine zMet.of (by decide) (Nat.le_of_ble_eq_true rfl) rfl (fun X hX => ?_)
  refine zr_iconst (v := 0) hX rfl d_S_claimPending_0 ?_
  refine zs_istore_n hX (by decide) rfl d_S_claimPending_1 ?_
  have L2 : ∀ j, j ≤ 4096 → ∀ (f : Nat → Int64) , (∀ k, k < 4096 → f k = if k < j then zclS cm (f0 k) else f0 k) → zw g X (fun r G1 => r = .inl none ∧ ∃ f, G1 = zput G bc (zJ 4096 f) ∧ ∀ k, k < 4096 → f k = zclS cm (f0 k)) 2 [some (.ref bc), some (.int (nI cm)), some (.int (nI j))] [] (zput G bc (zJ 4096 f)) 0 0 := by
    refine zup 4096 (fun j hj_s ih_s => ?_)
    intro f  hI
    by_cases hlt_s : j < 4096
    · skip
      refine zr_iload_n hX rfl d_S_claimPending_2 ?_
      refine zr_sipush (v := 4096) hX rfl d_S_claimPending_3 ?_
      refine zr_icmp_ge hX (tgt := 48) d_S_claimPending_6 (by decide) (fun h9 => absurd h9 (nI_ge (a := j) (b := 4096) (by omega) (by decide))) (fun _ => ?_)
      refine zr_aload_n hX rfl d_S_claimPending_9 ?_
      refine zr_iload_n hX rfl d_S_claimPending_10 ?_
      refine zr_laldN hX (zput_s _ _ _) j rfl (by omega) (by decide) d_S_claimPending_11 ?_
      refine zr_pS hX (c_S_originCommitOf g (d - 1) (by omega) _ (f j)) l_S_233 st_S_originCommitOf f_S_originCommitOf rfl (Nat.le_of_ble_eq_true rfl) (by omega) (Nat.zero_le _) (Nat.zero_le _) d_S_claimPending_12 ?_
      refine zr_bipush (v := 24) hX rfl d_S_claimPending_15 ?_
      refine zr_icmp_ne hX (tgt := 42) d_S_claimPending_17 (by decide) (fun h17 => ?_) (fun h17 => ?_)
      · skip
        refine zs_iinc (v := nI (j + 1)) hX rfl (nI_add _ 1) (by decide) rfl d_S_claimPending_42 ?_
        refine zr_goto hX (tgt := 2) (by decide) d_S_claimPending_45 ?_
        exact ih_s hlt_s _  (zcpS0 hI hlt_s h17)
      · skip
        refine zr_aload_n hX rfl d_S_claimPending_20 ?_
        refine zr_iload_n hX rfl d_S_claimPending_21 ?_
        refine zr_aload_n hX rfl d_S_claimPending_22 ?_
        refine zr_iload_n hX rfl d_S_claimPending_23 ?_
        refine zr_laldN hX (zput_s _ _ _) j rfl (by omega) (by decide) d_S_claimPending_24 ?_
        refine zr_pS hX (c_S_valueOf g (d - 1) _ (f j)) l_S_142 st_S_valueOf f_S_valueOf rfl (Nat.le_of_ble_eq_true rfl) (by omega) (Nat.zero_le _) (Nat.zero_le _) d_S_claimPending_25 ?_
        refine zr_iload_n hX rfl d_S_claimPending_28 ?_
        refine zr_aload_n hX rfl d_S_claimPending_29 ?_
        refine zr_iload_n hX rfl d_S_claimPending_30 ?_
        refine zr_laldN hX (zput_s _ _ _) j rfl (by omega) (by decide) d_S_claimPending_31 ?_
        refine zr_pS hX (c_S_originIndexOf g (d - 1) _ (f j)) l_S_236 st_S_originIndexOf f_S_originIndexOf rfl (Nat.le_of_ble_eq_true rfl) (by omega) (Nat.zero_le _) (Nat.zero_le _) d_S_claimPending_32 ?_
        refine zr_pS hX (c_S_originOf g (d - 1) _ (nI cm) (s_S_originIndexOf (f j))) l_S_297 st_S_originOf f_S_originOf rfl (Nat.le_of_ble_eq_true rfl) (by omega) (Nat.zero_le _) (Nat.zero_le _) d_S_claimPending_35 ?_
        refine zr_pS hX (c_S_cellOf g (d - 1) _ (s_S_valueOf (f j)) (s_S_originOf (nI cm) (s_S_originIndexOf (f j)))) l_S_300 st_S_cellOf f_S_cellOf rfl (Nat.le_of_ble_eq_true rfl) (by omega) (Nat.zero_le _) (Nat.zero_le _) d_S_claimPending_38 ?_
        refine zr_lastN hX (zput_s _ _ _) j rfl (by omega) (by decide) d_S_claimPending_41 ?_
        refine zs_iinc (v := nI (j + 1)) hX rfl (nI_add _ 1) (by decide) rfl d_S_claimPending_42 ?_
        refine zr_goto hX (tgt := 2) (by decide) d_S_claimPending_45 ?_
        refine zw_h (zput_z _ _ _ _).symm ?_
        exact ih_s hlt_s _  (zcpS1 hI hlt_s h17)
    · skip
      have ej_s : 4096 = j := by omega
      subst ej_s
      refine zr_iload_n hX rfl d_S_claimPending_2 ?_
      refine zr_sipush (v := 4096) hX rfl d_S_claimPending_3 ?_
      refine zr_icmp_ge hX (tgt := 48) d_S_claimPending_6 (by decide) (fun _ => ?_) (fun h9 => absurd h9 (zq_leT (a := 4096) (b := 4096) (by omega) (by decide)))
      exact zr_vret hX d_S_claimPending_48 ⟨rfl, f, rfl, fun k hk => by rw [hI k hk, if_pos hk]⟩
  refine zw_h (zput_id hb) ?_
  exact L2 0 (Nat.zero_le _) _  (fun k hk => by rw [if_neg (Nat.not_lt_zero _)])
