theorem zbf2 {b : Nat} {t h m x : Int32} {o : Option Nat} (e : h = x) : ([.ref b, .int t, .int h, .int m, va_rf o] : List Value)[2]? = some (.int x) := by subst e; rfl
theorem zbf3 {b : Nat} {t h m x : Int32} {o : Option Nat} (e : m = x) : ([.ref b, .int t, .int h, .int m, va_rf o] : List Value)[3]? = some (.int x) := by subst e; rfl
theorem zng {x : Int32} (h : 0 ≤ x) : ¬ x < 0 := Int32.not_lt.mpr h
theorem zcmp0 {x z : Int64} (h : lg_cmp x z = 0) : x = z := by
  unfold lg_cmp at h
  by_cases a : x > z
  · rw [if_pos a] at h; exact absurd h (by decide)
  · rw [if_neg a] at h
    by_cases b : x = z
    · exact b
    · rw [if_neg b] at h; exact absurd h (by decide)
theorem zcmp1 {x z : Int64} (h : ¬ lg_cmp x z = 0) : ¬ x = z := fun e => by
  subst e
  unfold lg_cmp at h
  rw [if_neg (fun q => Int64.lt_irrefl q), if_pos rfl] at h
  exact h rfl
theorem zch1 {w : zW} {u : zU} {cm p hd j : Nat} (hR : zRl w u cm) (ht : zRt w u cm p) (hc : zCr (w.f 2 hd) u hd) (hp : p < 4) (hh : hd < 24) (hj : j < 4096) (h : lg_cmp (w.f 4 p j) (w.f 2 hd j) = 0) : u.ar 1 (4096 * (24 + p) + j) = u.ar 1 (4096 * hd + j) ∧ u.ar 2 (4096 * (24 + p) + j) = u.ar 2 (4096 * hd + j) := by
  have e := zcmp0 h
  rw [ht.2.2.2.1 j hj, hc j hj] at e
  exact (zc_eq (hR.iv _ (by omega)) (hR.iv _ (by omega))).mp e
theorem zch4 {w : zW} {u : zU} {cm p hd j : Nat} (hR : zRl w u cm) (ht : zRt w u cm p) (hc : zCr (w.f 2 hd) u hd) (hp : p < 4) (hh : hd < 24) (hj : j < 4096) (h : ¬ lg_cmp (w.f 4 p j) (w.f 2 hd j) = 0) : st_M_isChanged u p hd j 0 = 1 := by
  have e := zcmp1 h
  rw [ht.2.2.2.1 j hj, hc j hj, zc_eq (hR.iv _ (by omega)) (hR.iv _ (by omega))] at e
  unfold st_M_isChanged
  rw [if_pos rfl]
  by_cases a : u.ar 1 (4096 * (24 + p) + j) = u.ar 1 (4096 * hd + j)
  · rw [if_pos a, if_neg (fun b => e ⟨a, b⟩)]
  · rw [if_neg a]
theorem zch5 (u : zU) (p hd k : Nat) : st_M_isChanged u p hd k 1 = 1 := by
  unfold st_M_isChanged
  rw [if_neg (by decide)]
theorem zch2 {u : zU} {p hd j : Nat} (hj : j < 4096) (hs : (0 : Int32) = zfor j (st_M_isChanged u p hd) 0) (h : st_M_isChanged u p hd j 0 = 1) : (1 : Int32) = zfor 4096 (st_M_isChanged u p hd) 0 :=
  zfor_fix (fun k => zch5 u p hd k) (j := j + 1) (by omega) (by rw [zfor_s, ← hs, h])
theorem zch3 (u : zU) (p hd : Nat) : zfor 4096 (st_M_isChanged u p hd) 1 = 1 := (zfor_fix (s := 1) (fun k => zch5 u p hd k) (j := 0) (Nat.zero_le _) rfl).symm
theorem c_S_isChanged (g : zGt) (d : Nat) (hdd : 1 ≤ d) (G : zG) (w : zW) (u : zU) (cm : Nat) (hH : zHp w G) (hR : zRl w u cm) (p hd qb : Nat) (hq3 : w.o 3 p = some qb) (ht9 : zRt w u cm p)  (hp : p < 4) (hhd : u.ar 8 p = nI hd) (hh : hd < 24) : zMet g y_S_isChanged b_S_isChanged 4 (some .boolean) [] d 0 0 [.ref (w.a 0 0), .ref qb] G (zD1 (.int (s_M_isChanged u p hd)) G) := by
  refine zMet.of (by decide) (Nat.le_of_ble_eq_true rfl) rfl (fun X hX => ?_)
  have hm := hR.hm
  have t1 : w.i 5 p = nI hd := ht9.1.trans hhd
  have t2 : w.i 6 p = u.ar 9 p := ht9.2.1
  have hlt : hd < cm := by
    obtain ⟨h9, e1, e2, -⟩ := ht9.2.2.1
    rw [(nI_eq (by omega) (by omega)).mp (hhd.symm.trans e1)]
    exact e2
  obtain ⟨qc, hqc, hzc⟩ := hR.cmn hlt
  have hcr := (hR.1.2.2.2.2.2.2 hd hlt).2.2
  have hmg : u.ar 9 p = (-1) ∨ 0 ≤ u.ar 9 p := by
    obtain ⟨h9, -, -, e | ⟨c, e, hc, -⟩⟩ := ht9.2.2.1
    · exact Or.inl e
    · rw [e]; exact Or.inr (nI_pos' (by omega))
  refine zr_aload_n hX rfl d_S_isChanged_0 ?_
  refine zr_get hX k_B 3 (by decide) q70 rfl (hH.bm hq3) (zbf3 t2) d_S_isChanged_1 ?_
  refine zr_iconst (v := (-1)) hX rfl d_S_isChanged_4 ?_
  refine zr_icmp_eq hX (tgt := 10) d_S_isChanged_5 (by decide) (fun h5 => ?_) (fun h5 => ?_)
  · skip
    refine zr_aload_n hX rfl d_S_isChanged_10 ?_
    refine zr_aload_n hX rfl d_S_isChanged_11 ?_
    refine zr_get hX k_B 2 (by decide) q68 rfl (hH.bm hq3) (zbf2 t1) d_S_isChanged_12 ?_
    refine zr_pV hX (c_S_commitAt_1 g (d - 1) _ w hH (nI hd) qc hzc) l_S_77 im_S_commitAt se_S_commitAt f_S_commitAt k_S.1 hH.x rfl (Nat.le_of_ble_eq_true rfl) (by omega) (Nat.zero_le _) (Nat.zero_le _) d_S_isChanged_15 ?_
    refine zs_astore_n hX (by decide) rfl d_S_isChanged_18 ?_
    refine zr_aload_n hX rfl d_S_isChanged_19 ?_
    refine zr_ifnonnull hX (tgt := 25) (by decide) d_S_isChanged_20 ?_
    refine zr_iconst (v := 0) hX rfl d_S_isChanged_25 ?_
    refine zs_istore_n hX (by decide) rfl d_S_isChanged_26 ?_
    have L27 : ∀ j, j ≤ 4096 → ∀ (_ : Unit), (0 : Int32) = zfor j (st_M_isChanged u p hd) 0 → zw g X (zD1 (.int (s_M_isChanged u p hd)) G) 27 [some (.ref (w.a 0 0)), some (.ref qb), some (.ref qc), some (.int (nI j))] [] G 0 0 := by
      refine zup 4096 (fun j hj_s ih_s => ?_)
      intro _  hs
      by_cases hlt_s : j < 4096
      · skip
        refine zr_iload_n hX rfl d_S_isChanged_27 ?_
        refine zr_sipush (v := 4096) hX rfl d_S_isChanged_28 ?_
        refine zr_icmp_ge hX (tgt := 58) d_S_isChanged_31 (by decide) (fun h9 => absurd h9 (nI_ge (a := j) (b := 4096) (by omega) (by decide))) (fun _ => ?_)
        refine zr_aload_n hX rfl d_S_isChanged_34 ?_
        refine zr_get hX k_B 0 (by decide) q64 rfl (hH.bm hq3) rfl d_S_isChanged_35 ?_
        refine zr_iload_n hX rfl d_S_isChanged_38 ?_
        refine zr_laldN hX (hH.bj hq3) j rfl (by omega) (by decide) d_S_isChanged_39 ?_
        refine zr_aload_n hX rfl d_S_isChanged_40 ?_
        refine zr_get hX k_C 3 (by decide) q46 rfl (hH.cmo hqc) rfl d_S_isChanged_41 ?_
        refine zr_iload_n hX rfl d_S_isChanged_44 ?_
        refine zr_laldN hX (hH.cj hqc) j rfl (by omega) (by decide) d_S_isChanged_45 ?_
        refine zr_lcmp hX d_S_isChanged_46 ?_
        refine zr_if_eq hX (tgt := 52) d_S_isChanged_47 (by decide) (fun h47 => ?_) (fun h47 => ?_)
        · skip
          refine zs_iinc (v := nI (j + 1)) hX rfl (nI_add _ 1) (by decide) rfl d_S_isChanged_52 ?_
          refine zr_goto hX (tgt := 27) (by decide) d_S_isChanged_55 ?_
          exact ih_s hlt_s () (by rw [zfor_s, ← hs]; unfold st_M_isChanged; rw [if_pos rfl, if_pos (zch1 hR ht9 hcr hp (by omega) hlt_s h47).1, if_pos (zch1 hR ht9 hcr hp (by omega) hlt_s h47).2])
        · skip
          refine zr_iconst (v := 1) hX rfl d_S_isChanged_50 ?_
          exact zr_zret hX rfl d_S_isChanged_51 ⟨by unfold s_M_isChanged; rw [if_pos (show u.ar 9 p < 0 by rw [h5]; decide), ← zch2 hlt_s hs (zch4 hR ht9 hcr hp (by omega) hlt_s h47)], rfl⟩
      · skip
        have ej_s : 4096 = j := by omega
        subst ej_s
        refine zr_iload_n hX rfl d_S_isChanged_27 ?_
        refine zr_sipush (v := 4096) hX rfl d_S_isChanged_28 ?_
        refine zr_icmp_ge hX (tgt := 58) d_S_isChanged_31 (by decide) (fun _ => ?_) (fun h9 => absurd h9 (zq_leT (a := 4096) (b := 4096) (by omega) (by decide)))
        refine zr_iconst (v := 0) hX rfl d_S_isChanged_58 ?_
        exact zr_zret hX rfl d_S_isChanged_59 ⟨by unfold s_M_isChanged; rw [if_pos (show u.ar 9 p < 0 by rw [h5]; decide), ← hs], rfl⟩
    exact L27 0 (Nat.zero_le _) () rfl
  · skip
    refine zr_iconst (v := 1) hX rfl d_S_isChanged_8 ?_
    exact zr_zret hX rfl d_S_isChanged_9 ⟨by unfold s_M_isChanged; rw [if_neg (zng (hmg.resolve_left h5)), zch3], rfl⟩
theorem zcp0 {P1 P2 : Nat → Int32} {a b p s : Int32} {j : Nat} (e1 : a = P1 j) (e2 : b = P2 j) (h : (if a = p then (1 : Int32) else if b = p then 1 else 0) = 0) : s = zchS P1 P2 p j s := by
  unfold zchS
  rw [← e1, ← e2]
  by_cases c : a = p
  · rw [if_pos c] at h; exact absurd h (by decide)
  · rw [if_neg c] at h ⊢
    by_cases e : b = p
    · rw [if_pos e] at h; exact absurd h (by decide)
    · rw [if_neg e]
theorem zcp1 {P1 P2 : Nat → Int32} {a b p s : Int32} {j : Nat} (e1 : a = P1 j) (e2 : b = P2 j) (h : ¬ (if a = p then (1 : Int32) else if b = p then 1 else 0) = 0) : s + Int32.ofInt 1 = zchS P1 P2 p j s := by
  unfold zchS
  rw [← e1, ← e2]
  by_cases c : a = p
  · rw [if_pos c]; rfl
  · rw [if_neg c] at h ⊢
    by_cases e : b = p
    · rw [if_pos e]; rfl
    · rw [if_neg e] at h; exact absurd rfl h
theorem c_S_childrenOf (g : zGt) (d : Nat) (hdd : 1 ≤ d) (G : zG) (w : zW) (u : zU) (cm : Nat) (hH : zHp w G) (hR : zRl w u cm) (p : Int32)   : zMet g y_S_childrenOf b_S_childrenOf 5 (some .int) [] d 0 0 [.ref (w.a 0 0), .int p] G (zD1 (.int (zfor cm (zchS (u.ar 4) (u.ar 5) p) 0)) G) := by
  refine zMet.of (by decide) (Nat.le_of_ble_eq_true rfl) rfl (fun X hX => ?_)
  have a2 : w.i 0 2 = nI cm := hR.1.2.1
  have hm := hR.hm
  refine zr_iconst (v := 0) hX rfl d_S_childrenOf_0 ?_
  refine zs_istore_n hX (by decide) rfl d_S_childrenOf_1 ?_
  refine zr_iconst (v := 0) hX rfl d_S_childrenOf_2 ?_
  refine zs_istore_n hX (by decide) rfl d_S_childrenOf_3 ?_
  have L4 : ∀ j, j ≤ cm → ∀ (s : Int32), s = zfor j (zchS (u.ar 4) (u.ar 5) p) 0 → zw g X (zD1 (.int (zfor cm (zchS (u.ar 4) (u.ar 5) p) 0)) G) 4 [some (.ref (w.a 0 0)), some (.int p), some (.int s), some (.int (nI j)), none] [] G 0 0 := by
    refine zup cm (fun j hj_s ih_s => ?_)
    intro s  hs
    by_cases hlt_s : j < cm
    · skip
      refine zr_iload_n hX rfl d_S_childrenOf_4 ?_
      refine zr_aload_n hX rfl d_S_childrenOf_5 ?_
      refine zr_get hX k_S 2 (by decide) q105 rfl hH.x (zsf2 a2) d_S_childrenOf_6 ?_
      refine zr_icmp_ge hX (tgt := 42) d_S_childrenOf_9 (by decide) (fun h9 => absurd h9 (nI_ge (a := j) (b := cm) (by omega) (by omega))) (fun _ => ?_)
      refine zr_aload_n hX rfl d_S_childrenOf_12 ?_
      refine zr_iload_n hX rfl d_S_childrenOf_13 ?_
      obtain ⟨qc, hqc, hzc⟩ := hR.cmn (c := j) (by omega)
      refine zr_pV hX (c_S_commitAt_1 g (d - 1) _ w hH (nI j) qc hzc) l_S_77 im_S_commitAt se_S_commitAt f_S_commitAt k_S.1 hH.x rfl (Nat.le_of_ble_eq_true rfl) (by omega) (Nat.zero_le _) (Nat.zero_le _) d_S_childrenOf_14 ?_
      refine zs_astore hX (by decide) rfl d_S_childrenOf_17 ?_
      refine zr_aload hX rfl d_S_childrenOf_19 ?_
      refine zr_ifnull hX d_S_childrenOf_21 ?_
      refine zr_aload hX rfl d_S_childrenOf_24 ?_
      refine zr_iload_n hX rfl d_S_childrenOf_26 ?_
      refine zr_pV hX (c_C_hasParent g (d - 1) _ qc (w.a 2 j) (w.i 1 j) (w.i 2 j) (w.i 3 j) p (hH.cmo hqc)) l_S_344 im_C_hasParent se_C_hasParent f_C_hasParent k_C.1 (hH.cmo hqc) rfl (Nat.le_of_ble_eq_true rfl) (by omega) (Nat.zero_le _) (Nat.zero_le _) d_S_childrenOf_27 ?_
      refine zr_if_eq hX (tgt := 36) d_S_childrenOf_30 (by decide) (fun h30 => ?_) (fun h30 => ?_)
      · skip
        refine zs_iinc (v := nI (j + 1)) hX rfl (nI_add _ 1) (by decide) rfl d_S_childrenOf_36 ?_
        refine zr_goto hX (tgt := 4) (by decide) d_S_childrenOf_39 ?_
        refine zw_drop 4 ?_
        exact ih_s hlt_s _ (by rw [zfor_s, ← hs]; exact zcp0 (hR.1.2.2.2.2.2.2 j hlt_s).1 (hR.1.2.2.2.2.2.2 j hlt_s).2.1 h30)
      · skip
        refine zs_iinc hX rfl rfl (by decide) rfl d_S_childrenOf_33 ?_
        refine zs_iinc (v := nI (j + 1)) hX rfl (nI_add _ 1) (by decide) rfl d_S_childrenOf_36 ?_
        refine zr_goto hX (tgt := 4) (by decide) d_S_childrenOf_39 ?_
        refine zw_drop 4 ?_
        exact ih_s hlt_s _ (by rw [zfor_s, ← hs]; exact zcp1 (hR.1.2.2.2.2.2.2 j hlt_s).1 (hR.1.2.2.2.2.2.2 j hlt_s).2.1 h30)
    · skip
      have ej_s : cm = j := by omega
      subst ej_s
      refine zr_iload_n hX rfl d_S_childrenOf_4 ?_
      refine zr_aload_n hX rfl d_S_childrenOf_5 ?_
      refine zr_get hX k_S 2 (by decide) q105 rfl hH.x (zsf2 a2) d_S_childrenOf_6 ?_
      refine zr_icmp_ge hX (tgt := 42) d_S_childrenOf_9 (by decide) (fun _ => ?_) (fun h9 => absurd h9 (zq_leT (a := cm) (b := cm) (by omega) (by omega)))
      refine zr_iload_n hX rfl d_S_childrenOf_42 ?_
      exact zr_iret hX d_S_childrenOf_43 ⟨by rw [hs], rfl⟩
  exact L4 0 (Nat.zero_le _) _ rfl
theorem c_S_aboutCommit (g : zGt) (d : Nat) (hdd : 2 ≤ d) (G : zG) (w : zW) (u : zU) (cm : Nat) (hH : zHp w G) (hR : zRl w u cm) (c qc : Nat) (e : Int32) (hqc : w.o 1 c = some qc)  (hc : c < cm) : zMet g y_S_aboutCommit b_S_aboutCommit 4 (some .int) [] d 0 0 [.ref (w.a 0 0), .ref qc, .int (nI c), .int e] G (zD1 (.int (if e = 0 then u.ar 4 c else if e = 1 then u.ar 5 c else if e = 2 then zfor (cm - 1) (st_M_about u c cm) 0 else (-1))) G) := by
  refine zMet.of (by decide) (Nat.le_of_ble_eq_true rfl) rfl (fun X hX => ?_)
  refine zr_iload_n hX rfl d_S_aboutCommit_0 ?_
  by_cases h1_0 : e = 0
  · skip
    refine zr_tabN hX (tgt := 28) d_S_aboutCommit_1 0 h1_0 (by decide) (by decide) rfl (by decide) ?_
    refine zr_aload_n hX rfl d_S_aboutCommit_28 ?_
    refine zr_get hX k_C 0 (by decide) q40 rfl (hH.cmo hqc) rfl d_S_aboutCommit_29 ?_
    exact zr_iret hX d_S_aboutCommit_32 ⟨by rw [if_pos h1_0, (hR.1.2.2.2.2.2.2 c hc).1], rfl⟩
  · skip
    by_cases h1_1 : e = 1
    · skip
      refine zr_tabN hX (tgt := 33) d_S_aboutCommit_1 1 h1_1 (by decide) (by decide) rfl (by decide) ?_
      refine zr_aload_n hX rfl d_S_aboutCommit_33 ?_
      refine zr_get hX k_C 1 (by decide) q42 rfl (hH.cmo hqc) rfl d_S_aboutCommit_34 ?_
      exact zr_iret hX d_S_aboutCommit_37 ⟨by rw [if_neg h1_0, if_pos h1_1, (hR.1.2.2.2.2.2.2 c hc).2.1], rfl⟩
    · skip
      by_cases h1_2 : e = 2
      · skip
        refine zr_tabN hX (tgt := 38) d_S_aboutCommit_1 2 h1_2 (by decide) (by decide) rfl (by decide) ?_
        refine zr_aload_n hX rfl d_S_aboutCommit_38 ?_
        refine zr_iload_n hX rfl d_S_aboutCommit_39 ?_
        refine zr_pV hX (c_S_childrenOf g (d - 1) (by omega) _ w u cm hH hR (nI c)) l_S_341 im_S_childrenOf se_S_childrenOf f_S_childrenOf k_S.1 hH.x rfl (Nat.le_of_ble_eq_true rfl) (by omega) (Nat.zero_le _) (Nat.zero_le _) d_S_aboutCommit_40 ?_
        exact zr_iret hX d_S_aboutCommit_43 ⟨by rw [if_neg h1_0, if_neg h1_1, if_pos h1_2, zch_eq hR.hi hR.1.2.2.2.2.1 hR.1.2.2.2.2.2.1 (by have := hR.hm; omega)], rfl⟩
      · skip
        refine zr_tabD hX (tgt := 44) (z := 2) d_S_aboutCommit_1 rfl (zsw2 h1_0 h1_1 h1_2) (by decide) ?_
        refine zr_iconst (v := (-1)) hX rfl d_S_aboutCommit_44 ?_
        exact zr_iret hX d_S_aboutCommit_45 ⟨by rw [if_neg h1_0, if_neg h1_1, if_neg h1_2], rfl⟩
theorem c_S_aboutBranch (g : zGt) (d : Nat) (hdd : 2 ≤ d) (G : zG) (w : zW) (u : zU) (cm : Nat) (hH : zHp w G) (hR : zRl w u cm) (p hd qb : Nat) (e : Int32) (hq3 : w.o 3 p = some qb) (ht9 : zRt w u cm p)  (hp : p < 4) (hhd : u.ar 8 p = nI hd) (hh : hd < 24) : zMet g y_S_aboutBranch b_S_aboutBranch 3 (some .int) [] d 0 0 [.ref (w.a 0 0), .ref qb, .int e] G (zD1 (.int (if e = 0 then u.ar 8 p else if e = 1 then u.ar 9 p else if e = 2 then (if s_M_isChanged u p hd = 0 then 0 else 1) else (-1))) G) := by
  refine zMet.of (by decide) (Nat.le_of_ble_eq_true rfl) rfl (fun X hX => ?_)
  refine zr_iload_n hX rfl d_S_aboutBranch_0 ?_
  by_cases h1_0 : e = 0
  · skip
    refine zr_tabN hX (tgt := 28) d_S_aboutBranch_1 0 h1_0 (by decide) (by decide) rfl (by decide) ?_
    refine zr_aload_n hX rfl d_S_aboutBranch_28 ?_
    refine zr_get hX k_B 2 (by decide) q68 rfl (hH.bm hq3) rfl d_S_aboutBranch_29 ?_
    exact zr_iret hX d_S_aboutBranch_32 ⟨by rw [if_pos h1_0, ht9.1], rfl⟩
  · skip
    by_cases h1_1 : e = 1
    · skip
      refine zr_tabN hX (tgt := 33) d_S_aboutBranch_1 1 h1_1 (by decide) (by decide) rfl (by decide) ?_
      refine zr_aload_n hX rfl d_S_aboutBranch_33 ?_
      refine zr_get hX k_B 3 (by decide) q70 rfl (hH.bm hq3) rfl d_S_aboutBranch_34 ?_
      exact zr_iret hX d_S_aboutBranch_37 ⟨by rw [if_neg h1_0, if_pos h1_1, ht9.2.1], rfl⟩
    · skip
      by_cases h1_2 : e = 2
      · skip
        refine zr_tabN hX (tgt := 38) d_S_aboutBranch_1 2 h1_2 (by decide) (by decide) rfl (by decide) ?_
        refine zr_aload_n hX rfl d_S_aboutBranch_38 ?_
        refine zr_aload_n hX rfl d_S_aboutBranch_39 ?_
        refine zr_pV hX (c_S_isChanged g (d - 1) (by omega) _ w u cm hH hR p hd qb hq3 ht9 hp hhd hh) l_S_157 im_S_isChanged se_S_isChanged f_S_isChanged k_S.1 hH.x rfl (Nat.le_of_ble_eq_true rfl) (by omega) (Nat.zero_le _) (Nat.zero_le _) d_S_aboutBranch_40 ?_
        refine zr_if_eq hX (tgt := 50) d_S_aboutBranch_43 (by decide) (fun h43 => ?_) (fun h43 => ?_)
        · skip
          refine zr_iconst (v := 0) hX rfl d_S_aboutBranch_50 ?_
          exact zr_iret hX d_S_aboutBranch_51 ⟨by rw [if_neg h1_0, if_neg h1_1, if_pos h1_2, if_pos h43], rfl⟩
        · skip
          refine zr_iconst (v := 1) hX rfl d_S_aboutBranch_46 ?_
          refine zr_goto hX (tgt := 51) (by decide) d_S_aboutBranch_47 ?_
          exact zr_iret hX d_S_aboutBranch_51 ⟨by rw [if_neg h1_0, if_neg h1_1, if_pos h1_2, if_neg h43], rfl⟩
      · skip
        refine zr_tabD hX (tgt := 52) (z := 2) d_S_aboutBranch_1 rfl (zsw2 h1_0 h1_1 h1_2) (by decide) ?_
        refine zr_iconst (v := (-1)) hX rfl d_S_aboutBranch_52 ?_
        exact zr_iret hX d_S_aboutBranch_53 ⟨by rw [if_neg h1_0, if_neg h1_1, if_neg h1_2], rfl⟩
theorem c_S_about_c (g : zGt) (d : Nat) (hdd : 3 ≤ d) (G : zG) (w : zW) (u : zU) (cm : Nat) (hH : zHp w G) (hR : zRl w u cm) (p : Nat) (e : Int32)  (hp : p < cm) : zMet g y_S_about b_S_about 5 (some .int) [] d 0 0 [.ref (w.a 0 0), .int (nI p), .int e] G (zD1 (.int (if e = 0 then u.ar 4 p else if e = 1 then u.ar 5 p else if e = 2 then zfor (cm - 1) (st_M_about u p cm) 0 else (-1))) G) := by
  refine zMet.of (by decide) (Nat.le_of_ble_eq_true rfl) rfl (fun X hX => ?_)
  obtain ⟨qc, hqc, hzc⟩ := hR.cmn hp
  refine zr_aload_n hX rfl d_S_about_0 ?_
  refine zr_iload_n hX rfl d_S_about_1 ?_
  refine zr_pV hX (c_S_commitAt_1 g (d - 1) _ w hH (nI p) qc hzc) l_S_77 im_S_commitAt se_S_commitAt f_S_commitAt k_S.1 hH.x rfl (Nat.le_of_ble_eq_true rfl) (by omega) (Nat.zero_le _) (Nat.zero_le _) d_S_about_2 ?_
  refine zs_astore_n hX (by decide) rfl d_S_about_5 ?_
  refine zr_aload_n hX rfl d_S_about_6 ?_
  refine zr_ifnull hX d_S_about_7 ?_
  refine zr_aload_n hX rfl d_S_about_10 ?_
  refine zr_aload_n hX rfl d_S_about_11 ?_
  refine zr_iload_n hX rfl d_S_about_12 ?_
  refine zr_iload_n hX rfl d_S_about_13 ?_
  refine zr_pV hX (c_S_aboutCommit g (d - 1) (by omega) _ w u cm hH hR p qc e hqc hp) l_S_263 im_S_aboutCommit se_S_aboutCommit f_S_aboutCommit k_S.1 hH.x rfl (Nat.le_of_ble_eq_true rfl) (by omega) (Nat.zero_le _) (Nat.zero_le _) d_S_about_14 ?_
  exact zr_iret hX d_S_about_17 ⟨rfl, rfl⟩
theorem zbopc (g : zGt) (d : Nat) (hd : 1 ≤ d) (G : zG) (w : zW) (hH : zHp w G) (p q : Nat) (hp : p < 4) (h0 : zbra (zWv w) (nI p) = some q) : zMet g y_S_branchOfPlace b_S_branchOfPlace 2 (some (.object "SurveyStore$Branch")) [] d 0 0 [.ref (w.a 0 0), .int (nI (24 + p))] G (zD1 (.ref q) G) := by
  have h := c_S_branchOfPlace g d G (zWv w) (w.a 0 0) hH.sv (nI (24 + p)) hd
  have e : zbop (zWv w) (nI (24 + p)) = some q := by
    unfold zbop
    rw [if_pos (show (24 : Int32) ≤ nI (24 + p) from nI_le (a := 24) (by omega) (by omega)), show nI (24 + p) - 24 = nI p by rw [show (24 : Int32) = nI 24 from rfl, pk_sub (by omega)]; congr 1; omega]
    exact h0
  rw [e] at h
  exact h
theorem zbopc0 (g : zGt) (d : Nat) (hd : 1 ≤ d) (G : zG) (w : zW) (u : zU) (cm : Nat) (hH : zHp w G) (hR : zRl w u cm) (p : Int32) (h0 : s_M_isPlace u p = 0) : zMet g y_S_branchOfPlace b_S_branchOfPlace 2 (some (.object "SurveyStore$Branch")) [] d 0 0 [.ref (w.a 0 0), .int p] G (zD1 .null G) := by
  have h := c_S_branchOfPlace g d G (zWv w) (w.a 0 0) hH.sv p hd
  have e : zbop (zWv w) p = none := by
    unfold zbop
    unfold s_M_isPlace at h0
    by_cases c : 24 ≤ p
    · rw [if_pos c] at h0 ⊢
      exact hR.bra0 h0
    · rw [if_neg c]
  rw [e] at h
  exact h
theorem zplc {u : zU} {cm : Nat} (hc : u.i 6 = nI cm) (hm : cm ≤ 24) {p : Int32} (h : s_M_isPlace u p = 0) : s_M_isCommit u p = 0 := by
  unfold s_M_isPlace at h
  by_cases c : 24 ≤ p
  · unfold s_M_isCommit
    by_cases a : p < 0
    · rw [if_pos a]
    · rw [if_neg a, hc, if_pos (Int32.le_trans (nI_le (a := cm) (b := 24) hm (by decide)) c)]
  · rw [if_neg c] at h; exact h
theorem c_S_about_b (g : zGt) (d : Nat) (hdd : 3 ≤ d) (G : zG) (w : zW) (u : zU) (cm : Nat) (hH : zHp w G) (hR : zRl w u cm) (p hd : Nat) (e : Int32)  (hp : p < 4) (ho0 : ¬ s_M_isBranch u (nI p) = 0) (hhd : u.ar 8 p = nI hd) (hh : hd < 24) : zMet g y_S_about b_S_about 5 (some .int) [] d 0 0 [.ref (w.a 0 0), .int (nI (24 + p)), .int e] G (zD1 (.int (if e = 0 then u.ar 8 p else if e = 1 then u.ar 9 p else if e = 2 then (if s_M_isChanged u p hd = 0 then 0 else 1) else (-1))) G) := by
  refine zMet.of (by decide) (Nat.le_of_ble_eq_true rfl) rfl (fun X hX => ?_)
  have hm := hR.hm
  obtain ⟨qb, hq3, hz, h7, ht9⟩ := hR.bra hp ho0
  have hc0 : s_M_isCommit u (nI (24 + p)) = 0 := by
    unfold s_M_isCommit
    rw [if_neg (nI_pos (by omega)), hR.i6, if_pos (nI_le (by omega) (by omega))]
  refine zr_aload_n hX rfl d_S_about_0 ?_
  refine zr_iload_n hX rfl d_S_about_1 ?_
  refine zr_pV hX (c_S_commitAt_0 g (d - 1) _ w u cm hH hR (nI (24 + p)) hc0) l_S_77 im_S_commitAt se_S_commitAt f_S_commitAt k_S.1 hH.x rfl (Nat.le_of_ble_eq_true rfl) (by omega) (Nat.zero_le _) (Nat.zero_le _) d_S_about_2 ?_
  refine zs_astore_nN hX (by decide) rfl d_S_about_5 ?_
  refine zr_aload_nN hX rfl d_S_about_6 ?_
  refine zr_ifnullN hX (tgt := 18) (by decide) d_S_about_7 ?_
  refine zr_aload_n hX rfl d_S_about_18 ?_
  refine zr_iload_n hX rfl d_S_about_19 ?_
  refine zr_pV hX (zbopc g (d - 1) (by omega) _ w hH p qb hp hz) l_S_267 im_S_branchOfPlace se_S_branchOfPlace f_S_branchOfPlace k_S.1 hH.x rfl (Nat.le_of_ble_eq_true rfl) (by omega) (Nat.zero_le _) (Nat.zero_le _) d_S_about_20 ?_
  refine zs_astore hX (by decide) rfl d_S_about_23 ?_
  refine zr_aload hX rfl d_S_about_25 ?_
  refine zr_ifnull hX d_S_about_27 ?_
  refine zr_aload_n hX rfl d_S_about_30 ?_
  refine zr_aload hX rfl d_S_about_31 ?_
  refine zr_iload_n hX rfl d_S_about_33 ?_
  refine zr_pV hX (c_S_aboutBranch g (d - 1) (by omega) _ w u cm hH hR p hd qb e hq3 ht9 hp hhd hh) l_S_270 im_S_aboutBranch se_S_aboutBranch f_S_aboutBranch k_S.1 hH.x rfl (Nat.le_of_ble_eq_true rfl) (by omega) (Nat.zero_le _) (Nat.zero_le _) d_S_about_34 ?_
  exact zr_iret hX d_S_about_37 ⟨rfl, rfl⟩
theorem c_S_about_bad (g : zGt) (d : Nat) (hdd : 2 ≤ d) (G : zG) (w : zW) (u : zU) (cm : Nat) (hH : zHp w G) (hR : zRl w u cm) (p e : Int32)  (h0 : s_M_isPlace u p = 0) : zMet g y_S_about b_S_about 5 (some .int) [] d 0 0 [.ref (w.a 0 0), .int p, .int e] G (zD1 (.int (-1)) G) := by
  refine zMet.of (by decide) (Nat.le_of_ble_eq_true rfl) rfl (fun X hX => ?_)
  refine zr_aload_n hX rfl d_S_about_0 ?_
  refine zr_iload_n hX rfl d_S_about_1 ?_
  refine zr_pV hX (c_S_commitAt_0 g (d - 1) _ w u cm hH hR p (zplc hR.i6 hR.hm h0)) l_S_77 im_S_commitAt se_S_commitAt f_S_commitAt k_S.1 hH.x rfl (Nat.le_of_ble_eq_true rfl) (by omega) (Nat.zero_le _) (Nat.zero_le _) d_S_about_2 ?_
  refine zs_astore_nN hX (by decide) rfl d_S_about_5 ?_
  refine zr_aload_nN hX rfl d_S_about_6 ?_
  refine zr_ifnullN hX (tgt := 18) (by decide) d_S_about_7 ?_
  refine zr_aload_n hX rfl d_S_about_18 ?_
  refine zr_iload_n hX rfl d_S_about_19 ?_
  refine zr_pV hX (zbopc0 g (d - 1) (by omega) _ w u cm hH hR p h0) l_S_267 im_S_branchOfPlace se_S_branchOfPlace f_S_branchOfPlace k_S.1 hH.x rfl (Nat.le_of_ble_eq_true rfl) (by omega) (Nat.zero_le _) (Nat.zero_le _) d_S_about_20 ?_
  refine zs_astoreN hX (by decide) rfl d_S_about_23 ?_
  refine zr_aloadN hX rfl d_S_about_25 ?_
  refine zr_ifnullN hX (tgt := 38) (by decide) d_S_about_27 ?_
  refine zr_iconst (v := (-1)) hX rfl d_S_about_38 ?_
  exact zr_iret hX d_S_about_39 ⟨rfl, rfl⟩
