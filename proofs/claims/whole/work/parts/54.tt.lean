theorem c_T_hash (g : zGt) (d : Nat) (G : zG) (tq tv ts c : Nat) (b : Nat) (ht : G tq = some (zO 5 [.ref tv, .ref ts, .int (nI c)])) (vl : Nat → Int32) (hv : G tv = some (zI 28672 vl))  (hb : b < 1792) : zMet g y_T_hash b_T_hash 5 (some .int) [] d 0 0 [.ref tq, .int (nI b)] G (zD1 (.int (zhS (fun k => vl (b * 16 + k)))) G) := by
  refine zMet.of (by decide) (Nat.le_of_ble_eq_true rfl) rfl (fun X hX => ?_)
  refine zr_iconst (v := 0) hX rfl d_T_hash_0 ?_
  refine zs_istore_n hX (by decide) rfl d_T_hash_1 ?_
  refine zr_iload_n hX rfl d_T_hash_2 ?_
  refine zr_bipush (v := 16) hX rfl d_T_hash_3 ?_
  refine zn_imul (a := b) (b := 16) hX d_T_hash_5 ?_
  refine zs_istore_n hX (by decide) rfl d_T_hash_6 ?_
  refine zr_iconst (v := 0) hX rfl d_T_hash_7 ?_
  refine zs_istore hX (by decide) rfl d_T_hash_8 ?_
  have L10 : ∀ j, j ≤ 16 → ∀ (h : Int32), h = zfor j (zhs1 (fun k => vl (b * 16 + k))) 0 → zw g X (zD1 (.int (zhS (fun k => vl (b * 16 + k)))) G) 10 [some (.ref tq), some (.int (nI b)), some (.int h), some (.int (nI (b * 16))), some (.int (nI j))] [] G 0 0 := by
    refine zup 16 (fun j hj_s ih_s => ?_)
    intro h  hs
    by_cases hlt_s : j < 16
    · skip
      refine zr_iload hX rfl d_T_hash_10 ?_
      refine zr_bipush (v := 16) hX rfl d_T_hash_12 ?_
      refine zr_icmp_ge hX (tgt := 45) d_T_hash_14 (by decide) (fun h9 => absurd h9 (nI_ge (a := j) (b := 16) (by omega) (by decide))) (fun _ => ?_)
      refine zr_iload_n hX rfl d_T_hash_17 ?_
      refine zr_aload_n hX rfl d_T_hash_18 ?_
      refine zr_get hX k_T 0 (by decide) q305 rfl ht rfl d_T_hash_19 ?_
      refine zr_iload_n hX rfl d_T_hash_22 ?_
      refine zr_iload hX rfl d_T_hash_23 ?_
      refine zn_iadd (a := (b * 16)) (b := j) hX d_T_hash_25 ?_
      refine zr_ialdN hX hv ((b * 16) + j) rfl (by omega) (by decide) d_T_hash_26 ?_
      refine zr_ixor hX d_T_hash_27 ?_
      refine zr_ldc hX q340 d_T_hash_28 ?_
      refine zr_imul hX d_T_hash_30 ?_
      refine zs_istore_n hX (by decide) rfl d_T_hash_31 ?_
      refine zr_iload_n hX rfl d_T_hash_32 ?_
      refine zr_iload_n hX rfl d_T_hash_33 ?_
      refine zr_bipush (v := 15) hX rfl d_T_hash_34 ?_
      refine zr_iushr hX d_T_hash_36 ?_
      refine zr_ixor hX d_T_hash_37 ?_
      refine zs_istore_n hX (by decide) rfl d_T_hash_38 ?_
      refine zs_iinc (v := nI (j + 1)) hX rfl (nI_add _ 1) (by decide) rfl d_T_hash_39 ?_
      refine zr_goto hX (tgt := 10) (by decide) d_T_hash_42 ?_
      exact ih_s hlt_s _ (by rw [zfor_s, ← hs]; rfl)
    · skip
      have ej_s : 16 = j := by omega
      subst ej_s
      refine zr_iload hX rfl d_T_hash_10 ?_
      refine zr_bipush (v := 16) hX rfl d_T_hash_12 ?_
      refine zr_icmp_ge hX (tgt := 45) d_T_hash_14 (by decide) (fun _ => ?_) (fun h9 => absurd h9 (zq_leT (a := 16) (b := 16) (by omega) (by decide)))
      refine zr_iload_n hX rfl d_T_hash_45 ?_
      refine zr_ldc hX q340 d_T_hash_46 ?_
      refine zr_imul hX d_T_hash_48 ?_
      exact zr_iret hX d_T_hash_49 ⟨by unfold zhS; rw [hs], rfl⟩
  exact L10 0 (Nat.zero_le _) _ rfl
theorem c_T_isSame_y (g : zGt) (d : Nat) (G : zG) (tq tv ts c : Nat) (a b : Nat) (ht : G tq = some (zO 5 [.ref tv, .ref ts, .int (nI c)])) (vl : Nat → Int32) (hv : G tv = some (zI 28672 vl))  (ha : a < 1792) (hb : b < 1792) (hq : ∀ k, k < 16 → vl (a * 16 + k) = vl (b * 16 + k)) : zMet g y_T_isSame b_T_isSame 6 (some .boolean) [] d 0 0 [.ref tq, .int (nI a), .int (nI b)] G (zD1 (.int 1) G) := by
  refine zMet.of (by decide) (Nat.le_of_ble_eq_true rfl) rfl (fun X hX => ?_)
  refine zr_iload_n hX rfl d_T_isSame_0 ?_
  refine zr_bipush (v := 16) hX rfl d_T_isSame_1 ?_
  refine zn_imul (a := a) (b := 16) hX d_T_isSame_3 ?_
  refine zs_istore_n hX (by decide) rfl d_T_isSame_4 ?_
  refine zr_iload_n hX rfl d_T_isSame_5 ?_
  refine zr_bipush (v := 16) hX rfl d_T_isSame_6 ?_
  refine zn_imul (a := b) (b := 16) hX d_T_isSame_8 ?_
  refine zs_istore hX (by decide) rfl d_T_isSame_9 ?_
  refine zr_iconst (v := 0) hX rfl d_T_isSame_11 ?_
  refine zs_istore hX (by decide) rfl d_T_isSame_12 ?_
  have L14 : ∀ j, j ≤ 16 → ∀ (_ : Unit), (∀ k, k < j → vl (a * 16 + k) = vl (b * 16 + k)) → zw g X (zD1 (.int 1) G) 14 [some (.ref tq), some (.int (nI a)), some (.int (nI b)), some (.int (nI (a * 16))), some (.int (nI (b * 16))), some (.int (nI j))] [] G 0 0 := by
    refine zup 16 (fun j hj_s ih_s => ?_)
    intro _  hI
    by_cases hlt_s : j < 16
    · skip
      refine zr_iload hX rfl d_T_isSame_14 ?_
      refine zr_bipush (v := 16) hX rfl d_T_isSame_16 ?_
      refine zr_icmp_ge hX (tgt := 51) d_T_isSame_18 (by decide) (fun h9 => absurd h9 (nI_ge (a := j) (b := 16) (by omega) (by decide))) (fun _ => ?_)
      refine zr_aload_n hX rfl d_T_isSame_21 ?_
      refine zr_get hX k_T 0 (by decide) q305 rfl ht rfl d_T_isSame_22 ?_
      refine zr_iload_n hX rfl d_T_isSame_25 ?_
      refine zr_iload hX rfl d_T_isSame_26 ?_
      refine zn_iadd (a := (a * 16)) (b := j) hX d_T_isSame_28 ?_
      refine zr_ialdN hX hv ((a * 16) + j) rfl (by omega) (by decide) d_T_isSame_29 ?_
      refine zr_aload_n hX rfl d_T_isSame_30 ?_
      refine zr_get hX k_T 0 (by decide) q305 rfl ht rfl d_T_isSame_31 ?_
      refine zr_iload hX rfl d_T_isSame_34 ?_
      refine zr_iload hX rfl d_T_isSame_36 ?_
      refine zn_iadd (a := (b * 16)) (b := j) hX d_T_isSame_38 ?_
      refine zr_ialdN hX hv ((b * 16) + j) rfl (by omega) (by decide) d_T_isSame_39 ?_
      refine zr_icmp_eq hX (tgt := 45) d_T_isSame_40 (by decide) (fun _ => ?_) (fun h9 => absurd h9 (not_not_intro (hq j hlt_s)))
      refine zs_iinc (v := nI (j + 1)) hX rfl (nI_add _ 1) (by decide) rfl d_T_isSame_45 ?_
      refine zr_goto hX (tgt := 14) (by decide) d_T_isSame_48 ?_
      exact ih_s hlt_s () (fun k hk => by
            by_cases e : k = j
            · rw [e]; exact hq j hlt_s
            · exact hI k (by omega))
    · skip
      have ej_s : 16 = j := by omega
      subst ej_s
      refine zr_iload hX rfl d_T_isSame_14 ?_
      refine zr_bipush (v := 16) hX rfl d_T_isSame_16 ?_
      refine zr_icmp_ge hX (tgt := 51) d_T_isSame_18 (by decide) (fun _ => ?_) (fun h9 => absurd h9 (zq_leT (a := 16) (b := 16) (by omega) (by decide)))
      refine zr_iconst (v := 1) hX rfl d_T_isSame_51 ?_
      exact zr_zret hX rfl d_T_isSame_52 ⟨rfl, rfl⟩
  exact L14 0 (Nat.zero_le _) () (fun k hk => absurd hk (Nat.not_lt_zero _))
theorem c_T_isSame_n (g : zGt) (d : Nat) (G : zG) (tq tv ts c : Nat) (a b : Nat) (ht : G tq = some (zO 5 [.ref tv, .ref ts, .int (nI c)])) (vl : Nat → Int32) (hv : G tv = some (zI 28672 vl))  (ha : a < 1792) (hb : b < 1792) (hq : ¬ ∀ k, k < 16 → vl (a * 16 + k) = vl (b * 16 + k)) : zMet g y_T_isSame b_T_isSame 6 (some .boolean) [] d 0 0 [.ref tq, .int (nI a), .int (nI b)] G (zD1 (.int 0) G) := by
  refine zMet.of (by decide) (Nat.le_of_ble_eq_true rfl) rfl (fun X hX => ?_)
  refine zr_iload_n hX rfl d_T_isSame_0 ?_
  refine zr_bipush (v := 16) hX rfl d_T_isSame_1 ?_
  refine zn_imul (a := a) (b := 16) hX d_T_isSame_3 ?_
  refine zs_istore_n hX (by decide) rfl d_T_isSame_4 ?_
  refine zr_iload_n hX rfl d_T_isSame_5 ?_
  refine zr_bipush (v := 16) hX rfl d_T_isSame_6 ?_
  refine zn_imul (a := b) (b := 16) hX d_T_isSame_8 ?_
  refine zs_istore hX (by decide) rfl d_T_isSame_9 ?_
  refine zr_iconst (v := 0) hX rfl d_T_isSame_11 ?_
  refine zs_istore hX (by decide) rfl d_T_isSame_12 ?_
  have L14 : ∀ j, j ≤ 16 → ∀ (_ : Unit), (∀ k, k < j → vl (a * 16 + k) = vl (b * 16 + k)) → zw g X (zD1 (.int 0) G) 14 [some (.ref tq), some (.int (nI a)), some (.int (nI b)), some (.int (nI (a * 16))), some (.int (nI (b * 16))), some (.int (nI j))] [] G 0 0 := by
    refine zup 16 (fun j hj_s ih_s => ?_)
    intro _  hI
    by_cases hlt_s : j < 16
    · skip
      refine zr_iload hX rfl d_T_isSame_14 ?_
      refine zr_bipush (v := 16) hX rfl d_T_isSame_16 ?_
      refine zr_icmp_ge hX (tgt := 51) d_T_isSame_18 (by decide) (fun h9 => absurd h9 (nI_ge (a := j) (b := 16) (by omega) (by decide))) (fun _ => ?_)
      refine zr_aload_n hX rfl d_T_isSame_21 ?_
      refine zr_get hX k_T 0 (by decide) q305 rfl ht rfl d_T_isSame_22 ?_
      refine zr_iload_n hX rfl d_T_isSame_25 ?_
      refine zr_iload hX rfl d_T_isSame_26 ?_
      refine zn_iadd (a := (a * 16)) (b := j) hX d_T_isSame_28 ?_
      refine zr_ialdN hX hv ((a * 16) + j) rfl (by omega) (by decide) d_T_isSame_29 ?_
      refine zr_aload_n hX rfl d_T_isSame_30 ?_
      refine zr_get hX k_T 0 (by decide) q305 rfl ht rfl d_T_isSame_31 ?_
      refine zr_iload hX rfl d_T_isSame_34 ?_
      refine zr_iload hX rfl d_T_isSame_36 ?_
      refine zn_iadd (a := (b * 16)) (b := j) hX d_T_isSame_38 ?_
      refine zr_ialdN hX hv ((b * 16) + j) rfl (by omega) (by decide) d_T_isSame_39 ?_
      refine zr_icmp_eq hX (tgt := 45) d_T_isSame_40 (by decide) (fun h40 => ?_) (fun h40 => ?_)
      · skip
        refine zs_iinc (v := nI (j + 1)) hX rfl (nI_add _ 1) (by decide) rfl d_T_isSame_45 ?_
        refine zr_goto hX (tgt := 14) (by decide) d_T_isSame_48 ?_
        exact ih_s hlt_s () (fun k hk => by
            by_cases e : k = j
            · rw [e]; exact h40
            · exact hI k (by omega))
      · skip
        refine zr_iconst (v := 0) hX rfl d_T_isSame_43 ?_
        exact zr_zret hX rfl d_T_isSame_44 ⟨rfl, rfl⟩
    · skip
      have ej_s : 16 = j := by omega
      subst ej_s
      refine zr_iload hX rfl d_T_isSame_14 ?_
      refine zr_bipush (v := 16) hX rfl d_T_isSame_16 ?_
      refine zr_icmp_ge hX (tgt := 51) d_T_isSame_18 (by decide) (fun _ => ?_) (fun h9 => absurd h9 (zq_leT (a := 16) (b := 16) (by omega) (by decide)))
      refine zr_iconst (v := 1) hX rfl d_T_isSame_51 ?_
      exact absurd hI hq
  exact L14 0 (Nat.zero_le _) () (fun k hk => absurd hk (Nat.not_lt_zero _))
theorem zrdA {f : Nat → Int32} {V : Nat → Int32} {c j : Nat} (h : ∀ k, k < j → f (c + k) = V k) : ∀ k, k < j + 1 → upd f (c + j) (V j) (c + k) = V k := fun k hk => by
  by_cases e : k = j
  · rw [e, pk_us]
  · rw [pk_un (by omega)]; exact h k (by omega)
theorem zrdB {f vl : Nat → Int32} {c j : Nat} {x : Int32} (h : ∀ i, i < c → f i = vl i) : ∀ i, i < c → upd f (c + j) x i = vl i := fun i hi => by
  rw [pk_un (by omega)]; exact h i hi
theorem zrd0 {V : Nat → Int32} {a : Int32} {j : Nat} (h : (a = 0 ∧ ∀ k, k < j → V k = (-2147483648)) ∨ (a = 1 ∧ ¬ ∀ k, k < j → V k = (-2147483648))) (ha : a = 0) (hv : V j = (-2147483648)) : ((0 : Int32) = 0 ∧ ∀ k, k < j + 1 → V k = (-2147483648)) ∨ ((0 : Int32) = 1 ∧ ¬ ∀ k, k < j + 1 → V k = (-2147483648)) := by
  refine Or.inl ⟨rfl, fun k hk => ?_⟩
  rcases h with ⟨-, h2⟩ | ⟨h1, -⟩
  · by_cases e : k = j
    · rw [e]; exact hv
    · exact h2 k (by omega)
  · rw [ha] at h1; exact absurd h1 (by decide)
theorem zrd1 {V : Nat → Int32} {a : Int32} {j : Nat} (h : (a = 0 ∧ ∀ k, k < j → V k = (-2147483648)) ∨ (a = 1 ∧ ¬ ∀ k, k < j → V k = (-2147483648))) (hv : ¬ a = 0 ∨ ¬ V j = (-2147483648)) : ((1 : Int32) = 0 ∧ ∀ k, k < j + 1 → V k = (-2147483648)) ∨ ((1 : Int32) = 1 ∧ ¬ ∀ k, k < j + 1 → V k = (-2147483648)) := by
  refine Or.inr ⟨rfl, fun q => ?_⟩
  rcases hv with hv | hv
  · rcases h with ⟨h1, -⟩ | ⟨-, h2⟩
    · exact hv h1
    · exact h2 (fun k hk => q k (by omega))
  · exact hv (q j (by omega))
theorem c_T_read (g : zGt) (d : Nat) (hdd : 1 ≤ d) (G : zG) (tq tv ts c : Nat) (sc cn : Nat) (src : Nat → Int64) (ht : G tq = some (zO 5 [.ref tv, .ref ts, .int (nI c)])) (vl : Nat → Int32) (hv : G tv = some (zI 28672 vl)) (hsc : G sc = some (zJ 4096 src))  (hc : c < 1792) (hcn : cn + 100 ≤ 4096) : zMet g y_T_read b_T_read 7 (some .boolean) [] d 0 0 [.ref tq, .ref sc, .int (nI cn)] G (fun r G1 => ∃ w, r = .inl (some w) ∧ ∃ f, G1 = zput G tv (zI 28672 f) ∧ (∀ k, k < 16 → f (c * 16 + k) = s_S_valueOf (src (cn + k / 4 * 32 + k % 4))) ∧ (∀ i, i < c * 16 → f i = vl i) ∧ ((w = .int 0 ∧ ∀ k, k < 16 → s_S_valueOf (src (cn + k / 4 * 32 + k % 4)) = (-2147483648)) ∨ (w = .int 1 ∧ ¬ ∀ k, k < 16 → s_S_valueOf (src (cn + k / 4 * 32 + k % 4)) = (-2147483648)))) := by
  refine zMet.of (by decide) (Nat.le_of_ble_eq_true rfl) rfl (fun X hX => ?_)
  refine zr_iconst (v := 0) hX rfl d_T_read_0 ?_
  refine zs_istore_n hX (by decide) rfl d_T_read_1 ?_
  refine zr_aload_n hX rfl d_T_read_2 ?_
  refine zr_get hX k_T 2 (by decide) q307 rfl ht rfl d_T_read_3 ?_
  refine zr_bipush (v := 16) hX rfl d_T_read_6 ?_
  refine zn_imul (a := c) (b := 16) hX d_T_read_8 ?_
  refine zs_istore hX (by decide) rfl d_T_read_9 ?_
  refine zr_iconst (v := 0) hX rfl d_T_read_11 ?_
  refine zs_istore hX (by decide) rfl d_T_read_12 ?_
  have L14 : ∀ j, j ≤ 16 → ∀ (f : Nat → Int32) (any : Int32), (∀ k, k < j → f (c * 16 + k) = s_S_valueOf (src (cn + k / 4 * 32 + k % 4))) → (∀ i, i < c * 16 → f i = vl i) → ((any = 0 ∧ ∀ k, k < j → s_S_valueOf (src (cn + k / 4 * 32 + k % 4)) = (-2147483648)) ∨ (any = 1 ∧ ¬ ∀ k, k < j → s_S_valueOf (src (cn + k / 4 * 32 + k % 4)) = (-2147483648))) → zw g X (fun r G1 => ∃ w, r = .inl (some w) ∧ ∃ f, G1 = zput G tv (zI 28672 f) ∧ (∀ k, k < 16 → f (c * 16 + k) = s_S_valueOf (src (cn + k / 4 * 32 + k % 4))) ∧ (∀ i, i < c * 16 → f i = vl i) ∧ ((w = .int 0 ∧ ∀ k, k < 16 → s_S_valueOf (src (cn + k / 4 * 32 + k % 4)) = (-2147483648)) ∨ (w = .int 1 ∧ ¬ ∀ k, k < 16 → s_S_valueOf (src (cn + k / 4 * 32 + k % 4)) = (-2147483648)))) 14 [some (.ref tq), some (.ref sc), some (.int (nI cn)), some (.int any), some (.int (nI (c * 16))), some (.int (nI j)), none] [] (zput G tv (zI 28672 f)) 0 0 := by
    refine zup 16 (fun j hj_s ih_s => ?_)
    intro f any  hA hB hC
    by_cases hlt_s : j < 16
    · skip
      refine zr_iload hX rfl d_T_read_14 ?_
      refine zr_bipush (v := 16) hX rfl d_T_read_16 ?_
      refine zr_icmp_ge hX (tgt := 77) d_T_read_18 (by decide) (fun h9 => absurd h9 (nI_ge (a := j) (b := 16) (by omega) (by decide))) (fun _ => ?_)
      refine zr_aload_n hX rfl d_T_read_21 ?_
      refine zr_iload_n hX rfl d_T_read_22 ?_
      refine zr_iload hX rfl d_T_read_23 ?_
      refine zr_iconst (v := 4) hX rfl d_T_read_25 ?_
      refine zn_idiv (a := j) (b := 4) hX (by omega) (by decide) (by decide) d_T_read_26 ?_
      refine zr_bipush (v := 32) hX rfl d_T_read_27 ?_
      refine zn_imul (a := (j / 4)) (b := 32) hX d_T_read_29 ?_
      refine zn_iadd (a := cn) (b := ((j / 4) * 32)) hX d_T_read_30 ?_
      refine zr_iload hX rfl d_T_read_31 ?_
      refine zr_iconst (v := 4) hX rfl d_T_read_33 ?_
      refine zn_irem (a := j) (b := 4) hX (by omega) (by decide) (by decide) d_T_read_34 ?_
      refine zn_iadd (a := (cn + ((j / 4) * 32))) (b := (j % 4)) hX d_T_read_35 ?_
      refine zr_laldN hX (zput_k (zne hsc hv rfl) hsc) ((cn + ((j / 4) * 32)) + (j % 4)) rfl (by omega) (by decide) d_T_read_36 ?_
      refine zr_pS hX (c_S_valueOf g (d - 1) _ (src ((cn + ((j / 4) * 32)) + (j % 4)))) l_T_39 st_S_valueOf f_S_valueOf rfl (Nat.le_of_ble_eq_true rfl) (by omega) (Nat.zero_le _) (Nat.zero_le _) d_T_read_37 ?_
      refine zs_istore hX (by decide) rfl d_T_read_40 ?_
      refine zr_aload_n hX rfl d_T_read_42 ?_
      refine zr_get hX k_T 0 (by decide) q305 rfl (zput_k (zne ht hv rfl) ht) rfl d_T_read_43 ?_
      refine zr_iload hX rfl d_T_read_46 ?_
      refine zr_iload hX rfl d_T_read_48 ?_
      refine zn_iadd (a := (c * 16)) (b := j) hX d_T_read_50 ?_
      refine zr_iload hX rfl d_T_read_51 ?_
      refine zr_iastN hX (zput_s _ _ _) ((c * 16) + j) rfl (by omega) (by decide) d_T_read_53 ?_
      refine zr_iload_n hX rfl d_T_read_54 ?_
      refine zr_if_ne hX (tgt := 65) d_T_read_55 (by decide) (fun h55 => ?_) (fun h55 => ?_)
      · skip
        refine zr_iconst (v := 1) hX rfl d_T_read_65 ?_
        refine zr_goto hX (tgt := 70) (by decide) d_T_read_66 ?_
        refine zs_istore_n hX (by decide) rfl d_T_read_70 ?_
        refine zs_iinc (v := nI (j + 1)) hX rfl (nI_add _ 1) (by decide) rfl d_T_read_71 ?_
        refine zr_goto hX (tgt := 14) (by decide) d_T_read_74 ?_
        refine zw_drop 6 ?_
        refine zw_h (zput_z _ _ _ _).symm ?_
        exact ih_s hlt_s _ _ (zrdA hA) (zrdB hB) (zrd1 hC (Or.inl h55))
      · skip
        refine zr_iload hX rfl d_T_read_58 ?_
        refine zr_ldc hX q331 d_T_read_60 ?_
        refine zr_icmp_eq hX (tgt := 69) d_T_read_62 (by decide) (fun h62 => ?_) (fun h62 => ?_)
        · skip
          refine zr_iconst (v := 0) hX rfl d_T_read_69 ?_
          refine zs_istore_n hX (by decide) rfl d_T_read_70 ?_
          refine zs_iinc (v := nI (j + 1)) hX rfl (nI_add _ 1) (by decide) rfl d_T_read_71 ?_
          refine zr_goto hX (tgt := 14) (by decide) d_T_read_74 ?_
          refine zw_drop 6 ?_
          refine zw_h (zput_z _ _ _ _).symm ?_
          exact ih_s hlt_s _ _ (zrdA hA) (zrdB hB) (zrd0 hC h55 h62)
        · skip
          refine zr_iconst (v := 1) hX rfl d_T_read_65 ?_
          refine zr_goto hX (tgt := 70) (by decide) d_T_read_66 ?_
          refine zs_istore_n hX (by decide) rfl d_T_read_70 ?_
          refine zs_iinc (v := nI (j + 1)) hX rfl (nI_add _ 1) (by decide) rfl d_T_read_71 ?_
          refine zr_goto hX (tgt := 14) (by decide) d_T_read_74 ?_
          refine zw_drop 6 ?_
          refine zw_h (zput_z _ _ _ _).symm ?_
          exact ih_s hlt_s _ _ (zrdA hA) (zrdB hB) (zrd1 hC (Or.inr h62))
    · skip
      have ej_s : 16 = j := by omega
      subst ej_s
      refine zr_iload hX rfl d_T_read_14 ?_
      refine zr_bipush (v := 16) hX rfl d_T_read_16 ?_
      refine zr_icmp_ge hX (tgt := 77) d_T_read_18 (by decide) (fun _ => ?_) (fun h9 => absurd h9 (zq_leT (a := 16) (b := 16) (by omega) (by decide)))
      refine zr_iload_n hX rfl d_T_read_77 ?_
      exact zr_zret hX (by rcases hC with ⟨e, -⟩ | ⟨e, -⟩ <;> rw [e] <;> rfl) d_T_read_78 ⟨_, rfl, f, rfl, hA, hB, hC.elim (fun z => Or.inl ⟨by rw [z.1], z.2⟩) (fun z => Or.inr ⟨by rw [z.1], z.2⟩)⟩
  refine zw_h (zput_id hv) ?_
  exact L14 0 (Nat.zero_le _) _ _ (fun k hk => absurd hk (Nat.not_lt_zero _)) (fun _ _ => rfl) (Or.inl ⟨rfl, fun k hk => absurd hk (Nat.not_lt_zero _)⟩)
theorem zk0 {c : Nat → Int32} {z : Nat} (h : zSl c = z) : ((zhS c).toUInt32 >>> (Int32.toUInt32 20 &&& Int32.toUInt32 31)).toInt32 = nI ((z + 0) % 4096) := by
  have h2 := zSl_lt c
  rw [zush, Nat.add_zero, Nat.mod_eq_of_lt (by omega), ← h]
  rfl
theorem c_T_keep_free (g : zGt) (d : Nat) (hdd : 1 ≤ d) (G : zG) (tq tv ts c : Nat) (z t9 : Nat) (ht : G tq = some (zO 5 [.ref tv, .ref ts, .int (nI c)])) (vl : Nat → Int32) (hv : G tv = some (zI 28672 vl)) (sl : Nat → Int32) (hs9 : G ts = some (zI 4096 sl)) (nvs : tv ≠ ts)  (hc : c < 1792) (hz : zSl (fun k => vl (c * 16 + k)) = z) (ht9 : t9 < 4096) (hocc : ∀ j, j < t9 → ∃ i, i < c ∧ sl ((z + j) % 4096) = nI (i + 1) ∧ ¬ ∀ k, k < 16 → vl (i * 16 + k) = vl (c * 16 + k)) (hend : sl ((z + t9) % 4096) = 0) : zMet g y_T_keepIfNew b_T_keepIfNew 3 none [] d 0 0 [.ref tq] G (zD0 (zput (zput G tq (zO 5 [.ref tv, .ref ts, .int (nI (c + 1))])) ts (zI 4096 (upd sl ((z + t9) % 4096) (nI (c + 1)))))) := by
  refine zMet.of (by decide) (Nat.le_of_ble_eq_true rfl) rfl (fun X hX => ?_)
  refine zr_aload_n hX rfl d_T_keepIfNew_0 ?_
  refine zr_aload_n hX rfl d_T_keepIfNew_1 ?_
  refine zr_get hX k_T 2 (by decide) q307 rfl ht rfl d_T_keepIfNew_2 ?_
  refine zr_pV hX (c_T_hash g (d - 1) _ tq tv ts c c ht vl hv (by omega)) l_T_44 im_T_hash se_T_hash f_T_hash k_T.1 ht rfl (Nat.le_of_ble_eq_true rfl) (by omega) (Nat.zero_le _) (Nat.zero_le _) d_T_keepIfNew_5 ?_
  refine zr_bipush (v := 20) hX rfl d_T_keepIfNew_8 ?_
  refine zr_iushr hX d_T_keepIfNew_10 ?_
  rw [show ((zhS (fun k => vl (c * 16 + k))).toUInt32 >>> (Int32.toUInt32 20 &&& Int32.toUInt32 31)).toInt32 = nI ((z + 0) % 4096) from zk0 hz]
  refine zs_istore_n hX (by decide) rfl d_T_keepIfNew_11 ?_
  refine zr_iconst (v := 0) hX rfl d_T_keepIfNew_12 ?_
  refine zs_istore_n hX (by decide) rfl d_T_keepIfNew_13 ?_
  have L14 : ∀ j, j ≤ t9 → ∀ (_ : Unit), zw g X (zD0 (zput (zput G tq (zO 5 [.ref tv, .ref ts, .int (nI (c + 1))])) ts (zI 4096 (upd sl ((z + t9) % 4096) (nI (c + 1)))))) 14 [some (.ref tq), some (.int (nI ((z + j) % 4096))), some (.int (nI j))] [] G 0 0 := by
    refine zup t9 (fun j hj_s ih_s => ?_)
    intro _  
    by_cases hlt_s : j < t9
    · skip
      obtain ⟨i9, i1, i2, i3⟩ := hocc j hlt_s
      refine zr_iload_n hX rfl d_T_keepIfNew_14 ?_
      refine zr_sipush (v := 4096) hX rfl d_T_keepIfNew_15 ?_
      refine zr_icmp_ge hX (tgt := 85) d_T_keepIfNew_18 (by decide) (fun h9 => absurd h9 (nI_ge (a := j) (b := 4096) (by omega) (by decide))) (fun _ => ?_)
      refine zr_aload_n hX rfl d_T_keepIfNew_21 ?_
      refine zr_get hX k_T 1 (by decide) q306 rfl ht rfl d_T_keepIfNew_22 ?_
      refine zr_iload_n hX rfl d_T_keepIfNew_25 ?_
      refine zr_ialdV hX hs9 ((z + j) % 4096) rfl (by omega) (by decide) (v := (nI (i9 + 1))) i2 d_T_keepIfNew_26 ?_
      refine zr_if_ne hX (tgt := 51) d_T_keepIfNew_27 (by decide) (fun _ => ?_) (fun h9 => absurd h9 (nI_ne0 (n := (i9 + 1)) (by omega) (by omega)))
      refine zr_aload_n hX rfl d_T_keepIfNew_51 ?_
      refine zr_aload_n hX rfl d_T_keepIfNew_52 ?_
      refine zr_get hX k_T 1 (by decide) q306 rfl ht rfl d_T_keepIfNew_53 ?_
      refine zr_iload_n hX rfl d_T_keepIfNew_56 ?_
      refine zr_ialdV hX hs9 ((z + j) % 4096) rfl (by omega) (by decide) (v := (nI (i9 + 1))) i2 d_T_keepIfNew_57 ?_
      refine zr_iconst (v := 1) hX rfl d_T_keepIfNew_58 ?_
      refine zn_isub (a := (i9 + 1)) (b := 1) hX (by omega) d_T_keepIfNew_59 ?_
      rw [show nI ((i9 + 1) - 1) = nI i9 from congrArg nI (by omega)]
      refine zr_aload_n hX rfl d_T_keepIfNew_60 ?_
      refine zr_get hX k_T 2 (by decide) q307 rfl ht rfl d_T_keepIfNew_61 ?_
      refine zr_pV hX (c_T_isSame_n g (d - 1) _ tq tv ts c i9 c ht vl hv (by omega) (by omega) i3) l_T_48 im_T_isSame se_T_isSame f_T_isSame k_T.1 ht rfl (Nat.le_of_ble_eq_true rfl) (by omega) (Nat.zero_le _) (Nat.zero_le _) d_T_keepIfNew_64 ?_
      refine zr_if_eq hX (tgt := 71) d_T_keepIfNew_67 (by decide) (fun _ => ?_) (fun h => absurd h (by decide))
      refine zr_iload_n hX rfl d_T_keepIfNew_71 ?_
      refine zr_iconst (v := 1) hX rfl d_T_keepIfNew_72 ?_
      refine zn_iadd (a := ((z + j) % 4096)) (b := 1) hX d_T_keepIfNew_73 ?_
      refine zr_sipush (v := 4096) hX rfl d_T_keepIfNew_74 ?_
      refine zn_irem (a := (((z + j) % 4096) + 1)) (b := 4096) hX (by omega) (by decide) (by decide) d_T_keepIfNew_77 ?_
      refine zs_istore_n hX (by decide) rfl d_T_keepIfNew_78 ?_
      refine zs_iinc (v := nI (j + 1)) hX rfl (nI_add _ 1) (by decide) rfl d_T_keepIfNew_79 ?_
      refine zr_goto hX (tgt := 14) (by decide) d_T_keepIfNew_82 ?_
      rw [show ((z + j) % 4096 + 1) % 4096 = (z + (j + 1)) % 4096 from by omega]
      exact ih_s hlt_s () 
    · skip
      have ej_s : t9 = j := by omega
      subst ej_s
      refine zr_iload_n hX rfl d_T_keepIfNew_14 ?_
      refine zr_sipush (v := 4096) hX rfl d_T_keepIfNew_15 ?_
      refine zr_icmp_ge hX (tgt := 85) d_T_keepIfNew_18 (by decide) (fun h9 => absurd h9 (nI_ge (a := t9) (b := 4096) (by omega) (by decide))) (fun _ => ?_)
      refine zr_aload_n hX rfl d_T_keepIfNew_21 ?_
      refine zr_get hX k_T 1 (by decide) q306 rfl ht rfl d_T_keepIfNew_22 ?_
      refine zr_iload_n hX rfl d_T_keepIfNew_25 ?_
      refine zr_ialdV hX hs9 ((z + t9) % 4096) rfl (by omega) (by decide) (v := 0) hend d_T_keepIfNew_26 ?_
      refine zr_if_ne hX (tgt := 51) d_T_keepIfNew_27 (by decide) (fun h9 => absurd h9 (not_not_intro rfl)) (fun _ => ?_)
      refine zr_aload_n hX rfl d_T_keepIfNew_30 ?_
      refine zr_dup hX rfl d_T_keepIfNew_31 ?_
      refine zr_get hX k_T 2 (by decide) q307 rfl ht rfl d_T_keepIfNew_32 ?_
      refine zr_iconst (v := 1) hX rfl d_T_keepIfNew_35 ?_
      refine zn_iadd (a := c) (b := 1) hX d_T_keepIfNew_36 ?_
      refine zr_put hX k_T 2 (by decide) q307 rfl rfl rfl rfl (Nat.le_of_ble_eq_true rfl) ht d_T_keepIfNew_37 ?_
      refine zr_aload_n hX rfl d_T_keepIfNew_40 ?_
      refine zr_get hX k_T 1 (by decide) q306 rfl (zput_s _ _ _) rfl d_T_keepIfNew_41 ?_
      refine zr_iload_n hX rfl d_T_keepIfNew_44 ?_
      refine zr_aload_n hX rfl d_T_keepIfNew_45 ?_
      refine zr_get hX k_T 2 (by decide) q307 rfl (zput_s _ _ _) rfl d_T_keepIfNew_46 ?_
      refine zr_iastN hX (zput_k (zne hs9 ht rfl) hs9) ((z + t9) % 4096) rfl (by omega) (by decide) d_T_keepIfNew_49 ?_
      exact zr_vret hX d_T_keepIfNew_50 ⟨rfl, rfl⟩
  exact L14 0 (Nat.zero_le _) () 
theorem c_T_keep_same (g : zGt) (d : Nat) (hdd : 1 ≤ d) (G : zG) (tq tv ts c : Nat) (z t9 : Nat) (ht : G tq = some (zO 5 [.ref tv, .ref ts, .int (nI c)])) (vl : Nat → Int32) (hv : G tv = some (zI 28672 vl)) (sl : Nat → Int32) (hs9 : G ts = some (zI 4096 sl)) (nvs : tv ≠ ts)  (hc : c < 1792) (hz : zSl (fun k => vl (c * 16 + k)) = z) (ht9 : t9 < 4096) (hocc : ∀ j, j < t9 → ∃ i, i < c ∧ sl ((z + j) % 4096) = nI (i + 1) ∧ ¬ ∀ k, k < 16 → vl (i * 16 + k) = vl (c * 16 + k)) (i9 : Nat) (i1 : i9 < c) (i2 : sl ((z + t9) % 4096) = nI (i9 + 1)) (i3 : ∀ k, k < 16 → vl (i9 * 16 + k) = vl (c * 16 + k)) : zMet g y_T_keepIfNew b_T_keepIfNew 3 none [] d 0 0 [.ref tq] G (zD0 G) := by
  refine zMet.of (by decide) (Nat.le_of_ble_eq_true rfl) rfl (fun X hX => ?_)
  refine zr_aload_n hX rfl d_T_keepIfNew_0 ?_
  refine zr_aload_n hX rfl d_T_keepIfNew_1 ?_
  refine zr_get hX k_T 2 (by decide) q307 rfl ht rfl d_T_keepIfNew_2 ?_
  refine zr_pV hX (c_T_hash g (d - 1) _ tq tv ts c c ht vl hv (by omega)) l_T_44 im_T_hash se_T_hash f_T_hash k_T.1 ht rfl (Nat.le_of_ble_eq_true rfl) (by omega) (Nat.zero_le _) (Nat.zero_le _) d_T_keepIfNew_5 ?_
  refine zr_bipush (v := 20) hX rfl d_T_keepIfNew_8 ?_
  refine zr_iushr hX d_T_keepIfNew_10 ?_
  rw [show ((zhS (fun k => vl (c * 16 + k))).toUInt32 >>> (Int32.toUInt32 20 &&& Int32.toUInt32 31)).toInt32 = nI ((z + 0) % 4096) from zk0 hz]
  refine zs_istore_n hX (by decide) rfl d_T_keepIfNew_11 ?_
  refine zr_iconst (v := 0) hX rfl d_T_keepIfNew_12 ?_
  refine zs_istore_n hX (by decide) rfl d_T_keepIfNew_13 ?_
  have L14 : ∀ j, j ≤ t9 → ∀ (_ : Unit), zw g X (zD0 G) 14 [some (.ref tq), some (.int (nI ((z + j) % 4096))), some (.int (nI j))] [] G 0 0 := by
    refine zup t9 (fun j hj_s ih_s => ?_)
    intro _  
    by_cases hlt_s : j < t9
    · skip
      obtain ⟨i9, i1, i2, i3⟩ := hocc j hlt_s
      refine zr_iload_n hX rfl d_T_keepIfNew_14 ?_
      refine zr_sipush (v := 4096) hX rfl d_T_keepIfNew_15 ?_
      refine zr_icmp_ge hX (tgt := 85) d_T_keepIfNew_18 (by decide) (fun h9 => absurd h9 (nI_ge (a := j) (b := 4096) (by omega) (by decide))) (fun _ => ?_)
      refine zr_aload_n hX rfl d_T_keepIfNew_21 ?_
      refine zr_get hX k_T 1 (by decide) q306 rfl ht rfl d_T_keepIfNew_22 ?_
      refine zr_iload_n hX rfl d_T_keepIfNew_25 ?_
      refine zr_ialdV hX hs9 ((z + j) % 4096) rfl (by omega) (by decide) (v := (nI (i9 + 1))) i2 d_T_keepIfNew_26 ?_
      refine zr_if_ne hX (tgt := 51) d_T_keepIfNew_27 (by decide) (fun _ => ?_) (fun h9 => absurd h9 (nI_ne0 (n := (i9 + 1)) (by omega) (by omega)))
      refine zr_aload_n hX rfl d_T_keepIfNew_51 ?_
      refine zr_aload_n hX rfl d_T_keepIfNew_52 ?_
      refine zr_get hX k_T 1 (by decide) q306 rfl ht rfl d_T_keepIfNew_53 ?_
      refine zr_iload_n hX rfl d_T_keepIfNew_56 ?_
      refine zr_ialdV hX hs9 ((z + j) % 4096) rfl (by omega) (by decide) (v := (nI (i9 + 1))) i2 d_T_keepIfNew_57 ?_
      refine zr_iconst (v := 1) hX rfl d_T_keepIfNew_58 ?_
      refine zn_isub (a := (i9 + 1)) (b := 1) hX (by omega) d_T_keepIfNew_59 ?_
      rw [show nI ((i9 + 1) - 1) = nI i9 from congrArg nI (by omega)]
      refine zr_aload_n hX rfl d_T_keepIfNew_60 ?_
      refine zr_get hX k_T 2 (by decide) q307 rfl ht rfl d_T_keepIfNew_61 ?_
      refine zr_pV hX (c_T_isSame_n g (d - 1) _ tq tv ts c i9 c ht vl hv (by omega) (by omega) i3) l_T_48 im_T_isSame se_T_isSame f_T_isSame k_T.1 ht rfl (Nat.le_of_ble_eq_true rfl) (by omega) (Nat.zero_le _) (Nat.zero_le _) d_T_keepIfNew_64 ?_
      refine zr_if_eq hX (tgt := 71) d_T_keepIfNew_67 (by decide) (fun _ => ?_) (fun h => absurd h (by decide))
      refine zr_iload_n hX rfl d_T_keepIfNew_71 ?_
      refine zr_iconst (v := 1) hX rfl d_T_keepIfNew_72 ?_
      refine zn_iadd (a := ((z + j) % 4096)) (b := 1) hX d_T_keepIfNew_73 ?_
      refine zr_sipush (v := 4096) hX rfl d_T_keepIfNew_74 ?_
      refine zn_irem (a := (((z + j) % 4096) + 1)) (b := 4096) hX (by omega) (by decide) (by decide) d_T_keepIfNew_77 ?_
      refine zs_istore_n hX (by decide) rfl d_T_keepIfNew_78 ?_
      refine zs_iinc (v := nI (j + 1)) hX rfl (nI_add _ 1) (by decide) rfl d_T_keepIfNew_79 ?_
      refine zr_goto hX (tgt := 14) (by decide) d_T_keepIfNew_82 ?_
      rw [show ((z + j) % 4096 + 1) % 4096 = (z + (j + 1)) % 4096 from by omega]
      exact ih_s hlt_s () 
    · skip
      have ej_s : t9 = j := by omega
      subst ej_s
      refine zr_iload_n hX rfl d_T_keepIfNew_14 ?_
      refine zr_sipush (v := 4096) hX rfl d_T_keepIfNew_15 ?_
      refine zr_icmp_ge hX (tgt := 85) d_T_keepIfNew_18 (by decide) (fun h9 => absurd h9 (nI_ge (a := t9) (b := 4096) (by omega) (by decide))) (fun _ => ?_)
      refine zr_aload_n hX rfl d_T_keepIfNew_21 ?_
      refine zr_get hX k_T 1 (by decide) q306 rfl ht rfl d_T_keepIfNew_22 ?_
      refine zr_iload_n hX rfl d_T_keepIfNew_25 ?_
      refine zr_ialdV hX hs9 ((z + t9) % 4096) rfl (by omega) (by decide) (v := (nI (i9 + 1))) i2 d_T_keepIfNew_26 ?_
      refine zr_if_ne hX (tgt := 51) d_T_keepIfNew_27 (by decide) (fun _ => ?_) (fun h9 => absurd h9 (nI_ne0 (n := (i9 + 1)) (by omega) (by omega)))
      refine zr_aload_n hX rfl d_T_keepIfNew_51 ?_
      refine zr_aload_n hX rfl d_T_keepIfNew_52 ?_
      refine zr_get hX k_T 1 (by decide) q306 rfl ht rfl d_T_keepIfNew_53 ?_
      refine zr_iload_n hX rfl d_T_keepIfNew_56 ?_
      refine zr_ialdV hX hs9 ((z + t9) % 4096) rfl (by omega) (by decide) (v := (nI (i9 + 1))) i2 d_T_keepIfNew_57 ?_
      refine zr_iconst (v := 1) hX rfl d_T_keepIfNew_58 ?_
      refine zn_isub (a := (i9 + 1)) (b := 1) hX (by omega) d_T_keepIfNew_59 ?_
      rw [show nI ((i9 + 1) - 1) = nI i9 from congrArg nI (by omega)]
      refine zr_aload_n hX rfl d_T_keepIfNew_60 ?_
      refine zr_get hX k_T 2 (by decide) q307 rfl ht rfl d_T_keepIfNew_61 ?_
      refine zr_pV hX (c_T_isSame_y g (d - 1) _ tq tv ts c i9 c ht vl hv (by omega) (by omega) i3) l_T_48 im_T_isSame se_T_isSame f_T_isSame k_T.1 ht rfl (Nat.le_of_ble_eq_true rfl) (by omega) (Nat.zero_le _) (Nat.zero_le _) d_T_keepIfNew_64 ?_
      refine zr_if_eq hX (tgt := 71) d_T_keepIfNew_67 (by decide) (fun h => absurd h (by decide)) (fun _ => ?_)
      exact zr_vret hX d_T_keepIfNew_70 ⟨rfl, rfl⟩
  exact L14 0 (Nat.zero_le _) () 
