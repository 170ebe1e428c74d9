theorem zopt (o : Option Nat) : o = none ∨ o = some (o.getD 0) := by
  cases o with
  | none => exact Or.inl rfl
  | some q => exact Or.inr rfl
theorem zsn {o : Option Nat} {q : Nat} (h : o = some q) : ¬ o = none := fun e => by
  rw [e] at h
  cases h
theorem zsw_ge {x : Int32} {n : Nat} (hn : n < 2 ^ 30) (h : ∀ j : Nat, j ≤ n → ¬ x = nI j) : x < 0 ∨ nI n < x := by
  rcases pk_ix x (n := n + 1) (by omega) with h1 | h1 | ⟨j, hj, e⟩
  · exact Or.inl h1
  · refine Or.inr ?_
    rw [Int32.le_iff_toInt_le, nI_toInt (by omega)] at h1
    rw [Int32.lt_iff_toInt_lt, nI_toInt (by omega)]
    omega
  · exact absurd e (h j (by omega))
theorem zsw3 {x : Int32} (h0 : ¬ x = 0) (h1 : ¬ x = 1) (h2 : ¬ x = 2) (h3 : ¬ x = 3) : x < 0 ∨ 3 < x := zsw_ge (n := 3) (by decide) (fun j hj => by
  match j, hj with
  | 0, _ => exact h0
  | 1, _ => exact h1
  | 2, _ => exact h2
  | 3, _ => exact h3
  | j + 4, h => omega)
theorem zsw6 {x : Int32} (h0 : ¬ x = 0) (h1 : ¬ x = 1) (h2 : ¬ x = 2) (h3 : ¬ x = 3) (h4 : ¬ x = 4) (h5 : ¬ x = 5) (h6 : ¬ x = 6) : x < 0 ∨ 6 < x := zsw_ge (n := 6) (by decide) (fun j hj => by
  match j, hj with
  | 0, _ => exact h0
  | 1, _ => exact h1
  | 2, _ => exact h2
  | 3, _ => exact h3
  | 4, _ => exact h4
  | 5, _ => exact h5
  | 6, _ => exact h6
  | j + 7, h => omega)
theorem zsw2 {x : Int32} (h0 : ¬ x = 0) (h1 : ¬ x = 1) (h2 : ¬ x = 2) : x < 0 ∨ 2 < x := zsw_ge (n := 2) (by decide) (fun j hj => by
  match j, hj with
  | 0, _ => exact h0
  | 1, _ => exact h1
  | 2, _ => exact h2
  | j + 3, h => omega)
theorem z_isLayer {p : Int32} (h : ¬ s_S_isLayer p = 0) : ¬ p < 0 ∧ ¬ 4 ≤ p := by
  unfold s_S_isLayer at h
  by_cases h1 : p < 0
  · rw [if_pos h1] at h; exact absurd rfl h
  · rw [if_neg h1] at h
    by_cases h2 : 4 ≤ p
    · rw [if_pos h2] at h; exact absurd rfl h
    · exact ⟨h1, h2⟩
def P_S_kind (v : zV) (p q : Int32) (G : zG) (r : zRes) (G1 : zG) : Prop := if (s_S_isLayer p) = 0 then zD1 (.int 0) G r G1 else if q < 0 then zD1 (.int 0) G r G1 else if q < 4 then zD1 (.int 1) (zput G (v.a 0) (zI 4 (upd (v.ar 0) p.toNatClampNeg q))) r G1 else zD1 (.int 0) G r G1
theorem c_S_kind (g : zGt) (d : Nat) (hd : 1 ≤ d) (G : zG) (v : zV) (x : Nat) (h : zSv v x G) (p q : Int32) : zMet g y_S_kind b_S_kind 3 (some .boolean) [] d 0 0 [.ref x, .int p, .int q] G (P_S_kind v p q G) := by
  refine zMet.of (by decide) (Nat.le_of_ble_eq_true rfl) rfl (fun X hX => ?_)
  refine zr_iload_n hX rfl d_S_kind_0 ?_
  refine zr_pS hX (c_S_isLayer g (d - 1) G p) l_S_73 st_S_isLayer f_S_isLayer rfl (Nat.le_of_ble_eq_true rfl) (by omega) (Nat.zero_le _) (Nat.zero_le _) d_S_kind_1 ?_
  refine zr_if_eq hX (tgt := 16) d_S_kind_4 (by decide) (fun h4 => ?_) (fun h4 => ?_)
  · skip
    refine zr_iconst (v := 0) hX rfl d_S_kind_16 ?_
    exact zr_zret hX rfl d_S_kind_17 (by unfold P_S_kind; rw [if_pos h4]; exact ⟨rfl, rfl⟩)
  · skip
    refine zr_iload_n hX rfl d_S_kind_7 ?_
    refine zr_if_lt hX (tgt := 16) d_S_kind_8 (by decide) (fun h8 => ?_) (fun h8 => ?_)
    · skip
      refine zr_iconst (v := 0) hX rfl d_S_kind_16 ?_
      exact zr_zret hX rfl d_S_kind_17 (by unfold P_S_kind; rw [if_neg h4]; rw [if_pos h8]; exact ⟨rfl, rfl⟩)
    · skip
      refine zr_iload_n hX rfl d_S_kind_11 ?_
      refine zr_iconst (v := 4) hX rfl d_S_kind_12 ?_
      refine zr_icmp_lt hX (tgt := 18) d_S_kind_13 (by decide) (fun h13 => ?_) (fun h13 => ?_)
      · skip
        refine zr_aload_n hX rfl d_S_kind_18 ?_
        refine zr_get hX k_S 0 (by decide) q103 rfl h.x rfl d_S_kind_19 ?_
        refine zr_iload_n hX rfl d_S_kind_22 ?_
        refine zr_iload_n hX rfl d_S_kind_23 ?_
        refine zr_iast hX h.a0 (zix (z_isLayer h4).1 (z_isLayer h4).2 rfl) d_S_kind_24 ?_
        refine zr_iconst (v := 1) hX rfl d_S_kind_25 ?_
        exact zr_zret hX rfl d_S_kind_26 (by unfold P_S_kind; rw [if_neg h4]; rw [if_neg h8]; rw [if_pos h13]; exact ⟨rfl, rfl⟩)
      · skip
        refine zr_iconst (v := 0) hX rfl d_S_kind_16 ?_
        exact zr_zret hX rfl d_S_kind_17 (by unfold P_S_kind; rw [if_neg h4]; rw [if_neg h8]; rw [if_neg h13]; exact ⟨rfl, rfl⟩)
def P_S_region (v : zV) (x : Nat) (p q r9 t : Int32) (G : zG) (r : zRes) (G1 : zG) : Prop := if r9 < 1 then zD1 (.int 0) G r G1 else if t < 1 then zD1 (.int 0) G r G1 else if (s_S_fits p r9) = 0 then zD1 (.int 0) G r G1 else if (s_S_fits q t) = 0 then zD1 (.int 0) G r G1 else zD1 (.int 1) (zput (zput (zput (zput G x (zO 0 ((zS v.a v.i v.bt).set 4 (.int p)))) x (zO 0 (((zS v.a v.i v.bt).set 4 (.int p)).set 5 (.int q)))) x (zO 0 ((((zS v.a v.i v.bt).set 4 (.int p)).set 5 (.int q)).set 6 (.int r9)))) x (zO 0 (((((zS v.a v.i v.bt).set 4 (.int p)).set 5 (.int q)).set 6 (.int r9)).set 7 (.int t)))) r G1
theorem c_S_region (g : zGt) (d : Nat) (hd : 1 ≤ d) (G : zG) (v : zV) (x : Nat) (h : zSv v x G) (p q r t : Int32) : zMet g y_S_region b_S_region 5 (some .boolean) [] d 0 0 [.ref x, .int p, .int q, .int r, .int t] G (P_S_region v x p q r t G) := by
  refine zMet.of (by decide) (Nat.le_of_ble_eq_true rfl) rfl (fun X hX => ?_)
  refine zr_iload_n hX rfl d_S_region_0 ?_
  refine zr_iconst (v := 1) hX rfl d_S_region_1 ?_
  refine zr_icmp_lt hX (tgt := 28) d_S_region_2 (by decide) (fun h2 => ?_) (fun h2 => ?_)
  · skip
    refine zr_iconst (v := 0) hX rfl d_S_region_28 ?_
    exact zr_zret hX rfl d_S_region_29 (by unfold P_S_region; rw [if_pos h2]; exact ⟨rfl, rfl⟩)
  · skip
    refine zr_iload hX rfl d_S_region_5 ?_
    refine zr_iconst (v := 1) hX rfl d_S_region_7 ?_
    refine zr_icmp_lt hX (tgt := 28) d_S_region_8 (by decide) (fun h8 => ?_) (fun h8 => ?_)
    · skip
      refine zr_iconst (v := 0) hX rfl d_S_region_28 ?_
      exact zr_zret hX rfl d_S_region_29 (by unfold P_S_region; rw [if_neg h2]; rw [if_pos h8]; exact ⟨rfl, rfl⟩)
    · skip
      refine zr_iload_n hX rfl d_S_region_11 ?_
      refine zr_iload_n hX rfl d_S_region_12 ?_
      refine zr_pS hX (c_S_fits g (d - 1) G p r) l_S_99 st_S_fits f_S_fits rfl (Nat.le_of_ble_eq_true rfl) (by omega) (Nat.zero_le _) (Nat.zero_le _) d_S_region_13 ?_
      refine zr_if_eq hX (tgt := 28) d_S_region_16 (by decide) (fun h16 => ?_) (fun h16 => ?_)
      · skip
        refine zr_iconst (v := 0) hX rfl d_S_region_28 ?_
        exact zr_zret hX rfl d_S_region_29 (by unfold P_S_region; rw [if_neg h2]; rw [if_neg h8]; rw [if_pos h16]; exact ⟨rfl, rfl⟩)
      · skip
        refine zr_iload_n hX rfl d_S_region_19 ?_
        refine zr_iload hX rfl d_S_region_20 ?_
        refine zr_pS hX (c_S_fits g (d - 1) G q t) l_S_99 st_S_fits f_S_fits rfl (Nat.le_of_ble_eq_true rfl) (by omega) (Nat.zero_le _) (Nat.zero_le _) d_S_region_22 ?_
        refine zr_if_ne hX (tgt := 30) d_S_region_25 (by decide) (fun h25 => ?_) (fun h25 => ?_)
        · skip
          refine zr_aload_n hX rfl d_S_region_30 ?_
          refine zr_iload_n hX rfl d_S_region_31 ?_
          refine zr_put hX k_S 4 (by decide) q107 rfl rfl rfl rfl (Nat.le_of_ble_eq_true rfl) h.x d_S_region_32 ?_
          refine zr_aload_n hX rfl d_S_region_35 ?_
          refine zr_iload_n hX rfl d_S_region_36 ?_
          refine zr_put hX k_S 5 (by decide) q108 rfl rfl rfl rfl (Nat.le_of_ble_eq_true rfl) (zput_s _ _ _) d_S_region_37 ?_
          refine zr_aload_n hX rfl d_S_region_40 ?_
          refine zr_iload_n hX rfl d_S_region_41 ?_
          refine zr_put hX k_S 6 (by decide) q109 rfl rfl rfl rfl (Nat.le_of_ble_eq_true rfl) (zput_s _ _ _) d_S_region_42 ?_
          refine zr_aload_n hX rfl d_S_region_45 ?_
          refine zr_iload hX rfl d_S_region_46 ?_
          refine zr_put hX k_S 7 (by decide) q110 rfl rfl rfl rfl (Nat.le_of_ble_eq_true rfl) (zput_s _ _ _) d_S_region_48 ?_
          refine zr_iconst (v := 1) hX rfl d_S_region_51 ?_
          exact zr_zret hX rfl d_S_region_52 (by unfold P_S_region; rw [if_neg h2]; rw [if_neg h8]; rw [if_neg h16]; rw [if_neg h25]; exact ⟨rfl, rfl⟩)
        · skip
          refine zr_iconst (v := 0) hX rfl d_S_region_28 ?_
          exact zr_zret hX rfl d_S_region_29 (by unfold P_S_region; rw [if_neg h2]; rw [if_neg h8]; rw [if_neg h16]; rw [if_pos h25]; exact ⟨rfl, rfl⟩)
def P_S_corner (v : zV) (p q r9 : Int32) (G : zG) (r : zRes) (G1 : zG) : Prop := if p < 0 then zD1 (.int 0) G r G1 else if 6 ≤ p then zD1 (.int 0) G r G1 else if (s_S_isPoint q) = 0 then zD1 (.int 0) G r G1 else if (s_S_isPoint r9) = 0 then zD1 (.int 0) G r G1 else zD1 (.int 1) (zput (zput G (v.a 8) (zI 6 (upd (v.ar 8) p.toNatClampNeg q))) (v.a 9) (zI 6 (upd (v.ar 9) p.toNatClampNeg r9))) r G1
theorem c_S_corner (g : zGt) (d : Nat) (hd : 1 ≤ d) (G : zG) (v : zV) (x : Nat) (h : zSv v x G) (n89 : v.a 8 ≠ v.a 9) (p q r : Int32) : zMet g y_S_corner b_S_corner 4 (some .boolean) [] d 0 0 [.ref x, .int p, .int q, .int r] G (P_S_corner v p q r G) := by
  refine zMet.of (by decide) (Nat.le_of_ble_eq_true rfl) rfl (fun X hX => ?_)
  refine zr_iload_n hX rfl d_S_corner_0 ?_
  refine zr_if_lt hX (tgt := 24) d_S_corner_1 (by decide) (fun h1 => ?_) (fun h1 => ?_)
  · skip
    refine zr_iconst (v := 0) hX rfl d_S_corner_24 ?_
    exact zr_zret hX rfl d_S_corner_25 (by unfold P_S_corner; rw [if_pos h1]; exact ⟨rfl, rfl⟩)
  · skip
    refine zr_iload_n hX rfl d_S_corner_4 ?_
    refine zr_bipush (v := 6) hX rfl d_S_corner_5 ?_
    refine zr_icmp_ge hX (tgt := 24) d_S_corner_7 (by decide) (fun h7 => ?_) (fun h7 => ?_)
    · skip
      refine zr_iconst (v := 0) hX rfl d_S_corner_24 ?_
      exact zr_zret hX rfl d_S_corner_25 (by unfold P_S_corner; rw [if_neg h1]; rw [if_pos h7]; exact ⟨rfl, rfl⟩)
    · skip
      refine zr_iload_n hX rfl d_S_corner_10 ?_
      refine zr_pS hX (c_S_isPoint g (d - 1) G q) l_S_125 st_S_isPoint f_S_isPoint rfl (Nat.le_of_ble_eq_true rfl) (by omega) (Nat.zero_le _) (Nat.zero_le _) d_S_corner_11 ?_
      refine zr_if_eq hX (tgt := 24) d_S_corner_14 (by decide) (fun h14 => ?_) (fun h14 => ?_)
      · skip
        refine zr_iconst (v := 0) hX rfl d_S_corner_24 ?_
        exact zr_zret hX rfl d_S_corner_25 (by unfold P_S_corner; rw [if_neg h1]; rw [if_neg h7]; rw [if_pos h14]; exact ⟨rfl, rfl⟩)
      · skip
        refine zr_iload_n hX rfl d_S_corner_17 ?_
        refine zr_pS hX (c_S_isPoint g (d - 1) G r) l_S_125 st_S_isPoint f_S_isPoint rfl (Nat.le_of_ble_eq_true rfl) (by omega) (Nat.zero_le _) (Nat.zero_le _) d_S_corner_18 ?_
        refine zr_if_ne hX (tgt := 26) d_S_corner_21 (by decide) (fun h21 => ?_) (fun h21 => ?_)
        · skip
          refine zr_aload_n hX rfl d_S_corner_26 ?_
          refine zr_get hX k_S 8 (by decide) q111 rfl h.x rfl d_S_corner_27 ?_
          refine zr_iload_n hX rfl d_S_corner_30 ?_
          refine zr_iload_n hX rfl d_S_corner_31 ?_
          refine zr_iast hX h.a8 (zix h1 h7 rfl) d_S_corner_32 ?_
          refine zr_aload_n hX rfl d_S_corner_33 ?_
          refine zr_get hX k_S 9 (by decide) q112 rfl (zput_k (zne h.x h.a8 rfl) h.x) rfl d_S_corner_34 ?_
          refine zr_iload_n hX rfl d_S_corner_37 ?_
          refine zr_iload_n hX rfl d_S_corner_38 ?_
          refine zr_iast hX (zput_k (Ne.symm n89) h.a9) (zix h1 h7 rfl) d_S_corner_39 ?_
          refine zr_iconst (v := 1) hX rfl d_S_corner_40 ?_
          exact zr_zret hX rfl d_S_corner_41 (by unfold P_S_corner; rw [if_neg h1]; rw [if_neg h7]; rw [if_neg h14]; rw [if_neg h21]; exact ⟨rfl, rfl⟩)
        · skip
          refine zr_iconst (v := 0) hX rfl d_S_corner_24 ?_
          exact zr_zret hX rfl d_S_corner_25 (by unfold P_S_corner; rw [if_neg h1]; rw [if_neg h7]; rw [if_neg h14]; rw [if_pos h21]; exact ⟨rfl, rfl⟩)
def P_S_entry (v : zV) (p q r9 : Int32) (G : zG) (r : zRes) (G1 : zG) : Prop := if p < 0 then zD1 (.int 0) G r G1 else if 8 ≤ p then zD1 (.int 0) G r G1 else if (s_S_isValue q) = 0 then zD1 (.int 0) G r G1 else if (s_S_isValue r9) = 0 then zD1 (.int 0) G r G1 else zD1 (.int 1) (zput (zput G (v.a 10) (zI 8 (upd (v.ar 10) p.toNatClampNeg q))) (v.a 11) (zI 8 (upd (v.ar 11) p.toNatClampNeg r9))) r G1
theorem c_S_entry (g : zGt) (d : Nat) (hd : 1 ≤ d) (G : zG) (v : zV) (x : Nat) (h : zSv v x G) (n1011 : v.a 10 ≠ v.a 11) (p q r : Int32) : zMet g y_S_entry b_S_entry 4 (some .boolean) [] d 0 0 [.ref x, .int p, .int q, .int r] G (P_S_entry v p q r G) := by
  refine zMet.of (by decide) (Nat.le_of_ble_eq_true rfl) rfl (fun X hX => ?_)
  refine zr_iload_n hX rfl d_S_entry_0 ?_
  refine zr_if_lt hX (tgt := 24) d_S_entry_1 (by decide) (fun h1 => ?_) (fun h1 => ?_)
  · skip
    refine zr_iconst (v := 0) hX rfl d_S_entry_24 ?_
    exact zr_zret hX rfl d_S_entry_25 (by unfold P_S_entry; rw [if_pos h1]; exact ⟨rfl, rfl⟩)
  · skip
    refine zr_iload_n hX rfl d_S_entry_4 ?_
    refine zr_bipush (v := 8) hX rfl d_S_entry_5 ?_
    refine zr_icmp_ge hX (tgt := 24) d_S_entry_7 (by decide) (fun h7 => ?_) (fun h7 => ?_)
    · skip
      refine zr_iconst (v := 0) hX rfl d_S_entry_24 ?_
      exact zr_zret hX rfl d_S_entry_25 (by unfold P_S_entry; rw [if_neg h1]; rw [if_pos h7]; exact ⟨rfl, rfl⟩)
    · skip
      refine zr_iload_n hX rfl d_S_entry_10 ?_
      refine zr_pS hX (c_S_isValue g (d - 1) G q) l_S_139 st_S_isValue f_S_isValue rfl (Nat.le_of_ble_eq_true rfl) (by omega) (Nat.zero_le _) (Nat.zero_le _) d_S_entry_11 ?_
      refine zr_if_eq hX (tgt := 24) d_S_entry_14 (by decide) (fun h14 => ?_) (fun h14 => ?_)
      · skip
        refine zr_iconst (v := 0) hX rfl d_S_entry_24 ?_
        exact zr_zret hX rfl d_S_entry_25 (by unfold P_S_entry; rw [if_neg h1]; rw [if_neg h7]; rw [if_pos h14]; exact ⟨rfl, rfl⟩)
      · skip
        refine zr_iload_n hX rfl d_S_entry_17 ?_
        refine zr_pS hX (c_S_isValue g (d - 1) G r) l_S_139 st_S_isValue f_S_isValue rfl (Nat.le_of_ble_eq_true rfl) (by omega) (Nat.zero_le _) (Nat.zero_le _) d_S_entry_18 ?_
        refine zr_if_ne hX (tgt := 26) d_S_entry_21 (by decide) (fun h21 => ?_) (fun h21 => ?_)
        · skip
          refine zr_aload_n hX rfl d_S_entry_26 ?_
          refine zr_get hX k_S 10 (by decide) q113 rfl h.x rfl d_S_entry_27 ?_
          refine zr_iload_n hX rfl d_S_entry_30 ?_
          refine zr_iload_n hX rfl d_S_entry_31 ?_
          refine zr_iast hX h.a10 (zix h1 h7 rfl) d_S_entry_32 ?_
          refine zr_aload_n hX rfl d_S_entry_33 ?_
          refine zr_get hX k_S 11 (by decide) q114 rfl (zput_k (zne h.x h.a10 rfl) h.x) rfl d_S_entry_34 ?_
          refine zr_iload_n hX rfl d_S_entry_37 ?_
          refine zr_iload_n hX rfl d_S_entry_38 ?_
          refine zr_iast hX (zput_k (Ne.symm n1011) h.a11) (zix h1 h7 rfl) d_S_entry_39 ?_
          refine zr_iconst (v := 1) hX rfl d_S_entry_40 ?_
          exact zr_zret hX rfl d_S_entry_41 (by unfold P_S_entry; rw [if_neg h1]; rw [if_neg h7]; rw [if_neg h14]; rw [if_neg h21]; exact ⟨rfl, rfl⟩)
        · skip
          refine zr_iconst (v := 0) hX rfl d_S_entry_24 ?_
          exact zr_zret hX rfl d_S_entry_25 (by unfold P_S_entry; rw [if_neg h1]; rw [if_neg h7]; rw [if_neg h14]; rw [if_pos h21]; exact ⟨rfl, rfl⟩)
