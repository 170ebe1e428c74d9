/-! the reference's cells -/
abbrev zU : Type := (Nat → Nat) × (Nat → Int32) × (Nat → Nat → Int32)
abbrev zU.a (u : zU) : Nat → Nat := u.1
abbrev zU.i (u : zU) : Nat → Int32 := u.2.1
abbrev zU.ar (u : zU) : Nat → Nat → Int32 := u.2.2
def zMl (a : Nat → Nat) (i : Nat → Int32) : List Value := [.int (i 0), .ref (a 1), .ref (a 2), .ref (a 3), .ref (a 4), .ref (a 5), .int (i 6), .ref (a 7), .ref (a 8), .ref (a 9), .ref (a 10), .ref (a 11), .ref (a 12), .ref (a 13), .ref (a 14), .ref (a 15), .int (i 16), .int (i 17), .int (i 18), .int (i 19), .ref (a 20), .ref (a 21), .ref (a 22), .ref (a 23), .ref (a 24), .ref (a 25), .ref (a 26), .ref (a 27)]
def zMc (j : Nat) (f : Nat → Int32) : zC := match j with
  | 1 => zI 114688 f
  | 2 => zI 114688 f
  | 3 => zI 4 f
  | 4 => zI 24 f
  | 5 => zI 24 f
  | 7 => zB 4 f
  | 8 => zI 4 f
  | 9 => zI 4 f
  | 10 => zI 16384 f
  | 11 => zI 16384 f
  | 12 => zI 16384 f
  | 13 => zI 16384 f
  | 14 => zI 4 f
  | 15 => zB 16384 f
  | 20 => zI 6 f
  | 21 => zI 6 f
  | 22 => zI 8 f
  | 23 => zI 8 f
  | 24 => zI 26 f
  | 25 => zI 26 f
  | 26 => zI 106496 f
  | _ => zI 4096 f
/-- the fields that are arrays -/
def zMa (j : Nat) : Bool := (1 ≤ j && j ≤ 5) || (7 ≤ j && j ≤ 15) || (20 ≤ j && j ≤ 27)
def zMv (u : zU) (m : Nat) (G : zG) : Prop := G m = some (zO 6 (zMl u.a u.i)) ∧ (∀ j, zMa j = true → G (u.a j) = some (zMc j (u.ar j))) ∧ ∀ j k, zMa j = true → zMa k = true → u.a j = u.a k → j = k
theorem zMv.m {u : zU} {m : Nat} {G : zG} (h : zMv u m G) : G m = some (zO 6 (zMl u.a u.i)) := h.1
theorem zMv.ar {u : zU} {m : Nat} {G : zG} (h : zMv u m G) (j : Nat) (hj : zMa j = true) : G (u.a j) = some (zMc j (u.ar j)) := h.2.1 j hj
theorem zMv.ne {u : zU} {m : Nat} {G : zG} (h : zMv u m G) (j k : Nat) (hj : zMa j = true) (hk : zMa k = true) (hn : j ≠ k) : u.a j ≠ u.a k := fun e => hn (h.2.2 j k hj hk e)
theorem zMc_kind (j : Nat) (f : Nat → Int32) : zck (zMc j f) ≤ 1 := by
  unfold zMc
  split <;> exact Nat.le_of_ble_eq_true rfl
theorem zMv.nm {u : zU} {m : Nat} {G : zG} (h : zMv u m G) (j : Nat) (hj : zMa j = true) : u.a j ≠ m := fun e => by
  have h1 := h.ar j hj
  rw [e, h.m] at h1
  have h2 := congrArg zck (Option.some.inj h1)
  have h3 := zMc_kind j (u.ar j)
  rw [← h2] at h3
  exact absurd (show (14 : Nat) ≤ 1 from h3) (by decide)
/-- a number field is written -/
def zuc (u : zU) (j : Nat) (x : Int32) : zU := (u.1, upd u.2.1 j x, u.2.2)
/-- an array is written -/
def zua (u : zU) (j : Nat) (f : Nat → Int32) : zU := (u.1, u.2.1, va_up u.2.2 j f)
theorem zMv.put {u : zU} {m : Nat} {G : zG} (h : zMv u m G) (i : Nat → Int32) : zMv (u.1, i, u.2.2) m (zput G m (zO 6 (zMl u.a i))) :=
  ⟨zput_s _ _ _, fun j hj => zput_k (h.nm j hj) (h.ar j hj), h.2.2⟩
theorem zMv.code {u : zU} {m : Nat} {G : zG} (h : zMv u m G) (x : Int32) : zMv (zuc u 0 x) m (zput G m (zO 6 ((zMl u.a u.i).set 0 (.int x)))) := h.put (upd u.2.1 0 x)
theorem zMv.arr {u : zU} {m : Nat} {G : zG} (h : zMv u m G) (j : Nat) (hj : zMa j = true) (f : Nat → Int32) : zMv (zua u j f) m (zput G (u.a j) (zMc j f)) := by
  refine ⟨zput_k (Ne.symm (h.nm j hj)) h.m, fun k hk => ?_, h.2.2⟩
  by_cases e : k = j
  · subst e
    show zput G (u.a k) (zMc k f) (u.a k) = some (zMc k (va_up u.2.2 k f k))
    rw [zput_s, va_up_self]
  · show zput G (u.a j) (zMc j f) (u.a k) = some (zMc k (va_up u.2.2 j f k))
    rw [va_up_ne _ _ e]
    exact zput_k (h.ne k j hk hj e) (h.ar k hk)

def s_M_thrown (u : zU) : Int32 := u.i 0
theorem c_M_thrown (g : zGt) (d : Nat) (G : zG) (u : zU) (m : Nat) (h : zMv u m G)  : zMet g y_M_thrown b_M_thrown 1 (some .int) [] d 0 0 [.ref m] G (zD1 (.int (s_M_thrown u)) G) := by
  refine zMet.of (by decide) (Nat.le_of_ble_eq_true rfl) rfl (fun X hX => ?_)
  refine zr_aload_n hX rfl d_M_thrown_0 ?_
  refine zr_get hX k_M 0 (by decide) q653 rfl h.m rfl d_M_thrown_1 ?_
  exact zr_iret hX d_M_thrown_4 (zD1.i (by unfold s_M_thrown; rfl))
def s_M_isBranch (u : zU) (p : Int32) : Int32 := if p < 0 then 0 else if 4 ≤ p then 0 else if ((u.ar 7) p.toNatClampNeg) = 0 then 0 else 1
theorem c_M_isBranch (g : zGt) (d : Nat) (G : zG) (u : zU) (m : Nat) (h : zMv u m G) (p : Int32) : zMet g y_M_isBranch b_M_isBranch 2 (some .boolean) [] d 0 0 [.ref m, .int p] G (zD1 (.int (s_M_isBranch u p)) G) := by
  refine zMet.of (by decide) (Nat.le_of_ble_eq_true rfl) rfl (fun X hX => ?_)
  refine zr_iload_n hX rfl d_M_isBranch_0 ?_
  refine zr_if_lt hX (tgt := 22) d_M_isBranch_1 (by decide) (fun h1 => ?_) (fun h1 => ?_)
  · skip
    refine zr_iconst (v := 0) hX rfl d_M_isBranch_22 ?_
    exact zr_zret hX rfl d_M_isBranch_23 (zD1.i (by unfold s_M_isBranch; rw [if_pos h1]))
  · skip
    refine zr_iload_n hX rfl d_M_isBranch_4 ?_
    refine zr_iconst (v := 4) hX rfl d_M_isBranch_5 ?_
    refine zr_icmp_ge hX (tgt := 22) d_M_isBranch_6 (by decide) (fun h6 => ?_) (fun h6 => ?_)
    · skip
      refine zr_iconst (v := 0) hX rfl d_M_isBranch_22 ?_
      exact zr_zret hX rfl d_M_isBranch_23 (zD1.i (by unfold s_M_isBranch; rw [if_neg h1]; rw [if_pos h6]))
    · skip
      refine zr_aload_n hX rfl d_M_isBranch_9 ?_
      refine zr_get hX k_M 7 (by decide) q660 rfl h.m rfl d_M_isBranch_10 ?_
      refine zr_iload_n hX rfl d_M_isBranch_13 ?_
      refine zr_zald hX (h.ar 7 rfl) (zix h1 h6 rfl) d_M_isBranch_14 ?_
      refine zr_if_eq hX (tgt := 22) d_M_isBranch_15 (by decide) (fun h15 => ?_) (fun h15 => ?_)
      · skip
        refine zr_iconst (v := 0) hX rfl d_M_isBranch_22 ?_
        exact zr_zret hX rfl d_M_isBranch_23 (zD1.i (by unfold s_M_isBranch; rw [if_neg h1]; rw [if_neg h6]; rw [if_pos h15]))
      · skip
        refine zr_iconst (v := 1) hX rfl d_M_isBranch_18 ?_
        refine zr_goto hX (tgt := 23) (by decide) d_M_isBranch_19 ?_
        exact zr_zret hX rfl d_M_isBranch_23 (zD1.i (by unfold s_M_isBranch; rw [if_neg h1]; rw [if_neg h6]; rw [if_neg h15]))
def s_M_isCommit (u : zU) (p : Int32) : Int32 := if p < 0 then 0 else if (u.i 6) ≤ p then 0 else 1
theorem c_M_isCommit (g : zGt) (d : Nat) (G : zG) (u : zU) (m : Nat) (h : zMv u m G) (p : Int32) : zMet g y_M_isCommit b_M_isCommit 2 (some .boolean) [] d 0 0 [.ref m, .int p] G (zD1 (.int (s_M_isCommit u p)) G) := by
  refine zMet.of (by decide) (Nat.le_of_ble_eq_true rfl) rfl (fun X hX => ?_)
  refine zr_iload_n hX rfl d_M_isCommit_0 ?_
  refine zr_if_lt hX (tgt := 16) d_M_isCommit_1 (by decide) (fun h1 => ?_) (fun h1 => ?_)
  · skip
    refine zr_iconst (v := 0) hX rfl d_M_isCommit_16 ?_
    exact zr_zret hX rfl d_M_isCommit_17 (zD1.i (by unfold s_M_isCommit; rw [if_pos h1]))
  · skip
    refine zr_iload_n hX rfl d_M_isCommit_4 ?_
    refine zr_aload_n hX rfl d_M_isCommit_5 ?_
    refine zr_get hX k_M 6 (by decide) q659 rfl h.m rfl d_M_isCommit_6 ?_
    refine zr_icmp_ge hX (tgt := 16) d_M_isCommit_9 (by decide) (fun h9 => ?_) (fun h9 => ?_)
    · skip
      refine zr_iconst (v := 0) hX rfl d_M_isCommit_16 ?_
      exact zr_zret hX rfl d_M_isCommit_17 (zD1.i (by unfold s_M_isCommit; rw [if_neg h1]; rw [if_pos h9]))
    · skip
      refine zr_iconst (v := 1) hX rfl d_M_isCommit_12 ?_
      refine zr_goto hX (tgt := 17) (by decide) d_M_isCommit_13 ?_
      exact zr_zret hX rfl d_M_isCommit_17 (zD1.i (by unfold s_M_isCommit; rw [if_neg h1]; rw [if_neg h9]))
theorem z01 {x : Int32} (h : x = 0 ∨ x = 1) : narrow .boolean (.int x) = .int x := by
  rcases h with rfl | rfl <;> rfl
theorem z01_isBranch (u : zU) (p : Int32) : s_M_isBranch u p = 0 ∨ s_M_isBranch u p = 1 := by
  unfold s_M_isBranch
  split
  · exact Or.inl rfl
  · split
    · exact Or.inl rfl
    · split
      · exact Or.inl rfl
      · exact Or.inr rfl
theorem z01_isCommit (u : zU) (p : Int32) : s_M_isCommit u p = 0 ∨ s_M_isCommit u p = 1 := by
  unfold s_M_isCommit
  split
  · exact Or.inl rfl
  · split
    · exact Or.inl rfl
    · exact Or.inr rfl
theorem z_isLayerM {p : Int32} (h : ¬ s_M_isLayer p = 0) : ¬ p < 0 ∧ ¬ 4 ≤ p := by
  unfold s_M_isLayer at h
  by_cases h1 : p < 0
  · rw [if_pos h1] at h; exact absurd rfl h
  · rw [if_neg h1] at h
    by_cases h2 : 4 ≤ p
    · rw [if_pos h2] at h; exact absurd rfl h
    · exact ⟨h1, h2⟩
theorem zixle {x z : Int32} {n : Nat} (h0 : ¬ x < 0) (h1 : ¬ z < x) (hz : z.toInt + 1 = n) : vp_in x n := by
  rw [vp_in_iff]
  rw [Int32.lt_iff_toInt_lt, Int32.toInt_zero] at h0
  rw [Int32.lt_iff_toInt_lt] at h1
  omega
theorem z_isBranchM {u : zU} {p : Int32} (h : ¬ s_M_isBranch u p = 0) : ¬ p < 0 ∧ ¬ 4 ≤ p := by
  unfold s_M_isBranch at h
  by_cases h1 : p < 0
  · rw [if_pos h1] at h; exact absurd rfl h
  · rw [if_neg h1] at h
    by_cases h2 : 4 ≤ p
    · rw [if_pos h2] at h; exact absurd rfl h
    · exact ⟨h1, h2⟩
theorem zixN {x : Int32} {a n : Nat} (h : x = nI a) (ha : a < n) (hn : n < 2 ^ 31) : vp_in x n := by
  rw [h]
  exact vp_in_nI ha hn
def s_M_isPlace (u : zU) (p : Int32) : Int32 := if 24 ≤ p then s_M_isBranch u (p - 24) else s_M_isCommit u p
theorem c_M_isPlace (g : zGt) (d : Nat) (hd : 1 ≤ d) (G : zG) (u : zU) (m : Nat) (h : zMv u m G) (p : Int32) : zMet g y_M_isPlace b_M_isPlace 2 (some .boolean) [] d 0 0 [.ref m, .int p] G (zD1 (.int (s_M_isPlace u p)) G) := by
  refine zMet.of (by decide) (Nat.le_of_ble_eq_true rfl) rfl (fun X hX => ?_)
  refine zr_iload_n hX rfl d_M_isPlace_0 ?_
  refine zr_bipush (v := 24) hX rfl d_M_isPlace_1 ?_
  refine zr_icmp_ge hX (tgt := 14) d_M_isPlace_3 (by decide) (fun h3 => ?_) (fun h3 => ?_)
  · skip
    refine zr_aload_n hX rfl d_M_isPlace_14 ?_
    refine zr_iload_n hX rfl d_M_isPlace_15 ?_
    refine zr_bipush (v := 24) hX rfl d_M_isPlace_16 ?_
    refine zr_isub hX d_M_isPlace_18 ?_
    refine zr_pV hX (c_M_isBranch g (d - 1) G u m h (p - 24)) l_M_97 im_M_isBranch se_M_isBranch f_M_isBranch k_M.1 h.m rfl (Nat.le_of_ble_eq_true rfl) (by omega) (Nat.zero_le _) (Nat.zero_le _) d_M_isPlace_19 ?_
    exact zr_zret hX (by first | exact z01 (z01_isBranch _ _) | exact z01 (z01_isCommit _ _)) d_M_isPlace_22 (zD1.i (by unfold s_M_isPlace; rw [if_pos h3]))
  · skip
    refine zr_aload_n hX rfl d_M_isPlace_6 ?_
    refine zr_iload_n hX rfl d_M_isPlace_7 ?_
    refine zr_pV hX (c_M_isCommit g (d - 1) G u m h p) l_M_93 im_M_isCommit se_M_isCommit f_M_isCommit k_M.1 h.m rfl (Nat.le_of_ble_eq_true rfl) (by omega) (Nat.zero_le _) (Nat.zero_le _) d_M_isPlace_8 ?_
    refine zr_goto hX (tgt := 22) (by decide) d_M_isPlace_11 ?_
    exact zr_zret hX (by first | exact z01 (z01_isBranch _ _) | exact z01 (z01_isCommit _ _)) d_M_isPlace_22 (zD1.i (by unfold s_M_isPlace; rw [if_neg h3]))
def P_M_kind (u : zU) (m : Nat) (p q : Int32) (G : zG) (r : zRes) (G1 : zG) : Prop := if (s_M_isLayer p) = 0 then zD1 (.int 0) (zput G m (zO 6 ((zMl u.a u.i).set 0 (.int 0)))) r G1 else if q < 0 then zD1 (.int 0) (zput G m (zO 6 ((zMl u.a u.i).set 0 (.int 0)))) r G1 else if q ≤ 3 then zD1 (.int 1) (zput (zput G m (zO 6 ((zMl u.a u.i).set 0 (.int 0)))) (u.a 3) (zI 4 (upd (u.ar 3) p.toNatClampNeg q))) r G1 else zD1 (.int 0) (zput G m (zO 6 ((zMl u.a u.i).set 0 (.int 0)))) r G1
theorem c_M_kind (g : zGt) (d : Nat) (hd : 1 ≤ d) (G : zG) (u : zU) (m : Nat) (h : zMv u m G) (p q : Int32) : zMet g y_M_kind b_M_kind 3 (some .boolean) [] d 0 0 [.ref m, .int p, .int q] G (P_M_kind u m p q G) := by
  refine zMet.of (by decide) (Nat.le_of_ble_eq_true rfl) rfl (fun X hX => ?_)
  refine zr_aload_n hX rfl d_M_kind_0 ?_
  refine zr_iconst (v := 0) hX rfl d_M_kind_1 ?_
  refine zr_put hX k_M 0 (by decide) q653 rfl rfl rfl rfl (Nat.le_of_ble_eq_true rfl) h.m d_M_kind_2 ?_
  have h0 := h.code 0
  refine zr_iload_n hX rfl d_M_kind_5 ?_
  refine zr_pS hX (c_M_isLayer g (d - 1) (zput G m (zO 6 ((zMl u.a u.i).set 0 (.int 0)))) p) l_M_102 st_M_isLayer f_M_isLayer rfl (Nat.le_of_ble_eq_true rfl) (by omega) (Nat.zero_le _) (Nat.zero_le _) d_M_kind_6 ?_
  refine zr_if_eq hX (tgt := 21) d_M_kind_9 (by decide) (fun h9 => ?_) (fun h9 => ?_)
  · skip
    refine zr_iconst (v := 0) hX rfl d_M_kind_21 ?_
    exact zr_zret hX rfl d_M_kind_22 (by unfold P_M_kind; rw [if_pos h9]; exact ⟨rfl, rfl⟩)
  · skip
    refine zr_iload_n hX rfl d_M_kind_12 ?_
    refine zr_if_lt hX (tgt := 21) d_M_kind_13 (by decide) (fun h13 => ?_) (fun h13 => ?_)
    · skip
      refine zr_iconst (v := 0) hX rfl d_M_kind_21 ?_
      exact zr_zret hX rfl d_M_kind_22 (by unfold P_M_kind; rw [if_neg h9]; rw [if_pos h13]; exact ⟨rfl, rfl⟩)
    · skip
      refine zr_iload_n hX rfl d_M_kind_16 ?_
      refine zr_iconst (v := 3) hX rfl d_M_kind_17 ?_
      refine zr_icmp_le hX (tgt := 23) d_M_kind_18 (by decide) (fun h18 => ?_) (fun h18 => ?_)
      · skip
        refine zr_aload_n hX rfl d_M_kind_23 ?_
        refine zr_get hX k_M 3 (by decide) q656 rfl h0.m rfl d_M_kind_24 ?_
        refine zr_iload_n hX rfl d_M_kind_27 ?_
        refine zr_iload_n hX rfl d_M_kind_28 ?_
        refine zr_iast hX (h0.ar 3 rfl) (zix (z_isLayerM h9).1 (z_isLayerM h9).2 rfl) d_M_kind_29 ?_
        refine zr_iconst (v := 1) hX rfl d_M_kind_30 ?_
        exact zr_zret hX rfl d_M_kind_31 (by unfold P_M_kind; rw [if_neg h9]; rw [if_neg h13]; rw [if_pos h18]; exact ⟨rfl, rfl⟩)
      · skip
        refine zr_iconst (v := 0) hX rfl d_M_kind_21 ?_
        exact zr_zret hX rfl d_M_kind_22 (by unfold P_M_kind; rw [if_neg h9]; rw [if_neg h13]; rw [if_neg h18]; exact ⟨rfl, rfl⟩)
def P_M_drop (u : zU) (m : Nat) (p : Int32) (G : zG) (r : zRes) (G1 : zG) : Prop := if (s_M_isBranch (zuc u 0 0) p) = 0 then zD1 (.int (s_M_isBranch (zuc u 0 0) p)) (zput G m (zO 6 ((zMl u.a u.i).set 0 (.int 0)))) r G1 else zD1 (.int (s_M_isBranch (zuc u 0 0) p)) (zput (zput G m (zO 6 ((zMl u.a u.i).set 0 (.int 0)))) (u.a 7) (zB 4 (upd (u.ar 7) p.toNatClampNeg (vp_nar .boolean 0)))) r G1
theorem c_M_drop (g : zGt) (d : Nat) (hd : 1 ≤ d) (G : zG) (u : zU) (m : Nat) (h : zMv u m G) (p : Int32) : zMet g y_M_drop b_M_drop 3 (some .boolean) [] d 0 0 [.ref m, .int p] G (P_M_drop u m p G) := by
  refine zMet.of (by decide) (Nat.le_of_ble_eq_true rfl) rfl (fun X hX => ?_)
  refine zr_aload_n hX rfl d_M_drop_0 ?_
  refine zr_iconst (v := 0) hX rfl d_M_drop_1 ?_
  refine zr_put hX k_M 0 (by decide) q653 rfl rfl rfl rfl (Nat.le_of_ble_eq_true rfl) h.m d_M_drop_2 ?_
  have h0 := h.code 0
  refine zr_aload_n hX rfl d_M_drop_5 ?_
  refine zr_iload_n hX rfl d_M_drop_6 ?_
  refine zr_pV hX (c_M_isBranch g (d - 1) (zput G m (zO 6 ((zMl u.a u.i).set 0 (.int 0)))) (zuc u 0 0) m h0 p) l_M_97 im_M_isBranch se_M_isBranch f_M_isBranch k_M.1 h0.m rfl (Nat.le_of_ble_eq_true rfl) (by omega) (Nat.zero_le _) (Nat.zero_le _) d_M_drop_7 ?_
  refine zr_istore_n hX (by decide) d_M_drop_10 ?_
  refine zr_iload_n hX rfl d_M_drop_11 ?_
  refine zr_if_eq hX (tgt := 22) d_M_drop_12 (by decide) (fun h12 => ?_) (fun h12 => ?_)
  · skip
    refine zr_iload_n hX rfl d_M_drop_22 ?_
    exact zr_zret hX (z01 (z01_isBranch _ _)) d_M_drop_23 (by unfold P_M_drop; rw [if_pos h12]; exact ⟨rfl, rfl⟩)
  · skip
    refine zr_aload_n hX rfl d_M_drop_15 ?_
    refine zr_get hX k_M 7 (by decide) q660 rfl h0.m rfl d_M_drop_16 ?_
    refine zr_iload_n hX rfl d_M_drop_19 ?_
    refine zr_iconst (v := 0) hX rfl d_M_drop_20 ?_
    refine zr_zast hX (h0.ar 7 rfl) (zix (z_isBranchM h12).1 (z_isBranchM h12).2 rfl) d_M_drop_21 ?_
    refine zr_iload_n hX rfl d_M_drop_22 ?_
    exact zr_zret hX (z01 (z01_isBranch _ _)) d_M_drop_23 (by unfold P_M_drop; rw [if_neg h12]; exact ⟨rfl, rfl⟩)
def P_M_region (u : zU) (m : Nat) (p q w t : Int32) (G : zG) (r : zRes) (G1 : zG) : Prop := if p < 0 then zD1 (.int 0) (zput G m (zO 6 ((zMl u.a u.i).set 0 (.int 0)))) r G1 else if q < 0 then zD1 (.int 0) (zput G m (zO 6 ((zMl u.a u.i).set 0 (.int 0)))) r G1 else if w < 1 then zD1 (.int 0) (zput G m (zO 6 ((zMl u.a u.i).set 0 (.int 0)))) r G1 else if t < 1 then zD1 (.int 0) (zput G m (zO 6 ((zMl u.a u.i).set 0 (.int 0)))) r G1 else if 32 ≤ p then zD1 (.int 0) (zput G m (zO 6 ((zMl u.a u.i).set 0 (.int 0)))) r G1 else if 32 ≤ q then zD1 (.int 0) (zput G m (zO 6 ((zMl u.a u.i).set 0 (.int 0)))) r G1 else if (32 - p) < w then zD1 (.int 0) (zput G m (zO 6 ((zMl u.a u.i).set 0 (.int 0)))) r G1 else if t ≤ (32 - q) then zD1 (.int 1) (zput (zput (zput (zput (zput G m (zO 6 ((zMl u.a u.i).set 0 (.int 0)))) m (zO 6 (((zMl u.a u.i).set 0 (.int 0)).set 16 (.int p)))) m (zO 6 ((((zMl u.a u.i).set 0 (.int 0)).set 16 (.int p)).set 17 (.int q)))) m (zO 6 (((((zMl u.a u.i).set 0 (.int 0)).set 16 (.int p)).set 17 (.int q)).set 18 (.int w)))) m (zO 6 ((((((zMl u.a u.i).set 0 (.int 0)).set 16 (.int p)).set 17 (.int q)).set 18 (.int w)).set 19 (.int t)))) r G1 else zD1 (.int 0) (zput G m (zO 6 ((zMl u.a u.i).set 0 (.int 0)))) r G1
theorem c_M_region (g : zGt) (d : Nat) (G : zG) (u : zU) (m : Nat) (h : zMv u m G) (p q w t : Int32) : zMet g y_M_region b_M_region 5 (some .boolean) [] d 0 0 [.ref m, .int p, .int q, .int w, .int t] G (P_M_region u m p q w t G) := by
  refine zMet.of (by decide) (Nat.le_of_ble_eq_true rfl) rfl (fun X hX => ?_)
  refine zr_aload_n hX rfl d_M_region_0 ?_
  refine zr_iconst (v := 0) hX rfl d_M_region_1 ?_
  refine zr_put hX k_M 0 (by decide) q653 rfl rfl rfl rfl (Nat.le_of_ble_eq_true rfl) h.m d_M_region_2 ?_
  have h0 := h.code 0
  refine zr_iload_n hX rfl d_M_region_5 ?_
  refine zr_if_lt hX (tgt := 53) d_M_region_6 (by decide) (fun h6 => ?_) (fun h6 => ?_)
  · skip
    refine zr_iconst (v := 0) hX rfl d_M_region_53 ?_
    exact zr_zret hX rfl d_M_region_54 (by unfold P_M_region; rw [if_pos h6]; exact ⟨rfl, rfl⟩)
  · skip
    refine zr_iload_n hX rfl d_M_region_9 ?_
    refine zr_if_lt hX (tgt := 53) d_M_region_10 (by decide) (fun h10 => ?_) (fun h10 => ?_)
    · skip
      refine zr_iconst (v := 0) hX rfl d_M_region_53 ?_
      exact zr_zret hX rfl d_M_region_54 (by unfold P_M_region; rw [if_neg h6]; rw [if_pos h10]; exact ⟨rfl, rfl⟩)
    · skip
      refine zr_iload_n hX rfl d_M_region_13 ?_
      refine zr_iconst (v := 1) hX rfl d_M_region_14 ?_
      refine zr_icmp_lt hX (tgt := 53) d_M_region_15 (by decide) (fun h15 => ?_) (fun h15 => ?_)
      · skip
        refine zr_iconst (v := 0) hX rfl d_M_region_53 ?_
        exact zr_zret hX rfl d_M_region_54 (by unfold P_M_region; rw [if_neg h6]; rw [if_neg h10]; rw [if_pos h15]; exact ⟨rfl, rfl⟩)
      · skip
        refine zr_iload hX rfl d_M_region_18 ?_
        refine zr_iconst (v := 1) hX rfl d_M_region_20 ?_
        refine zr_icmp_lt hX (tgt := 53) d_M_region_21 (by decide) (fun h21 => ?_) (fun h21 => ?_)
        · skip
          refine zr_iconst (v := 0) hX rfl d_M_region_53 ?_
          exact zr_zret hX rfl d_M_region_54 (by unfold P_M_region; rw [if_neg h6]; rw [if_neg h10]; rw [if_neg h15]; rw [if_pos h21]; exact ⟨rfl, rfl⟩)
        · skip
          refine zr_iload_n hX rfl d_M_region_24 ?_
          refine zr_bipush (v := 32) hX rfl d_M_region_25 ?_
          refine zr_icmp_ge hX (tgt := 53) d_M_region_27 (by decide) (fun h27 => ?_) (fun h27 => ?_)
          · skip
            refine zr_iconst (v := 0) hX rfl d_M_region_53 ?_
            exact zr_zret hX rfl d_M_region_54 (by unfold P_M_region; rw [if_neg h6]; rw [if_neg h10]; rw [if_neg h15]; rw [if_neg h21]; rw [if_pos h27]; exact ⟨rfl, rfl⟩)
          · skip
            refine zr_iload_n hX rfl d_M_region_30 ?_
            refine zr_bipush (v := 32) hX rfl d_M_region_31 ?_
            refine zr_icmp_ge hX (tgt := 53) d_M_region_33 (by decide) (fun h33 => ?_) (fun h33 => ?_)
            · skip
              refine zr_iconst (v := 0) hX rfl d_M_region_53 ?_
              exact zr_zret hX rfl d_M_region_54 (by unfold P_M_region; rw [if_neg h6]; rw [if_neg h10]; rw [if_neg h15]; rw [if_neg h21]; rw [if_neg h27]; rw [if_pos h33]; exact ⟨rfl, rfl⟩)
            · skip
              refine zr_iload_n hX rfl d_M_region_36 ?_
              refine zr_bipush (v := 32) hX rfl d_M_region_37 ?_
              refine zr_iload_n hX rfl d_M_region_39 ?_
              refine zr_isub hX d_M_region_40 ?_
              refine zr_icmp_gt hX (tgt := 53) d_M_region_41 (by decide) (fun h41 => ?_) (fun h41 => ?_)
              · skip
                refine zr_iconst (v := 0) hX rfl d_M_region_53 ?_
                exact zr_zret hX rfl d_M_region_54 (by unfold P_M_region; rw [if_neg h6]; rw [if_neg h10]; rw [if_neg h15]; rw [if_neg h21]; rw [if_neg h27]; rw [if_neg h33]; rw [if_pos h41]; exact ⟨rfl, rfl⟩)
              · skip
                refine zr_iload hX rfl d_M_region_44 ?_
                refine zr_bipush (v := 32) hX rfl d_M_region_46 ?_
                refine zr_iload_n hX rfl d_M_region_48 ?_
                refine zr_isub hX d_M_region_49 ?_
                refine zr_icmp_le hX (tgt := 55) d_M_region_50 (by decide) (fun h50 => ?_) (fun h50 => ?_)
                · skip
                  refine zr_aload_n hX rfl d_M_region_55 ?_
                  refine zr_iload_n hX rfl d_M_region_56 ?_
                  refine zr_put hX k_M 16 (by decide) q669 rfl rfl rfl rfl (Nat.le_of_ble_eq_true rfl) h0.m d_M_region_57 ?_
                  refine zr_aload_n hX rfl d_M_region_60 ?_
                  refine zr_iload_n hX rfl d_M_region_61 ?_
                  refine zr_put hX k_M 17 (by decide) q670 rfl rfl rfl rfl (Nat.le_of_ble_eq_true rfl) (zput_s _ _ _) d_M_region_62 ?_
                  refine zr_aload_n hX rfl d_M_region_65 ?_
                  refine zr_iload_n hX rfl d_M_region_66 ?_
                  refine zr_put hX k_M 18 (by decide) q671 rfl rfl rfl rfl (Nat.le_of_ble_eq_true rfl) (zput_s _ _ _) d_M_region_67 ?_
                  refine zr_aload_n hX rfl d_M_region_70 ?_
                  refine zr_iload hX rfl d_M_region_71 ?_
                  refine zr_put hX k_M 19 (by decide) q672 rfl rfl rfl rfl (Nat.le_of_ble_eq_true rfl) (zput_s _ _ _) d_M_region_73 ?_
                  refine zr_iconst (v := 1) hX rfl d_M_region_76 ?_
                  exact zr_zret hX rfl d_M_region_77 (by unfold P_M_region; rw [if_neg h6]; rw [if_neg h10]; rw [if_neg h15]; rw [if_neg h21]; rw [if_neg h27]; rw [if_neg h33]; rw [if_neg h41]; rw [if_pos h50]; exact ⟨rfl, rfl⟩)
                · skip
                  refine zr_iconst (v := 0) hX rfl d_M_region_53 ?_
                  exact zr_zret hX rfl d_M_region_54 (by unfold P_M_region; rw [if_neg h6]; rw [if_neg h10]; rw [if_neg h15]; rw [if_neg h21]; rw [if_neg h27]; rw [if_neg h33]; rw [if_neg h41]; rw [if_neg h50]; exact ⟨rfl, rfl⟩)
def P_M_corner (u : zU) (m : Nat) (p q w : Int32) (G : zG) (r : zRes) (G1 : zG) : Prop := if p < 0 then zD1 (.int 0) (zput G m (zO 6 ((zMl u.a u.i).set 0 (.int 0)))) r G1 else if 5 < p then zD1 (.int 0) (zput G m (zO 6 ((zMl u.a u.i).set 0 (.int 0)))) r G1 else if q < 0 then zD1 (.int 0) (zput G m (zO 6 ((zMl u.a u.i).set 0 (.int 0)))) r G1 else if 32 < q then zD1 (.int 0) (zput G m (zO 6 ((zMl u.a u.i).set 0 (.int 0)))) r G1 else if w < 0 then zD1 (.int 0) (zput G m (zO 6 ((zMl u.a u.i).set 0 (.int 0)))) r G1 else if w ≤ 32 then zD1 (.int 1) (zput (zput (zput G m (zO 6 ((zMl u.a u.i).set 0 (.int 0)))) (u.a 20) (zI 6 (upd (u.ar 20) p.toNatClampNeg q))) (u.a 21) (zI 6 (upd (u.ar 21) p.toNatClampNeg w))) r G1 else zD1 (.int 0) (zput G m (zO 6 ((zMl u.a u.i).set 0 (.int 0)))) r G1
theorem c_M_corner (g : zGt) (d : Nat) (G : zG) (u : zU) (m : Nat) (h : zMv u m G) (p q w : Int32) : zMet g y_M_corner b_M_corner 4 (some .boolean) [] d 0 0 [.ref m, .int p, .int q, .int w] G (P_M_corner u m p q w G) := by
  refine zMet.of (by decide) (Nat.le_of_ble_eq_true rfl) rfl (fun X hX => ?_)
  refine zr_aload_n hX rfl d_M_corner_0 ?_
  refine zr_iconst (v := 0) hX rfl d_M_corner_1 ?_
  refine zr_put hX k_M 0 (by decide) q653 rfl rfl rfl rfl (Nat.le_of_ble_eq_true rfl) h.m d_M_corner_2 ?_
  have h0 := h.code 0
  refine zr_iload_n hX rfl d_M_corner_5 ?_
  refine zr_if_lt hX (tgt := 34) d_M_corner_6 (by decide) (fun h6 => ?_) (fun h6 => ?_)
  · skip
    refine zr_iconst (v := 0) hX rfl d_M_corner_34 ?_
    exact zr_zret hX rfl d_M_corner_35 (by unfold P_M_corner; rw [if_pos h6]; exact ⟨rfl, rfl⟩)
  · skip
    refine zr_iload_n hX rfl d_M_corner_9 ?_
    refine zr_iconst (v := 5) hX rfl d_M_corner_10 ?_
    refine zr_icmp_gt hX (tgt := 34) d_M_corner_11 (by decide) (fun h11 => ?_) (fun h11 => ?_)
    · skip
      refine zr_iconst (v := 0) hX rfl d_M_corner_34 ?_
      exact zr_zret hX rfl d_M_corner_35 (by unfold P_M_corner; rw [if_neg h6]; rw [if_pos h11]; exact ⟨rfl, rfl⟩)
    · skip
      refine zr_iload_n hX rfl d_M_corner_14 ?_
      refine zr_if_lt hX (tgt := 34) d_M_corner_15 (by decide) (fun h15 => ?_) (fun h15 => ?_)
      · skip
        refine zr_iconst (v := 0) hX rfl d_M_corner_34 ?_
        exact zr_zret hX rfl d_M_corner_35 (by unfold P_M_corner; rw [if_neg h6]; rw [if_neg h11]; rw [if_pos h15]; exact ⟨rfl, rfl⟩)
      · skip
        refine zr_iload_n hX rfl d_M_corner_18 ?_
        refine zr_bipush (v := 32) hX rfl d_M_corner_19 ?_
        refine zr_icmp_gt hX (tgt := 34) d_M_corner_21 (by decide) (fun h21 => ?_) (fun h21 => ?_)
        · skip
          refine zr_iconst (v := 0) hX rfl d_M_corner_34 ?_
          exact zr_zret hX rfl d_M_corner_35 (by unfold P_M_corner; rw [if_neg h6]; rw [if_neg h11]; rw [if_neg h15]; rw [if_pos h21]; exact ⟨rfl, rfl⟩)
        · skip
          refine zr_iload_n hX rfl d_M_corner_24 ?_
          refine zr_if_lt hX (tgt := 34) d_M_corner_25 (by decide) (fun h25 => ?_) (fun h25 => ?_)
          · skip
            refine zr_iconst (v := 0) hX rfl d_M_corner_34 ?_
            exact zr_zret hX rfl d_M_corner_35 (by unfold P_M_corner; rw [if_neg h6]; rw [if_neg h11]; rw [if_neg h15]; rw [if_neg h21]; rw [if_pos h25]; exact ⟨rfl, rfl⟩)
          · skip
            refine zr_iload_n hX rfl d_M_corner_28 ?_
            refine zr_bipush (v := 32) hX rfl d_M_corner_29 ?_
            refine zr_icmp_le hX (tgt := 36) d_M_corner_31 (by decide) (fun h31 => ?_) (fun h31 => ?_)
            · skip
              refine zr_aload_n hX rfl d_M_corner_36 ?_
              refine zr_get hX k_M 20 (by decide) q673 rfl h0.m rfl d_M_corner_37 ?_
              refine zr_iload_n hX rfl d_M_corner_40 ?_
              refine zr_iload_n hX rfl d_M_corner_41 ?_
              refine zr_iast hX (h0.ar 20 rfl) (zixle h6 h11 rfl) d_M_corner_42 ?_
              refine zr_aload_n hX rfl d_M_corner_43 ?_
              refine zr_get hX k_M 21 (by decide) q674 rfl (zput_k (zne h0.m (h0.ar 20 rfl) rfl) h0.m) rfl d_M_corner_44 ?_
              refine zr_iload_n hX rfl d_M_corner_47 ?_
              refine zr_iload_n hX rfl d_M_corner_48 ?_
              refine zr_iast hX (zput_k (h.ne 21 20 rfl rfl (by decide)) (h0.ar 21 rfl)) (zixle h6 h11 rfl) d_M_corner_49 ?_
              refine zr_iconst (v := 1) hX rfl d_M_corner_50 ?_
              exact zr_zret hX rfl d_M_corner_51 (by unfold P_M_corner; rw [if_neg h6]; rw [if_neg h11]; rw [if_neg h15]; rw [if_neg h21]; rw [if_neg h25]; rw [if_pos h31]; exact ⟨rfl, rfl⟩)
            · skip
              refine zr_iconst (v := 0) hX rfl d_M_corner_34 ?_
              exact zr_zret hX rfl d_M_corner_35 (by unfold P_M_corner; rw [if_neg h6]; rw [if_neg h11]; rw [if_neg h15]; rw [if_neg h21]; rw [if_neg h25]; rw [if_neg h31]; exact ⟨rfl, rfl⟩)
def P_M_entry (u : zU) (m : Nat) (p q w : Int32) (G : zG) (r : zRes) (G1 : zG) : Prop := if p < 0 then zD1 (.int 0) (zput G m (zO 6 ((zMl u.a u.i).set 0 (.int 0)))) r G1 else if 7 < p then zD1 (.int 0) (zput G m (zO 6 ((zMl u.a u.i).set 0 (.int 0)))) r G1 else if (s_M_isValue q) = 0 then zD1 (.int 0) (zput G m (zO 6 ((zMl u.a u.i).set 0 (.int 0)))) r G1 else if (s_M_isValue w) = 0 then zD1 (.int 0) (zput G m (zO 6 ((zMl u.a u.i).set 0 (.int 0)))) r G1 else zD1 (.int 1) (zput (zput (zput G m (zO 6 ((zMl u.a u.i).set 0 (.int 0)))) (u.a 22) (zI 8 (upd (u.ar 22) p.toNatClampNeg q))) (u.a 23) (zI 8 (upd (u.ar 23) p.toNatClampNeg w))) r G1
theorem c_M_entry (g : zGt) (d : Nat) (hd : 1 ≤ d) (G : zG) (u : zU) (m : Nat) (h : zMv u m G) (p q w : Int32) : zMet g y_M_entry b_M_entry 4 (some .boolean) [] d 0 0 [.ref m, .int p, .int q, .int w] G (P_M_entry u m p q w G) := by
  refine zMet.of (by decide) (Nat.le_of_ble_eq_true rfl) rfl (fun X hX => ?_)
  refine zr_aload_n hX rfl d_M_entry_0 ?_
  refine zr_iconst (v := 0) hX rfl d_M_entry_1 ?_
  refine zr_put hX k_M 0 (by decide) q653 rfl rfl rfl rfl (Nat.le_of_ble_eq_true rfl) h.m d_M_entry_2 ?_
  have h0 := h.code 0
  refine zr_iload_n hX rfl d_M_entry_5 ?_
  refine zr_if_lt hX (tgt := 29) d_M_entry_6 (by decide) (fun h6 => ?_) (fun h6 => ?_)
  · skip
    refine zr_iconst (v := 0) hX rfl d_M_entry_29 ?_
    exact zr_zret hX rfl d_M_entry_30 (by unfold P_M_entry; rw [if_pos h6]; exact ⟨rfl, rfl⟩)
  · skip
    refine zr_iload_n hX rfl d_M_entry_9 ?_
    refine zr_bipush (v := 7) hX rfl d_M_entry_10 ?_
    refine zr_icmp_gt hX (tgt := 29) d_M_entry_12 (by decide) (fun h12 => ?_) (fun h12 => ?_)
    · skip
      refine zr_iconst (v := 0) hX rfl d_M_entry_29 ?_
      exact zr_zret hX rfl d_M_entry_30 (by unfold P_M_entry; rw [if_neg h6]; rw [if_pos h12]; exact ⟨rfl, rfl⟩)
    · skip
      refine zr_iload_n hX rfl d_M_entry_15 ?_
      refine zr_pS hX (c_M_isValue g (d - 1) (zput G m (zO 6 ((zMl u.a u.i).set 0 (.int 0)))) q) l_M_116 st_M_isValue f_M_isValue rfl (Nat.le_of_ble_eq_true rfl) (by omega) (Nat.zero_le _) (Nat.zero_le _) d_M_entry_16 ?_
      refine zr_if_eq hX (tgt := 29) d_M_entry_19 (by decide) (fun h19 => ?_) (fun h19 => ?_)
      · skip
        refine zr_iconst (v := 0) hX rfl d_M_entry_29 ?_
        exact zr_zret hX rfl d_M_entry_30 (by unfold P_M_entry; rw [if_neg h6]; rw [if_neg h12]; rw [if_pos h19]; exact ⟨rfl, rfl⟩)
      · skip
        refine zr_iload_n hX rfl d_M_entry_22 ?_
        refine zr_pS hX (c_M_isValue g (d - 1) (zput G m (zO 6 ((zMl u.a u.i).set 0 (.int 0)))) w) l_M_116 st_M_isValue f_M_isValue rfl (Nat.le_of_ble_eq_true rfl) (by omega) (Nat.zero_le _) (Nat.zero_le _) d_M_entry_23 ?_
        refine zr_if_ne hX (tgt := 31) d_M_entry_26 (by decide) (fun h26 => ?_) (fun h26 => ?_)
        · skip
          refine zr_aload_n hX rfl d_M_entry_31 ?_
          refine zr_get hX k_M 22 (by decide) q675 rfl h0.m rfl d_M_entry_32 ?_
          refine zr_iload_n hX rfl d_M_entry_35 ?_
          refine zr_iload_n hX rfl d_M_entry_36 ?_
          refine zr_iast hX (h0.ar 22 rfl) (zixle h6 h12 rfl) d_M_entry_37 ?_
          refine zr_aload_n hX rfl d_M_entry_38 ?_
          refine zr_get hX k_M 23 (by decide) q676 rfl (zput_k (zne h0.m (h0.ar 22 rfl) rfl) h0.m) rfl d_M_entry_39 ?_
          refine zr_iload_n hX rfl d_M_entry_42 ?_
          refine zr_iload_n hX rfl d_M_entry_43 ?_
          refine zr_iast hX (zput_k (h.ne 23 22 rfl rfl (by decide)) (h0.ar 23 rfl)) (zixle h6 h12 rfl) d_M_entry_44 ?_
          refine zr_iconst (v := 1) hX rfl d_M_entry_45 ?_
          exact zr_zret hX rfl d_M_entry_46 (by unfold P_M_entry; rw [if_neg h6]; rw [if_neg h12]; rw [if_neg h19]; rw [if_neg h26]; exact ⟨rfl, rfl⟩)
        · skip
          refine zr_iconst (v := 0) hX rfl d_M_entry_29 ?_
          exact zr_zret hX rfl d_M_entry_30 (by unfold P_M_entry; rw [if_neg h6]; rw [if_neg h12]; rw [if_neg h19]; rw [if_pos h26]; exact ⟨rfl, rfl⟩)
