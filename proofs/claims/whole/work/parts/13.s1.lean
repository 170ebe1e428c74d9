/-! the store's cells, as they are read -/
def zS (a : Nat → Nat) (i : Nat → Int32) (bt : Value) : List Value := [.ref (a 0), .ref (a 1), .int (i 2), .ref (a 3), .int (i 4), .int (i 5), .int (i 6), .int (i 7), .ref (a 8), .ref (a 9), .ref (a 10), .ref (a 11), .ref (a 12), bt]
abbrev zV : Type := (Nat → Nat) × (Nat → Int32) × Value × (Nat → Option Nat) × (Nat → Int32) × (Nat → Int32) × (Nat → Int32) × (Nat → Nat) × (Nat → Nat → Int64) × (Nat → Option Nat) × (Nat → Nat) × (Nat → Int32) × (Nat → Int32) × (Nat → Int32) × (Nat → Option Nat) × (Nat → Nat → Int64) × (Nat → Nat → Int32)
/-- where the store's arrays lie, by their field -/
abbrev zV.a (v : zV) : Nat → Nat := v.1
/-- its numbers, by their field: 2 made, 4 .. 7 the region -/
abbrev zV.i (v : zV) : Nat → Int32 := v.2.1
abbrev zV.bt (v : zV) : Value := v.2.2.1
/-- commits: object, first parent, second parent, ancestors, where the cells lie, the cells -/
abbrev zV.fc (v : zV) : Nat → Option Nat := v.2.2.2.1
abbrev zV.p1 (v : zV) : Nat → Int32 := v.2.2.2.2.1
abbrev zV.p2 (v : zV) : Nat → Int32 := v.2.2.2.2.2.1
abbrev zV.an (v : zV) : Nat → Int32 := v.2.2.2.2.2.2.1
abbrev zV.cc (v : zV) : Nat → Nat := v.2.2.2.2.2.2.2.1
abbrev zV.cf (v : zV) : Nat → Nat → Int64 := v.2.2.2.2.2.2.2.2.1
/-- branches: object, where the cells lie, there, head, merging, conflicts, the cells -/
abbrev zV.fb (v : zV) : Nat → Option Nat := v.2.2.2.2.2.2.2.2.2.1
abbrev zV.bc (v : zV) : Nat → Nat := v.2.2.2.2.2.2.2.2.2.2.1
abbrev zV.th (v : zV) : Nat → Int32 := v.2.2.2.2.2.2.2.2.2.2.2.1
abbrev zV.hd (v : zV) : Nat → Int32 := v.2.2.2.2.2.2.2.2.2.2.2.2.1
abbrev zV.mg (v : zV) : Nat → Int32 := v.2.2.2.2.2.2.2.2.2.2.2.2.2.1
abbrev zV.kf (v : zV) : Nat → Option Nat := v.2.2.2.2.2.2.2.2.2.2.2.2.2.2.1
abbrev zV.bf (v : zV) : Nat → Nat → Int64 := v.2.2.2.2.2.2.2.2.2.2.2.2.2.2.2.1
/-- the store's own arrays of ints: 0 kinds, 8 and 9 the corners, 10 and 11 the entries -/
abbrev zV.ar (v : zV) : Nat → Nat → Int32 := v.2.2.2.2.2.2.2.2.2.2.2.2.2.2.2.2
def zCm (v : zV) (c : Nat) : zC := zO 1 [.int (v.p1 c), .int (v.p2 c), .int (v.an c), .ref (v.cc c)]
def zBm (v : zV) (b : Nat) : zC := zO 2 [.ref (v.bc b), .int (v.th b), .int (v.hd b), .int (v.mg b), va_rf (v.kf b)]
def zSv (v : zV) (x : Nat) (G : zG) : Prop := G x = some (zO 0 (zS v.a v.i v.bt)) ∧ G (v.a 1) = some (zR 3 24 v.fc) ∧ G (v.a 3) = some (zR 4 4 v.fb) ∧
  (∀ c, c < 24 → ∀ q, v.fc c = some q → G q = some (zCm v c) ∧ G (v.cc c) = some (zJ 4096 (v.cf c))) ∧
  (∀ b, b < 4 → ∀ q, v.fb b = some q → G q = some (zBm v b) ∧ G (v.bc b) = some (zJ 4096 (v.bf b))) ∧
  G (v.a 0) = some (zI 4 (v.ar 0)) ∧ G (v.a 8) = some (zI 6 (v.ar 8)) ∧ G (v.a 9) = some (zI 6 (v.ar 9)) ∧ G (v.a 10) = some (zI 8 (v.ar 10)) ∧ G (v.a 11) = some (zI 8 (v.ar 11))
theorem zSv.x {v : zV} {x : Nat} {G : zG} (h : zSv v x G) : G x = some (zO 0 (zS v.a v.i v.bt)) := h.1
theorem zSv.co {v : zV} {x : Nat} {G : zG} (h : zSv v x G) : G (v.a 1) = some (zR 3 24 v.fc) := h.2.1
theorem zSv.br {v : zV} {x : Nat} {G : zG} (h : zSv v x G) : G (v.a 3) = some (zR 4 4 v.fb) := h.2.2.1
theorem zSv.cm {v : zV} {x : Nat} {G : zG} (h : zSv v x G) {c q : Nat} (hc : c < 24) (hq : v.fc c = some q) : G q = some (zCm v c) := (h.2.2.2.1 c hc q hq).1
theorem zSv.cj {v : zV} {x : Nat} {G : zG} (h : zSv v x G) {c q : Nat} (hc : c < 24) (hq : v.fc c = some q) : G (v.cc c) = some (zJ 4096 (v.cf c)) := (h.2.2.2.1 c hc q hq).2
theorem zSv.bm {v : zV} {x : Nat} {G : zG} (h : zSv v x G) {c q : Nat} (hc : c < 4) (hq : v.fb c = some q) : G q = some (zBm v c) := (h.2.2.2.2.1 c hc q hq).1
theorem zSv.bj {v : zV} {x : Nat} {G : zG} (h : zSv v x G) {c q : Nat} (hc : c < 4) (hq : v.fb c = some q) : G (v.bc c) = some (zJ 4096 (v.bf c)) := (h.2.2.2.2.1 c hc q hq).2
theorem zSv.a0 {v : zV} {x : Nat} {G : zG} (h : zSv v x G) : G (v.a 0) = some (zI 4 (v.ar 0)) := h.2.2.2.2.2.1
theorem zSv.a8 {v : zV} {x : Nat} {G : zG} (h : zSv v x G) : G (v.a 8) = some (zI 6 (v.ar 8)) := h.2.2.2.2.2.2.1
theorem zSv.a9 {v : zV} {x : Nat} {G : zG} (h : zSv v x G) : G (v.a 9) = some (zI 6 (v.ar 9)) := h.2.2.2.2.2.2.2.1
theorem zSv.a10 {v : zV} {x : Nat} {G : zG} (h : zSv v x G) : G (v.a 10) = some (zI 8 (v.ar 10)) := h.2.2.2.2.2.2.2.2.1
theorem zSv.a11 {v : zV} {x : Nat} {G : zG} (h : zSv v x G) : G (v.a 11) = some (zI 8 (v.ar 11)) := h.2.2.2.2.2.2.2.2.2
/-- an index between 0 and n -/
theorem zix {x z : Int32} {n : Nat} (h0 : ¬ x < 0) (h1 : ¬ z ≤ x) (hz : z.toInt = n) : vp_in x n := by
  rw [vp_in_iff]
  rw [Int32.lt_iff_toInt_lt, Int32.toInt_zero] at h0
  rw [Int32.le_iff_toInt_le, hz] at h1
  omega
theorem zcl_of {x z : Int32} {n : Nat} (h0 : ¬ x < 0) (h1 : ¬ z ≤ x) (hz : z.toInt = n) (hn : n < 2 ^ 31) : x.toNatClampNeg < n ∧ x = nI x.toNatClampNeg := by
  obtain ⟨j, hj, e⟩ := vp_in_of (zix h0 h1 hz) hn
  rw [e, nI_clamp (by omega)]
  exact ⟨hj, rfl⟩
/-- the commit's object, if p is the number of one -/
def zcmt (v : zV) (p : Int32) : Option Nat := if p < 0 then none else if 24 ≤ p then none else v.fc p.toNatClampNeg
theorem zcmt_some {v : zV} {p : Int32} {q : Nat} (h : zcmt v p = some q) : p.toNatClampNeg < 24 ∧ p = nI p.toNatClampNeg ∧ v.fc p.toNatClampNeg = some q := by
  unfold zcmt at h
  split at h
  · cases h
  · rename_i h1
    split at h
    · cases h
    · rename_i h2
      obtain ⟨h3, h4⟩ := zcl_of (n := 24) h1 h2 rfl (by decide)
      exact ⟨h3, h4, h⟩
def zbra (v : zV) (p : Int32) : Option Nat := if p < 0 then none else if 4 ≤ p then none else match v.fb p.toNatClampNeg with
  | none => none
  | some q => if v.th p.toNatClampNeg = 0 then none else some q
theorem zbra_some {v : zV} {p : Int32} {q : Nat} (h : zbra v p = some q) : p.toNatClampNeg < 4 ∧ p = nI p.toNatClampNeg ∧ v.fb p.toNatClampNeg = some q ∧ ¬ v.th p.toNatClampNeg = 0 := by
  unfold zbra at h
  split at h
  · cases h
  · rename_i h1
    split at h
    · cases h
    · rename_i h2
      obtain ⟨h3, h4⟩ := zcl_of (n := 4) h1 h2 rfl (by decide)
      split at h
      · cases h
      · rename_i q' hq
        split at h
        · cases h
        · cases h
          exact ⟨h3, h4, hq, by assumption⟩
def zbop (v : zV) (p : Int32) : Option Nat := if 24 ≤ p then zbra v (p - 24) else none
/-- where the cells of a place lie -/
def zcel (v : zV) (p : Int32) : Option Nat := match zcmt v p with
  | some _ => some (v.cc p.toNatClampNeg)
  | none => match zbop v p with
    | some _ => some (v.bc (p - 24).toNatClampNeg)
    | none => none

theorem c_S_commitAt (g : zGt) (d : Nat) (G : zG) (v : zV) (x : Nat) (h : zSv v x G) (p : Int32) : zMet g y_S_commitAt b_S_commitAt 2 (some (.object "SurveyStore$Commit")) [] d 0 0 [.ref x, .int p] G (zD1 (va_rf (zcmt v p)) G) := by
  refine zMet.of (by decide) (Nat.le_of_ble_eq_true rfl) rfl (fun X hX => ?_)
  refine zr_iload_n hX rfl d_S_commitAt_0 ?_
  refine zr_if_lt hX (tgt := 19) d_S_commitAt_1 (by decide) (fun h1 => ?_) (fun h1 => ?_)
  · skip
    refine zr_null hX d_S_commitAt_19 ?_
    exact zr_rret hX rfl (Or.inl ⟨_, rfl⟩) rfl d_S_commitAt_20 (zD1.v (by unfold zcmt; rw [if_pos h1]; rfl))
  · skip
    refine zr_iload_n hX rfl d_S_commitAt_4 ?_
    refine zr_bipush (v := 24) hX rfl d_S_commitAt_5 ?_
    refine zr_icmp_ge hX (tgt := 19) d_S_commitAt_7 (by decide) (fun h7 => ?_) (fun h7 => ?_)
    · skip
      refine zr_null hX d_S_commitAt_19 ?_
      exact zr_rret hX rfl (Or.inl ⟨_, rfl⟩) rfl d_S_commitAt_20 (zD1.v (by unfold zcmt; rw [if_neg h1, if_pos h7]; rfl))
    · skip
      refine zr_aload_n hX rfl d_S_commitAt_10 ?_
      refine zr_get hX k_S 1 (by decide) q104 rfl h.x rfl d_S_commitAt_11 ?_
      refine zr_iload_n hX rfl d_S_commitAt_14 ?_
      refine zr_aald hX rfl h.co (zix h1 h7 rfl) d_S_commitAt_15 ?_
      refine zr_goto hX (tgt := 20) (by decide) d_S_commitAt_16 ?_
      exact zr_rret hX rfl (Or.inl ⟨_, rfl⟩) (zisr_rf _) d_S_commitAt_20 (zD1.v (by unfold zcmt; rw [if_neg h1, if_neg h7]))
theorem c_S_branchAt (g : zGt) (d : Nat) (G : zG) (v : zV) (x : Nat) (h : zSv v x G) (p : Int32) : zMet g y_S_branchAt b_S_branchAt 2 (some (.object "SurveyStore$Branch")) [] d 0 0 [.ref x, .int p] G (zD1 (va_rf (zbra v p)) G) := by
  refine zMet.of (by decide) (Nat.le_of_ble_eq_true rfl) rfl (fun X hX => ?_)
  refine zr_iload_n hX rfl d_S_branchAt_0 ?_
  refine zr_if_lt hX (tgt := 30) d_S_branchAt_1 (by decide) (fun h1 => ?_) (fun h1 => ?_)
  · skip
    refine zr_null hX d_S_branchAt_30 ?_
    exact zr_rret hX rfl (Or.inl ⟨_, rfl⟩) rfl d_S_branchAt_31 (zD1.v (by unfold zbra; rw [if_pos h1]; rfl))
  · skip
    refine zr_iload_n hX rfl d_S_branchAt_4 ?_
    refine zr_iconst (v := 4) hX rfl d_S_branchAt_5 ?_
    refine zr_icmp_ge hX (tgt := 30) d_S_branchAt_6 (by decide) (fun h6 => ?_) (fun h6 => ?_)
    · skip
      refine zr_null hX d_S_branchAt_30 ?_
      exact zr_rret hX rfl (Or.inl ⟨_, rfl⟩) rfl d_S_branchAt_31 (zD1.v (by unfold zbra; rw [if_neg h1, if_pos h6]; rfl))
    · skip
      refine zr_aload_n hX rfl d_S_branchAt_9 ?_
      refine zr_get hX k_S 3 (by decide) q106 rfl h.x rfl d_S_branchAt_10 ?_
      refine zr_iload_n hX rfl d_S_branchAt_13 ?_
      refine zr_aald hX rfl h.br (zix h1 h6 rfl) d_S_branchAt_14 ?_
      cases hq : v.fb p.toNatClampNeg with
      | none =>
        refine zr_ifnullN hX (tgt := 30) (by decide) d_S_branchAt_15 ?_
        refine zr_null hX d_S_branchAt_30 ?_
        exact zr_rret hX rfl (Or.inl ⟨_, rfl⟩) rfl d_S_branchAt_31 (zD1.v (by unfold zbra; rw [if_neg h1, if_neg h6, hq]; rfl))
      | some q =>
        refine zr_ifnull hX d_S_branchAt_15 ?_
        refine zr_aload_n hX rfl d_S_branchAt_18 ?_
        refine zr_get hX k_S 3 (by decide) q106 rfl h.x rfl d_S_branchAt_19 ?_
        refine zr_iload_n hX rfl d_S_branchAt_22 ?_
        refine zr_aald hX rfl h.br (zix h1 h6 rfl) d_S_branchAt_23 ?_
        rw [hq]
        refine zr_get hX k_B 1 (by decide) q66 rfl (h.bm (zcl_of (n := 4) h1 h6 rfl (by decide)).1 hq) rfl d_S_branchAt_24 ?_
        refine zr_if_ne hX (tgt := 32) d_S_branchAt_27 (by decide) (fun h27 => ?_) (fun h27 => ?_)
        · skip
          refine zr_aload_n hX rfl d_S_branchAt_32 ?_
          refine zr_get hX k_S 3 (by decide) q106 rfl h.x rfl d_S_branchAt_33 ?_
          refine zr_iload_n hX rfl d_S_branchAt_36 ?_
          refine zr_aald hX rfl h.br (zix h1 h6 rfl) d_S_branchAt_37 ?_
          rw [hq]
          exact zr_rret hX rfl (Or.inl ⟨_, rfl⟩) rfl d_S_branchAt_38 (zD1.v (by unfold zbra; rw [if_neg h1, if_neg h6, hq]; show _ = va_rf (if v.th p.toNatClampNeg = 0 then none else some q); rw [if_neg h27] <;> rfl))
        · skip
          refine zr_null hX d_S_branchAt_30 ?_
          exact zr_rret hX rfl (Or.inl ⟨_, rfl⟩) rfl d_S_branchAt_31 (zD1.v (by unfold zbra; rw [if_neg h1, if_neg h6, hq]; show _ = va_rf (if v.th p.toNatClampNeg = 0 then none else some q); rw [if_pos h27] <;> rfl))
theorem c_S_branchOfPlace (g : zGt) (d : Nat) (G : zG) (v : zV) (x : Nat) (h : zSv v x G) (p : Int32) (hd : 1 ≤ d) : zMet g y_S_branchOfPlace b_S_branchOfPlace 2 (some (.object "SurveyStore$Branch")) [] d 0 0 [.ref x, .int p] G (zD1 (va_rf (zbop v p)) G) := by
  refine zMet.of (by decide) (Nat.le_of_ble_eq_true rfl) rfl (fun X hX => ?_)
  refine zr_iload_n hX rfl d_S_branchOfPlace_0 ?_
  refine zr_bipush (v := 24) hX rfl d_S_branchOfPlace_1 ?_
  refine zr_icmp_ge hX (tgt := 10) d_S_branchOfPlace_3 (by decide) (fun h3 => ?_) (fun h3 => ?_)
  · skip
    refine zr_aload_n hX rfl d_S_branchOfPlace_10 ?_
    refine zr_iload_n hX rfl d_S_branchOfPlace_11 ?_
    refine zr_bipush (v := 24) hX rfl d_S_branchOfPlace_12 ?_
    refine zr_isub hX d_S_branchOfPlace_14 ?_
    refine zr_pV hX (c_S_branchAt g (d - 1) _ v x h _) l_S_84 im_S_branchAt se_S_branchAt f_S_branchAt k_S.1 h.x rfl (Nat.le_of_ble_eq_true rfl) (by omega) (Nat.le_refl _) (Nat.le_refl _) d_S_branchOfPlace_15 ?_
    exact zr_rret hX rfl (Or.inl ⟨_, rfl⟩) (zisr_rf _) d_S_branchOfPlace_18 (zD1.v (by unfold zbop; rw [if_pos h3]))
  · skip
    refine zr_null hX d_S_branchOfPlace_6 ?_
    refine zr_goto hX (tgt := 18) (by decide) d_S_branchOfPlace_7 ?_
    exact zr_rret hX rfl (Or.inl ⟨_, rfl⟩) rfl d_S_branchOfPlace_18 (zD1.v (by unfold zbop; rw [if_neg h3]; rfl))
theorem c_S_cellsOf (g : zGt) (d : Nat) (G : zG) (v : zV) (x : Nat) (h : zSv v x G) (p : Int32) (hd : 2 ≤ d) : zMet g y_S_cellsOf b_S_cellsOf 4 (some (.array .long)) [] d 0 0 [.ref x, .int p] G (zD1 (va_rf (zcel v p)) G) := by
  refine zMet.of (by decide) (Nat.le_of_ble_eq_true rfl) rfl (fun X hX => ?_)
  refine zr_aload_n hX rfl d_S_cellsOf_0 ?_
  refine zr_iload_n hX rfl d_S_cellsOf_1 ?_
  refine zr_pV hX (c_S_commitAt g (d - 1) _ v x h _) l_S_77 im_S_commitAt se_S_commitAt f_S_commitAt k_S.1 h.x rfl (Nat.le_of_ble_eq_true rfl) (by omega) (Nat.le_refl _) (Nat.le_refl _) d_S_cellsOf_2 ?_
  cases hq : zcmt v p with
  | none =>
    refine zr_astore_nN hX (by decide) d_S_cellsOf_5 ?_
    refine zr_aload_nN hX rfl d_S_cellsOf_6 ?_
    refine zr_ifnullN hX (tgt := 15) (by decide) d_S_cellsOf_7 ?_
    refine zr_aload_n hX rfl d_S_cellsOf_15 ?_
    refine zr_iload_n hX rfl d_S_cellsOf_16 ?_
    refine zr_pV hX (c_S_branchOfPlace g (d - 1) _ v x h _ (by omega)) l_S_267 im_S_branchOfPlace se_S_branchOfPlace f_S_branchOfPlace k_S.1 h.x rfl (Nat.le_of_ble_eq_true rfl) (by omega) (Nat.le_refl _) (Nat.le_refl _) d_S_cellsOf_17 ?_
    cases hr : zbop v p with
    | none =>
      refine zr_astore_nN hX (by decide) d_S_cellsOf_20 ?_
      refine zr_aload_nN hX rfl d_S_cellsOf_21 ?_
      refine zr_ifnonnullN hX d_S_cellsOf_22 ?_
      refine zr_null hX d_S_cellsOf_25 ?_
      refine zr_goto hX (tgt := 33) (by decide) d_S_cellsOf_26 ?_
      exact zr_rret hX rfl (Or.inr ⟨_, rfl⟩) rfl d_S_cellsOf_33 (zD1.v (by unfold zcel; rw [hq, hr]; rfl))
    | some r =>
      have hr2 : zbra v (p - 24) = some r := by
        unfold zbop at hr; split at hr
        · exact hr
        · cases hr
      refine zr_astore_n hX (by decide) d_S_cellsOf_20 ?_
      refine zr_aload_n hX rfl d_S_cellsOf_21 ?_
      refine zr_ifnonnull hX (tgt := 29) (by decide) d_S_cellsOf_22 ?_
      refine zr_aload_n hX rfl d_S_cellsOf_29 ?_
      refine zr_get hX k_B 0 (by decide) q64 rfl (h.bm (zbra_some hr2).1 (zbra_some hr2).2.2.1) rfl d_S_cellsOf_30 ?_
      exact zr_rret hX rfl (Or.inr ⟨_, rfl⟩) rfl d_S_cellsOf_33 (zD1.v (by unfold zcel; rw [hq, hr]; rfl))
  | some q =>
    refine zr_astore_n hX (by decide) d_S_cellsOf_5 ?_
    refine zr_aload_n hX rfl d_S_cellsOf_6 ?_
    refine zr_ifnull hX d_S_cellsOf_7 ?_
    refine zr_aload_n hX rfl d_S_cellsOf_10 ?_
    refine zr_get hX k_C 3 (by decide) q46 rfl (h.cm (zcmt_some hq).1 (zcmt_some hq).2.2) rfl d_S_cellsOf_11 ?_
    exact zr_rret hX rfl (Or.inr ⟨_, rfl⟩) rfl d_S_cellsOf_14 (zD1.v (by unfold zcel; rw [hq] <;> rfl))
