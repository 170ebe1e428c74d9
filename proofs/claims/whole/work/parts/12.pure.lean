def s_S_isLayer (p0 : Int32) : Int32 := if p0 < 0 then 0 else if 4 ≤ p0 then 0 else 1
theorem c_S_isLayer (g : zGt) (d : Nat) (G : zG) (p0 : Int32) : zMet g y_S_isLayer b_S_isLayer 1 (some .boolean) [] d 0 0 [.int p0] G (zD1 (.int (s_S_isLayer p0)) G) := by
  refine zMet.of (by decide) (Nat.le_of_ble_eq_true rfl) rfl (fun X hX => ?_)
  refine zr_iload_n hX rfl d_S_isLayer_0 ?_
  refine zr_if_lt hX (tgt := 13) d_S_isLayer_1 (by decide) (fun h1 => ?_) (fun h1 => ?_)
  · skip
    refine zr_iconst (v := 0) hX rfl d_S_isLayer_13 ?_
    exact zr_zret hX rfl d_S_isLayer_14 (zD1.i (by unfold s_S_isLayer; rw [if_pos h1]))
  · skip
    refine zr_iload_n hX rfl d_S_isLayer_4 ?_
    refine zr_iconst (v := 4) hX rfl d_S_isLayer_5 ?_
    refine zr_icmp_ge hX (tgt := 13) d_S_isLayer_6 (by decide) (fun h6 => ?_) (fun h6 => ?_)
    · skip
      refine zr_iconst (v := 0) hX rfl d_S_isLayer_13 ?_
      exact zr_zret hX rfl d_S_isLayer_14 (zD1.i (by unfold s_S_isLayer; rw [if_neg h1, if_pos h6]))
    · skip
      refine zr_iconst (v := 1) hX rfl d_S_isLayer_9 ?_
      refine zr_goto hX (tgt := 14) (by decide) d_S_isLayer_10 ?_
      exact zr_zret hX rfl d_S_isLayer_14 (zD1.i (by unfold s_S_isLayer; rw [if_neg h1, if_neg h6]))
def s_S_isCoordinate (p0 : Int32) : Int32 := if p0 < 0 then 0 else if 32 ≤ p0 then 0 else 1
theorem c_S_isCoordinate (g : zGt) (d : Nat) (G : zG) (p0 : Int32) : zMet g y_S_isCoordinate b_S_isCoordinate 1 (some .boolean) [] d 0 0 [.int p0] G (zD1 (.int (s_S_isCoordinate p0)) G) := by
  refine zMet.of (by decide) (Nat.le_of_ble_eq_true rfl) rfl (fun X hX => ?_)
  refine zr_iload_n hX rfl d_S_isCoordinate_0 ?_
  refine zr_if_lt hX (tgt := 14) d_S_isCoordinate_1 (by decide) (fun h1 => ?_) (fun h1 => ?_)
  · skip
    refine zr_iconst (v := 0) hX rfl d_S_isCoordinate_14 ?_
    exact zr_zret hX rfl d_S_isCoordinate_15 (zD1.i (by unfold s_S_isCoordinate; rw [if_pos h1]))
  · skip
    refine zr_iload_n hX rfl d_S_isCoordinate_4 ?_
    refine zr_bipush (v := 32) hX rfl d_S_isCoordinate_5 ?_
    refine zr_icmp_ge hX (tgt := 14) d_S_isCoordinate_7 (by decide) (fun h7 => ?_) (fun h7 => ?_)
    · skip
      refine zr_iconst (v := 0) hX rfl d_S_isCoordinate_14 ?_
      exact zr_zret hX rfl d_S_isCoordinate_15 (zD1.i (by unfold s_S_isCoordinate; rw [if_neg h1, if_pos h7]))
    · skip
      refine zr_iconst (v := 1) hX rfl d_S_isCoordinate_10 ?_
      refine zr_goto hX (tgt := 15) (by decide) d_S_isCoordinate_11 ?_
      exact zr_zret hX rfl d_S_isCoordinate_15 (zD1.i (by unfold s_S_isCoordinate; rw [if_neg h1, if_neg h7]))
def s_S_isPoint (p0 : Int32) : Int32 := if p0 < 0 then 0 else if 32 < p0 then 0 else 1
theorem c_S_isPoint (g : zGt) (d : Nat) (G : zG) (p0 : Int32) : zMet g y_S_isPoint b_S_isPoint 1 (some .boolean) [] d 0 0 [.int p0] G (zD1 (.int (s_S_isPoint p0)) G) := by
  refine zMet.of (by decide) (Nat.le_of_ble_eq_true rfl) rfl (fun X hX => ?_)
  refine zr_iload_n hX rfl d_S_isPoint_0 ?_
  refine zr_if_lt hX (tgt := 14) d_S_isPoint_1 (by decide) (fun h1 => ?_) (fun h1 => ?_)
  · skip
    refine zr_iconst (v := 0) hX rfl d_S_isPoint_14 ?_
    exact zr_zret hX rfl d_S_isPoint_15 (zD1.i (by unfold s_S_isPoint; rw [if_pos h1]))
  · skip
    refine zr_iload_n hX rfl d_S_isPoint_4 ?_
    refine zr_bipush (v := 32) hX rfl d_S_isPoint_5 ?_
    refine zr_icmp_gt hX (tgt := 14) d_S_isPoint_7 (by decide) (fun h7 => ?_) (fun h7 => ?_)
    · skip
      refine zr_iconst (v := 0) hX rfl d_S_isPoint_14 ?_
      exact zr_zret hX rfl d_S_isPoint_15 (zD1.i (by unfold s_S_isPoint; rw [if_neg h1, if_pos h7]))
    · skip
      refine zr_iconst (v := 1) hX rfl d_S_isPoint_10 ?_
      refine zr_goto hX (tgt := 15) (by decide) d_S_isPoint_11 ?_
      exact zr_zret hX rfl d_S_isPoint_15 (zD1.i (by unfold s_S_isPoint; rw [if_neg h1, if_neg h7]))
def s_S_isValue (p0 : Int32) : Int32 := if p0 = (-2147483648) then 1 else if p0 < (-1000000) then 0 else if 1000000 < p0 then 0 else 1
theorem c_S_isValue (g : zGt) (d : Nat) (G : zG) (p0 : Int32) : zMet g y_S_isValue b_S_isValue 1 (some .boolean) [] d 0 0 [.int p0] G (zD1 (.int (s_S_isValue p0)) G) := by
  refine zMet.of (by decide) (Nat.le_of_ble_eq_true rfl) rfl (fun X hX => ?_)
  refine zr_iload_n hX rfl d_S_isValue_0 ?_
  refine zr_ldc hX q99 d_S_isValue_1 ?_
  refine zr_icmp_eq hX (tgt := 20) d_S_isValue_3 (by decide) (fun h3 => ?_) (fun h3 => ?_)
  · skip
    refine zr_iconst (v := 1) hX rfl d_S_isValue_20 ?_
    refine zr_goto hX (tgt := 25) (by decide) d_S_isValue_21 ?_
    exact zr_zret hX rfl d_S_isValue_25 (zD1.i (by unfold s_S_isValue; rw [if_pos h3]))
  · skip
    refine zr_iload_n hX rfl d_S_isValue_6 ?_
    refine zr_ldcw hX q182 d_S_isValue_7 ?_
    refine zr_icmp_lt hX (tgt := 24) d_S_isValue_10 (by decide) (fun h10 => ?_) (fun h10 => ?_)
    · skip
      refine zr_iconst (v := 0) hX rfl d_S_isValue_24 ?_
      exact zr_zret hX rfl d_S_isValue_25 (zD1.i (by unfold s_S_isValue; rw [if_neg h3, if_pos h10]))
    · skip
      refine zr_iload_n hX rfl d_S_isValue_13 ?_
      refine zr_ldcw hX q183 d_S_isValue_14 ?_
      refine zr_icmp_gt hX (tgt := 24) d_S_isValue_17 (by decide) (fun h17 => ?_) (fun h17 => ?_)
      · skip
        refine zr_iconst (v := 0) hX rfl d_S_isValue_24 ?_
        exact zr_zret hX rfl d_S_isValue_25 (zD1.i (by unfold s_S_isValue; rw [if_neg h3, if_neg h10, if_pos h17]))
      · skip
        refine zr_iconst (v := 1) hX rfl d_S_isValue_20 ?_
        refine zr_goto hX (tgt := 25) (by decide) d_S_isValue_21 ?_
        exact zr_zret hX rfl d_S_isValue_25 (zD1.i (by unfold s_S_isValue; rw [if_neg h3, if_neg h10, if_neg h17]))
def s_S_fits (p0 : Int32) (p1 : Int32) : Int32 := if p0 < 0 then 0 else if 32 < p1 then 0 else if (32 - p1) < p0 then 0 else 1
theorem c_S_fits (g : zGt) (d : Nat) (G : zG) (p0 : Int32) (p1 : Int32) : zMet g y_S_fits b_S_fits 2 (some .boolean) [] d 0 0 [.int p0, .int p1] G (zD1 (.int (s_S_fits p0 p1)) G) := by
  refine zMet.of (by decide) (Nat.le_of_ble_eq_true rfl) rfl (fun X hX => ?_)
  refine zr_iload_n hX rfl d_S_fits_0 ?_
  refine zr_if_lt hX (tgt := 22) d_S_fits_1 (by decide) (fun h1 => ?_) (fun h1 => ?_)
  · skip
    refine zr_iconst (v := 0) hX rfl d_S_fits_22 ?_
    exact zr_zret hX rfl d_S_fits_23 (zD1.i (by unfold s_S_fits; rw [if_pos h1]))
  · skip
    refine zr_iload_n hX rfl d_S_fits_4 ?_
    refine zr_bipush (v := 32) hX rfl d_S_fits_5 ?_
    refine zr_icmp_gt hX (tgt := 22) d_S_fits_7 (by decide) (fun h7 => ?_) (fun h7 => ?_)
    · skip
      refine zr_iconst (v := 0) hX rfl d_S_fits_22 ?_
      exact zr_zret hX rfl d_S_fits_23 (zD1.i (by unfold s_S_fits; rw [if_neg h1, if_pos h7]))
    · skip
      refine zr_iload_n hX rfl d_S_fits_10 ?_
      refine zr_bipush (v := 32) hX rfl d_S_fits_11 ?_
      refine zr_iload_n hX rfl d_S_fits_13 ?_
      refine zr_isub hX d_S_fits_14 ?_
      refine zr_icmp_gt hX (tgt := 22) d_S_fits_15 (by decide) (fun h15 => ?_) (fun h15 => ?_)
      · skip
        refine zr_iconst (v := 0) hX rfl d_S_fits_22 ?_
        exact zr_zret hX rfl d_S_fits_23 (zD1.i (by unfold s_S_fits; rw [if_neg h1, if_neg h7, if_pos h15]))
      · skip
        refine zr_iconst (v := 1) hX rfl d_S_fits_18 ?_
        refine zr_goto hX (tgt := 23) (by decide) d_S_fits_19 ?_
        exact zr_zret hX rfl d_S_fits_23 (zD1.i (by unfold s_S_fits; rw [if_neg h1, if_neg h7, if_neg h15]))
def s_S_contains (p0 : Int32) (p1 : Int32) : Int32 := if ((p0 >>> (p1 &&& 31)) &&& 1) = 1 then 1 else 0
theorem c_S_contains (g : zGt) (d : Nat) (G : zG) (p0 : Int32) (p1 : Int32) : zMet g y_S_contains b_S_contains 2 (some .boolean) [] d 0 0 [.int p0, .int p1] G (zD1 (.int (s_S_contains p0 p1)) G) := by
  refine zMet.of (by decide) (Nat.le_of_ble_eq_true rfl) rfl (fun X hX => ?_)
  refine zr_iload_n hX rfl d_S_contains_0 ?_
  refine zr_iload_n hX rfl d_S_contains_1 ?_
  refine zr_ishr hX d_S_contains_2 ?_
  refine zr_iconst (v := 1) hX rfl d_S_contains_3 ?_
  refine zr_iand hX d_S_contains_4 ?_
  refine zr_iconst (v := 1) hX rfl d_S_contains_5 ?_
  refine zr_icmp_ne hX (tgt := 13) d_S_contains_6 (by decide) (fun h6 => ?_) (fun h6 => ?_)
  · skip
    refine zr_iconst (v := 0) hX rfl d_S_contains_13 ?_
    exact zr_zret hX rfl d_S_contains_14 (zD1.i (by unfold s_S_contains; rw [if_neg h6]))
  · skip
    refine zr_iconst (v := 1) hX rfl d_S_contains_9 ?_
    refine zr_goto hX (tgt := 14) (by decide) d_S_contains_10 ?_
    exact zr_zret hX rfl d_S_contains_14 (zD1.i (by unfold s_S_contains; rw [if_pos h6]))
def s_S_indexOf (p0 : Int32) (p1 : Int32) (p2 : Int32) : Int32 := ((p0 * 1024) + (p2 * 32)) + p1
theorem c_S_indexOf (g : zGt) (d : Nat) (G : zG) (p0 : Int32) (p1 : Int32) (p2 : Int32) : zMet g y_S_indexOf b_S_indexOf 3 (some .int) [] d 0 0 [.int p0, .int p1, .int p2] G (zD1 (.int (s_S_indexOf p0 p1 p2)) G) := by
  refine zMet.of (by decide) (Nat.le_of_ble_eq_true rfl) rfl (fun X hX => ?_)
  refine zr_iload_n hX rfl d_S_indexOf_0 ?_
  refine zr_sipush (v := 1024) hX rfl d_S_indexOf_1 ?_
  refine zr_imul hX d_S_indexOf_4 ?_
  refine zr_iload_n hX rfl d_S_indexOf_5 ?_
  refine zr_bipush (v := 32) hX rfl d_S_indexOf_6 ?_
  refine zr_imul hX d_S_indexOf_8 ?_
  refine zr_iadd hX d_S_indexOf_9 ?_
  refine zr_iload_n hX rfl d_S_indexOf_10 ?_
  refine zr_iadd hX d_S_indexOf_11 ?_
  exact zr_iret hX d_S_indexOf_12 (zD1.i (by unfold s_S_indexOf; rfl))
def s_S_layerOf (p0 : Int32) : Int32 := p0 / 1024
theorem c_S_layerOf (g : zGt) (d : Nat) (G : zG) (p0 : Int32) : zMet g y_S_layerOf b_S_layerOf 1 (some .int) [] d 0 0 [.int p0] G (zD1 (.int (s_S_layerOf p0)) G) := by
  refine zMet.of (by decide) (Nat.le_of_ble_eq_true rfl) rfl (fun X hX => ?_)
  refine zr_iload_n hX rfl d_S_layerOf_0 ?_
  refine zr_sipush (v := 1024) hX rfl d_S_layerOf_1 ?_
  refine zr_idiv hX (by decide) d_S_layerOf_4 ?_
  exact zr_iret hX d_S_layerOf_5 (zD1.i (by unfold s_S_layerOf; rfl))
def s_S_yOf (p0 : Int32) : Int32 := (p0 / 32) - (p0 / 32) / 32 * 32
theorem c_S_yOf (g : zGt) (d : Nat) (G : zG) (p0 : Int32) : zMet g y_S_yOf b_S_yOf 1 (some .int) [] d 0 0 [.int p0] G (zD1 (.int (s_S_yOf p0)) G) := by
  refine zMet.of (by decide) (Nat.le_of_ble_eq_true rfl) rfl (fun X hX => ?_)
  refine zr_iload_n hX rfl d_S_yOf_0 ?_
  refine zr_bipush (v := 32) hX rfl d_S_yOf_1 ?_
  refine zr_idiv hX (by decide) d_S_yOf_3 ?_
  refine zr_bipush (v := 32) hX rfl d_S_yOf_4 ?_
  refine zr_irem hX (by decide) d_S_yOf_6 ?_
  exact zr_iret hX d_S_yOf_7 (zD1.i (by unfold s_S_yOf; rfl))
def s_S_xOf (p0 : Int32) : Int32 := p0 - p0 / 32 * 32
theorem c_S_xOf (g : zGt) (d : Nat) (G : zG) (p0 : Int32) : zMet g y_S_xOf b_S_xOf 1 (some .int) [] d 0 0 [.int p0] G (zD1 (.int (s_S_xOf p0)) G) := by
  refine zMet.of (by decide) (Nat.le_of_ble_eq_true rfl) rfl (fun X hX => ?_)
  refine zr_iload_n hX rfl d_S_xOf_0 ?_
  refine zr_bipush (v := 32) hX rfl d_S_xOf_1 ?_
  refine zr_irem hX (by decide) d_S_xOf_3 ?_
  exact zr_iret hX d_S_xOf_4 (zD1.i (by unfold s_S_xOf; rfl))
def s_S_cellOf (p0 : Int32) (p1 : Int32) : Int64 := (p0.toInt64 <<< ((32 : Int32).toInt64 &&& 63)) ||| p1.toInt64
theorem c_S_cellOf (g : zGt) (d : Nat) (G : zG) (p0 : Int32) (p1 : Int32) : zMet g y_S_cellOf b_S_cellOf 2 (some .long) [] d 0 0 [.int p0, .int p1] G (zD1 (.long (s_S_cellOf p0 p1)) G) := by
  refine zMet.of (by decide) (Nat.le_of_ble_eq_true rfl) rfl (fun X hX => ?_)
  refine zr_iload_n hX rfl d_S_cellOf_0 ?_
  refine zr_i2l hX d_S_cellOf_1 ?_
  refine zr_bipush (v := 32) hX rfl d_S_cellOf_2 ?_
  refine zr_lshl hX d_S_cellOf_4 ?_
  refine zr_iload_n hX rfl d_S_cellOf_5 ?_
  refine zr_i2l hX d_S_cellOf_6 ?_
  refine zr_lor hX d_S_cellOf_7 ?_
  exact zr_lret hX d_S_cellOf_8 (zD1.l (by unfold s_S_cellOf; rfl))
def s_S_valueOf (p0 : Int64) : Int32 := (p0 >>> ((32 : Int32).toInt64 &&& 63)).toInt32
theorem c_S_valueOf (g : zGt) (d : Nat) (G : zG) (p0 : Int64) : zMet g y_S_valueOf b_S_valueOf 2 (some .int) [] d 0 0 [.long p0] G (zD1 (.int (s_S_valueOf p0)) G) := by
  refine zMet.of (by decide) (Nat.le_of_ble_eq_true rfl) rfl (fun X hX => ?_)
  refine zr_lload_n hX rfl d_S_valueOf_0 ?_
  refine zr_bipush (v := 32) hX rfl d_S_valueOf_1 ?_
  refine zr_lshr hX d_S_valueOf_3 ?_
  refine zr_l2i hX d_S_valueOf_4 ?_
  exact zr_iret hX d_S_valueOf_5 (zD1.i (by unfold s_S_valueOf; rfl))
def s_S_originOf (p0 : Int32) (p1 : Int32) : Int32 := (p0 <<< (12 &&& 31)) ||| p1
theorem c_S_originOf (g : zGt) (d : Nat) (G : zG) (p0 : Int32) (p1 : Int32) : zMet g y_S_originOf b_S_originOf 2 (some .int) [] d 0 0 [.int p0, .int p1] G (zD1 (.int (s_S_originOf p0 p1)) G) := by
  refine zMet.of (by decide) (Nat.le_of_ble_eq_true rfl) rfl (fun X hX => ?_)
  refine zr_iload_n hX rfl d_S_originOf_0 ?_
  refine zr_bipush (v := 12) hX rfl d_S_originOf_1 ?_
  refine zr_ishl hX d_S_originOf_3 ?_
  refine zr_iload_n hX rfl d_S_originOf_4 ?_
  refine zr_ior hX d_S_originOf_5 ?_
  exact zr_iret hX d_S_originOf_6 (zD1.i (by unfold s_S_originOf; rfl))
def s_S_originIndexOf (p0 : Int64) : Int32 := p0.toInt32 &&& 4095
theorem c_S_originIndexOf (g : zGt) (d : Nat) (G : zG) (p0 : Int64) : zMet g y_S_originIndexOf b_S_originIndexOf 2 (some .int) [] d 0 0 [.long p0] G (zD1 (.int (s_S_originIndexOf p0)) G) := by
  refine zMet.of (by decide) (Nat.le_of_ble_eq_true rfl) rfl (fun X hX => ?_)
  refine zr_lload_n hX rfl d_S_originIndexOf_0 ?_
  refine zr_l2i hX d_S_originIndexOf_1 ?_
  refine zr_sipush (v := 4095) hX rfl d_S_originIndexOf_2 ?_
  refine zr_iand hX d_S_originIndexOf_5 ?_
  exact zr_iret hX d_S_originIndexOf_6 (zD1.i (by unfold s_S_originIndexOf; rfl))
def s_S_originCommitOf (p0 : Int64) : Int32 := if (s_S_valueOf p0) = (-2147483648) then (-2147483648) else p0.toInt32 >>> (12 &&& 31)
theorem c_S_originCommitOf (g : zGt) (d : Nat) (hd : 1 ≤ d) (G : zG) (p0 : Int64) : zMet g y_S_originCommitOf b_S_originCommitOf 2 (some .int) [] d 0 0 [.long p0] G (zD1 (.int (s_S_originCommitOf p0)) G) := by
  refine zMet.of (by decide) (Nat.le_of_ble_eq_true rfl) rfl (fun X hX => ?_)
  refine zr_lload_n hX rfl d_S_originCommitOf_0 ?_
  refine zr_pS hX (c_S_valueOf g (d - 1) G p0) l_S_142 st_S_valueOf f_S_valueOf rfl (Nat.le_of_ble_eq_true rfl) (by omega) (Nat.le_refl _) (Nat.le_refl _) d_S_originCommitOf_1 ?_
  refine zr_ldc hX q99 d_S_originCommitOf_4 ?_
  refine zr_icmp_ne hX (tgt := 14) d_S_originCommitOf_6 (by decide) (fun h6 => ?_) (fun h6 => ?_)
  · skip
    refine zr_lload_n hX rfl d_S_originCommitOf_14 ?_
    refine zr_l2i hX d_S_originCommitOf_15 ?_
    refine zr_bipush (v := 12) hX rfl d_S_originCommitOf_16 ?_
    refine zr_ishr hX d_S_originCommitOf_18 ?_
    exact zr_iret hX d_S_originCommitOf_19 (zD1.i (by unfold s_S_originCommitOf; rw [if_neg h6]))
  · skip
    refine zr_ldc hX q99 d_S_originCommitOf_9 ?_
    refine zr_goto hX (tgt := 19) (by decide) d_S_originCommitOf_11 ?_
    exact zr_iret hX d_S_originCommitOf_19 (zD1.i (by unfold s_S_originCommitOf; rw [if_pos h6]))
def s_S_isConflict (p0 : Int32) (p1 : Int32) (p2 : Int32) : Int32 := if p0 = p2 then 0 else if p1 = p2 then 0 else if p0 = p1 then 0 else 1
theorem c_S_isConflict (g : zGt) (d : Nat) (G : zG) (p0 : Int32) (p1 : Int32) (p2 : Int32) : zMet g y_S_isConflict b_S_isConflict 3 (some .boolean) [] d 0 0 [.int p0, .int p1, .int p2] G (zD1 (.int (s_S_isConflict p0 p1 p2)) G) := by
  refine zMet.of (by decide) (Nat.le_of_ble_eq_true rfl) rfl (fun X hX => ?_)
  refine zr_iload_n hX rfl d_S_isConflict_0 ?_
  refine zr_iload_n hX rfl d_S_isConflict_1 ?_
  refine zr_icmp_eq hX (tgt := 19) d_S_isConflict_2 (by decide) (fun h2 => ?_) (fun h2 => ?_)
  · skip
    refine zr_iconst (v := 0) hX rfl d_S_isConflict_19 ?_
    exact zr_zret hX rfl d_S_isConflict_20 (zD1.i (by unfold s_S_isConflict; rw [if_pos h2]))
  · skip
    refine zr_iload_n hX rfl d_S_isConflict_5 ?_
    refine zr_iload_n hX rfl d_S_isConflict_6 ?_
    refine zr_icmp_eq hX (tgt := 19) d_S_isConflict_7 (by decide) (fun h7 => ?_) (fun h7 => ?_)
    · skip
      refine zr_iconst (v := 0) hX rfl d_S_isConflict_19 ?_
      exact zr_zret hX rfl d_S_isConflict_20 (zD1.i (by unfold s_S_isConflict; rw [if_neg h2, if_pos h7]))
    · skip
      refine zr_iload_n hX rfl d_S_isConflict_10 ?_
      refine zr_iload_n hX rfl d_S_isConflict_11 ?_
      refine zr_icmp_eq hX (tgt := 19) d_S_isConflict_12 (by decide) (fun h12 => ?_) (fun h12 => ?_)
      · skip
        refine zr_iconst (v := 0) hX rfl d_S_isConflict_19 ?_
        exact zr_zret hX rfl d_S_isConflict_20 (zD1.i (by unfold s_S_isConflict; rw [if_neg h2, if_neg h7, if_pos h12]))
      · skip
        refine zr_iconst (v := 1) hX rfl d_S_isConflict_15 ?_
        refine zr_goto hX (tgt := 20) (by decide) d_S_isConflict_16 ?_
        exact zr_zret hX rfl d_S_isConflict_20 (zD1.i (by unfold s_S_isConflict; rw [if_neg h2, if_neg h7, if_neg h12]))
def s_M_isLayer (p0 : Int32) : Int32 := if p0 < 0 then 0 else if 4 ≤ p0 then 0 else 1
theorem c_M_isLayer (g : zGt) (d : Nat) (G : zG) (p0 : Int32) : zMet g y_M_isLayer b_M_isLayer 1 (some .boolean) [] d 0 0 [.int p0] G (zD1 (.int (s_M_isLayer p0)) G) := by
  refine zMet.of (by decide) (Nat.le_of_ble_eq_true rfl) rfl (fun X hX => ?_)
  refine zr_iload_n hX rfl d_M_isLayer_0 ?_
  refine zr_if_lt hX (tgt := 13) d_M_isLayer_1 (by decide) (fun h1 => ?_) (fun h1 => ?_)
  · skip
    refine zr_iconst (v := 0) hX rfl d_M_isLayer_13 ?_
    exact zr_zret hX rfl d_M_isLayer_14 (zD1.i (by unfold s_M_isLayer; rw [if_pos h1]))
  · skip
    refine zr_iload_n hX rfl d_M_isLayer_4 ?_
    refine zr_iconst (v := 4) hX rfl d_M_isLayer_5 ?_
    refine zr_icmp_ge hX (tgt := 13) d_M_isLayer_6 (by decide) (fun h6 => ?_) (fun h6 => ?_)
    · skip
      refine zr_iconst (v := 0) hX rfl d_M_isLayer_13 ?_
      exact zr_zret hX rfl d_M_isLayer_14 (zD1.i (by unfold s_M_isLayer; rw [if_neg h1, if_pos h6]))
    · skip
      refine zr_iconst (v := 1) hX rfl d_M_isLayer_9 ?_
      refine zr_goto hX (tgt := 14) (by decide) d_M_isLayer_10 ?_
      exact zr_zret hX rfl d_M_isLayer_14 (zD1.i (by unfold s_M_isLayer; rw [if_neg h1, if_neg h6]))
def s_M_isValue (p0 : Int32) : Int32 := if p0 = (-2147483648) then 1 else if p0 < (-1000000) then 0 else if 1000000 < p0 then 0 else 1
theorem c_M_isValue (g : zGt) (d : Nat) (G : zG) (p0 : Int32) : zMet g y_M_isValue b_M_isValue 1 (some .boolean) [] d 0 0 [.int p0] G (zD1 (.int (s_M_isValue p0)) G) := by
  refine zMet.of (by decide) (Nat.le_of_ble_eq_true rfl) rfl (fun X hX => ?_)
  refine zr_iload_n hX rfl d_M_isValue_0 ?_
  refine zr_ldc hX q652 d_M_isValue_1 ?_
  refine zr_icmp_eq hX (tgt := 18) d_M_isValue_3 (by decide) (fun h3 => ?_) (fun h3 => ?_)
  · skip
    refine zr_iconst (v := 1) hX rfl d_M_isValue_18 ?_
    refine zr_goto hX (tgt := 23) (by decide) d_M_isValue_19 ?_
    exact zr_zret hX rfl d_M_isValue_23 (zD1.i (by unfold s_M_isValue; rw [if_pos h3]))
  · skip
    refine zr_iload_n hX rfl d_M_isValue_6 ?_
    refine zr_ldc hX q780 d_M_isValue_7 ?_
    refine zr_icmp_lt hX (tgt := 22) d_M_isValue_9 (by decide) (fun h9 => ?_) (fun h9 => ?_)
    · skip
      refine zr_iconst (v := 0) hX rfl d_M_isValue_22 ?_
      exact zr_zret hX rfl d_M_isValue_23 (zD1.i (by unfold s_M_isValue; rw [if_neg h3, if_pos h9]))
    · skip
      refine zr_iload_n hX rfl d_M_isValue_12 ?_
      refine zr_ldc hX q781 d_M_isValue_13 ?_
      refine zr_icmp_gt hX (tgt := 22) d_M_isValue_15 (by decide) (fun h15 => ?_) (fun h15 => ?_)
      · skip
        refine zr_iconst (v := 0) hX rfl d_M_isValue_22 ?_
        exact zr_zret hX rfl d_M_isValue_23 (zD1.i (by unfold s_M_isValue; rw [if_neg h3, if_neg h9, if_pos h15]))
      · skip
        refine zr_iconst (v := 1) hX rfl d_M_isValue_18 ?_
        refine zr_goto hX (tgt := 23) (by decide) d_M_isValue_19 ?_
        exact zr_zret hX rfl d_M_isValue_23 (zD1.i (by unfold s_M_isValue; rw [if_neg h3, if_neg h9, if_neg h15]))
def s_M_cellOf (p0 : Int32) (p1 : Int32) (p2 : Int32) : Int32 := ((1024 * p0) + (32 * p2)) + p1
theorem c_M_cellOf (g : zGt) (d : Nat) (G : zG) (p0 : Int32) (p1 : Int32) (p2 : Int32) : zMet g y_M_cellOf b_M_cellOf 3 (some .int) [] d 0 0 [.int p0, .int p1, .int p2] G (zD1 (.int (s_M_cellOf p0 p1 p2)) G) := by
  refine zMet.of (by decide) (Nat.le_of_ble_eq_true rfl) rfl (fun X hX => ?_)
  refine zr_sipush (v := 1024) hX rfl d_M_cellOf_0 ?_
  refine zr_iload_n hX rfl d_M_cellOf_3 ?_
  refine zr_imul hX d_M_cellOf_4 ?_
  refine zr_bipush (v := 32) hX rfl d_M_cellOf_5 ?_
  refine zr_iload_n hX rfl d_M_cellOf_7 ?_
  refine zr_imul hX d_M_cellOf_8 ?_
  refine zr_iadd hX d_M_cellOf_9 ?_
  refine zr_iload_n hX rfl d_M_cellOf_10 ?_
  refine zr_iadd hX d_M_cellOf_11 ?_
  exact zr_iret hX d_M_cellOf_12 (zD1.i (by unfold s_M_cellOf; rfl))
