/-! a cell of the class: a value above an origin, in one long -/
theorem z63 : ((32 : Int32).toInt64 &&& 63) = (32 : Int64) := by decide
theorem zvb (c : Int64) : (s_S_valueOf c).toBitVec = (c.toBitVec.sshiftRight 32).signExtend 32 := by
  unfold s_S_valueOf
  rw [z63, Int64.toBitVec_toInt32, Int64.toBitVec_shiftRight, BitVec.sshiftRight', show ((32 : Int64).toBitVec.smod 64).toNat = 32 from by decide]
theorem zcb (v o : Int32) : (s_S_cellOf v o).toBitVec = (v.toBitVec.signExtend 64 <<< 32) ||| o.toBitVec.signExtend 64 := by
  unfold s_S_cellOf
  rw [z63, Int64.toBitVec_or, Int64.toBitVec_shiftLeft, Int32.toBitVec_toInt64, Int32.toBitVec_toInt64]
  rw [show ((32 : Int64).toBitVec.smod 64) = 32#64 from by decide]
  rfl
theorem zval (v o : Int32) (ho : 0 ≤ o) : s_S_valueOf (s_S_cellOf v o) = v := by
  apply Int32.toBitVec_inj.mp
  rw [zvb, zcb]
  have hm : o.toBitVec.msb = false := by
    rw [BitVec.msb_eq_false_iff_two_mul_lt]
    have := Int32.le_iff_toInt_le.mp ho
    rw [Int32.toInt_zero] at this
    have h2 : o.toBitVec.toInt = o.toInt := rfl
    rw [← h2, BitVec.toInt_eq_toNat_cond] at this
    split at this
    · omega
    · have := o.toBitVec.isLt; omega
  apply BitVec.eq_of_getLsbD_eq
  intro i hi
  simp only [BitVec.getLsbD_sshiftRight, BitVec.getLsbD_or, BitVec.getLsbD_shiftLeft, BitVec.getLsbD_signExtend, hm]
  have h1 : 32 + i < 64 := by omega
  have h2 : ¬ 32 + i < 32 := by omega
  have h3 : ¬ 64 ≤ i := by omega
  have h4 : i < 64 := by omega
  simp [hi, h1, h2, h3, h4]
theorem zlow (v o : Int32) : (s_S_cellOf v o).toInt32 = o := by
  apply Int32.toBitVec_inj.mp
  rw [Int64.toBitVec_toInt32, zcb]
  apply BitVec.eq_of_getLsbD_eq
  intro i hi
  simp only [BitVec.getLsbD_or, BitVec.getLsbD_shiftLeft, BitVec.getLsbD_signExtend]
  have h1 : i < 64 := by omega
  simp [hi, h1]
/-- the class's cell for a value and an origin of the reference -/
def zcell (v o : Int32) : Int64 := if v = (-2147483648) then (-9223372036854775808) else s_S_cellOf v o
/-- what stands in the reference's rows -/
def zvo (v o : Int32) : Prop := (v = (-2147483648) ∧ o = (-1)) ∨ (¬ v = (-2147483648) ∧ ∃ k : Nat, o = nI k ∧ k < 102400)
theorem zvalE : s_S_valueOf (-9223372036854775808) = (-2147483648) := by decide
theorem zc_val {v o : Int32} (h : zvo v o) : s_S_valueOf (zcell v o) = v := by
  unfold zcell
  rcases h with ⟨h1, -⟩ | ⟨h1, k, h2, h3⟩
  · rw [if_pos h1, h1]; exact zvalE
  · rw [if_neg h1, h2]; exact zval v _ (nI_pos' (by omega))
theorem zc_eq {v o v2 o2 : Int32} (h : zvo v o) (h2 : zvo v2 o2) : zcell v o = zcell v2 o2 ↔ v = v2 ∧ o = o2 := by
  constructor
  · intro e
    have e1 : v = v2 := by rw [← zc_val h, ← zc_val h2, e]
    refine ⟨e1, ?_⟩
    subst e1
    rcases h with ⟨a1, a2⟩ | ⟨a1, -⟩
    · rcases h2 with ⟨-, b2⟩ | ⟨b1, -⟩
      · rw [a2, b2]
      · exact absurd a1 b1
    · unfold zcell at e
      rw [if_neg a1, if_neg a1] at e
      rw [← zlow v o, ← zlow v o2, e]
  · rintro ⟨rfl, rfl⟩
    rfl
theorem zoc_N {v : Int32} {k : Nat} (hv : ¬ v = (-2147483648)) (hk : k < 102400) : s_S_originCommitOf (zcell v (nI k)) = nI (k / 4096) := by
  unfold s_S_originCommitOf
  rw [zc_val (Or.inr ⟨hv, k, rfl, hk⟩), if_neg hv]
  unfold zcell
  rw [if_neg hv, zlow, pk_shrN (by omega) _ 12 (by decide)]
theorem zoc_E : s_S_originCommitOf (-9223372036854775808) = (-2147483648) := by decide
theorem zcell_E (o : Int32) : zcell (-2147483648) o = (-9223372036854775808) := if_pos rfl
theorem zoi_N {v : Int32} {k : Nat} (hv : ¬ v = (-2147483648)) (hk : k < 102400) : s_S_originIndexOf (zcell v (nI k)) = nI (k % 4096) := by
  unfold s_S_originIndexOf zcell
  rw [if_neg hv, zlow, pk_andN (by omega) 12 (by decide)]
theorem zoo {a b : Nat} (ha : a < 32) (hb : b < 4096) : s_S_originOf (nI a) (nI b) = nI (4096 * a + b) := by
  unfold s_S_originOf
  rw [pk_shlN (n := a) _ 12 (by decide) (by omega)]
  have h1 : a * 2 ^ 12 ||| b = 4096 * a + b := by
    have h2 := Nat.shiftLeft_add_eq_or_of_lt (b := b) (i := 12) (by omega) a
    rw [Nat.shiftLeft_eq] at h2
    omega
  apply Int32.toBitVec_inj.mp
  rw [Int32.toBitVec_or, ← h1]
  apply BitVec.eq_of_toNat_eq
  rw [BitVec.toNat_or]
  show (BitVec.ofNat 32 (a * 2 ^ 12)).toNat ||| (BitVec.ofNat 32 b).toNat = (BitVec.ofNat 32 (a * 2 ^ 12 ||| b)).toNat
  rw [BitVec.toNat_ofNat, BitVec.toNat_ofNat, BitVec.toNat_ofNat, h1, Nat.mod_eq_of_lt, Nat.mod_eq_of_lt, Nat.mod_eq_of_lt, h1] <;> omega
