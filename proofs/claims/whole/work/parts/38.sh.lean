/-! the class: rows for its walks -/
theorem zw_h {g : zGt} {X : zX} {Post : zRes → zG → Prop} {pc : Nat} {zl : List (Option Value)} {st : List Value} {G G2 : zG} {k n : Nat} (e : G2 = G) (h : zw g X Post pc zl st G2 k n) : zw g X Post pc zl st G k n := e ▸ h
theorem zixS (l x y : Nat) : s_S_indexOf (nI l) (nI x) (nI y) = nI (1024 * l + 32 * y + x) := by
  unfold s_S_indexOf
  rw [zl1024, zl32, pk_mul, pk_mul, nI_add, nI_add]
  congr 1
  omega
/-- the class's long cells hold what stands in the reference's rows at place p -/
def zCr (f : Nat → Int64) (u : zU) (p : Nat) : Prop := ∀ k, k < 4096 → f k = zcell (u.ar 1 (4096 * p + k)) (u.ar 2 (4096 * p + k))
def zIv (u : zU) : Prop := ∀ i, i < 114688 → zvo (u.ar 1 i) (u.ar 2 i)
theorem zCr.val {f : Nat → Int64} {u : zU} {p : Nat} (h : zCr f u p) (hI : zIv u) (hp : p < 28) {k : Nat} (hk : k < 4096) : s_S_valueOf (f k) = u.ar 1 (4096 * p + k) := by
  rw [h k hk]
  exact zc_val (hI _ (by omega))
/-- what Branch.set writes -/
theorem zset_v (w : Int32) {i : Nat} (hi : i < 4096) : (if w = (-2147483648) then (-9223372036854775808) else s_S_cellOf w (s_S_originOf 24 (nI i))) = zcell w (nI (98304 + i)) := by
  unfold zcell
  rw [show (24 : Int32) = nI 24 from rfl, zoo (by decide) hi]
theorem zgive_1 (u : zU) (b c : Nat) (w : Int32) (i : Nat) : (zgive u b c w).ar 1 i = if i = 4096 * (24 + b) + c then w else u.ar 1 i := by
  unfold zgive
  refine (congrFun (zuaj _ _ (by decide)) i).trans ((zua_at _ _ _ _).trans ?_)
  by_cases e : i = 4096 * (24 + b) + c
  · rw [if_pos e, e, pk_us]
  · rw [if_neg e, pk_un e]
theorem zgive_2 (u : zU) (b c : Nat) (w : Int32) (i : Nat) : (zgive u b c w).ar 2 i = if i = 4096 * (24 + b) + c then (if w = (-2147483648) then (-1) else 98304 + nI c) else u.ar 2 i := by
  unfold zgive
  refine (zua_at _ _ _ _).trans ?_
  by_cases e : i = 4096 * (24 + b) + c
  · rw [if_pos e, e, pk_us]
  · rw [if_neg e, pk_un e]
theorem zgive_o (w : Int32) (c : Nat) : zcell w (if w = (-2147483648) then (-1) else 98304 + nI c) = zcell w (nI (98304 + c)) := by
  unfold zcell
  by_cases e : w = (-2147483648)
  · rw [if_pos e, if_pos e]
  · rw [if_neg e, if_neg e, if_neg e, show (98304 : Int32) = nI 98304 from rfl, nI_add]
theorem zCr.give {f : Nat → Int64} {u : zU} {b : Nat} (h : zCr f u (24 + b)) (i : Nat) (w : Int32) : zCr (vp_updL f i (zcell w (nI (98304 + i)))) (zgive u b i w) (24 + b) := fun k hk => by
  rw [zgive_1, zgive_2]
  by_cases e : k = i
  · subst e
    rw [pk_uLs, if_pos rfl, if_pos rfl, zgive_o]
  · rw [pk_uLn e, if_neg (by omega), if_neg (by omega)]
    exact h k hk
theorem zvo_give (w : Int32) {c : Nat} (hc : c < 4096) : zvo w (if w = (-2147483648) then (-1) else 98304 + nI c) := by
  by_cases e : w = (-2147483648)
  · rw [if_pos e]
    exact Or.inl ⟨e, rfl⟩
  · rw [if_neg e, show (98304 : Int32) = nI 98304 from rfl, nI_add]
    exact Or.inr ⟨e, _, rfl, by omega⟩
theorem zIv.give {u : zU} (h : zIv u) (b : Nat) {i : Nat} (hi : i < 4096) (w : Int32) : zIv (zgive u b i w) := fun j hj => by
  rw [zgive_1, zgive_2]
  by_cases e : j = 4096 * (24 + b) + i
  · rw [if_pos e, if_pos e]
    exact zvo_give w hi
  · rw [if_neg e, if_neg e]
    exact h j hj
