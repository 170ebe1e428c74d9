/-! steps of the class beside steps of the reference -/
/-- a chain of entries, from the last to the first -/
def zmapI (F : Nat → Int32) (x : Int32) (k : Nat) (r : Int32) : Int32 := if F (7 - k) = x then 7 - nI k else r
def zmapS (F T : Nat → Int32) (x : Int32) (j : Nat) (_ : Unit) : Unit ⊕ Int32 := if F j = x then .inr (T j) else .inl ()
theorem zmap_eq (F T : Nat → Int32) (x : Int32) : (8 ≤ zfor 8 (zmapI F x) 8 ∧ zsel (zfor 8 (zstp (zmapS F T x)) (.inl ())) (fun _ => x) = x) ∨ (¬ 8 ≤ zfor 8 (zmapI F x) 8 ∧ zsel (zfor 8 (zstp (zmapS F T x)) (.inl ())) (fun _ => x) = T (zfor 8 (zmapI F x) 8).toNatClampNeg) := by
  have e1 : zfor 8 (zmapI F x) 8 = if F 0 = x then 0 else if F 1 = x then 1 else if F 2 = x then 2 else if F 3 = x then 3 else if F 4 = x then 4 else if F 5 = x then 5 else if F 6 = x then 6 else if F 7 = x then 7 else 8 := rfl
  have e2 : ∀ j s, zstp (zmapS F T x) j s = match s with | .inl _ => (if F j = x then .inr (T j) else .inl ()) | .inr r => .inr r := fun j s => by cases s <;> rfl
  have r0 : ∀ (j : Nat) (r : Int32), zstp (zmapS F T x) j (.inr r) = .inr r := fun _ _ => rfl
  have rl : ∀ (j : Nat) (s : Unit), zstp (zmapS F T x) j (.inl s) = if F j = x then .inr (T j) else .inl () := fun _ _ => rfl
  have z8 : zfor 8 (zstp (zmapS F T x)) (.inl ()) = if F 0 = x then .inr (T 0) else if F 1 = x then .inr (T 1) else if F 2 = x then .inr (T 2) else if F 3 = x then .inr (T 3) else if F 4 = x then .inr (T 4) else if F 5 = x then .inr (T 5) else if F 6 = x then .inr (T 6) else if F 7 = x then .inr (T 7) else .inl () := by
    rw [zfor_s 7, zfor_s 6, zfor_s 5, zfor_s 4, zfor_s 3, zfor_s 2, zfor_s 1, zfor_s 0, zfor_0, rl]
    by_cases h0 : F 0 = x
    · rw [if_pos h0, if_pos h0, r0, r0, r0, r0, r0, r0, r0]
    rw [if_neg h0, if_neg h0, rl]
    by_cases h1 : F 1 = x
    · rw [if_pos h1, if_pos h1, r0, r0, r0, r0, r0, r0]
    rw [if_neg h1, if_neg h1, rl]
    by_cases h2 : F 2 = x
    · rw [if_pos h2, if_pos h2, r0, r0, r0, r0, r0]
    rw [if_neg h2, if_neg h2, rl]
    by_cases h3 : F 3 = x
    · rw [if_pos h3, if_pos h3, r0, r0, r0, r0]
    rw [if_neg h3, if_neg h3, rl]
    by_cases h4 : F 4 = x
    · rw [if_pos h4, if_pos h4, r0, r0, r0]
    rw [if_neg h4, if_neg h4, rl]
    by_cases h5 : F 5 = x
    · rw [if_pos h5, if_pos h5, r0, r0]
    rw [if_neg h5, if_neg h5, rl]
    by_cases h6 : F 6 = x
    · rw [if_pos h6, if_pos h6, r0]
    rw [if_neg h6, if_neg h6, rl]
  rw [e1, z8]
  by_cases h0 : F 0 = x
  · rw [if_pos h0, if_pos h0]; exact Or.inr ⟨by decide, rfl⟩
  rw [if_neg h0, if_neg h0]
  by_cases h1 : F 1 = x
  · rw [if_pos h1, if_pos h1]; exact Or.inr ⟨by decide, rfl⟩
  rw [if_neg h1, if_neg h1]
  by_cases h2 : F 2 = x
  · rw [if_pos h2, if_pos h2]; exact Or.inr ⟨by decide, rfl⟩
  rw [if_neg h2, if_neg h2]
  by_cases h3 : F 3 = x
  · rw [if_pos h3, if_pos h3]; exact Or.inr ⟨by decide, rfl⟩
  rw [if_neg h3, if_neg h3]
  by_cases h4 : F 4 = x
  · rw [if_pos h4, if_pos h4]; exact Or.inr ⟨by decide, rfl⟩
  rw [if_neg h4, if_neg h4]
  by_cases h5 : F 5 = x
  · rw [if_pos h5, if_pos h5]; exact Or.inr ⟨by decide, rfl⟩
  rw [if_neg h5, if_neg h5]
  by_cases h6 : F 6 = x
  · rw [if_pos h6, if_pos h6]; exact Or.inr ⟨by decide, rfl⟩
  rw [if_neg h6, if_neg h6]
  by_cases h7 : F 7 = x
  · rw [if_pos h7, if_pos h7]; exact Or.inr ⟨by decide, rfl⟩
  rw [if_neg h7, if_neg h7]
  exact Or.inl ⟨by decide, rfl⟩
/-- two values combined -/
def zcmb (V S w : Int32) : Int32 := if S = (-2147483648) then V else if V = (-2147483648) then S else if w = 0 then zmax (-1000000) (zmin 1000000 (V + S)) else if w = 1 then zmax V S else zmin V S
theorem zmax_le {V S : Int32} (h : V ≤ S) : zmax V S = S := by
  unfold zmax
  by_cases e : V < S
  · rw [if_pos e]
  · rw [if_neg e]
    exact Int32.le_antisymm h (Int32.not_lt.mp e)
theorem zmax_nle {V S : Int32} (h : ¬ V ≤ S) : zmax V S = V := by
  unfold zmax
  rw [if_neg (fun q => h (Int32.le_of_lt q))]
theorem zmin_le {V S : Int32} (h : S ≤ V) : zmin V S = S := by
  unfold zmin
  by_cases e : S < V
  · rw [if_pos e]
  · rw [if_neg e]
    exact Int32.le_antisymm (Int32.not_lt.mp e) h
theorem zmin_nle {V S : Int32} (h : ¬ S ≤ V) : zmin V S = V := by
  unfold zmin
  rw [if_neg (fun q => h (Int32.le_of_lt q))]
theorem zcmb_eq {α : Type} (t : α) (g : Int32 → α) (V S w : Int32) : (if S = (-2147483648) then t else if (V + S) ≤ 1000000 then if (-1000000) ≤ (V + S) then if V = (-2147483648) then if S = V then t else (g S) else if w = 0 then if (V + S) = V then t else (g (V + S)) else if w = 1 then if V ≤ S then if S = V then t else (g S) else if V = V then t else (g V) else if S ≤ V then if S = V then t else (g S) else if V = V then t else (g V) else if V = (-2147483648) then if S = V then t else (g S) else if w = 0 then if (-1000000) = V then t else (g (-1000000)) else if w = 1 then if V ≤ S then if S = V then t else (g S) else if V = V then t else (g V) else if S ≤ V then if S = V then t else (g S) else if V = V then t else (g V) else if V = (-2147483648) then if S = V then t else (g S) else if w = 0 then if 1000000 = V then t else (g 1000000) else if w = 1 then if V ≤ S then if S = V then t else (g S) else if V = V then t else (g V) else if S ≤ V then if S = V then t else (g S) else if V = V then t else (g V)) = if zcmb V S w = V then t else g (zcmb V S w) := by
  have kk : ∀ (c : Int32), (if c = V then t else g c) = if c = V then t else g c := fun _ => rfl
  unfold zcmb
  by_cases hS : S = (-2147483648)
  · rw [if_pos hS, if_pos hS, if_pos rfl]
  rw [if_neg hS, if_neg hS]
  by_cases hV : V = (-2147483648)
  · rw [if_pos hV, if_pos hV, if_pos hV, if_pos hV]
    by_cases a1 : V + S ≤ 1000000
    · rw [if_pos a1]
      by_cases a2 : (-1000000) ≤ V + S
      · rw [if_pos a2]
      · rw [if_neg a2]
    · rw [if_neg a1]
  rw [if_neg hV, if_neg hV, if_neg hV, if_neg hV]
  by_cases h0 : w = 0
  · rw [if_pos h0, if_pos h0, if_pos h0, if_pos h0]
    by_cases a1 : V + S ≤ 1000000
    · rw [if_pos a1, zmin_le a1]
      by_cases a2 : (-1000000) ≤ V + S
      · rw [if_pos a2, zmax_le a2]
      · rw [if_neg a2, zmax_nle a2]
    · rw [if_neg a1, zmin_nle a1, zmax_le (by decide)]
  rw [if_neg h0, if_neg h0, if_neg h0, if_neg h0]
  have key : ∀ (x : α), (if V + S ≤ 1000000 then if (-1000000) ≤ V + S then x else x else x) = x := fun x => by
    by_cases a1 : V + S ≤ 1000000
    · rw [if_pos a1]
      by_cases a2 : (-1000000) ≤ V + S
      · rw [if_pos a2]
      · rw [if_neg a2]
    · rw [if_neg a1]
  rw [key]
  by_cases h1 : w = 1
  · rw [if_pos h1, if_pos h1]
    by_cases a1 : V ≤ S
    · rw [if_pos a1, zmax_le a1]
    · rw [if_neg a1, zmax_nle a1]
  · rw [if_neg h1, if_neg h1]
    by_cases a1 : S ≤ V
    · rw [if_pos a1, zmin_le a1]
    · rw [if_neg a1, zmin_nle a1]
/-- a side of the polygon, right of a point: what the class asks of the side from low to high -/
def zr4 (lx ly hx hy x y : Int32) : Int32 := if y < 2 * ly then 0 else if 2 * hy ≤ y then 0 else if (y - 2 * ly) * (2 * hx - 2 * lx) ≤ (x - 2 * lx) * (2 * hy - 2 * ly) then 0 else 1
def zrt (X Y : Nat → Int32) (i j : Nat) (x y : Int32) : Int32 := if Y i ≤ Y j then zr4 (X i) (Y i) (X j) (Y j) x y else zr4 (X j) (Y j) (X i) (Y i) x y
theorem zoi (a : Nat) : nI a = Int32.ofInt a := by
  unfold nI
  exact (Int32.ofInt_eq_ofNat (n := a)).symm
def zi31 (a : Int) : Prop := -2147483648 ≤ a ∧ a ≤ 2147483647
theorem zoile {a b : Int} (ha : zi31 a) (hb : zi31 b) : Int32.ofInt a ≤ Int32.ofInt b ↔ a ≤ b := Int32.ofInt_le_iff_le ha.1 ha.2 hb.1 hb.2
theorem zoilt {a b : Int} (ha : zi31 a) (hb : zi31 b) : Int32.ofInt a < Int32.ofInt b ↔ a < b := Int32.ofInt_lt_iff_lt ha.1 ha.2 hb.1 hb.2
theorem zmulb {a b : Int} {A B : Nat} (ha : a.natAbs ≤ A) (hb : b.natAbs ≤ B) : (a * b).natAbs ≤ A * B := by
  rw [Int.natAbs_mul]
  exact Nat.mul_le_mul ha hb
theorem zr4_eq {lx ly hx hy x y : Int} (h1 : 0 ≤ lx ∧ lx ≤ 32) (h2 : 0 ≤ ly ∧ ly ≤ 32) (h3 : 0 ≤ hx ∧ hx ≤ 32) (h4 : 0 ≤ hy ∧ hy ≤ 32) (h5 : 0 ≤ x ∧ x ≤ 64) (h6 : 0 ≤ y ∧ y ≤ 64) : zr4 (Int32.ofInt lx) (Int32.ofInt ly) (Int32.ofInt hx) (Int32.ofInt hy) (Int32.ofInt x) (Int32.ofInt y) = if y < 2 * ly then 0 else if 2 * hy ≤ y then 0 else if (y - 2 * ly) * (2 * hx - 2 * lx) ≤ (x - 2 * lx) * (2 * hy - 2 * ly) then 0 else 1 := by
  unfold zr4
  have p1 : ((y - 2 * ly) * (2 * hx - 2 * lx)).natAbs ≤ 64 * 64 := zmulb (by omega) (by omega)
  have p2 : ((x - 2 * lx) * (2 * hy - 2 * ly)).natAbs ≤ 64 * 64 := zmulb (by omega) (by omega)
  have c1 : (Int32.ofInt y < 2 * Int32.ofInt ly) ↔ y < 2 * ly := by
    rw [show (2 : Int32) = Int32.ofInt 2 from rfl, ← Int32.ofInt_mul]
    exact zoilt ⟨by omega, by omega⟩ ⟨by omega, by omega⟩
  have c2 : (2 * Int32.ofInt hy ≤ Int32.ofInt y) ↔ 2 * hy ≤ y := by
    rw [show (2 : Int32) = Int32.ofInt 2 from rfl, ← Int32.ofInt_mul]
    exact zoile ⟨by omega, by omega⟩ ⟨by omega, by omega⟩
  have c3 : ((Int32.ofInt y - 2 * Int32.ofInt ly) * (2 * Int32.ofInt hx - 2 * Int32.ofInt lx) ≤ (Int32.ofInt x - 2 * Int32.ofInt lx) * (2 * Int32.ofInt hy - 2 * Int32.ofInt ly)) ↔ (y - 2 * ly) * (2 * hx - 2 * lx) ≤ (x - 2 * lx) * (2 * hy - 2 * ly) := by
    rw [show (2 : Int32) = Int32.ofInt 2 from rfl, ← Int32.ofInt_mul, ← Int32.ofInt_mul, ← Int32.ofInt_mul, ← Int32.ofInt_mul, ← Int32.ofInt_sub, ← Int32.ofInt_sub, ← Int32.ofInt_sub, ← Int32.ofInt_sub, ← Int32.ofInt_mul, ← Int32.ofInt_mul]
    generalize (y - 2 * ly) * (2 * hx - 2 * lx) = P at *
    generalize (x - 2 * lx) * (2 * hy - 2 * ly) = Q at *
    exact zoile ⟨by omega, by omega⟩ ⟨by omega, by omega⟩
  simp only [c1, c2, c3]
theorem zmeet (u : zU) {i j : Nat} (hi : i < 6) (hj : j < 6) {a b c d x y : Nat} (ha : a ≤ 32) (hb : b ≤ 32) (hc : c ≤ 32) (hd : d ≤ 32) (hx : x < 32) (hy : y < 32) (e1 : u.ar 20 i = nI a) (e2 : u.ar 20 j = nI b) (e3 : u.ar 21 i = nI c) (e4 : u.ar 21 j = nI d) : s_M_meets u (nI i) (nI j) (nI x) (nI y) = zrt (u.ar 20) (u.ar 21) i j (nI (2 * x + 1)) (nI (2 * y + 1)) := by
  unfold s_M_meets zrt
  rw [nI_clamp (show i < 2 ^ 31 by omega), nI_clamp (show j < 2 ^ 31 by omega), e1, e2, e3, e4]
  rw [zoi a, zoi b, zoi c, zoi d, zoi x, zoi y, zoi (2 * x + 1), zoi (2 * y + 1)]
  rw [show ((2 * x + 1 : Nat) : Int) = 2 * (x : Int) + 1 by omega, show ((2 * y + 1 : Nat) : Int) = 2 * (y : Int) + 1 by omega]
  have Ha : 0 ≤ (a : Int) ∧ (a : Int) ≤ 32 := by omega
  have Hb : 0 ≤ (b : Int) ∧ (b : Int) ≤ 32 := by omega
  have Hc : 0 ≤ (c : Int) ∧ (c : Int) ≤ 32 := by omega
  have Hd : 0 ≤ (d : Int) ∧ (d : Int) ≤ 32 := by omega
  have Hx : 0 ≤ (x : Int) ∧ (x : Int) < 32 := by omega
  have Hy : 0 ≤ (y : Int) ∧ (y : Int) < 32 := by omega
  generalize (a : Int) = A at *
  generalize (b : Int) = B at *
  generalize (c : Int) = C at *
  generalize (d : Int) = D at *
  generalize (x : Int) = x at *
  generalize (y : Int) = y at *
  rw [zr4_eq Ha Hc Hb Hd ⟨by omega, by omega⟩ ⟨by omega, by omega⟩, zr4_eq Hb Hd Ha Hc ⟨by omega, by omega⟩ ⟨by omega, by omega⟩]
  have yi : 2 * (Int32.ofInt C - Int32.ofInt y) - 1 = Int32.ofInt (2 * (C - y) - 1) := by rw [Int32.ofInt_sub, Int32.ofInt_mul, Int32.ofInt_sub]; rfl
  have yj : 2 * (Int32.ofInt D - Int32.ofInt y) - 1 = Int32.ofInt (2 * (D - y) - 1) := by rw [Int32.ofInt_sub, Int32.ofInt_mul, Int32.ofInt_sub]; rfl
  have nm : 2 * Int32.ofInt A * (Int32.ofInt (2 * (C - y) - 1) - Int32.ofInt (2 * (D - y) - 1)) + 2 * (Int32.ofInt B - Int32.ofInt A) * Int32.ofInt (2 * (C - y) - 1) - (2 * Int32.ofInt x + 1) * (Int32.ofInt (2 * (C - y) - 1) - Int32.ofInt (2 * (D - y) - 1)) = Int32.ofInt (2 * A * (2 * (C - y) - 1 - (2 * (D - y) - 1)) + 2 * (B - A) * (2 * (C - y) - 1) - (2 * x + 1) * (2 * (C - y) - 1 - (2 * (D - y) - 1))) := by
    rw [← Int32.ofInt_sub, show (2 : Int32) = Int32.ofInt 2 from rfl, show (1 : Int32) = Int32.ofInt 1 from rfl, ← Int32.ofInt_sub, ← Int32.ofInt_mul, ← Int32.ofInt_mul, ← Int32.ofInt_mul, ← Int32.ofInt_mul, ← Int32.ofInt_mul, ← Int32.ofInt_add, ← Int32.ofInt_add, ← Int32.ofInt_mul, ← Int32.ofInt_sub]
  rw [yi, yj, nm, show (0 : Int32) = Int32.ofInt 0 from rfl, ← Int32.ofInt_sub]
  have q1 : (2 * A * (2 * (C - y) - 1 - (2 * (D - y) - 1))).natAbs ≤ 64 * 64 := zmulb (by omega) (by omega)
  have q2 : (2 * (B - A) * (2 * (C - y) - 1)).natAbs ≤ 64 * 65 := zmulb (by omega) (by omega)
  have q3 : ((2 * x + 1) * (2 * (C - y) - 1 - (2 * (D - y) - 1))).natAbs ≤ 64 * 64 := zmulb (by omega) (by omega)
  have f1 : (2 * A * (2 * (C - y) - 1 - (2 * (D - y) - 1)) + 2 * (B - A) * (2 * (C - y) - 1) - (2 * x + 1) * (2 * (C - y) - 1 - (2 * (D - y) - 1)) < 0) ↔ (2 * x + 1 - 2 * A) * (2 * D - 2 * C) < (2 * y + 1 - 2 * C) * (2 * B - 2 * A) := by grind
  have f2 : (0 < 2 * A * (2 * (C - y) - 1 - (2 * (D - y) - 1)) + 2 * (B - A) * (2 * (C - y) - 1) - (2 * x + 1) * (2 * (C - y) - 1 - (2 * (D - y) - 1))) ↔ (2 * x + 1 - 2 * B) * (2 * C - 2 * D) < (2 * y + 1 - 2 * D) * (2 * A - 2 * B) := by grind
  have b1 : zi31 (2 * A * (2 * (C - y) - 1 - (2 * (D - y) - 1)) + 2 * (B - A) * (2 * (C - y) - 1) - (2 * x + 1) * (2 * (C - y) - 1 - (2 * (D - y) - 1))) := by
    generalize 2 * A * (2 * (C - y) - 1 - (2 * (D - y) - 1)) = P at *
    generalize 2 * (B - A) * (2 * (C - y) - 1) = Q at *
    generalize (2 * x + 1) * (2 * (C - y) - 1 - (2 * (D - y) - 1)) = R at *
    exact ⟨by omega, by omega⟩
  generalize 2 * A * (2 * (C - y) - 1 - (2 * (D - y) - 1)) + 2 * (B - A) * (2 * (C - y) - 1) - (2 * x + 1) * (2 * (C - y) - 1 - (2 * (D - y) - 1)) = N at *
  generalize (2 * x + 1 - 2 * A) * (2 * D - 2 * C) = L1 at *
  generalize (2 * y + 1 - 2 * C) * (2 * B - 2 * A) = R1 at *
  generalize (2 * x + 1 - 2 * B) * (2 * C - 2 * D) = L2 at *
  generalize (2 * y + 1 - 2 * D) * (2 * A - 2 * B) = R2 at *
  have z0 : zi31 0 := ⟨by omega, by omega⟩
  have g1 : zi31 (2 * (C - y) - 1) := ⟨by omega, by omega⟩
  have g2 : zi31 (2 * (D - y) - 1) := ⟨by omega, by omega⟩
  have g3 : zi31 (2 * (C - y) - 1 - (2 * (D - y) - 1)) := ⟨by omega, by omega⟩
  have g4 : zi31 C := ⟨by omega, by omega⟩
  have g5 : zi31 D := ⟨by omega, by omega⟩
  simp only [zoile g1 z0, zoile g2 z0, zoile g3 z0, zoile z0 b1, zoile b1 z0, zoile g4 g5]
  by_cases k1 : 2 * (C - y) - 1 ≤ 0
  · rw [if_pos k1]
    by_cases k2 : 2 * (D - y) - 1 ≤ 0
    · rw [if_pos k2]
      by_cases k3 : C ≤ D
      · rw [if_pos k3, if_neg (show ¬ 2 * y + 1 < 2 * C by omega), if_pos (show 2 * D ≤ 2 * y + 1 by omega)]
      · rw [if_neg k3, if_neg (show ¬ 2 * y + 1 < 2 * D by omega), if_pos (show 2 * C ≤ 2 * y + 1 by omega)]
    · rw [if_neg k2, if_pos (show 2 * (C - y) - 1 - (2 * (D - y) - 1) ≤ 0 by omega), if_pos (show C ≤ D by omega), if_neg (show ¬ 2 * y + 1 < 2 * C by omega), if_neg (show ¬ 2 * D ≤ 2 * y + 1 by omega)]
      by_cases k4 : 0 ≤ N
      · rw [if_pos k4, if_pos (show R1 ≤ L1 by omega)]
      · rw [if_neg k4, if_neg (show ¬ R1 ≤ L1 by omega)]
  · rw [if_neg k1]
    by_cases k2 : 2 * (D - y) - 1 ≤ 0
    · rw [if_pos k2, if_neg (show ¬ 2 * (C - y) - 1 - (2 * (D - y) - 1) ≤ 0 by omega), if_neg (show ¬ C ≤ D by omega), if_neg (show ¬ 2 * y + 1 < 2 * D by omega), if_neg (show ¬ 2 * C ≤ 2 * y + 1 by omega)]
      by_cases k4 : N ≤ 0
      · rw [if_pos k4, if_pos (show R2 ≤ L2 by omega)]
      · rw [if_neg k4, if_neg (show ¬ R2 ≤ L2 by omega)]
    · rw [if_neg k2]
      by_cases k3 : C ≤ D
      · rw [if_pos k3, if_pos (show 2 * y + 1 < 2 * C by omega)]
      · rw [if_neg k3, if_pos (show 2 * y + 1 < 2 * D by omega)]
/-- inside: the sides counted, or turned over and over -/
def zinS (X Y : Nat → Int32) (n : Nat) (x y : Int32) (k : Nat) (s : Int32) : Int32 := if zrt X Y k ((k + 1) % n) x y = 0 then s else if s = 0 then 1 else 0
theorem z2 (m : Nat) (h : m < 2 ^ 30) : (nI m - nI m / 2 * 2 = 1) ↔ nI (m % 2) = 1 := by
  rw [show (2 : Int32) = nI 2 from rfl, pk_rem (by omega) (by decide) (by decide)]
theorem zins (t : zU) {n j i : Nat} (hn1 : 3 ≤ n) (hn : n ≤ 6) (hi : i < 32) (hj : j < 32) (hc : ∀ k, k < 6 → ∃ a b, a ≤ 32 ∧ b ≤ 32 ∧ t.ar 20 k = nI a ∧ t.ar 21 k = nI b) : ∀ k, k ≤ n → ∃ m, m ≤ k ∧ zfor k (st_M_polygon_i t n j i) 0 = nI m ∧ zfor k (zinS (t.ar 20) (t.ar 21) n (nI (2 * i + 1)) (nI (2 * j + 1))) 0 = nI (m % 2) := by
  intro k
  induction k with
  | zero => intro _; exact ⟨0, Nat.le_refl _, rfl, rfl⟩
  | succ k ih =>
    intro hk
    obtain ⟨m, h1, h2, h3⟩ := ih (by omega)
    have hm : (k + 1) % n < 6 := Nat.lt_of_lt_of_le (Nat.mod_lt _ (by omega)) hn
    obtain ⟨a, c, a1, a2, a3, a4⟩ := hc k (by omega)
    obtain ⟨b, d, b1, b2, b3, b4⟩ := hc _ hm
    rw [zfor_s, zfor_s, h2, h3]
    unfold st_M_polygon_i zinS
    rw [zmeet t (by omega) hm a1 b1 a2 b2 hi hj a3 b3 a4 b4]
    by_cases e : zrt (t.ar 20) (t.ar 21) k ((k + 1) % n) (nI (2 * i + 1)) (nI (2 * j + 1)) = 0
    · rw [if_pos e, if_pos e]
      exact ⟨m, by omega, by rw [show (0 : Int32) = nI 0 from rfl, nI_add]; rfl, rfl⟩
    · rw [if_neg e, if_neg e]
      refine ⟨m + 1, by omega, by rw [show (1 : Int32) = nI 1 from rfl, nI_add], ?_⟩
      rcases Nat.mod_two_eq_zero_or_one m with q | q
      · rw [q, if_pos (show nI 0 = 0 from rfl), show (m + 1) % 2 = 1 by omega]; rfl
      · rw [q, if_neg (show ¬ nI 1 = 0 by decide), show (m + 1) % 2 = 0 by omega]; rfl
/-! a merge, cell by cell -/
theorem zmg_tree {α : Type} (s T N TN : α) (A B C : Prop) [Decidable A] [Decidable B] [Decidable C] (K : Int32) (P Q R : Prop) [Decidable P] [Decidable Q] [Decidable R] :
    (if A then s else if B then s else if C then T else if K = 1 then if P then if K = 0 then TN else T else if K = 2 then if Q then if K = 0 then TN else T else if K = 3 then if R then if K = 0 then N else s else if K = 0 then TN else T else if K = 0 then N else s else if K = 3 then if R then if K = 0 then N else s else if K = 0 then TN else T else if K = 0 then N else s else if K = 2 then if Q then if K = 0 then TN else T else if K = 3 then if R then if K = 0 then N else s else if K = 0 then TN else T else if K = 0 then N else s else if K = 3 then if R then if K = 0 then N else s else if K = 0 then TN else T else if K = 0 then N else s) =
    if A then s else if B then s else if C then T else if K = 0 then N else if (K = 1 ∧ P) ∨ (K = 2 ∧ Q) ∨ (K = 3 ∧ ¬ R) then T else s := by
  by_cases hA : A
  · rw [if_pos hA, if_pos hA]
  rw [if_neg hA, if_neg hA]
  by_cases hB : B
  · rw [if_pos hB, if_pos hB]
  rw [if_neg hB, if_neg hB]
  by_cases hC : C
  · rw [if_pos hC, if_pos hC]
  rw [if_neg hC, if_neg hC]
  by_cases k0 : K = 0
  · subst k0
    simp only [show ¬ (0 : Int32) = 1 by decide, show ¬ (0 : Int32) = 2 by decide, show ¬ (0 : Int32) = 3 by decide, if_false, if_true]
  · by_cases k1 : K = 1
    · subst k1
      simp only [show ¬ (1 : Int32) = 0 by decide, show ¬ (1 : Int32) = 2 by decide, show ¬ (1 : Int32) = 3 by decide, if_false, if_true, true_and, false_and, or_false]
    · by_cases k2 : K = 2
      · subst k2
        simp only [show ¬ (2 : Int32) = 0 by decide, show ¬ (2 : Int32) = 1 by decide, show ¬ (2 : Int32) = 3 by decide, if_false, if_true, true_and, false_and, or_false, false_or]
      · by_cases k3 : K = 3
        · subst k3
          simp only [show ¬ (3 : Int32) = 0 by decide, show ¬ (3 : Int32) = 1 by decide, show ¬ (3 : Int32) = 2 by decide, if_false, if_true, true_and, false_and, false_or]
          by_cases hR : R
          · rw [if_pos hR, if_neg (not_not_intro hR)]
          · rw [if_neg hR, if_pos hR]
        · simp only [k0, k1, k2, k3, if_false, false_and, or_false]
theorem zmg_eq (p c j : Nat) (s : zU) : st_M_merge p c j s = if s.ar 1 (4096 * (24 + p) + j) = s.ar 1 (4096 * c + j) then s else if s.ar 1 (4096 * c + j) = s.ar 26 j then s else if s.ar 1 (4096 * (24 + p) + j) = s.ar 26 j then zset1 s p j (s.ar 1 (4096 * c + j)) (s.ar 2 (4096 * c + j)) else if s.ar 3 (j / 1024) = 0 then znote s p (nI j) (s.ar 1 (4096 * (24 + p) + j)) (s.ar 1 (4096 * c + j)) (s.ar 26 j) (s.ar 14 p).toNatClampNeg else if (s.ar 3 (j / 1024) = 1 ∧ s.ar 1 (4096 * (24 + p) + j) < s.ar 1 (4096 * c + j)) ∨ (s.ar 3 (j / 1024) = 2 ∧ s.ar 1 (4096 * c + j) < s.ar 1 (4096 * (24 + p) + j)) ∨ (s.ar 3 (j / 1024) = 3 ∧ ¬ s_M_madeIn s (4096 * c + j) ≤ s_M_madeIn s (4096 * (24 + p) + j)) then zset1 s p j (s.ar 1 (4096 * c + j)) (s.ar 2 (4096 * c + j)) else s :=
  zmg_tree s (zset1 s p j (s.ar 1 (4096 * c + j)) (s.ar 2 (4096 * c + j))) (znote s p (nI j) (s.ar 1 (4096 * (24 + p) + j)) (s.ar 1 (4096 * c + j)) (s.ar 26 j) (s.ar 14 p).toNatClampNeg) _ _ _ _ _ _ _ _
/-- what the class asks of two cells -/
def zow (k : Int32) (m o : Int64) : Int32 := if k = 1 then (if s_S_valueOf o ≤ s_S_valueOf m then 0 else 1) else if k = 2 then (if s_S_valueOf m ≤ s_S_valueOf o then 0 else 1) else if k = 3 then (if s_S_originCommitOf o ≤ s_S_originCommitOf m then 0 else 1) else 0
/-- the commits two cells come from, compared -/
theorem zmade {s : zU} {i j : Nat} (hi : zvo (s.ar 1 i) (s.ar 2 i)) (hj : zvo (s.ar 1 j) (s.ar 2 j)) (hn : ¬ s.ar 1 i = s.ar 1 j) : (s_M_madeIn s i ≤ s_M_madeIn s j) ↔ s_S_originCommitOf (zcell (s.ar 1 i) (s.ar 2 i)) ≤ s_S_originCommitOf (zcell (s.ar 1 j) (s.ar 2 j)) := by
  have mE : ∀ k, s.ar 2 k = (-1) → s_M_madeIn s k = (-1) := fun k e => by
    unfold s_M_madeIn; rw [e]; rfl
  have mN : ∀ k n, s.ar 2 k = nI n → n < 102400 → s_M_madeIn s k = nI (n / 4096) := fun k n e hn => by
    unfold s_M_madeIn
    rw [e, if_pos (nI_pos' (by omega)), show (4096 : Int32) = nI 4096 from rfl, pk_div (by omega) (by decide) (by decide)]
  rcases hi with ⟨a1, a2⟩ | ⟨a1, n, a2, a3⟩
  · rcases hj with ⟨b1, b2⟩ | ⟨b1, m, b2, b3⟩
    · exact absurd (a1.trans b1.symm) hn
    · rw [mE i a2, mN j m b2 b3, a1, zcell_E, zoc_E, b2, zoc_N b1 b3]
      have h0 : (0 : Int32) ≤ nI (m / 4096) := nI_pos' (by omega)
      exact ⟨fun _ => Int32.le_trans (by decide) h0, fun _ => Int32.le_trans (by decide) h0⟩
  · rcases hj with ⟨b1, b2⟩ | ⟨b1, m, b2, b3⟩
    · rw [mE j b2, mN i n a2 a3, b1, zcell_E, zoc_E, a2, zoc_N a1 a3]
      have h0 : (0 : Int32) ≤ nI (n / 4096) := nI_pos' (by omega)
      exact ⟨fun q => absurd (Int32.le_trans h0 q) (by decide), fun q => absurd (Int32.le_trans h0 q) (by decide)⟩
    · rw [mN i n a2 a3, mN j m b2 b3, a2, b2, zoc_N a1 a3, zoc_N b1 b3]
/-- the merge under way: e conflicts so far -/
def zMg (p : Nat) (u s : zU) (f : Nat → Int64) (N : Nat → Nat → Int32) (e j : Nat) : Prop := s.2.1 = u.2.1 ∧ (∀ k, k ≠ 1 → k ≠ 2 → ¬ (10 ≤ k ∧ k < 16) → s.ar k = u.ar k) ∧ (∀ i, ¬ (4096 * (24 + p) ≤ i ∧ i < 4096 * (24 + p) + 4096) → s.ar 1 i = u.ar 1 i ∧ s.ar 2 i = u.ar 2 i) ∧ zIv s ∧ zCr f s (24 + p) ∧ s.ar 14 p = nI e ∧ e ≤ j ∧ (∀ b, b ≠ p → s.ar 14 b = u.ar 14 b) ∧ (∀ k, k ≠ 14 → ∀ i, ¬ (4096 * p ≤ i ∧ i < 4096 * p + 4096) → 10 ≤ k → k < 16 → s.ar k i = u.ar k i) ∧
  ∀ k, k < e → N 10 k = s.ar 10 (4096 * p + k) ∧ (∃ ct, ct < 4096 ∧ s.ar 10 (4096 * p + k) = nI ct) ∧ N 11 k = s.ar 11 (4096 * p + k) ∧ N 12 k = s.ar 12 (4096 * p + k) ∧ N 13 k = s.ar 13 (4096 * p + k) ∧ N 14 k = s.ar 15 (4096 * p + k) ∧ s.ar 15 (4096 * p + k) = 0
theorem zMg.skip {p : Nat} {u s : zU} {f : Nat → Int64} {N : Nat → Nat → Int32} {e j : Nat} (h : zMg p u s f N e j) : zMg p u s f N e (j + 1) := by
  obtain ⟨h1, h2, h3, h4, h5, h6, h7, h8⟩ := h
  exact ⟨h1, h2, h3, h4, h5, h6, by omega, h8⟩
theorem zMg.take {p : Nat} {u s : zU} {f : Nat → Int64} {N : Nat → Nat → Int32} {e j : Nat} (h : zMg p u s f N e j) (hj : j < 4096) {v o : Int32} (ho : zvo v o) : zMg p u (zset1 s p j v o) (vp_updL f j (zcell v o)) N e (j + 1) := by
  obtain ⟨h1, h2, h3, h4, h5, h6, h7, h8, h9, h10⟩ := h
  have hE : zEe p s s f := zEe.of h4 h5
  obtain ⟨⟨g1, g2, g3, g4⟩, g5⟩ := hE.put hj ho
  refine ⟨h1, fun k k1 k2 k3 => (zset1_n _ _ _ _ _ k1 k2).trans (h2 k k1 k2 k3), fun i hi => ⟨(g3 i hi).1.trans (h3 i hi).1, (g3 i hi).2.trans (h3 i hi).2⟩, g4, g5, ?_, by omega, fun b hb => ?_, fun k k1 i hi k2 k3 => ?_, fun k hk => ?_⟩
  · rw [zset1_n _ _ _ _ _ (by decide) (by decide)]; exact h6
  · rw [zset1_n _ _ _ _ _ (by decide) (by decide)]; exact h8 b hb
  · rw [zset1_n _ _ _ _ _ (by omega) (by omega)]; exact h9 k k1 i hi k2 k3
  · rw [zset1_n _ _ _ _ _ (by decide) (by decide), zset1_n _ _ _ _ _ (by decide) (by decide), zset1_n _ _ _ _ _ (by decide) (by decide), zset1_n _ _ _ _ _ (by decide) (by decide), zset1_n _ _ _ _ _ (by decide) (by decide)]
    exact h10 k hk
theorem znote_n (u : zU) (b : Nat) (c x y z : Int32) (e : Nat) {k : Nat} (h : ¬ (10 ≤ k ∧ k < 16)) : (znote u b c x y z e).ar k = u.ar k := by
  unfold znote
  exact (zuaj _ _ (by omega)).trans ((zuaj _ _ (by omega)).trans ((zuaj _ _ (by omega)).trans ((zuaj _ _ (by omega)).trans ((zuaj _ _ (by omega)).trans (zuaj _ _ (by omega))))))
theorem zuas (u : zU) (j : Nat) (f : Nat → Int32) : (zua u j f).2.2 j = f := va_up_self _ _ _
theorem znote_14 (u : zU) (b : Nat) (c x y z : Int32) (e : Nat) : (znote u b c x y z e).ar 14 = upd (u.ar 14) b (u.ar 14 b + 1) := by
  unfold znote
  exact zuas _ _ _
theorem znote_15 (u : zU) (b : Nat) (c x y z : Int32) (e : Nat) : (znote u b c x y z e).ar 15 = upd (u.ar 15) (4096 * b + e) 0 := by
  unfold znote
  exact (zuaj _ _ (by decide)).trans (zuas _ _ _)
theorem znote_13 (u : zU) (b : Nat) (c x y z : Int32) (e : Nat) : (znote u b c x y z e).ar 13 = upd (u.ar 13) (4096 * b + e) z := by
  unfold znote
  exact (zuaj _ _ (by decide)).trans ((zuaj _ _ (by decide)).trans (zuas _ _ _))
theorem znote_12 (u : zU) (b : Nat) (c x y z : Int32) (e : Nat) : (znote u b c x y z e).ar 12 = upd (u.ar 12) (4096 * b + e) y := by
  unfold znote
  exact (zuaj _ _ (by decide)).trans ((zuaj _ _ (by decide)).trans ((zuaj _ _ (by decide)).trans (zuas _ _ _)))
theorem znote_11 (u : zU) (b : Nat) (c x y z : Int32) (e : Nat) : (znote u b c x y z e).ar 11 = upd (u.ar 11) (4096 * b + e) x := by
  unfold znote
  exact (zuaj _ _ (by decide)).trans ((zuaj _ _ (by decide)).trans ((zuaj _ _ (by decide)).trans ((zuaj _ _ (by decide)).trans (zuas _ _ _))))
theorem znote_10 (u : zU) (b : Nat) (c x y z : Int32) (e : Nat) : (znote u b c x y z e).ar 10 = upd (u.ar 10) (4096 * b + e) c := by
  unfold znote
  exact (zuaj _ _ (by decide)).trans ((zuaj _ _ (by decide)).trans ((zuaj _ _ (by decide)).trans ((zuaj _ _ (by decide)).trans ((zuaj _ _ (by decide)).trans (zuas _ _ _)))))
/-- the rows of the conflicts with one more -/
def zNadd (N : Nat → Nat → Int32) (e : Nat) (c x y z : Int32) : Nat → Nat → Int32 := fun k => if k = 10 then upd (N 10) e c else if k = 11 then upd (N 11) e x else if k = 12 then upd (N 12) e y else if k = 13 then upd (N 13) e z else if k = 14 then upd (N 14) e 0 else N k
theorem zMg.note {p : Nat} {u s : zU} {f : Nat → Int64} {N : Nat → Nat → Int32} {e j : Nat} (h : zMg p u s f N e j) (hj : j < 4096) (x y z : Int32) : zMg p u (znote s p (nI j) x y z (s.ar 14 p).toNatClampNeg) f (zNadd N e (nI j) x y z) (e + 1) (j + 1) := by
  obtain ⟨h1, h2, h3, h4, h5, h6, h7, h8, h9, h10⟩ := h
  have ee : (s.ar 14 p).toNatClampNeg = e := by rw [h6, nI_clamp (by omega)]
  rw [ee]
  have a1 := znote_n s p (nI j) x y z e (k := 1) (by omega)
  have a2 := znote_n s p (nI j) x y z e (k := 2) (by omega)
  refine ⟨h1, fun k k1 k2 k3 => (znote_n _ _ _ _ _ _ _ k3).trans (h2 k k1 k2 k3), ?_, ?_, ?_, ?_, by omega, fun b hb => ?_, fun k k1 i hi k2 k3 => ?_, fun k hk => ?_⟩
  · rw [a1, a2]; exact h3
  · unfold zIv; rw [a1, a2]; exact h4
  · unfold zCr; rw [a1, a2]; exact h5
  · rw [znote_14, pk_us, h6, show (1 : Int32) = nI 1 from rfl, nI_add]
  · rw [znote_14, pk_un hb]; exact h8 b hb
  · have hne : i ≠ 4096 * p + e := by omega
    rcases (show k = 10 ∨ k = 11 ∨ k = 12 ∨ k = 13 ∨ k = 15 by omega) with rfl | rfl | rfl | rfl | rfl
    · rw [znote_10, pk_un hne]; exact h9 _ k1 i hi k2 k3
    · rw [znote_11, pk_un hne]; exact h9 _ k1 i hi k2 k3
    · rw [znote_12, pk_un hne]; exact h9 _ k1 i hi k2 k3
    · rw [znote_13, pk_un hne]; exact h9 _ k1 i hi k2 k3
    · rw [znote_15, pk_un hne]; exact h9 _ k1 i hi k2 k3
  · show upd (N 10) e (nI j) k = _ ∧ _ ∧ upd (N 11) e x k = _ ∧ upd (N 12) e y k = _ ∧ upd (N 13) e z k = _ ∧ upd (N 14) e 0 k = _ ∧ _
    rw [znote_10, znote_11, znote_12, znote_13, znote_15]
    by_cases q : k = e
    · subst q
      rw [pk_us, pk_us, pk_us, pk_us, pk_us, pk_us, pk_us, pk_us, pk_us, pk_us]
      exact ⟨rfl, ⟨j, hj, rfl⟩, rfl, rfl, rfl, rfl, rfl⟩
    · have q2 : 4096 * p + k ≠ 4096 * p + e := by omega
      rw [pk_un q, pk_un q, pk_un q, pk_un q, pk_un q, pk_un q2, pk_un q2, pk_un q2, pk_un q2, pk_un q2]
      exact h10 k (by omega)
theorem zMg.val {p : Nat} {u s : zU} {f : Nat → Int64} {N : Nat → Nat → Int32} {e j : Nat} (h : zMg p u s f N e j) (hp : p < 4) {i : Nat} (hi : i < 4096) : s_S_valueOf (f i) = s.ar 1 (4096 * (24 + p) + i) := h.2.2.2.2.1.val h.2.2.2.1 (by omega) hi
