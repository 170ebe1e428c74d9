/-! rows on numbers that are known as natural numbers -/
section ZN
variable {g : zGt} {X : zX} {cc : ByteArray} {y : MethodName} {ret : Option FieldType} {tb : List (Nat × Nat × Nat × Nat)} {nl d mc ms : Nat} {Post : zRes → zG → Prop} {pc : Nat} {zl : List (Option Value)} {st : List Value} {G : zG} {k n : Nat}
theorem zn_iadd (hX : zOK g X cc y ret tb nl d mc ms) {a b : Nat} (hd : decode cc pc = .ok (.iadd, 1)) (kk : zw g X Post (pc + 1) zl (.int (nI (a + b)) :: st) G k n) : zw g X Post pc zl (.int (nI b) :: .int (nI a) :: st) G k n := zr_iadd hX hd (by rw [nI_add]; exact kk)
theorem zn_imul (hX : zOK g X cc y ret tb nl d mc ms) {a b : Nat} (hd : decode cc pc = .ok (.imul, 1)) (kk : zw g X Post (pc + 1) zl (.int (nI (a * b)) :: st) G k n) : zw g X Post pc zl (.int (nI b) :: .int (nI a) :: st) G k n := zr_imul hX hd (by rw [pk_mul]; exact kk)
theorem zn_isub (hX : zOK g X cc y ret tb nl d mc ms) {a b : Nat} (h : b ≤ a) (hd : decode cc pc = .ok (.isub, 1)) (kk : zw g X Post (pc + 1) zl (.int (nI (a - b)) :: st) G k n) : zw g X Post pc zl (.int (nI b) :: .int (nI a) :: st) G k n := zr_isub hX hd (by rw [pk_sub h]; exact kk)
theorem zn_idiv (hX : zOK g X cc y ret tb nl d mc ms) {a b : Nat} (h : a < 2 ^ 31) (h0 : 0 < b) (hb : b < 2 ^ 31) (hd : decode cc pc = .ok (.idiv, 1)) (kk : zw g X Post (pc + 1) zl (.int (nI (a / b)) :: st) G k n) : zw g X Post pc zl (.int (nI b) :: .int (nI a) :: st) G k n := zr_idiv hX (nI_ne0 h0 hb) hd (by rw [pk_div h h0 hb]; exact kk)
theorem zn_irem (hX : zOK g X cc y ret tb nl d mc ms) {a b : Nat} (h : a < 2 ^ 31) (h0 : 0 < b) (hb : b < 2 ^ 31) (hd : decode cc pc = .ok (.irem, 1)) (kk : zw g X Post (pc + 1) zl (.int (nI (a % b)) :: st) G k n) : zw g X Post pc zl (.int (nI b) :: .int (nI a) :: st) G k n := zr_irem hX (nI_ne0 h0 hb) hd (by rw [pk_rem h h0 hb]; exact kk)
end ZN
theorem zq_eqT {a b : Nat} (h : a = b) : ¬ ¬ nI a = nI b := fun q => q (by rw [h])
theorem zq_eqF {a b : Nat} (h : a ≠ b) (ha : a < 2 ^ 31) (hb : b < 2 ^ 31) : ¬ nI a = nI b := fun q => h ((nI_eq ha hb).mp q)
theorem zq_leT {a b : Nat} (h : a ≤ b) (hb : b < 2 ^ 31) : ¬ ¬ nI a ≤ nI b := not_not_intro (nI_le h hb)
theorem zq_ltT {a b : Nat} (h : a < b) (hb : b < 2 ^ 31) : ¬ ¬ nI a < nI b := not_not_intro (nI_lt h hb)
theorem zq_ge0T {a : Nat} (h : a < 2 ^ 31) : ¬ ¬ 0 ≤ nI a := not_not_intro (nI_pos' h)
theorem zq_gt0T {a : Nat} (h0 : 0 < a) (h : a < 2 ^ 31) : ¬ ¬ 0 < nI a := not_not_intro (nI_lt (a := 0) h0 h)
theorem zq_ngt0 {a : Nat} (h : a = 0) : ¬ 0 < nI a := by rw [h]; decide
theorem zq_le0T {a : Nat} (h : a = 0) : ¬ ¬ nI a ≤ 0 := not_not_intro (by rw [h]; decide)
theorem zq_eq0T {a : Nat} (h : a = 0) : ¬ ¬ nI a = 0 := not_not_intro (by rw [h]; rfl)
theorem zsplit {a b : Nat} (h : a < b) {A B : Prop} (f : A) : a < b ∧ A := ⟨h, f⟩
/-- a loop that may end early: what is handed on, or the answer -/
def zstp {α β : Type} (f : Nat → α → α ⊕ β) (j : Nat) (s : α ⊕ β) : α ⊕ β := match s with
  | .inl a => f j a
  | .inr r => .inr r
theorem zstp_r {α β : Type} {f : Nat → α → α ⊕ β} {j : Nat} {s0 : α ⊕ β} {r : β} {N : Nat} (hj : j ≤ N) (e : .inr r = zfor j (zstp f) s0) : zfor N (zstp f) s0 = .inr r :=
  (zfor_fix (f := zstp f) (s := .inr r) (fun _ => rfl) hj e).symm
theorem zstp_s {α β : Type} {f : Nat → α → α ⊕ β} {j : Nat} {s0 : α ⊕ β} {a : α} {t : α ⊕ β} (e : .inl a = zfor j (zstp f) s0) (h : f j a = t) : t = zfor (j + 1) (zstp f) s0 := by
  rw [zfor_s, ← e, ← h]
  rfl
/-- two loops side by side -/
theorem zfor_sim {α β : Type} {f : Nat → α → α} {h : Nat → β → β} {s0 : α} {t0 : β} (R : Nat → α → β → Prop) {N : Nat} (h0 : R 0 s0 t0) (hs : ∀ j s t, j < N → R j s t → R (j + 1) (f j s) (h j t)) : ∀ j, j ≤ N → R j (zfor j f s0) (zfor j h t0) := by
  intro j
  induction j with
  | zero => intro _; exact h0
  | succ j ih => intro hj; exact hs j _ _ (by omega) (ih (by omega))
def zsel {α β : Type} (x : α ⊕ β) (f : α → β) : β := match x with
  | .inl a => f a
  | .inr r => r
theorem zsel_l {α β : Type} (a : α) (f : α → β) : zsel (.inl a) f = f a := rfl
theorem zsel_r {α β : Type} (r : β) (f : α → β) : zsel (.inr r) f = r := rfl
section ZNV
variable {g : zGt} {X : zX} {cc : ByteArray} {y : MethodName} {ret : Option FieldType} {tb : List (Nat × Nat × Nat × Nat)} {nl d mc ms : Nat} {Post : zRes → zG → Prop} {pc : Nat} {zl : List (Option Value)} {st : List Value} {G : zG} {k n : Nat}
theorem zr_ialdV (hX : zOK g X cc y ret tb nl d mc ms) {a N : Nat} {f : Nat → Int32} {i v : Int32} (hG : G a = some (zI N f)) (c : Nat) (hi : i = nI c) (hc : c < N) (hN : N < 2 ^ 31) (hv : f c = v) (hd : decode cc pc = .ok (.iaload, 1)) (kk : zw g X Post (pc + 1) zl (.int v :: st) G k n) : zw g X Post pc zl (.int i :: .ref a :: st) G k n := zr_ialdN hX hG c hi hc hN hd (by rw [hv]; exact kk)
end ZNV
theorem zdn7 : ∀ j, j < 8 → 7 - nI j + Int32.ofInt (-1) = 7 - nI (j + 1) := by decide
theorem zdn7p : ∀ j, j < 8 → ¬ 7 - nI j < 0 := by decide
theorem zmodlt {a n : Nat} (h : 0 < n) (h2 : n ≤ 6) : a % n < 6 := Nat.lt_of_lt_of_le (Nat.mod_lt _ h) h2
theorem zite {α : Type} (P : α → Prop) {c : Prop} [Decidable c] {a b : α} (ha : P a) (hb : P b) : P (if c then a else b) := by
  by_cases h : c
  · rw [if_pos h]; exact ha
  · rw [if_neg h]; exact hb
theorem zua_at (u : zU) (j : Nat) (f : Nat → Int32) (k : Nat) : (zua u j f).ar j k = f k := congrFun (va_up_self _ _ _) k
theorem zua_n (u : zU) {i j : Nat} (f : Nat → Int32) (h : i ≠ j) : (zua u j f).ar i = u.ar i := va_up_ne _ _ h
