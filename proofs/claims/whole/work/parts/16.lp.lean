/-! loops -/
/-- f at 0, 1 .. n - 1, one after the other -/
def zfor {α : Type} (n : Nat) (f : Nat → α → α) (s : α) : α := match n with
  | 0 => s
  | n + 1 => f n (zfor n f s)
theorem zfor_0 {α : Type} (f : Nat → α → α) (s : α) : zfor 0 f s = s := rfl
theorem zfor_s {α : Type} (n : Nat) (f : Nat → α → α) (s : α) : zfor (n + 1) f s = f n (zfor n f s) := rfl
/-- where f changes nothing any more -/
theorem zfor_fix {α : Type} {f : Nat → α → α} {s0 s : α} (h : ∀ k, f k s = s) {j N : Nat} (hj : j ≤ N) (e : s = zfor j f s0) : s = zfor N f s0 := by
  induction N with
  | zero =>
    have : j = 0 := by omega
    rw [this] at e
    exact e
  | succ N ih =>
    by_cases h1 : j = N + 1
    · rw [h1] at e
      exact e
    · rw [zfor_s, ← ih (by omega), h]
theorem zfor_inv {α : Type} {f : Nat → α → α} {s0 : α} (P : Nat → α → Prop) (h0 : P 0 s0) {N : Nat} (h : ∀ j s, j < N → P j s → P (j + 1) (f j s)) : ∀ j, j ≤ N → P j (zfor j f s0) := by
  intro j
  induction j with
  | zero => intro _; exact h0
  | succ j ih => intro hj; exact h j _ (by omega) (ih (by omega))
theorem zup (N : Nat) {P : Nat → Prop} (h : ∀ j, j ≤ N → (j < N → P (j + 1)) → P j) : ∀ j, j ≤ N → P j := by
  have key : ∀ n j, j + n = N → P j := by
    intro n
    induction n with
    | zero => intro j hj; exact h j (by omega) (fun h1 => by omega)
    | succ n ih => intro j hj; exact h j (by omega) (fun _ => ih (j + 1) (by omega))
  intro j hj
  exact key (N - j) j (by omega)
theorem znI1 (a : Nat) : nI a + Int32.ofInt 1 = nI (a + 1) := nI_1 a
theorem zge_of {a b : Nat} (ha : a < 2 ^ 31) (hb : b < 2 ^ 31) (h : nI b ≤ nI a) : b ≤ a := (nI_leI hb ha).mp h
theorem znge_of {a b : Nat} (ha : a < 2 ^ 31) (hb : b < 2 ^ 31) (h : ¬ nI b ≤ nI a) : a < b := Nat.lt_of_not_le fun q => h ((nI_leI hb ha).mpr q)
section ZL
variable {g : zGt} {X : zX} {cc : ByteArray} {y : MethodName} {ret : Option FieldType} {tb : List (Nat × Nat × Nat × Nat)} {nl d mc ms : Nat} {Post : zRes → zG → Prop} {pc : Nat} {zl : List (Option Value)} {st : List Value} {G : zG} {k n : Nat}
theorem zr_ialdN (hX : zOK g X cc y ret tb nl d mc ms) {a N : Nat} {f : Nat → Int32} {i : Int32} (hG : G a = some (zI N f)) (c : Nat) (hi : i = nI c) (hc : c < N) (hN : N < 2 ^ 31) (hd : decode cc pc = .ok (.iaload, 1)) (kk : zw g X Post (pc + 1) zl (.int (f c) :: st) G k n) : zw g X Post pc zl (.int i :: .ref a :: st) G k n := by
  subst hi
  refine zr_iald hX hG (vp_in_nI hc hN) hd ?_
  rw [nI_clamp (by omega)]
  exact kk
theorem zr_zaldN (hX : zOK g X cc y ret tb nl d mc ms) {a N : Nat} {f : Nat → Int32} {i : Int32} (hG : G a = some (zB N f)) (c : Nat) (hi : i = nI c) (hc : c < N) (hN : N < 2 ^ 31) (hd : decode cc pc = .ok (.baload, 1)) (kk : zw g X Post (pc + 1) zl (.int (f c) :: st) G k n) : zw g X Post pc zl (.int i :: .ref a :: st) G k n := by
  subst hi
  refine zr_zald hX hG (vp_in_nI hc hN) hd ?_
  rw [nI_clamp (by omega)]
  exact kk
theorem zr_laldN (hX : zOK g X cc y ret tb nl d mc ms) {a N : Nat} {f : Nat → Int64} {i : Int32} (hG : G a = some (zJ N f)) (c : Nat) (hi : i = nI c) (hc : c < N) (hN : N < 2 ^ 31) (hd : decode cc pc = .ok (.laload, 1)) (kk : zw g X Post (pc + 1) zl (.long (f c) :: st) G k n) : zw g X Post pc zl (.int i :: .ref a :: st) G k n := by
  subst hi
  refine zr_lald hX hG (vp_in_nI hc hN) hd ?_
  rw [nI_clamp (by omega)]
  exact kk
theorem zr_aaldN (hX : zOK g X cc y ret tb nl d mc ms) {a t N : Nat} {C : String} {f : Nat → Option Nat} {i : Int32} (ht : (zty (ztc g))[t]? = some (ztc g t, .object C)) (hG : G a = some (zR t N f)) (c : Nat) (hi : i = nI c) (hc : c < N) (hN : N < 2 ^ 31) (hd : decode cc pc = .ok (.aaload, 1)) (kk : zw g X Post (pc + 1) zl (va_rf (f c) :: st) G k n) : zw g X Post pc zl (.int i :: .ref a :: st) G k n := by
  subst hi
  refine zr_aald hX ht hG (vp_in_nI hc hN) hd ?_
  rw [nI_clamp (by omega)]
  exact kk
theorem zr_iastN (hX : zOK g X cc y ret tb nl d mc ms) {a N : Nat} {f : Nat → Int32} {i x : Int32} (hG : G a = some (zI N f)) (c : Nat) (hi : i = nI c) (hc : c < N) (hN : N < 2 ^ 31) (hd : decode cc pc = .ok (.iastore, 1)) (kk : zw g X Post (pc + 1) zl st (zput G a (zI N (upd f c x))) k n) : zw g X Post pc zl (.int x :: .int i :: .ref a :: st) G k n := by
  subst hi
  refine zr_iast hX hG (vp_in_nI hc hN) hd ?_
  rw [nI_clamp (by omega)]
  exact kk
theorem zr_zastN (hX : zOK g X cc y ret tb nl d mc ms) {a N : Nat} {f : Nat → Int32} {i x : Int32} (hG : G a = some (zB N f)) (c : Nat) (hi : i = nI c) (hc : c < N) (hN : N < 2 ^ 31) (hx : vp_nar .boolean x = x) (hd : decode cc pc = .ok (.bastore, 1)) (kk : zw g X Post (pc + 1) zl st (zput G a (zB N (upd f c x))) k n) : zw g X Post pc zl (.int x :: .int i :: .ref a :: st) G k n := by
  subst hi
  refine zr_zast hX hG (vp_in_nI hc hN) hd ?_
  rw [nI_clamp (by omega), hx]
  exact kk
theorem zr_lastN (hX : zOK g X cc y ret tb nl d mc ms) {a N : Nat} {f : Nat → Int64} {i : Int32} {x : Int64} (hG : G a = some (zJ N f)) (c : Nat) (hi : i = nI c) (hc : c < N) (hN : N < 2 ^ 31) (hd : decode cc pc = .ok (.lastore, 1)) (kk : zw g X Post (pc + 1) zl st (zput G a (zJ N (vp_updL f c x))) k n) : zw g X Post pc zl (.long x :: .int i :: .ref a :: st) G k n := by
  subst hi
  refine zr_last hX hG (vp_in_nI hc hN) hd ?_
  rw [nI_clamp (by omega)]
  exact kk
end ZL
/-- what isn't the reference's stays as it was -/
def zMf (u : zU) (m : Nat) (G G1 : zG) : Prop := ∀ q, q ≠ m → (∀ j, zMa j = true → q ≠ u.a j) → G1 q = G q
theorem zMf.rf {u : zU} {m : Nat} {G : zG} : zMf u m G G := fun _ _ _ => rfl
theorem zMf.arr {u : zU} {m : Nat} {G G1 : zG} (h : zMf u m G G1) {a : Nat} (j : Nat) (hj : zMa j = true) (ha : a = u.a j) (c : zC) : zMf u m G (zput G1 a c) := fun q h1 h2 => by
  rw [zput_n (by rw [ha]; exact h2 j hj)]
  exact h q h1 h2
theorem zMf.obj {u : zU} {m : Nat} {G G1 : zG} (h : zMf u m G G1) (c : zC) : zMf u m G (zput G1 m c) := fun q h1 h2 => by
  rw [zput_n h1]
  exact h q h1 h2
theorem zMf.tr {u u2 : zU} {m : Nat} {G G1 G2 : zG} (h : zMf u m G G1) (h2 : zMf u2 m G1 G2) (e : u2.1 = u.1) : zMf u m G G2 := fun q q1 q2 => by
  rw [h2 q q1 (fun j hj => by show q ≠ u2.1 j; rw [e]; exact q2 j hj)]
  exact h q q1 q2
/-- an end of a method of the reference: the answer, its new cells, all else as it was -/
def zMq (w : Option Value) (u2 u : zU) (m : Nat) (G : zG) : zRes → zG → Prop := fun r G1 => r = .inl w ∧ zMv u2 m G1 ∧ zMf u m G G1 ∧ u2.1 = u.1
theorem zl4096 : (4096 : Int32) = nI 4096 := rfl
theorem zl24 : (24 : Int32) = nI 24 := rfl
theorem zl32 : (32 : Int32) = nI 32 := rfl
theorem zl1024 : (1024 : Int32) = nI 1024 := rfl
theorem zpl (p j : Nat) : 4096 * nI p + nI j = nI (4096 * p + j) := by rw [zl4096, pk_mul, nI_add]
theorem zpl24 (p j : Nat) : 4096 * (24 + nI p) + nI j = nI (4096 * (24 + p) + j) := by rw [zl4096, zl24, nI_add, pk_mul, nI_add]
theorem zw_drop {g : zGt} {X : zX} {Post : zRes → zG → Prop} {pc : Nat} {zl : List (Option Value)} {st : List Value} {G : zG} {k n : Nat} (i : Nat) (kk : zw g X Post pc (zse zl i none) st G k n) : zw g X Post pc zl st G k n := by
  obtain ⟨p, e, R, s, m, args, below, meth, c, A, nL⟩ := X
  intro H locs L hR hS hL hk hn
  obtain ⟨l, h1, h2⟩ := hL
  refine kk H locs L hR hS ⟨l, h1, fun j w hw => ?_⟩ hk hn
  rcases zlk_se _ _ _ _ _ hw with ⟨_, e2⟩ | ⟨_, e2⟩
  · cases e2
  · exact h2 j w e2
section ZMR
variable {g : zGt} {X : zX} {cc : ByteArray} {y : MethodName} {ret : Option FieldType} {tb : List (Nat × Nat × Nat × Nat)} {nl d mc ms : Nat} {Post : zRes → zG → Prop} {pc : Nat} {zl : List (Option Value)} {G : zG} {k n : Nat}
variable {y2 : MethodName} {cc2 : ByteArray} {nl2 : Nat} {ret2 : Option FieldType} {idx : Nat} {av rest st : List Value} {u u2 : zU} {m : Nat} {w : Value}
/-- a call of a method of the reference that changes its cells -/
theorem zr_mV0 (hX : zOK g X cc y ret tb nl d mc ms) (hM : zMet g y2 cc2 nl2 ret2 [] (d - 1) 0 0 (.ref m :: av) G (zMq none u2 u m G)) (hw1 : zlk2 y.cls idx y2) (hw2 : Cond.instanceMethod y2 ∈ zTW) (hw3 : Cond.selects "SurveyStoreModel" y2 y2 ∈ zTW) (hF : zFit y2 cc2 nl2 ret2 [] av.length) (hst : st = av.reverse ++ .ref m :: rest) (hwt : (rest.map fun v => v.category).sum ≤ 12) (hd1 : 1 ≤ d) (hk : 0 ≤ k) (hn : 0 ≤ n) (hd : decode cc pc = .ok (.invokevirtual idx, 3))
    (hk1 : k ≤ mc) (hn1 : n ≤ ms) (hm : G m = some (zO 6 (zMl u.a u.i))) (kk : ∀ G1, zMv u2 m G1 → zMf u m G G1 → u2.1 = u.1 → zw g X Post (pc + 3) zl rest G1 k n) : zw g X Post pc zl st G k n :=
  zr_callV (ci := 6) hX hM hw1 hw2 hw3 hF rfl hm hst hwt hd1 hk1 hn1 hd (fun v G1 h => by obtain ⟨h1, h2, h3, h4⟩ := h; cases h1; exact kk G1 h2 h3 h4) (fun E G1 h => by obtain ⟨h1, -⟩ := h; cases h1)
theorem zr_mV1 (hX : zOK g X cc y ret tb nl d mc ms) (hM : zMet g y2 cc2 nl2 ret2 [] (d - 1) 0 0 (.ref m :: av) G (zMq (some w) u2 u m G)) (hw1 : zlk2 y.cls idx y2) (hw2 : Cond.instanceMethod y2 ∈ zTW) (hw3 : Cond.selects "SurveyStoreModel" y2 y2 ∈ zTW) (hF : zFit y2 cc2 nl2 ret2 [] av.length) (hst : st = av.reverse ++ .ref m :: rest) (hwt : (rest.map fun v => v.category).sum ≤ 12) (hd1 : 1 ≤ d) (hk : 0 ≤ k) (hn : 0 ≤ n) (hd : decode cc pc = .ok (.invokevirtual idx, 3))
    (hk1 : k ≤ mc) (hn1 : n ≤ ms) (hm : G m = some (zO 6 (zMl u.a u.i))) (kk : ∀ G1, zMv u2 m G1 → zMf u m G G1 → u2.1 = u.1 → zw g X Post (pc + 3) zl (w :: rest) G1 k n) : zw g X Post pc zl st G k n :=
  zr_callV (ci := 6) hX hM hw1 hw2 hw3 hF rfl hm hst hwt hd1 hk1 hn1 hd (fun v G1 h => by obtain ⟨h1, h2, h3, h4⟩ := h; cases h1; exact kk G1 h2 h3 h4) (fun E G1 h => by obtain ⟨h1, -⟩ := h; cases h1)
end ZMR
theorem zml6 {a : Nat → Nat} {i : Nat → Int32} {x : Int32} (e : i 6 = x) : (zMl a i)[6]? = some (.int x) := by subst e; rfl
theorem zml16 {a : Nat → Nat} {i : Nat → Int32} {x : Int32} (e : i 16 = x) : (zMl a i)[16]? = some (.int x) := by subst e; rfl
theorem zml17 {a : Nat → Nat} {i : Nat → Int32} {x : Int32} (e : i 17 = x) : (zMl a i)[17]? = some (.int x) := by subst e; rfl
theorem zml18 {a : Nat → Nat} {i : Nat → Int32} {x : Int32} (e : i 18 = x) : (zMl a i)[18]? = some (.int x) := by subst e; rfl
theorem zml19 {a : Nat → Nat} {i : Nat → Int32} {x : Int32} (e : i 19 = x) : (zMl a i)[19]? = some (.int x) := by subst e; rfl
/-- 'for (k = t; k < t + h; k++)' goes on, ends -/
theorem zci {t h j : Nat} (hlt : j < h) (hb : t + h < 2 ^ 31) : ¬ nI t + nI h ≤ nI (t + j) := by
  rw [nI_add]
  exact nI_ge (by omega) (by omega)
theorem zco {t h j : Nat} (hge : ¬ j < h) (hb : t + j < 2 ^ 31) : nI t + nI h ≤ nI (t + j) := by
  rw [nI_add]
  exact nI_le (by omega) (by omega)
/-- keeping a value at place i cuts no value of two words -/
def zsafe (zl : List (Option Value)) (i : Nat) : Bool := match i with
  | 0 => true
  | j + 1 => match zlk zl j with
    | some (.long _) => false
    | some (.double _) => false
    | _ => true
theorem zst_safe {zl : List (Option Value)} {i : Nat} (h : zsafe zl i = true) (v : Value) : zst zl i v = zse zl i (some v) := by
  unfold zst
  congr 1
  cases i with
  | zero => rfl
  | succ j =>
    unfold zsafe at h
    unfold zbl
    dsimp only at h ⊢
    split at h
    · cases h
    · cases h
    · rename_i h1 h2
      split
      · rename_i x e
        exact absurd e (h1 x)
      · rename_i x e
        exact absurd e (h2 x)
      · rfl
theorem zst2_safe {zl : List (Option Value)} {i : Nat} (h : zsafe zl i = true) (v : Value) : zst2 zl i v = zse (zse zl i (some v)) (i + 1) none := by
  have h1 := zst_safe h v
  unfold zst at h1
  unfold zst2
  rw [h1]
section ZSF
variable {g : zGt} {X : zX} {cc : ByteArray} {y : MethodName} {ret : Option FieldType} {tb : List (Nat × Nat × Nat × Nat)} {nl d mc ms : Nat} {Post : zRes → zG → Prop} {pc : Nat} {zl : List (Option Value)} {st : List Value} {G : zG} {k n : Nat}
theorem zs_istore_n (hX : zOK g X cc y ret tb nl d mc ms) {i : Fin 4} {x : Int32} (hi : (i : Nat) < nl) (hs : zsafe zl (i : Nat) = true) (hd : decode cc pc = .ok (.istore_n i, 1)) (kk : zw g X Post (pc + 1) (zse zl (i : Nat) (some (.int x))) st G k n) : zw g X Post pc zl (.int x :: st) G k n := zr_istore_n hX hi hd (by rw [zst_safe hs]; exact kk)
theorem zs_istore (hX : zOK g X cc y ret tb nl d mc ms) {i : Nat} {x : Int32} (hi : i < nl) (hs : zsafe zl i = true) (hd : decode cc pc = .ok (.istore i, 2)) (kk : zw g X Post (pc + 2) (zse zl i (some (.int x))) st G k n) : zw g X Post pc zl (.int x :: st) G k n := zr_istore hX hi hd (by rw [zst_safe hs]; exact kk)
theorem zs_astore_n (hX : zOK g X cc y ret tb nl d mc ms) {i : Fin 4} {x : Nat} (hi : (i : Nat) < nl) (hs : zsafe zl (i : Nat) = true) (hd : decode cc pc = .ok (.astore_n i, 1)) (kk : zw g X Post (pc + 1) (zse zl (i : Nat) (some (.ref x))) st G k n) : zw g X Post pc zl (.ref x :: st) G k n := zr_astore_n hX hi hd (by rw [zst_safe hs]; exact kk)
theorem zs_astore (hX : zOK g X cc y ret tb nl d mc ms) {i : Nat} {x : Nat} (hi : i < nl) (hs : zsafe zl i = true) (hd : decode cc pc = .ok (.astore i, 2)) (kk : zw g X Post (pc + 2) (zse zl i (some (.ref x))) st G k n) : zw g X Post pc zl (.ref x :: st) G k n := zr_astore hX hi hd (by rw [zst_safe hs]; exact kk)
theorem zs_astore_nN (hX : zOK g X cc y ret tb nl d mc ms) {i : Fin 4} (hi : (i : Nat) < nl) (hs : zsafe zl (i : Nat) = true) (hd : decode cc pc = .ok (.astore_n i, 1)) (kk : zw g X Post (pc + 1) (zse zl (i : Nat) (some .null)) st G k n) : zw g X Post pc zl (.null :: st) G k n := zr_astore_nN hX hi hd (by rw [zst_safe hs]; exact kk)
theorem zs_astoreN (hX : zOK g X cc y ret tb nl d mc ms) {i : Nat} (hi : i < nl) (hs : zsafe zl i = true) (hd : decode cc pc = .ok (.astore i, 2)) (kk : zw g X Post (pc + 2) (zse zl i (some .null)) st G k n) : zw g X Post pc zl (.null :: st) G k n := zr_astoreN hX hi hd (by rw [zst_safe hs]; exact kk)
theorem zs_lstore (hX : zOK g X cc y ret tb nl d mc ms) {i : Nat} {x : Int64} (hi : i + 1 < nl) (hs : zsafe zl i = true) (hd : decode cc pc = .ok (.lstore i, 2)) (kk : zw g X Post (pc + 2) (zse (zse zl i (some (.long x))) (i + 1) none) st G k n) : zw g X Post pc zl (.long x :: st) G k n := zr_lstore hX hi hd (by rw [zst2_safe hs]; exact kk)
theorem zs_iinc (hX : zOK g X cc y ret tb nl d mc ms) {i : Nat} {z : Int} {x v : Int32} (hl : zlk zl i = some (.int x)) (hv : x + Int32.ofInt z = v) (hi : i < nl) (hs : zsafe zl i = true) (hd : decode cc pc = .ok (.iinc i z, 3)) (kk : zw g X Post (pc + 3) (zse zl i (some (.int v))) st G k n) : zw g X Post pc zl st G k n := zr_iinc hX hl hv hi hd (by rw [zst_safe hs]; exact kk)
end ZSF
