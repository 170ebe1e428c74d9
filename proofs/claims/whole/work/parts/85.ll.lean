/-! the law's own walk: the script, the invariant -/
/-- the script: L ints xs at b, old -/
def zSc (X : zX) (b L : Nat) (xs : Nat → Int32) : Prop := match X with
  | (_, _, _, s, _, _, _, _, _, A, _) => va_X b L xs s s.heap ∧ b < s.heap.size ∧ ¬ A b
section ZLL
variable {g : zGt} {X : zX} {cc : ByteArray} {y : MethodName} {ret : Option FieldType} {tb : List (Nat × Nat × Nat × Nat)} {nl d mc ms : Nat} {Post : zRes → zG → Prop} {pc : Nat} {zl : List (Option Value)} {st : List Value} {G : zG} {k n : Nat} {b L : Nat} {xs : Nat → Int32}
theorem zr_sld (hX : zOK g X cc y ret tb nl d mc ms) (hs : zSc X b L xs) {a : Nat} (ha : a < L) (hL : L ≤ 3584) (hd : decode cc pc = .ok (.iaload, 1)) (kk : zw g X Post (pc + 1) zl (.int (xs a) :: st) G k n) : zw g X Post pc zl (.int (nI a) :: .ref b :: st) G k n := by
  obtain ⟨p, e, R, s, m, args, below, meth, c, A, nL⟩ := X
  obtain ⟨h1, h2, h3⟩ := hs
  intro H locs Lo hR hS hL9 hk hn
  refine va_sld hX.ex hX.cd h1 h2 h3 hS (i := nI a) (nI_in ha (by omega)) hd ?_
  rw [nI_clamp (by omega)]
  exact kk H locs Lo hR hS hL9 hk hn
theorem zr_slen (hX : zOK g X cc y ret tb nl d mc ms) (hs : zSc X b L xs) (hd : decode cc pc = .ok (.arraylength, 1)) (kk : zw g X Post (pc + 1) zl (.int (nI L) :: st) G k n) : zw g X Post pc zl (.ref b :: st) G k n := by
  obtain ⟨p, e, R, s, m, args, below, meth, c, A, nL⟩ := X
  obtain ⟨h1, h2, h3⟩ := hs
  intro H locs Lo hR hS hL9 hk hn
  exact va_slen hX.ex hX.cd h1 h2 h3 hS hd (kk H locs Lo hR hS hL9 hk hn)
end ZLL
/-- the three objects of the law, apart -/
def zL0 (x m out : Nat) (w : zW) (u : zU) (fo : Nat → Int64) (G : zG) : Prop := zHp w G ∧ zMv u m G ∧ G out = some (zJ 1 fo) ∧ w.a 0 0 = x ∧ (∀ f i q, zAd w f i = some q → q ≠ m ∧ q ≠ out ∧ ∀ j, zMa j = true → q ≠ u.1 j) ∧ out ≠ m ∧ ∀ j, zMa j = true → out ≠ u.1 j
theorem zMv.fr {u : zU} {m : Nat} {G G1 : zG} (h : zMv u m G) (h1 : G1 m = G m) (h2 : ∀ j, zMa j = true → G1 (u.a j) = G (u.a j)) : zMv u m G1 := ⟨h1.trans h.1, fun j hj => (h2 j hj).trans (h.2.1 j hj), h.2.2⟩
theorem zL0.S {x m out : Nat} {w : zW} {wm : Nat} {u : zU} {fo : Nat → Int64} {G : zG} (h : zL0 x m out w u fo G) {res : zRes} {u2 : zU} {cm2 mc ms : Nat} {r : zRes} {G1 : zG} (hq : zSq res w wm u2 cm2 mc ms G r G1) : r = res ∧ ∃ w2 wm2, zL0 x m out w2 u fo G1 ∧ zIn w2 wm2 u2 cm2 ∧ zPc w2 wm2 + mc ≤ zPc w wm + 2 ∧ zPs w2 wm2 + ms ≤ zPs w wm + 4101 := by
  obtain ⟨h1, h2, h3, h4, h5, h6, h7⟩ := h
  obtain ⟨q1, w2, wm2, q2, q3, q4, q5, q6⟩ := hq
  have nm : G m ≠ none := by rw [h2.m]; exact fun z => nomatch z
  have no : G out ≠ none := by rw [h3]; exact fun z => nomatch z
  have na : ∀ j, zMa j = true → G (u.a j) ≠ none := fun j hj => by rw [h2.ar j hj]; exact fun z => nomatch z
  refine ⟨q1, w2, wm2, ⟨q2, h2.fr (q3.1 m (fun f i z => (h5 f i m z).1 rfl) nm) (fun j hj => q3.1 _ (fun f i z => (h5 f i _ z).2.2 j hj rfl) (na j hj)), (q3.1 out (fun f i z => (h5 f i _ z).2.1 rfl) no).trans h3, q3.2.2.trans h4, fun f i q hq => ?_, h6, h7⟩, q4, q5, q6⟩
  rcases q3.2.1 f i q hq with ⟨f2, i2, z⟩ | z
  · exact h5 f2 i2 q z
  · exact ⟨fun e => nm (e ▸ z), fun e => no (e ▸ z), fun j hj e => na j hj ((congrArg G e).symm.trans z)⟩
theorem zL0.o {x m out : Nat} {w : zW} {u : zU} {fo : Nat → Int64} {G : zG} (h : zL0 x m out w u fo G) (fo2 : Nat → Int64) : zL0 x m out w u fo2 (zput G out (zJ 1 fo2)) := by
  obtain ⟨h1, h2, h3, h4, h5, h6, h7⟩ := h
  exact ⟨h1.fr (fun f i q hq => zput_n (h5 f i q hq).2.1), h2.fr (zput_n h6.symm) (fun j hj => zput_n (h7 j hj).symm), zput_s _ _ _, h4, h5, h6, h7⟩
theorem zL0.M {x m out : Nat} {w : zW} {wm cm : Nat} {u : zU} {fo : Nat → Int64} {G : zG} (h : zL0 x m out w u fo G) {u2 : zU} (hI : zIn w wm u2 cm) {v : Option Value} {code : Int32} {r : zRes} {G1 : zG} (hq : zRx v code u2 u m G r G1) : r = .inl v ∧ ∃ u3, zL0 x m out w u3 fo G1 ∧ zIn w wm u3 cm ∧ u3.i 0 = code := by
  obtain ⟨h1, h2, h3, h4, h5, h6, h7⟩ := h
  obtain ⟨q1, u3, q2, q3, q4, q5, q6⟩ := hq
  refine ⟨q1, u3, ⟨h1.fr (fun f i q hq => q3 q (h5 f i q hq).1 (h5 f i q hq).2.2), q2, (q3 out h6 h7).trans h3, h4, fun f i q hq => ?_, h6, fun j hj => by rw [q4]; exact h7 j hj⟩, ⟨hI.1.ue q5, hI.2⟩, q6⟩
  rw [q4]
  exact h5 f i q hq
/-- the locals at the loop's head -/
def zll (b x m out i : Nat) (o5 o6 : Option Value) : List (Option Value) := [some (.ref b), some (.ref x), some (.ref m), some (.ref out), some (.int (nI i)), o5, o6]
/-- what is asked of the way on, behind a case -/
def zNext (g : zGt) (X : zX) (b x m out t K N : Nat) : Prop := ∀ (w : zW) (wm : Nat) (u : zU) (cm : Nat) (fo : Nat → Int64) (G : zG) (k n : Nat) (o5 o6 : Option Value), zL0 x m out w u fo G → zIn w wm u cm → k + zPc w wm ≤ K → n + zPs w wm ≤ N → zw g X (fun r _ => r = .inl (some (.int 1))) 1455 (zll b x m out (7 * t) o5 o6) [] G k n
