/-! rows for the class's walks: fields that are known, calls that throw -/
theorem zsf2 {a : Nat → Nat} {i : Nat → Int32} {bt : Value} {x : Int32} (e : i 2 = x) : (zS a i bt)[2]? = some (.int x) := by subst e; rfl
theorem zsf4 {a : Nat → Nat} {i : Nat → Int32} {bt : Value} {x : Int32} (e : i 4 = x) : (zS a i bt)[4]? = some (.int x) := by subst e; rfl
theorem zsf5 {a : Nat → Nat} {i : Nat → Int32} {bt : Value} {x : Int32} (e : i 5 = x) : (zS a i bt)[5]? = some (.int x) := by subst e; rfl
theorem zsf6 {a : Nat → Nat} {i : Nat → Int32} {bt : Value} {x : Int32} (e : i 6 = x) : (zS a i bt)[6]? = some (.int x) := by subst e; rfl
theorem zsf7 {a : Nat → Nat} {i : Nat → Int32} {bt : Value} {x : Int32} (e : i 7 = x) : (zS a i bt)[7]? = some (.int x) := by subst e; rfl
section ZXT
variable {g : zGt} {X : zX} {cc : ByteArray} {y : MethodName} {ret : Option FieldType} {nl d mc ms : Nat} {Post : zRes → zG → Prop} {pc : Nat} {zl : List (Option Value)} {G : zG} {k n : Nat}
variable {y2 : MethodName} {cc2 : ByteArray} {nl2 : Nat} {ret2 : Option FieldType} {tb2 : List (Nat × Nat × Nat × Nat)} {mc2 ms2 idx : Nat} {av rest st : List Value} {E : String}
theorem zr_xV {b ci M : Nat} {fs : List Value} {C : String} {T9 : u_T} (hX : zOK g X cc y ret [] nl d mc ms) (hM : zMet g y2 cc2 nl2 ret2 tb2 (d - 1) mc2 ms2 (.ref b :: av) G (zDx E G)) (hw1 : zlk2 y.cls idx y2) (hw2 : Cond.instanceMethod y2 ∈ zTW) (hw3 : Cond.selects C y2 y2 ∈ zTW) (hF : zFit y2 cc2 nl2 ret2 tb2 av.length) (hc : zcl[ci]? = some (C, T9, M)) (hG : G b = some (zO ci fs)) (hst : st = av.reverse ++ .ref b :: rest) (hwt : (rest.map fun v => v.category).sum ≤ 12) (hd1 : 1 ≤ d) (hk : k + mc2 ≤ mc) (hn : n + ms2 ≤ ms) (hd : decode cc pc = .ok (.invokevirtual idx, 3)) (hp : Post (.inr E) G) : zw g X Post pc zl st G k n :=
  zr_callV hX hM hw1 hw2 hw3 hF hc hG hst hwt hd1 hk hn hd (fun v G1 h => by obtain ⟨h1, -⟩ := h; cases h1) (fun E2 G1 h => by obtain ⟨h1, h2⟩ := h; cases h1; subst h2; exact zt_out hX (fun _ hx => nomatch hx) hp)
theorem zr_xS (hX : zOK g X cc y ret [] nl d mc ms) (hM : zMet g y2 cc2 nl2 ret2 tb2 (d - 1) mc2 ms2 av G (zDx E G)) (hw1 : zlk2 y.cls idx y2) (hw2 : Cond.static y2 ∈ zTW) (hF : zFit y2 cc2 nl2 ret2 tb2 av.length) (hst : st = av.reverse ++ rest) (hwt : (rest.map fun v => v.category).sum ≤ 12) (hd1 : 1 ≤ d) (hk : k + mc2 ≤ mc) (hn : n + ms2 ≤ ms) (hd : decode cc pc = .ok (.invokestatic idx, 3)) (hp : Post (.inr E) G) : zw g X Post pc zl st G k n :=
  zr_callS hX hM hw1 hw2 hF hst hwt hd1 hk hn hd (fun v G1 h => by obtain ⟨h1, -⟩ := h; cases h1) (fun E2 G1 h => by obtain ⟨h1, h2⟩ := h; cases h1; subst h2; exact zt_out hX (fun _ hx => nomatch hx) hp)
end ZXT
theorem zr_copyJN {g : zGt} {X : zX} {cc : ByteArray} {y : MethodName} {ret : Option FieldType} {tb : List (Nat × Nat × Nat × Nat)} {nl d mc ms : Nat} {Post : zRes → zG → Prop} {pc : Nat} {zl : List (Option Value)} {st : List Value} {G : zG} {k n idx : Nat} (hX : zOK g X cc y ret tb nl d mc ms) {a b N M : Nat} {f f2 : Nat → Int64} {x z e : Int32} (sp dp len : Nat) (hx : x = nI sp) (hz : z = nI dp) (he : e = nI len) (hG : G a = some (zJ N f)) (hG2 : G b = some (zJ M f2)) (h4 : sp + len ≤ N) (h5 : dp + len ≤ M) (hN : N < 2 ^ 31) (hM : M < 2 ^ 31)
    (hw : Cond.methodLink y.cls idx arraycopyName ∈ zTW) (hwt : (st.map fun v => v.category).sum ≤ 12) (hd1 : 2 ≤ d) (hd : decode cc pc = .ok (.invokestatic idx, 3))
    (kk : zw g X Post (pc + 3) zl st (zput G b (zJ M (va_cpy f f2 sp dp len))) k n) : zw g X Post pc zl (.int e :: .int z :: .ref b :: .int x :: .ref a :: st) G k n := by
  subst hx hz he
  refine zr_copyJ hX hG hG2 (nI_pos (by omega)) (nI_pos (by omega)) (nI_pos (by omega)) ?_ ?_ hw q90 q89 q5 hwt hd1 hd ?_
  · rw [nI_clamp (by omega), nI_clamp (by omega)]; exact h4
  · rw [nI_clamp (by omega), nI_clamp (by omega)]; exact h5
  · rw [nI_clamp (by omega), nI_clamp (by omega), nI_clamp (by omega)]; exact kk
theorem zdef_S : ∀ j, j < 14 → defaultValue (zt_S j) = vp_V [.null, .null, .int 0, .null, .int 0, .int 0, .int 0, .int 0, .null, .null, .null, .null, .null, .null] j
  | 0, _ => rfl
  | 1, _ => rfl
  | 2, _ => rfl
  | 3, _ => rfl
  | 4, _ => rfl
  | 5, _ => rfl
  | 6, _ => rfl
  | 7, _ => rfl
  | 8, _ => rfl
  | 9, _ => rfl
  | 10, _ => rfl
  | 11, _ => rfl
  | 12, _ => rfl
  | 13, _ => rfl
  | j + 14, h => absurd h (by omega)
theorem zdef_C : ∀ j, j < 4 → defaultValue (zt_C j) = vp_V [.int 0, .int 0, .int 0, .null] j
  | 0, _ => rfl
  | 1, _ => rfl
  | 2, _ => rfl
  | 3, _ => rfl
  | j + 4, h => absurd h (by omega)
theorem zdef_B : ∀ j, j < 5 → defaultValue (zt_B j) = vp_V [.null, .int 0, .int 0, .int 0, .null] j
  | 0, _ => rfl
  | 1, _ => rfl
  | 2, _ => rfl
  | 3, _ => rfl
  | 4, _ => rfl
  | j + 5, h => absurd h (by omega)
theorem zdef_K : ∀ j, j < 7 → defaultValue (zt_K j) = vp_V [.null, .null, .null, .null, .null, .int 0, .int 0] j
  | 0, _ => rfl
  | 1, _ => rfl
  | 2, _ => rfl
  | 3, _ => rfl
  | 4, _ => rfl
  | 5, _ => rfl
  | 6, _ => rfl
  | j + 7, h => absurd h (by omega)
theorem zdef_R : ∀ j, j < 1 → defaultValue (zt_R j) = vp_V [.null] j
  | 0, _ => rfl
  | j + 1, h => absurd h (by omega)
theorem zdef_T : ∀ j, j < 3 → defaultValue (zt_T j) = vp_V [.null, .null, .int 0] j
  | 0, _ => rfl
  | 1, _ => rfl
  | 2, _ => rfl
  | j + 3, h => absurd h (by omega)
/-! calls whose ends are not said outright -/
section ZEV
variable {g : zGt} {X : zX} {cc : ByteArray} {y : MethodName} {ret : Option FieldType} {tb : List (Nat × Nat × Nat × Nat)} {nl d mc ms : Nat} {Post : zRes → zG → Prop} {pc : Nat} {zl : List (Option Value)} {G : zG} {k n : Nat}
variable {y2 : MethodName} {cc2 : ByteArray} {nl2 : Nat} {ret2 : Option FieldType} {tb2 : List (Nat × Nat × Nat × Nat)} {mc2 ms2 idx : Nat} {av rest st : List Value} {Q : zG → Prop} {Q1 : Value → zG → Prop} {b ci M : Nat} {fs : List Value} {C : String} {T9 : u_T}
theorem zr_eV0 (hX : zOK g X cc y ret tb nl d mc ms) (hM : zMet g y2 cc2 nl2 ret2 tb2 (d - 1) mc2 ms2 (.ref b :: av) G (fun r G1 => r = .inl none ∧ Q G1)) (hw1 : zlk2 y.cls idx y2) (hw2 : Cond.instanceMethod y2 ∈ zTW) (hw3 : Cond.selects C y2 y2 ∈ zTW) (hF : zFit y2 cc2 nl2 ret2 tb2 av.length) (hc : zcl[ci]? = some (C, T9, M)) (hG : G b = some (zO ci fs)) (hst : st = av.reverse ++ .ref b :: rest) (hwt : (rest.map fun v => v.category).sum ≤ 12) (hd1 : 1 ≤ d) (hk : k + mc2 ≤ mc) (hn : n + ms2 ≤ ms) (hd : decode cc pc = .ok (.invokevirtual idx, 3))
    (kk : ∀ G1, Q G1 → zw g X Post (pc + 3) zl rest G1 (k + mc2) (n + ms2)) : zw g X Post pc zl st G k n :=
  zr_callV hX hM hw1 hw2 hw3 hF hc hG hst hwt hd1 hk hn hd (fun v G1 h => by obtain ⟨h1, h2⟩ := h; cases h1; exact kk G1 h2) (fun E G1 h => by obtain ⟨h1, -⟩ := h; cases h1)
theorem zr_eV1 (hX : zOK g X cc y ret tb nl d mc ms) (hM : zMet g y2 cc2 nl2 ret2 tb2 (d - 1) mc2 ms2 (.ref b :: av) G (fun r G1 => ∃ w, r = .inl (some w) ∧ Q1 w G1)) (hw1 : zlk2 y.cls idx y2) (hw2 : Cond.instanceMethod y2 ∈ zTW) (hw3 : Cond.selects C y2 y2 ∈ zTW) (hF : zFit y2 cc2 nl2 ret2 tb2 av.length) (hc : zcl[ci]? = some (C, T9, M)) (hG : G b = some (zO ci fs)) (hst : st = av.reverse ++ .ref b :: rest) (hwt : (rest.map fun v => v.category).sum ≤ 12) (hd1 : 1 ≤ d) (hk : k + mc2 ≤ mc) (hn : n + ms2 ≤ ms) (hd : decode cc pc = .ok (.invokevirtual idx, 3))
    (kk : ∀ w G1, Q1 w G1 → zw g X Post (pc + 3) zl (w :: rest) G1 (k + mc2) (n + ms2)) : zw g X Post pc zl st G k n :=
  zr_callV hX hM hw1 hw2 hw3 hF hc hG hst hwt hd1 hk hn hd (fun v G1 h => by obtain ⟨w, h1, h2⟩ := h; cases h1; exact kk w G1 h2) (fun E G1 h => by obtain ⟨w, h1, -⟩ := h; cases h1)
theorem zr_eS0 (hX : zOK g X cc y ret tb nl d mc ms) (hM : zMet g y2 cc2 nl2 ret2 tb2 (d - 1) mc2 ms2 av G (fun r G1 => r = .inl none ∧ Q G1)) (hw1 : zlk2 y.cls idx y2) (hw2 : Cond.static y2 ∈ zTW) (hF : zFit y2 cc2 nl2 ret2 tb2 av.length) (hst : st = av.reverse ++ rest) (hwt : (rest.map fun v => v.category).sum ≤ 12) (hd1 : 1 ≤ d) (hk : k + mc2 ≤ mc) (hn : n + ms2 ≤ ms) (hd : decode cc pc = .ok (.invokestatic idx, 3))
    (kk : ∀ G1, Q G1 → zw g X Post (pc + 3) zl rest G1 (k + mc2) (n + ms2)) : zw g X Post pc zl st G k n :=
  zr_callS hX hM hw1 hw2 hF hst hwt hd1 hk hn hd (fun v G1 h => by obtain ⟨h1, h2⟩ := h; cases h1; exact kk G1 h2) (fun E G1 h => by obtain ⟨h1, -⟩ := h; cases h1)
theorem zr_eI0 (hX : zOK g X cc y ret tb nl d mc ms) (hM : zMet g y2 cc2 nl2 none [] (d - 1) mc2 ms2 (.ref b :: av) G (fun r G1 => r = .inl none ∧ Q G1)) (hw1 : zlk2 y.cls idx y2) (hy1 : y2.name = "<init>") (hw2 : Cond.instanceMethod y2 ∈ zTW) (hF : zFit y2 cc2 nl2 none [] av.length) (hst : st = av.reverse ++ .ref b :: rest) (hwt : (rest.map fun v => v.category).sum ≤ 12) (hd1 : 1 ≤ d) (hk : k + mc2 ≤ mc) (hn : n + ms2 ≤ ms) (hd : decode cc pc = .ok (.invokespecial idx, 3))
    (kk : ∀ G1, Q G1 → zw g X Post (pc + 3) zl rest G1 (k + mc2) (n + ms2)) : zw g X Post pc zl st G k n :=
  zr_callI hX hM hw1 hy1 hw2 hF hst hwt hd1 hk hn hd (fun v G1 h => by obtain ⟨h1, h2⟩ := h; cases h1; exact kk G1 h2) (fun E G1 h => by obtain ⟨h1, -⟩ := h; cases h1)
end ZEV
