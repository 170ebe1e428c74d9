/-! deterministic contracts: the answer and the heap behind it are said outright -/
def zD1 (v : Value) (G : zG) : zRes → zG → Prop := fun r G1 => r = .inl (some v) ∧ G1 = G
def zD0 (G : zG) : zRes → zG → Prop := fun r G1 => r = .inl none ∧ G1 = G
def zDx (E : String) (G : zG) : zRes → zG → Prop := fun r G1 => r = .inr E ∧ G1 = G
theorem zD1.i {v s : Int32} {G : zG} (h : v = s) : zD1 (.int s) G (.inl (some (.int v))) G := ⟨by rw [h], rfl⟩
theorem zD1.l {v s : Int64} {G : zG} (h : v = s) : zD1 (.long s) G (.inl (some (.long v))) G := ⟨by rw [h], rfl⟩
theorem zD1.v {v s : Value} {G : zG} (h : v = s) : zD1 s G (.inl (some v)) G := ⟨by rw [h], rfl⟩
theorem zD1.g {v s : Value} {G G' : zG} (h : v = s) (h2 : G = G') : zD1 s G' (.inl (some v)) G := ⟨by rw [h], h2⟩
theorem zD0.g {G G' : zG} (h2 : G = G') : zD0 G' (.inl none) G := ⟨rfl, h2⟩
theorem zput_k {G : zG} {a b : Nat} {c c' : zC} (h : b ≠ a) (hb : G b = some c) : zput G a c' b = some c := (zput_n h).trans hb
/-- the kind of a cell: cells of two kinds don't lie at one address -/
def zck (c : zC) : Nat := match c with
  | .inl o => 8 + o.1
  | .inr (.inl _) => 0
  | .inr (.inr (.inl _)) => 1
  | .inr (.inr (.inr (.inl _))) => 2
  | .inr (.inr (.inr (.inr x))) => x.1
theorem zne {G : zG} {a b : Nat} {c c' : zC} (ha : G a = some c) (hb : G b = some c') (h : (zck c == zck c') = false) : a ≠ b := fun e => by
  rw [e, hb] at ha
  cases ha
  rw [beq_self_eq_true] at h
  cases h
theorem zfr {G : zG} {a b : Nat} {c : zC} (ha : G a = none) (hb : G b = some c) : b ≠ a := fun e => by
  rw [e, ha] at hb
  cases hb
section ZCP
variable {g : zGt} {X : zX} {cc : ByteArray} {y : MethodName} {ret : Option FieldType} {tb : List (Nat × Nat × Nat × Nat)} {nl d mc ms : Nat} {Post : zRes → zG → Prop} {pc : Nat} {zl : List (Option Value)} {G : zG} {k n : Nat}
variable {y2 : MethodName} {cc2 : ByteArray} {nl2 : Nat} {ret2 : Option FieldType} {tb2 : List (Nat × Nat × Nat × Nat)} {mc2 ms2 idx : Nat} {av rest st : List Value} {G2 : zG} {w : Value}
theorem zr_pS (hX : zOK g X cc y ret tb nl d mc ms) (hM : zMet g y2 cc2 nl2 ret2 tb2 (d - 1) 0 0 av G (zD1 w G)) (hw1 : zlk2 y.cls idx y2) (hw2 : Cond.static y2 ∈ zTW) (hF : zFit y2 cc2 nl2 ret2 tb2 av.length) (hst : st = av.reverse ++ rest) (hwt : (rest.map fun v => v.category).sum ≤ 12) (hd1 : 1 ≤ d) (hk : k ≤ mc) (hn : n ≤ ms) (hd : decode cc pc = .ok (.invokestatic idx, 3))
    (kk : zw g X Post (pc + 3) zl (w :: rest) G k n) : zw g X Post pc zl st G k n :=
  zr_callS hX hM hw1 hw2 hF hst hwt hd1 hk hn hd (fun v G1 h => by obtain ⟨h1, h2⟩ := h; cases h1; subst h2; exact kk) (fun E G1 h => by obtain ⟨h1, -⟩ := h; cases h1)
theorem zr_uS1 (hX : zOK g X cc y ret tb nl d mc ms) (hM : zMet g y2 cc2 nl2 ret2 tb2 (d - 1) mc2 ms2 av G (zD1 w G2)) (hw1 : zlk2 y.cls idx y2) (hw2 : Cond.static y2 ∈ zTW) (hF : zFit y2 cc2 nl2 ret2 tb2 av.length) (hst : st = av.reverse ++ rest) (hwt : (rest.map fun v => v.category).sum ≤ 12) (hd1 : 1 ≤ d) (hk : k + mc2 ≤ mc) (hn : n + ms2 ≤ ms) (hd : decode cc pc = .ok (.invokestatic idx, 3))
    (kk : zw g X Post (pc + 3) zl (w :: rest) G2 (k + mc2) (n + ms2)) : zw g X Post pc zl st G k n :=
  zr_callS hX hM hw1 hw2 hF hst hwt hd1 hk hn hd (fun v G1 h => by obtain ⟨h1, h2⟩ := h; cases h1; subst h2; exact kk) (fun E G1 h => by obtain ⟨h1, -⟩ := h; cases h1)
theorem zr_uS0 (hX : zOK g X cc y ret tb nl d mc ms) (hM : zMet g y2 cc2 nl2 ret2 tb2 (d - 1) mc2 ms2 av G (zD0 G2)) (hw1 : zlk2 y.cls idx y2) (hw2 : Cond.static y2 ∈ zTW) (hF : zFit y2 cc2 nl2 ret2 tb2 av.length) (hst : st = av.reverse ++ rest) (hwt : (rest.map fun v => v.category).sum ≤ 12) (hd1 : 1 ≤ d) (hk : k + mc2 ≤ mc) (hn : n + ms2 ≤ ms) (hd : decode cc pc = .ok (.invokestatic idx, 3))
    (kk : zw g X Post (pc + 3) zl rest G2 (k + mc2) (n + ms2)) : zw g X Post pc zl st G k n :=
  zr_callS hX hM hw1 hw2 hF hst hwt hd1 hk hn hd (fun v G1 h => by obtain ⟨h1, h2⟩ := h; cases h1; subst h2; exact kk) (fun E G1 h => by obtain ⟨h1, -⟩ := h; cases h1)
variable {b ci M : Nat} {fs : List Value} {C : String} {T9 : u_T}
theorem zr_pV (hX : zOK g X cc y ret tb nl d mc ms) (hM : zMet g y2 cc2 nl2 ret2 tb2 (d - 1) 0 0 (.ref b :: av) G (zD1 w G)) (hw1 : zlk2 y.cls idx y2) (hw2 : Cond.instanceMethod y2 ∈ zTW) (hw3 : Cond.selects C y2 y2 ∈ zTW) (hF : zFit y2 cc2 nl2 ret2 tb2 av.length) (hc : zcl[ci]? = some (C, T9, M)) (hG : G b = some (zO ci fs)) (hst : st = av.reverse ++ .ref b :: rest) (hwt : (rest.map fun v => v.category).sum ≤ 12) (hd1 : 1 ≤ d) (hk : k ≤ mc) (hn : n ≤ ms) (hd : decode cc pc = .ok (.invokevirtual idx, 3))
    (kk : zw g X Post (pc + 3) zl (w :: rest) G k n) : zw g X Post pc zl st G k n :=
  zr_callV hX hM hw1 hw2 hw3 hF hc hG hst hwt hd1 hk hn hd (fun v G1 h => by obtain ⟨h1, h2⟩ := h; cases h1; subst h2; exact kk) (fun E G1 h => by obtain ⟨h1, -⟩ := h; cases h1)
theorem zr_uV1 (hX : zOK g X cc y ret tb nl d mc ms) (hM : zMet g y2 cc2 nl2 ret2 tb2 (d - 1) mc2 ms2 (.ref b :: av) G (zD1 w G2)) (hw1 : zlk2 y.cls idx y2) (hw2 : Cond.instanceMethod y2 ∈ zTW) (hw3 : Cond.selects C y2 y2 ∈ zTW) (hF : zFit y2 cc2 nl2 ret2 tb2 av.length) (hc : zcl[ci]? = some (C, T9, M)) (hG : G b = some (zO ci fs)) (hst : st = av.reverse ++ .ref b :: rest) (hwt : (rest.map fun v => v.category).sum ≤ 12) (hd1 : 1 ≤ d) (hk : k + mc2 ≤ mc) (hn : n + ms2 ≤ ms) (hd : decode cc pc = .ok (.invokevirtual idx, 3))
    (kk : zw g X Post (pc + 3) zl (w :: rest) G2 (k + mc2) (n + ms2)) : zw g X Post pc zl st G k n :=
  zr_callV hX hM hw1 hw2 hw3 hF hc hG hst hwt hd1 hk hn hd (fun v G1 h => by obtain ⟨h1, h2⟩ := h; cases h1; subst h2; exact kk) (fun E G1 h => by obtain ⟨h1, -⟩ := h; cases h1)
theorem zr_uV0 (hX : zOK g X cc y ret tb nl d mc ms) (hM : zMet g y2 cc2 nl2 ret2 tb2 (d - 1) mc2 ms2 (.ref b :: av) G (zD0 G2)) (hw1 : zlk2 y.cls idx y2) (hw2 : Cond.instanceMethod y2 ∈ zTW) (hw3 : Cond.selects C y2 y2 ∈ zTW) (hF : zFit y2 cc2 nl2 ret2 tb2 av.length) (hc : zcl[ci]? = some (C, T9, M)) (hG : G b = some (zO ci fs)) (hst : st = av.reverse ++ .ref b :: rest) (hwt : (rest.map fun v => v.category).sum ≤ 12) (hd1 : 1 ≤ d) (hk : k + mc2 ≤ mc) (hn : n + ms2 ≤ ms) (hd : decode cc pc = .ok (.invokevirtual idx, 3))
    (kk : zw g X Post (pc + 3) zl rest G2 (k + mc2) (n + ms2)) : zw g X Post pc zl st G k n :=
  zr_callV hX hM hw1 hw2 hw3 hF hc hG hst hwt hd1 hk hn hd (fun v G1 h => by obtain ⟨h1, h2⟩ := h; cases h1; subst h2; exact kk) (fun E G1 h => by obtain ⟨h1, -⟩ := h; cases h1)
theorem zr_uI0 (hX : zOK g X cc y ret tb nl d mc ms) (hM : zMet g y2 cc2 nl2 none [] (d - 1) mc2 ms2 (.ref b :: av) G (zD0 G2)) (hw1 : zlk2 y.cls idx y2) (hy1 : y2.name = "<init>") (hw2 : Cond.instanceMethod y2 ∈ zTW) (hF : zFit y2 cc2 nl2 none [] av.length) (hst : st = av.reverse ++ .ref b :: rest) (hwt : (rest.map fun v => v.category).sum ≤ 12) (hd1 : 1 ≤ d) (hk : k + mc2 ≤ mc) (hn : n + ms2 ≤ ms) (hd : decode cc pc = .ok (.invokespecial idx, 3))
    (kk : zw g X Post (pc + 3) zl rest G2 (k + mc2) (n + ms2)) : zw g X Post pc zl st G k n :=
  zr_callI hX hM hw1 hy1 hw2 hF hst hwt hd1 hk hn hd (fun v G1 h => by obtain ⟨h1, h2⟩ := h; cases h1; subst h2; exact kk) (fun E G1 h => by obtain ⟨h1, -⟩ := h; cases h1)
end ZCP
/-- a contract for a larger end -/
theorem zMet.mono {g : zGt} {y : MethodName} {cc : ByteArray} {nl : Nat} {ret : Option FieldType} {tb : List (Nat × Nat × Nat × Nat)} {d mc ms : Nat} {av : List Value} {G : zG} {Post Post2 : zRes → zG → Prop} (h : zMet g y cc nl ret tb d mc ms av G Post) (hp : ∀ r G1, Post r G1 → Post2 r G1) : zMet g y cc nl ret tb d mc ms av G Post2 := by
  intro hg sz p e ha hc hk s m args below hf happ hP hK
  obtain ⟨n, o, h1, h2, h3, r, G1, L, q1, q2⟩ := h hg sz p e ha hc hk s m args below hf happ hP hK
  exact ⟨n, o, h1, h2, h3, r, G1, L, hp r G1 q1, q2⟩
/-- references: an address or null -/
def zisr (v : Value) : Bool := match v with
  | .ref _ => true
  | .null => true
  | _ => false
theorem zisr_or {v : Value} (h : zisr v = true) : v = .null ∨ ∃ a, v = .ref a := by
  cases v with
  | ref a => exact Or.inr ⟨a, rfl⟩
  | null => exact Or.inl rfl
  | _ => cases h
theorem zisr_rf (o : Option Nat) : zisr (va_rf o) = true := by
  cases o <;> rfl
section ZRF
variable {g : zGt} {X : zX} {cc : ByteArray} {y : MethodName} {ret : Option FieldType} {tb : List (Nat × Nat × Nat × Nat)} {nl d mc ms : Nat} {Post : zRes → zG → Prop} {pc : Nat} {zl : List (Option Value)} {st : List Value} {G : zG} {k n : Nat}
theorem zr_vload_n (hX : zOK g X cc y ret tb nl d mc ms) {i : Fin 4} {v : Value} (hl : zlk zl (i : Nat) = some v) (hv : zisr v = true) (hd : decode cc pc = .ok (.aload_n i, 1)) (kk : zw g X Post (pc + 1) zl (v :: st) G k n) : zw g X Post pc zl st G k n := by
  rcases zisr_or hv with rfl | ⟨a, rfl⟩
  · exact zr_aload_nN hX hl hd kk
  · exact zr_aload_n hX hl hd kk
theorem zr_vload (hX : zOK g X cc y ret tb nl d mc ms) {i : Nat} {v : Value} (hl : zlk zl i = some v) (hv : zisr v = true) (hd : decode cc pc = .ok (.aload i, 2)) (kk : zw g X Post (pc + 2) zl (v :: st) G k n) : zw g X Post pc zl st G k n := by
  rcases zisr_or hv with rfl | ⟨a, rfl⟩
  · exact zr_aloadN hX hl hd kk
  · exact zr_aload hX hl hd kk
theorem zr_vstore_n (hX : zOK g X cc y ret tb nl d mc ms) {i : Fin 4} {v : Value} (hv : zisr v = true) (hi : (i : Nat) < nl) (hd : decode cc pc = .ok (.astore_n i, 1)) (kk : zw g X Post (pc + 1) (zst zl (i : Nat) v) st G k n) : zw g X Post pc zl (v :: st) G k n := by
  rcases zisr_or hv with rfl | ⟨a, rfl⟩
  · exact zr_astore_nN hX hi hd kk
  · exact zr_astore_n hX hi hd kk
theorem zr_vstore (hX : zOK g X cc y ret tb nl d mc ms) {i : Nat} {v : Value} (hv : zisr v = true) (hi : i < nl) (hd : decode cc pc = .ok (.astore i, 2)) (kk : zw g X Post (pc + 2) (zst zl i v) st G k n) : zw g X Post pc zl (v :: st) G k n := by
  rcases zisr_or hv with rfl | ⟨a, rfl⟩
  · exact zr_astoreN hX hi hd kk
  · exact zr_astore hX hi hd kk
theorem zr_vifnull (hX : zOK g X cc y ret tb nl d mc ms) {v : Value} (hv : zisr v = true) {off : Int} {tgt : Nat} (hd : decode cc pc = .ok (.ifnull off, 3)) (ht : (pc : Int) + off = (tgt : Int)) (kt : v = .null → zw g X Post tgt zl st G k n) (kf : ∀ a, v = .ref a → zw g X Post (pc + 3) zl st G k n) : zw g X Post pc zl (v :: st) G k n := by
  rcases zisr_or hv with rfl | ⟨a, rfl⟩
  · exact zr_ifnullN hX ht hd (kt rfl)
  · exact zr_ifnull hX hd (kf a rfl)
theorem zr_vifnonnull (hX : zOK g X cc y ret tb nl d mc ms) {v : Value} (hv : zisr v = true) {off : Int} {tgt : Nat} (hd : decode cc pc = .ok (.ifnonnull off, 3)) (ht : (pc : Int) + off = (tgt : Int)) (kt : ∀ a, v = .ref a → zw g X Post tgt zl st G k n) (kf : v = .null → zw g X Post (pc + 3) zl st G k n) : zw g X Post pc zl (v :: st) G k n := by
  rcases zisr_or hv with rfl | ⟨a, rfl⟩
  · exact zr_ifnonnullN hX hd (kf rfl)
  · exact zr_ifnonnull hX ht hd (kt a rfl)
theorem zr_rret (hX : zOK g X cc y ret tb nl d mc ms) {rt : FieldType} (hrt : ret = some rt) (hro : (∃ n, rt = .object n) ∨ ∃ t, rt = .array t) {v : Value} (hv : zisr v = true) (hd : decode cc pc = .ok (.areturn, 1)) (hp : Post (.inl (some v)) G) : zw g X Post pc zl [v] G k n := zr_aret hX hrt hro (zisr_or hv) hd hp
end ZRF
