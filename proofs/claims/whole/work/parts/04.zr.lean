section ZR
variable {g : zGt} {X : zX} {cc : ByteArray} {y : MethodName} {ret : Option FieldType} {tb : List (Nat × Nat × Nat × Nat)} {nl d mc ms : Nat} {Post : zRes → zG → Prop} {pc : Nat} {zl : List (Option Value)} {st : List Value} {G : zG} {k n : Nat}
theorem zr_iconst (hX : zOK g X cc y ret tb nl d mc ms) {i : Int} {v : Int32} (hv : Int32.ofInt i = v) (hd : decode cc pc = .ok (.iconst i, 1)) (kk : zw g X Post (pc + 1) zl (.int v :: st) G k n) : zw g X Post pc zl st G k n := by
  obtain ⟨p, e, R, s, m, args, below, meth, c, A, nL⟩ := X
  intro H locs L hR hS hL hk hn
  exact lv_iconst hX.ex hX.cd hd hv (kk H locs L hR hS hL hk hn)
theorem zr_bipush (hX : zOK g X cc y ret tb nl d mc ms) {i : Int} {v : Int32} (hv : (Int8.ofInt i).toInt32 = v) (hd : decode cc pc = .ok (.bipush i, 2)) (kk : zw g X Post (pc + 2) zl (.int v :: st) G k n) : zw g X Post pc zl st G k n := by
  obtain ⟨p, e, R, s, m, args, below, meth, c, A, nL⟩ := X
  intro H locs L hR hS hL hk hn
  exact lv_bipush hX.ex hX.cd hd hv (kk H locs L hR hS hL hk hn)
theorem zr_sipush (hX : zOK g X cc y ret tb nl d mc ms) {i : Int} {v : Int32} (hv : (Int16.ofInt i).toInt32 = v) (hd : decode cc pc = .ok (.sipush i, 3)) (kk : zw g X Post (pc + 3) zl (.int v :: st) G k n) : zw g X Post pc zl st G k n := by
  obtain ⟨p, e, R, s, m, args, below, meth, c, A, nL⟩ := X
  intro H locs L hR hS hL hk hn
  exact lv_sipush hX.ex hX.cd hd hv (kk H locs L hR hS hL hk hn)
theorem zr_ldc (hX : zOK g X cc y ret tb nl d mc ms) {i : Nat} {v : Int32} (hw : Jvm.Cond.constant y.cls i v ∈ zTW) (hd : decode cc pc = .ok (.ldc i, 2)) (kk : zw g X Post (pc + 2) zl (.int v :: st) G k n) : zw g X Post pc zl st G k n := by
  obtain ⟨p, e, R, s, m, args, below, meth, c, A, nL⟩ := X
  intro H locs L hR hS hL hk hn
  exact lv_ldc hX.ex hX.cd hX.ow (hX.wk hw rfl) hd (kk H locs L hR hS hL hk hn)
theorem zr_ldcw (hX : zOK g X cc y ret tb nl d mc ms) {i : Nat} {v : Int32} (hw : Jvm.Cond.constant y.cls i v ∈ zTW) (hd : decode cc pc = .ok (.ldc_w i, 3)) (kk : zw g X Post (pc + 3) zl (.int v :: st) G k n) : zw g X Post pc zl st G k n := by
  obtain ⟨p, e, R, s, m, args, below, meth, c, A, nL⟩ := X
  intro H locs L hR hS hL hk hn
  exact lv_ldcw hX.ex hX.cd hX.ow (hX.wk hw rfl) hd (kk H locs L hR hS hL hk hn)
theorem zr_ldc2 (hX : zOK g X cc y ret tb nl d mc ms) {i : Nat} {v : Int64} (hw : Jvm.Cond.constantLong y.cls i v ∈ zTW) (hd : decode cc pc = .ok (.ldc2_w i, 3)) (kk : zw g X Post (pc + 3) zl (.long v :: st) G k n) : zw g X Post pc zl st G k n := by
  obtain ⟨p, e, R, s, m, args, below, meth, c, A, nL⟩ := X
  intro H locs L hR hS hL hk hn
  exact lv_ldc2 hX.ex hX.cd hX.ow (hX.wk hw rfl) hd (kk H locs L hR hS hL hk hn)
theorem zr_null (hX : zOK g X cc y ret tb nl d mc ms)  (hd : decode cc pc = .ok (.aconst_null, 1)) (kk : zw g X Post (pc + 1) zl (.null :: st) G k n) : zw g X Post pc zl st G k n := by
  obtain ⟨p, e, R, s, m, args, below, meth, c, A, nL⟩ := X
  intro H locs L hR hS hL hk hn
  exact lv_null hX.ex hX.cd hd (kk H locs L hR hS hL hk hn)
theorem zr_iload_n (hX : zOK g X cc y ret tb nl d mc ms) {i : Fin 4} {x : Int32} (hl : zlk zl (i : Nat) = some (.int x)) (hd : decode cc pc = .ok (.iload_n i, 1)) (kk : zw g X Post (pc + 1) zl (.int x :: st) G k n) : zw g X Post pc zl st G k n := by
  obtain ⟨p, e, R, s, m, args, below, meth, c, A, nL⟩ := X
  intro H locs L hR hS hL hk hn
  exact lv_iload_n hX.ex hX.cd hd rfl (hL.at hl) (kk H locs L hR hS hL hk hn)
theorem zr_iload (hX : zOK g X cc y ret tb nl d mc ms) {i : Nat} {x : Int32} (hl : zlk zl i = some (.int x)) (hd : decode cc pc = .ok (.iload i, 2)) (kk : zw g X Post (pc + 2) zl (.int x :: st) G k n) : zw g X Post pc zl st G k n := by
  obtain ⟨p, e, R, s, m, args, below, meth, c, A, nL⟩ := X
  intro H locs L hR hS hL hk hn
  exact lv_iload hX.ex hX.cd hd (hL.at hl) (kk H locs L hR hS hL hk hn)
theorem zr_lload_n (hX : zOK g X cc y ret tb nl d mc ms) {i : Fin 4} {x : Int64} (hl : zlk zl (i : Nat) = some (.long x)) (hd : decode cc pc = .ok (.lload_n i, 1)) (kk : zw g X Post (pc + 1) zl (.long x :: st) G k n) : zw g X Post pc zl st G k n := by
  obtain ⟨p, e, R, s, m, args, below, meth, c, A, nL⟩ := X
  intro H locs L hR hS hL hk hn
  exact lv_lload_n hX.ex hX.cd hd rfl (hL.at hl) (kk H locs L hR hS hL hk hn)
theorem zr_lload (hX : zOK g X cc y ret tb nl d mc ms) {i : Nat} {x : Int64} (hl : zlk zl i = some (.long x)) (hd : decode cc pc = .ok (.lload i, 2)) (kk : zw g X Post (pc + 2) zl (.long x :: st) G k n) : zw g X Post pc zl st G k n := by
  obtain ⟨p, e, R, s, m, args, below, meth, c, A, nL⟩ := X
  intro H locs L hR hS hL hk hn
  exact lv_lload hX.ex hX.cd hd (hL.at hl) (kk H locs L hR hS hL hk hn)
theorem zr_aload_n (hX : zOK g X cc y ret tb nl d mc ms) {i : Fin 4} {x : Nat} (hl : zlk zl (i : Nat) = some (.ref x)) (hd : decode cc pc = .ok (.aload_n i, 1)) (kk : zw g X Post (pc + 1) zl (.ref x :: st) G k n) : zw g X Post pc zl st G k n := by
  obtain ⟨p, e, R, s, m, args, below, meth, c, A, nL⟩ := X
  intro H locs L hR hS hL hk hn
  exact lv_aload_n hX.ex hX.cd hd rfl (hL.at hl) (kk H locs L hR hS hL hk hn)
theorem zr_aload (hX : zOK g X cc y ret tb nl d mc ms) {i : Nat} {x : Nat} (hl : zlk zl i = some (.ref x)) (hd : decode cc pc = .ok (.aload i, 2)) (kk : zw g X Post (pc + 2) zl (.ref x :: st) G k n) : zw g X Post pc zl st G k n := by
  obtain ⟨p, e, R, s, m, args, below, meth, c, A, nL⟩ := X
  intro H locs L hR hS hL hk hn
  exact lv_aload hX.ex hX.cd hd (hL.at hl) (kk H locs L hR hS hL hk hn)
theorem zr_aload_nN (hX : zOK g X cc y ret tb nl d mc ms) {i : Fin 4} (hl : zlk zl (i : Nat) = some .null) (hd : decode cc pc = .ok (.aload_n i, 1)) (kk : zw g X Post (pc + 1) zl (.null :: st) G k n) : zw g X Post pc zl st G k n := by
  obtain ⟨p, e, R, s, m, args, below, meth, c, A, nL⟩ := X
  intro H locs L hR hS hL hk hn
  exact lv_aload_nN hX.ex hX.cd hd rfl (hL.at hl) (kk H locs L hR hS hL hk hn)
theorem zr_aloadN (hX : zOK g X cc y ret tb nl d mc ms) {i : Nat} (hl : zlk zl i = some .null) (hd : decode cc pc = .ok (.aload i, 2)) (kk : zw g X Post (pc + 2) zl (.null :: st) G k n) : zw g X Post pc zl st G k n := by
  obtain ⟨p, e, R, s, m, args, below, meth, c, A, nL⟩ := X
  intro H locs L hR hS hL hk hn
  exact lv_aloadN hX.ex hX.cd hd (hL.at hl) (kk H locs L hR hS hL hk hn)
theorem zr_istore_n (hX : zOK g X cc y ret tb nl d mc ms) {i : Fin 4} {x : Int32} (hi : (i : Nat) < nl) (hd : decode cc pc = .ok (.istore_n i, 1)) (kk : zw g X Post (pc + 1) (zst zl (i : Nat) (.int x)) st G k n) : zw g X Post pc zl (.int x :: st) G k n := by
  obtain ⟨p, e, R, s, m, args, below, meth, c, A, nL⟩ := X
  intro H locs L hR hS hL hk hn
  obtain ⟨l9, h1, h2⟩ := hL
  exact lv_istore_n hX.ex hX.cd hd rfl h1 (by rw [hX.nq]; exact hi) rfl (fun L1 hL1 => kk H locs L1 hR hS (zloc.st1 h2 hL1) hk hn)
theorem zr_lstore_n (hX : zOK g X cc y ret tb nl d mc ms) {i : Fin 4} {x : Int64} (hi : (i : Nat) + 1 < nl) (hd : decode cc pc = .ok (.lstore_n i, 1)) (kk : zw g X Post (pc + 1) (zst2 zl (i : Nat) (.long x)) st G k n) : zw g X Post pc zl (.long x :: st) G k n := by
  obtain ⟨p, e, R, s, m, args, below, meth, c, A, nL⟩ := X
  intro H locs L hR hS hL hk hn
  obtain ⟨l9, h1, h2⟩ := hL
  exact lv_lstore_n hX.ex hX.cd hd rfl h1 (by rw [hX.nq]; exact hi) rfl (fun L1 hL1 => kk H locs L1 hR hS (zloc.st2 h2 hL1) hk hn)
theorem zr_astore_n (hX : zOK g X cc y ret tb nl d mc ms) {i : Fin 4} {x : Nat} (hi : (i : Nat) < nl) (hd : decode cc pc = .ok (.astore_n i, 1)) (kk : zw g X Post (pc + 1) (zst zl (i : Nat) (.ref x)) st G k n) : zw g X Post pc zl (.ref x :: st) G k n := by
  obtain ⟨p, e, R, s, m, args, below, meth, c, A, nL⟩ := X
  intro H locs L hR hS hL hk hn
  obtain ⟨l9, h1, h2⟩ := hL
  exact lv_astore_n hX.ex hX.cd hd rfl h1 (by rw [hX.nq]; exact hi) rfl (fun L1 hL1 => kk H locs L1 hR hS (zloc.st1 h2 hL1) hk hn)
theorem zr_astore_nN (hX : zOK g X cc y ret tb nl d mc ms) {i : Fin 4} (hi : (i : Nat) < nl) (hd : decode cc pc = .ok (.astore_n i, 1)) (kk : zw g X Post (pc + 1) (zst zl (i : Nat) (.null)) st G k n) : zw g X Post pc zl (.null :: st) G k n := by
  obtain ⟨p, e, R, s, m, args, below, meth, c, A, nL⟩ := X
  intro H locs L hR hS hL hk hn
  obtain ⟨l9, h1, h2⟩ := hL
  exact lv_astore_nN hX.ex hX.cd hd rfl h1 (by rw [hX.nq]; exact hi) rfl (fun L1 hL1 => kk H locs L1 hR hS (zloc.st1 h2 hL1) hk hn)
theorem zr_istore (hX : zOK g X cc y ret tb nl d mc ms) {i : Nat} {x : Int32} (hi : i < nl) (hd : decode cc pc = .ok (.istore i, 2)) (kk : zw g X Post (pc + 2) (zst zl i (.int x)) st G k n) : zw g X Post pc zl (.int x :: st) G k n := by
  obtain ⟨p, e, R, s, m, args, below, meth, c, A, nL⟩ := X
  intro H locs L hR hS hL hk hn
  obtain ⟨l9, h1, h2⟩ := hL
  exact lv_istore hX.ex hX.cd hd h1 (by rw [hX.nq]; exact hi) rfl (fun L1 hL1 => kk H locs L1 hR hS (zloc.st1 h2 hL1) hk hn)
theorem zr_lstore (hX : zOK g X cc y ret tb nl d mc ms) {i : Nat} {x : Int64} (hi : i + 1 < nl) (hd : decode cc pc = .ok (.lstore i, 2)) (kk : zw g X Post (pc + 2) (zst2 zl i (.long x)) st G k n) : zw g X Post pc zl (.long x :: st) G k n := by
  obtain ⟨p, e, R, s, m, args, below, meth, c, A, nL⟩ := X
  intro H locs L hR hS hL hk hn
  obtain ⟨l9, h1, h2⟩ := hL
  exact lv_lstore hX.ex hX.cd hd h1 (by rw [hX.nq]; exact hi) rfl (fun L1 hL1 => kk H locs L1 hR hS (zloc.st2 h2 hL1) hk hn)
theorem zr_astore (hX : zOK g X cc y ret tb nl d mc ms) {i : Nat} {x : Nat} (hi : i < nl) (hd : decode cc pc = .ok (.astore i, 2)) (kk : zw g X Post (pc + 2) (zst zl i (.ref x)) st G k n) : zw g X Post pc zl (.ref x :: st) G k n := by
  obtain ⟨p, e, R, s, m, args, below, meth, c, A, nL⟩ := X
  intro H locs L hR hS hL hk hn
  obtain ⟨l9, h1, h2⟩ := hL
  exact lv_astore hX.ex hX.cd hd h1 (by rw [hX.nq]; exact hi) rfl (fun L1 hL1 => kk H locs L1 hR hS (zloc.st1 h2 hL1) hk hn)
theorem zr_astoreN (hX : zOK g X cc y ret tb nl d mc ms) {i : Nat} (hi : i < nl) (hd : decode cc pc = .ok (.astore i, 2)) (kk : zw g X Post (pc + 2) (zst zl i (.null)) st G k n) : zw g X Post pc zl (.null :: st) G k n := by
  obtain ⟨p, e, R, s, m, args, below, meth, c, A, nL⟩ := X
  intro H locs L hR hS hL hk hn
  obtain ⟨l9, h1, h2⟩ := hL
  exact lv_astoreN hX.ex hX.cd hd h1 (by rw [hX.nq]; exact hi) rfl (fun L1 hL1 => kk H locs L1 hR hS (zloc.st1 h2 hL1) hk hn)
theorem zr_iinc (hX : zOK g X cc y ret tb nl d mc ms) {i : Nat} {z : Int} {x v : Int32} (hl : zlk zl i = some (.int x)) (hv : x + Int32.ofInt z = v) (hi : i < nl) (hd : decode cc pc = .ok (.iinc i z, 3)) (kk : zw g X Post (pc + 3) (zst zl i (.int v)) st G k n) : zw g X Post pc zl st G k n := by
  obtain ⟨p, e, R, s, m, args, below, meth, c, A, nL⟩ := X
  intro H locs L hR hS hL hk hn
  obtain ⟨l9, h1, h2⟩ := hL
  obtain ⟨j, hj⟩ := List.getElem?_of_mem (h2 _ _ hl)
  exact lv_iinc hX.ex hX.cd hd h1 hj hv (by rw [hX.nq]; exact hi) rfl (fun L1 hL1 => kk H locs L1 hR hS (zloc.st1 h2 hL1) hk hn)
theorem zr_iadd (hX : zOK g X cc y ret tb nl d mc ms) {x z : Int32} (hd : decode cc pc = .ok (.iadd, 1)) (kk : zw g X Post (pc + 1) zl (.int (x + z) :: st) G k n) : zw g X Post pc zl (.int z :: .int x :: st) G k n := by
  obtain ⟨p, e, R, s, m, args, below, meth, c, A, nL⟩ := X
  intro H locs L hR hS hL hk hn
  exact lv_iadd hX.ex hX.cd hd (kk H locs L hR hS hL hk hn)
theorem zr_isub (hX : zOK g X cc y ret tb nl d mc ms) {x z : Int32} (hd : decode cc pc = .ok (.isub, 1)) (kk : zw g X Post (pc + 1) zl (.int (x - z) :: st) G k n) : zw g X Post pc zl (.int z :: .int x :: st) G k n := by
  obtain ⟨p, e, R, s, m, args, below, meth, c, A, nL⟩ := X
  intro H locs L hR hS hL hk hn
  exact lv_isub hX.ex hX.cd hd (kk H locs L hR hS hL hk hn)
theorem zr_imul (hX : zOK g X cc y ret tb nl d mc ms) {x z : Int32} (hd : decode cc pc = .ok (.imul, 1)) (kk : zw g X Post (pc + 1) zl (.int (x * z) :: st) G k n) : zw g X Post pc zl (.int z :: .int x :: st) G k n := by
  obtain ⟨p, e, R, s, m, args, below, meth, c, A, nL⟩ := X
  intro H locs L hR hS hL hk hn
  exact lv_imul hX.ex hX.cd hd (kk H locs L hR hS hL hk hn)
theorem zr_iand (hX : zOK g X cc y ret tb nl d mc ms) {x z : Int32} (hd : decode cc pc = .ok (.iand, 1)) (kk : zw g X Post (pc + 1) zl (.int (x &&& z) :: st) G k n) : zw g X Post pc zl (.int z :: .int x :: st) G k n := by
  obtain ⟨p, e, R, s, m, args, below, meth, c, A, nL⟩ := X
  intro H locs L hR hS hL hk hn
  exact lv_iand hX.ex hX.cd hd (kk H locs L hR hS hL hk hn)
theorem zr_ior (hX : zOK g X cc y ret tb nl d mc ms) {x z : Int32} (hd : decode cc pc = .ok (.ior, 1)) (kk : zw g X Post (pc + 1) zl (.int (x ||| z) :: st) G k n) : zw g X Post pc zl (.int z :: .int x :: st) G k n := by
  obtain ⟨p, e, R, s, m, args, below, meth, c, A, nL⟩ := X
  intro H locs L hR hS hL hk hn
  exact lv_ior hX.ex hX.cd hd (kk H locs L hR hS hL hk hn)
theorem zr_ixor (hX : zOK g X cc y ret tb nl d mc ms) {x z : Int32} (hd : decode cc pc = .ok (.ixor, 1)) (kk : zw g X Post (pc + 1) zl (.int (x ^^^ z) :: st) G k n) : zw g X Post pc zl (.int z :: .int x :: st) G k n := by
  obtain ⟨p, e, R, s, m, args, below, meth, c, A, nL⟩ := X
  intro H locs L hR hS hL hk hn
  exact lv_ixor hX.ex hX.cd hd (kk H locs L hR hS hL hk hn)
theorem zr_ishl (hX : zOK g X cc y ret tb nl d mc ms) {x z : Int32} (hd : decode cc pc = .ok (.ishl, 1)) (kk : zw g X Post (pc + 1) zl (.int (x <<< (z &&& 31)) :: st) G k n) : zw g X Post pc zl (.int z :: .int x :: st) G k n := by
  obtain ⟨p, e, R, s, m, args, below, meth, c, A, nL⟩ := X
  intro H locs L hR hS hL hk hn
  exact lv_ishl hX.ex hX.cd hd (kk H locs L hR hS hL hk hn)
theorem zr_ishr (hX : zOK g X cc y ret tb nl d mc ms) {x z : Int32} (hd : decode cc pc = .ok (.ishr, 1)) (kk : zw g X Post (pc + 1) zl (.int (x >>> (z &&& 31)) :: st) G k n) : zw g X Post pc zl (.int z :: .int x :: st) G k n := by
  obtain ⟨p, e, R, s, m, args, below, meth, c, A, nL⟩ := X
  intro H locs L hR hS hL hk hn
  exact lv_ishr hX.ex hX.cd hd (kk H locs L hR hS hL hk hn)
theorem zr_iushr (hX : zOK g X cc y ret tb nl d mc ms) {x z : Int32} (hd : decode cc pc = .ok (.iushr, 1)) (kk : zw g X Post (pc + 1) zl (.int (x.toUInt32 >>> (z.toUInt32 &&& Int32.toUInt32 31)).toInt32 :: st) G k n) : zw g X Post pc zl (.int z :: .int x :: st) G k n := by
  obtain ⟨p, e, R, s, m, args, below, meth, c, A, nL⟩ := X
  intro H locs L hR hS hL hk hn
  exact lv_iushr hX.ex hX.cd hd rfl (kk H locs L hR hS hL hk hn)
theorem zr_idiv (hX : zOK g X cc y ret tb nl d mc ms) {x z : Int32} (hy : ¬ z = 0) (hd : decode cc pc = .ok (.idiv, 1)) (kk : zw g X Post (pc + 1) zl (.int (x / z) :: st) G k n) : zw g X Post pc zl (.int z :: .int x :: st) G k n := by
  obtain ⟨p, e, R, s, m, args, below, meth, c, A, nL⟩ := X
  intro H locs L hR hS hL hk hn
  exact lv_idiv hX.ex hX.cd hd hy (kk H locs L hR hS hL hk hn)
theorem zr_irem (hX : zOK g X cc y ret tb nl d mc ms) {x z : Int32} (hy : ¬ z = 0) (hd : decode cc pc = .ok (.irem, 1)) (kk : zw g X Post (pc + 1) zl (.int (x - x / z * z) :: st) G k n) : zw g X Post pc zl (.int z :: .int x :: st) G k n := by
  obtain ⟨p, e, R, s, m, args, below, meth, c, A, nL⟩ := X
  intro H locs L hR hS hL hk hn
  exact lv_irem hX.ex hX.cd hd hy (kk H locs L hR hS hL hk hn)
theorem zr_lor (hX : zOK g X cc y ret tb nl d mc ms) {x z : Int64} (hd : decode cc pc = .ok (.lor, 1)) (kk : zw g X Post (pc + 1) zl (.long (x ||| z) :: st) G k n) : zw g X Post pc zl (.long z :: .long x :: st) G k n := by
  obtain ⟨p, e, R, s, m, args, below, meth, c, A, nL⟩ := X
  intro H locs L hR hS hL hk hn
  exact lv_lor hX.ex hX.cd hd (kk H locs L hR hS hL hk hn)
theorem zr_lshl (hX : zOK g X cc y ret tb nl d mc ms) {x : Int64} {z : Int32} (hd : decode cc pc = .ok (.lshl, 1)) (kk : zw g X Post (pc + 1) zl (.long (x <<< (z.toInt64 &&& 63)) :: st) G k n) : zw g X Post pc zl (.int z :: .long x :: st) G k n := by
  obtain ⟨p, e, R, s, m, args, below, meth, c, A, nL⟩ := X
  intro H locs L hR hS hL hk hn
  exact lv_lshl hX.ex hX.cd hd rfl (kk H locs L hR hS hL hk hn)
theorem zr_lshr (hX : zOK g X cc y ret tb nl d mc ms) {x : Int64} {z : Int32} (hd : decode cc pc = .ok (.lshr, 1)) (kk : zw g X Post (pc + 1) zl (.long (x >>> (z.toInt64 &&& 63)) :: st) G k n) : zw g X Post pc zl (.int z :: .long x :: st) G k n := by
  obtain ⟨p, e, R, s, m, args, below, meth, c, A, nL⟩ := X
  intro H locs L hR hS hL hk hn
  exact lv_lshr hX.ex hX.cd hd rfl (kk H locs L hR hS hL hk hn)
theorem zr_i2l (hX : zOK g X cc y ret tb nl d mc ms) {x : Int32} (hd : decode cc pc = .ok (.i2l, 1)) (kk : zw g X Post (pc + 1) zl (.long x.toInt64 :: st) G k n) : zw g X Post pc zl (.int x :: st) G k n := by
  obtain ⟨p, e, R, s, m, args, below, meth, c, A, nL⟩ := X
  intro H locs L hR hS hL hk hn
  exact lv_i2l hX.ex hX.cd hd rfl (kk H locs L hR hS hL hk hn)
theorem zr_l2i (hX : zOK g X cc y ret tb nl d mc ms) {x : Int64} (hd : decode cc pc = .ok (.l2i, 1)) (kk : zw g X Post (pc + 1) zl (.int x.toInt32 :: st) G k n) : zw g X Post pc zl (.long x :: st) G k n := by
  obtain ⟨p, e, R, s, m, args, below, meth, c, A, nL⟩ := X
  intro H locs L hR hS hL hk hn
  exact lv_l2i hX.ex hX.cd hd rfl (kk H locs L hR hS hL hk hn)
theorem zr_lcmp (hX : zOK g X cc y ret tb nl d mc ms) {x z : Int64} (hd : decode cc pc = .ok (.lcmp, 1)) (kk : zw g X Post (pc + 1) zl (.int (lg_cmp x z) :: st) G k n) : zw g X Post pc zl (.long z :: .long x :: st) G k n := by
  obtain ⟨p, e, R, s, m, args, below, meth, c, A, nL⟩ := X
  intro H locs L hR hS hL hk hn
  exact W.lcmp hX.ex hX.cd hd (kk H locs L hR hS hL hk hn)
theorem zr_dup (hX : zOK g X cc y ret tb nl d mc ms) {v : Value} (hv : v.category = 1) (hd : decode cc pc = .ok (.dup, 1)) (kk : zw g X Post (pc + 1) zl (v :: v :: st) G k n) : zw g X Post pc zl (v :: st) G k n := by
  obtain ⟨p, e, R, s, m, args, below, meth, c, A, nL⟩ := X
  intro H locs L hR hS hL hk hn
  exact lv_dup hX.ex hX.cd hd hv (kk H locs L hR hS hL hk hn)
theorem zr_dup2 (hX : zOK g X cc y ret tb nl d mc ms) {v w : Value} (hv : v.category = 1) (hw : w.category = 1) (hd : decode cc pc = .ok (.dup2, 1)) (kk : zw g X Post (pc + 1) zl (v :: w :: v :: w :: st) G k n) : zw g X Post pc zl (v :: w :: st) G k n := by
  obtain ⟨p, e, R, s, m, args, below, meth, c, A, nL⟩ := X
  intro H locs L hR hS hL hk hn
  exact lv_dup2_11 hX.ex hX.cd hd hv hw (kk H locs L hR hS hL hk hn)
theorem zr_if_eq (hX : zOK g X cc y ret tb nl d mc ms) {x : Int32} {off : Int} {tgt : Nat} (hd : decode cc pc = .ok (.ifCond .eq off, 3)) (ht : (pc : Int) + off = (tgt : Int)) (kt : x = 0 → zw g X Post tgt zl st G k n) (kf : ¬ x = 0 → zw g X Post (pc + 3) zl st G k n) : zw g X Post pc zl (.int x :: st) G k n := by
  obtain ⟨p, e, R, s, m, args, below, meth, c, A, nL⟩ := X
  intro H locs L hR hS hL hk hn
  exact lv_if_eq hX.ex hX.cd hd ht (fun h => kt h H locs L hR hS hL hk hn) (fun h => kf h H locs L hR hS hL hk hn)
theorem zr_if_ne (hX : zOK g X cc y ret tb nl d mc ms) {x : Int32} {off : Int} {tgt : Nat} (hd : decode cc pc = .ok (.ifCond .ne off, 3)) (ht : (pc : Int) + off = (tgt : Int)) (kt : ¬ x = 0 → zw g X Post tgt zl st G k n) (kf : x = 0 → zw g X Post (pc + 3) zl st G k n) : zw g X Post pc zl (.int x :: st) G k n := by
  obtain ⟨p, e, R, s, m, args, below, meth, c, A, nL⟩ := X
  intro H locs L hR hS hL hk hn
  exact lv_if_ne hX.ex hX.cd hd ht (fun h => kt h H locs L hR hS hL hk hn) (fun h => kf h H locs L hR hS hL hk hn)
theorem zr_if_lt (hX : zOK g X cc y ret tb nl d mc ms) {x : Int32} {off : Int} {tgt : Nat} (hd : decode cc pc = .ok (.ifCond .lt off, 3)) (ht : (pc : Int) + off = (tgt : Int)) (kt : x < 0 → zw g X Post tgt zl st G k n) (kf : ¬ x < 0 → zw g X Post (pc + 3) zl st G k n) : zw g X Post pc zl (.int x :: st) G k n := by
  obtain ⟨p, e, R, s, m, args, below, meth, c, A, nL⟩ := X
  intro H locs L hR hS hL hk hn
  exact lv_if_lt hX.ex hX.cd hd ht (fun h => kt h H locs L hR hS hL hk hn) (fun h => kf h H locs L hR hS hL hk hn)
theorem zr_if_ge (hX : zOK g X cc y ret tb nl d mc ms) {x : Int32} {off : Int} {tgt : Nat} (hd : decode cc pc = .ok (.ifCond .ge off, 3)) (ht : (pc : Int) + off = (tgt : Int)) (kt : 0 ≤ x → zw g X Post tgt zl st G k n) (kf : ¬ 0 ≤ x → zw g X Post (pc + 3) zl st G k n) : zw g X Post pc zl (.int x :: st) G k n := by
  obtain ⟨p, e, R, s, m, args, below, meth, c, A, nL⟩ := X
  intro H locs L hR hS hL hk hn
  exact lv_if_ge hX.ex hX.cd hd ht (fun h => kt h H locs L hR hS hL hk hn) (fun h => kf h H locs L hR hS hL hk hn)
theorem zr_if_gt (hX : zOK g X cc y ret tb nl d mc ms) {x : Int32} {off : Int} {tgt : Nat} (hd : decode cc pc = .ok (.ifCond .gt off, 3)) (ht : (pc : Int) + off = (tgt : Int)) (kt : 0 < x → zw g X Post tgt zl st G k n) (kf : ¬ 0 < x → zw g X Post (pc + 3) zl st G k n) : zw g X Post pc zl (.int x :: st) G k n := by
  obtain ⟨p, e, R, s, m, args, below, meth, c, A, nL⟩ := X
  intro H locs L hR hS hL hk hn
  exact lv_if_gt hX.ex hX.cd hd ht (fun h => kt h H locs L hR hS hL hk hn) (fun h => kf h H locs L hR hS hL hk hn)
theorem zr_if_le (hX : zOK g X cc y ret tb nl d mc ms) {x : Int32} {off : Int} {tgt : Nat} (hd : decode cc pc = .ok (.ifCond .le off, 3)) (ht : (pc : Int) + off = (tgt : Int)) (kt : x ≤ 0 → zw g X Post tgt zl st G k n) (kf : ¬ x ≤ 0 → zw g X Post (pc + 3) zl st G k n) : zw g X Post pc zl (.int x :: st) G k n := by
  obtain ⟨p, e, R, s, m, args, below, meth, c, A, nL⟩ := X
  intro H locs L hR hS hL hk hn
  exact lv_if_le hX.ex hX.cd hd ht (fun h => kt h H locs L hR hS hL hk hn) (fun h => kf h H locs L hR hS hL hk hn)
theorem zr_icmp_eq (hX : zOK g X cc y ret tb nl d mc ms) {x z : Int32} {off : Int} {tgt : Nat} (hd : decode cc pc = .ok (.if_icmp .eq off, 3)) (ht : (pc : Int) + off = (tgt : Int)) (kt : x = z → zw g X Post tgt zl st G k n) (kf : ¬ x = z → zw g X Post (pc + 3) zl st G k n) : zw g X Post pc zl (.int z :: .int x :: st) G k n := by
  obtain ⟨p, e, R, s, m, args, below, meth, c, A, nL⟩ := X
  intro H locs L hR hS hL hk hn
  exact lv_icmp_eq hX.ex hX.cd hd ht (fun h => kt h H locs L hR hS hL hk hn) (fun h => kf h H locs L hR hS hL hk hn)
theorem zr_icmp_ne (hX : zOK g X cc y ret tb nl d mc ms) {x z : Int32} {off : Int} {tgt : Nat} (hd : decode cc pc = .ok (.if_icmp .ne off, 3)) (ht : (pc : Int) + off = (tgt : Int)) (kt : ¬ x = z → zw g X Post tgt zl st G k n) (kf : x = z → zw g X Post (pc + 3) zl st G k n) : zw g X Post pc zl (.int z :: .int x :: st) G k n := by
  obtain ⟨p, e, R, s, m, args, below, meth, c, A, nL⟩ := X
  intro H locs L hR hS hL hk hn
  exact lv_icmp_ne hX.ex hX.cd hd ht (fun h => kt h H locs L hR hS hL hk hn) (fun h => kf h H locs L hR hS hL hk hn)
theorem zr_icmp_lt (hX : zOK g X cc y ret tb nl d mc ms) {x z : Int32} {off : Int} {tgt : Nat} (hd : decode cc pc = .ok (.if_icmp .lt off, 3)) (ht : (pc : Int) + off = (tgt : Int)) (kt : x < z → zw g X Post tgt zl st G k n) (kf : ¬ x < z → zw g X Post (pc + 3) zl st G k n) : zw g X Post pc zl (.int z :: .int x :: st) G k n := by
  obtain ⟨p, e, R, s, m, args, below, meth, c, A, nL⟩ := X
  intro H locs L hR hS hL hk hn
  exact lv_icmp_lt hX.ex hX.cd hd ht (fun h => kt h H locs L hR hS hL hk hn) (fun h => kf h H locs L hR hS hL hk hn)
theorem zr_icmp_ge (hX : zOK g X cc y ret tb nl d mc ms) {x z : Int32} {off : Int} {tgt : Nat} (hd : decode cc pc = .ok (.if_icmp .ge off, 3)) (ht : (pc : Int) + off = (tgt : Int)) (kt : z ≤ x → zw g X Post tgt zl st G k n) (kf : ¬ z ≤ x → zw g X Post (pc + 3) zl st G k n) : zw g X Post pc zl (.int z :: .int x :: st) G k n := by
  obtain ⟨p, e, R, s, m, args, below, meth, c, A, nL⟩ := X
  intro H locs L hR hS hL hk hn
  exact lv_icmp_ge hX.ex hX.cd hd ht (fun h => kt h H locs L hR hS hL hk hn) (fun h => kf h H locs L hR hS hL hk hn)
theorem zr_icmp_gt (hX : zOK g X cc y ret tb nl d mc ms) {x z : Int32} {off : Int} {tgt : Nat} (hd : decode cc pc = .ok (.if_icmp .gt off, 3)) (ht : (pc : Int) + off = (tgt : Int)) (kt : z < x → zw g X Post tgt zl st G k n) (kf : ¬ z < x → zw g X Post (pc + 3) zl st G k n) : zw g X Post pc zl (.int z :: .int x :: st) G k n := by
  obtain ⟨p, e, R, s, m, args, below, meth, c, A, nL⟩ := X
  intro H locs L hR hS hL hk hn
  exact lv_icmp_gt hX.ex hX.cd hd ht (fun h => kt h H locs L hR hS hL hk hn) (fun h => kf h H locs L hR hS hL hk hn)
theorem zr_icmp_le (hX : zOK g X cc y ret tb nl d mc ms) {x z : Int32} {off : Int} {tgt : Nat} (hd : decode cc pc = .ok (.if_icmp .le off, 3)) (ht : (pc : Int) + off = (tgt : Int)) (kt : x ≤ z → zw g X Post tgt zl st G k n) (kf : ¬ x ≤ z → zw g X Post (pc + 3) zl st G k n) : zw g X Post pc zl (.int z :: .int x :: st) G k n := by
  obtain ⟨p, e, R, s, m, args, below, meth, c, A, nL⟩ := X
  intro H locs L hR hS hL hk hn
  exact lv_icmp_le hX.ex hX.cd hd ht (fun h => kt h H locs L hR hS hL hk hn) (fun h => kf h H locs L hR hS hL hk hn)
theorem zr_goto (hX : zOK g X cc y ret tb nl d mc ms)  {off : Int} {tgt : Nat} (ht : (pc : Int) + off = (tgt : Int)) (hd : decode cc pc = .ok (.goto off, 3)) (kk : zw g X Post tgt zl st G k n) : zw g X Post pc zl st G k n := by
  obtain ⟨p, e, R, s, m, args, below, meth, c, A, nL⟩ := X
  intro H locs L hR hS hL hk hn
  exact lv_goto hX.ex hX.cd hd ht (kk H locs L hR hS hL hk hn)
theorem zr_ifnonnull (hX : zOK g X cc y ret tb nl d mc ms) {x : Nat} {off : Int} {tgt : Nat} (ht : (pc : Int) + off = (tgt : Int)) (hd : decode cc pc = .ok (.ifnonnull off, 3)) (kk : zw g X Post tgt zl st G k n) : zw g X Post pc zl (.ref x :: st) G k n := by
  obtain ⟨p, e, R, s, m, args, below, meth, c, A, nL⟩ := X
  intro H locs L hR hS hL hk hn
  exact lv_ifnonnull hX.ex hX.cd hd ht (kk H locs L hR hS hL hk hn)
theorem zr_ifnull (hX : zOK g X cc y ret tb nl d mc ms) {x : Nat} {off : Int} (hd : decode cc pc = .ok (.ifnull off, 3)) (kk : zw g X Post (pc + 3) zl st G k n) : zw g X Post pc zl (.ref x :: st) G k n := by
  obtain ⟨p, e, R, s, m, args, below, meth, c, A, nL⟩ := X
  intro H locs L hR hS hL hk hn
  exact lv_ifnull hX.ex hX.cd hd (kk H locs L hR hS hL hk hn)
theorem zr_ifnullN (hX : zOK g X cc y ret tb nl d mc ms)  {off : Int} {tgt : Nat} (ht : (pc : Int) + off = (tgt : Int)) (hd : decode cc pc = .ok (.ifnull off, 3)) (kk : zw g X Post tgt zl st G k n) : zw g X Post pc zl (.null :: st) G k n := by
  obtain ⟨p, e, R, s, m, args, below, meth, c, A, nL⟩ := X
  intro H locs L hR hS hL hk hn
  exact lv_ifnullN hX.ex hX.cd hd ht (kk H locs L hR hS hL hk hn)
theorem zr_ifnonnullN (hX : zOK g X cc y ret tb nl d mc ms)  {off : Int} (hd : decode cc pc = .ok (.ifnonnull off, 3)) (kk : zw g X Post (pc + 3) zl st G k n) : zw g X Post pc zl (.null :: st) G k n := by
  obtain ⟨p, e, R, s, m, args, below, meth, c, A, nL⟩ := X
  intro H locs L hR hS hL hk hn
  exact lv_ifnonnullN hX.ex hX.cd hd (kk H locs L hR hS hL hk hn)
theorem zr_tabOut (hX : zOK g X cc y ret tb nl d mc ms) {dflt lo hi : Int} {offs : Array Int} {len : Nat} {x : Int32} {tgt : Nat} (hd : decode cc pc = .ok (.tableswitch dflt lo hi offs, len)) (h : x.toInt < lo ∨ hi < x.toInt) (ht : (pc : Int) + dflt = (tgt : Int)) (kk : zw g X Post tgt zl st G k n) : zw g X Post pc zl (.int x :: st) G k n := by
  obtain ⟨p, e, R, s, m, args, below, meth, c, A, nL⟩ := X
  intro H locs L hR hS hL hk hn
  exact lv_tableOut hX.ex hX.cd hd h ht (kk H locs L hR hS hL hk hn)
theorem zr_tabIn (hX : zOK g X cc y ret tb nl d mc ms) {dflt lo hi : Int} {offs : Array Int} {len : Nat} {x : Int32} {off : Int} {tgt : Nat} (hd : decode cc pc = .ok (.tableswitch dflt lo hi offs, len)) (h1 : ¬ x.toInt < lo) (h2 : ¬ hi < x.toInt) (ho : offs[(x.toInt - lo).toNat]? = some off) (ht : (pc : Int) + off = (tgt : Int)) (kk : zw g X Post tgt zl st G k n) : zw g X Post pc zl (.int x :: st) G k n := by
  obtain ⟨p, e, R, s, m, args, below, meth, c, A, nL⟩ := X
  intro H locs L hR hS hL hk hn
  exact lv_tableIn hX.ex hX.cd hd h1 h2 ho ht (kk H locs L hR hS hL hk hn)
theorem zr_look (hX : zOK g X cc y ret tb nl d mc ms) {dflt : Int} {ps : Array (Int × Int)} {len : Nat} {x : Int32} {off : Int} {tgt : Nat} (hd : decode cc pc = .ok (.lookupswitch dflt ps, len)) (hp : (ps.toList.zip (ps.toList.drop 1)).all (fun (a, next) => a.1 < next.1) = true) (ho : Op.lookupswitch.offset ps.toList dflt x.toInt = off) (ht : (pc : Int) + off = (tgt : Int)) (kk : zw g X Post tgt zl st G k n) : zw g X Post pc zl (.int x :: st) G k n := by
  obtain ⟨p, e, R, s, m, args, below, meth, c, A, nL⟩ := X
  intro H locs L hR hS hL hk hn
  exact lv_lookup hX.ex hX.cd hd hp ho ht (kk H locs L hR hS hL hk hn)
end ZR
