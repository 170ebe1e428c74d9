/-! the reference's constructor -/
def zMp (S : Nat → Bool) (a : Nat → Nat) (m : Nat) (fs : List Value) (G0 G : zG) : Prop := G m = some (zO 6 fs) ∧ (∀ j, S j = true → G (a j) = some (zMc j (fun _ => 0)) ∧ G0 (a j) = none) ∧ (∀ j k, S j = true → S k = true → a j = a k → j = k) ∧ ∀ q, q ≠ m → G0 q ≠ none → G q = G0 q
theorem zMp_obj {S : Nat → Bool} {a : Nat → Nat} {m : Nat} {fs fs2 : List Value} {G0 G : zG} (h : zMp S a m fs G0 G) : zMp S a m fs2 G0 (zput G m (zO 6 fs2)) := by
  obtain ⟨h1, h2, h3, h4⟩ := h
  refine ⟨zput_s _ _ _, fun j hj => ⟨zput_k (fun e => ?_) (h2 j hj).1, (h2 j hj).2⟩, h3, fun q hq hq0 => (zput_n hq).trans (h4 q hq hq0)⟩
  have h5 := (h2 j hj).1
  rw [e, h1] at h5
  have h6 := congrArg zck (Option.some.inj h5)
  have h7 := zMc_kind j (fun _ => 0)
  rw [← h6] at h7
  exact absurd (show (14 : Nat) ≤ 1 from h7) (by decide)
theorem zMp_new {S : Nat → Bool} {a : Nat → Nat} {m q j : Nat} {fs : List Value} {G0 G : zG} (h : zMp S a m fs G0 G) (hq : G q = none) (hj : S j = false) : zMp (va_up S j true) (va_up a j q) m fs G0 (zput G q (zMc j (fun _ => 0))) := by
  obtain ⟨h1, h2, h3, h4⟩ := h
  have hmq : m ≠ q := fun e => by rw [← e, h1] at hq; cases hq
  have hold : ∀ i, va_up S j true i = true → i ≠ j → S i = true := fun i hi e => by rw [va_up_ne _ _ e] at hi; exact hi
  have haq : ∀ i, S i = true → a i ≠ q := fun i hi e => by
    have := (h2 i hi).1
    rw [e, hq] at this
    cases this
  refine ⟨zput_k hmq h1, fun i hi => ?_, fun i k hi hk e => ?_, fun p hp hp0 => ?_⟩
  · by_cases e : i = j
    · subst e
      rw [va_up_self]
      refine ⟨zput_s _ _ _, ?_⟩
      cases hg : G0 q with
      | none => rfl
      | some c =>
        have := h4 q hmq.symm (by rw [hg]; intro x; cases x)
        rw [hq, hg] at this
        cases this
    · rw [va_up_ne _ _ e]
      exact ⟨zput_k (haq i (hold i hi e)) (h2 i (hold i hi e)).1, (h2 i (hold i hi e)).2⟩
  · by_cases e1 : i = j
    · by_cases e2 : k = j
      · rw [e1, e2]
      · rw [e1, va_up_self, va_up_ne _ _ e2] at e
        exact absurd e.symm (haq k (hold k hk e2))
    · by_cases e2 : k = j
      · rw [e2, va_up_self, va_up_ne _ _ e1] at e
        exact absurd e (haq i (hold i hi e1))
      · rw [va_up_ne _ _ e1, va_up_ne _ _ e2] at e
        exact h3 i k (hold i hi e1) (hold k hk e2) e
  · have hpq : p ≠ q := fun e => by
      have := h4 p hp hp0
      rw [e, hq] at this
      rw [e] at hp0
      exact hp0 this.symm
    exact (zput_n hpq).trans (h4 p hp hp0)
section ZMI
variable {g : zGt} {X : zX} {d mc ms : Nat} {Post : zRes → zG → Prop} {pc : Nat} {zl : List (Option Value)} {G0 G : zG} {k n m : Nat} {S : Nat → Bool} {a : Nat → Nat} {fs : List Value}
theorem zr_mnewI (hX : zOK g X b_M_init y_M_init none [] 2 d mc ms) (hp : zMp S a m fs G0 G) {N idx : Nat} {i : Int32} (j : Nat) (hj : j < 28) (hS : S j = false) (hw : Cond.fieldLink y_M_init.cls idx "SurveyStoreModel" (zF_M j).2.1 (zF_M j).2.2.1 ∈ zTW) (hc : zMc j (fun _ => 0) = zI N (fun _ => 0)) (ho : (zF_M j).1 = "SurveyStoreModel") (hf : (zF_M j).2.2.2 = true) (hn1 : ∀ q, narrow (zt_M j) (.ref q) = .ref q) (hn2 : ∀ q, fits (zt_M j) (.ref q) = true) (hl : j < fs.length) (hi : ¬ i < 0) (hN : i.toNatClampNeg = N) (hb : N * 4 ≤ 536870912) (hk1 : k + 1 ≤ mc) (hn9 : n + N ≤ ms) (d0 : decode b_M_init pc = .ok (.newarray .int, 2)) (d2 : decode b_M_init (pc + 2) = .ok (.putfield idx, 3))
    (kk : ∀ (q : Nat) (G2 : zG), zMp (va_up S j true) (va_up a j q) m (fs.set j (.ref q)) G0 G2 → zw g X Post (pc + 5) zl [] G2 (k + 1) (n + N)) : zw g X Post pc zl [.int i, .ref m] G k n := by
  refine zr_newI hX q56 hi hN hb hk1 hn9 d0 (fun q hq => ?_)
  have h1 := zMp_new hp hq hS
  rw [hc] at h1
  exact zr_putF hX k_M j hj hw ho hf rfl rfl (hn1 q) (hn2 q) hl h1.1 d2 (kk q _ (zMp_obj h1))
theorem zr_mnewZ (hX : zOK g X b_M_init y_M_init none [] 2 d mc ms) (hp : zMp S a m fs G0 G) {N idx : Nat} {i : Int32} (j : Nat) (hj : j < 28) (hS : S j = false) (hw : Cond.fieldLink y_M_init.cls idx "SurveyStoreModel" (zF_M j).2.1 (zF_M j).2.2.1 ∈ zTW) (hc : zMc j (fun _ => 0) = zB N (fun _ => 0)) (ho : (zF_M j).1 = "SurveyStoreModel") (hf : (zF_M j).2.2.2 = true) (hn1 : ∀ q, narrow (zt_M j) (.ref q) = .ref q) (hn2 : ∀ q, fits (zt_M j) (.ref q) = true) (hl : j < fs.length) (hi : ¬ i < 0) (hN : i.toNatClampNeg = N) (hb : N * 1 ≤ 536870912) (hk1 : k + 1 ≤ mc) (hn9 : n + N ≤ ms) (d0 : decode b_M_init pc = .ok (.newarray .boolean, 2)) (d2 : decode b_M_init (pc + 2) = .ok (.putfield idx, 3))
    (kk : ∀ (q : Nat) (G2 : zG), zMp (va_up S j true) (va_up a j q) m (fs.set j (.ref q)) G0 G2 → zw g X Post (pc + 5) zl [] G2 (k + 1) (n + N)) : zw g X Post pc zl [.int i, .ref m] G k n := by
  refine zr_newZ hX q612 hi hN hb hk1 hn9 d0 (fun q hq => ?_)
  have h1 := zMp_new hp hq hS
  rw [hc] at h1
  exact zr_putF hX k_M j hj hw ho hf rfl rfl (hn1 q) (hn2 q) hl h1.1 d2 (kk q _ (zMp_obj h1))
end ZMI
def st_M_init1  (j : Nat) (s : zU) : zU := (zua (zua s 1 (upd (s.ar 1) j (-2147483648))) 2 (upd (s.ar 2) j (-1)))
def st_M_init2  (i : Nat) (t : zU) : zU := (zua t 9 (upd (t.ar 9) i (-1)))
def st_M_init3  (e : Nat) (r : zU) : zU := (zua (zua r 22 (upd (r.ar 22) e (-2147483648))) 23 (upd (r.ar 23) e (-2147483648)))
def t_M_init (u : zU) : zU := (zua (zua (zua (zfor 8 st_M_init3 (zfor 4 st_M_init2 (zfor 114688 st_M_init1 u))) 4 (upd ((zfor 8 st_M_init3 (zfor 4 st_M_init2 (zfor 114688 st_M_init1 u))).ar 4) 0 (-1))) 5 (upd ((zfor 8 st_M_init3 (zfor 4 st_M_init2 (zfor 114688 st_M_init1 u))).ar 5) 0 (-1))) 7 (upd ((zfor 8 st_M_init3 (zfor 4 st_M_init2 (zfor 114688 st_M_init1 u))).ar 7) 0 1))
theorem z_M_init2 {g : zGt} {X : zX} {d : Nat} {Post : zRes → zG → Prop} (hX : zOK g X b_M_init y_M_init none [] 2 d 22 422036) {G : zG} {u : zU} {m : Nat} (h : zMv u m G) (kk : ∀ G2, zMv (t_M_init u) m G2 → zMf u m G G2 → (t_M_init u).1 = u.1 → Post (.inl none) G2) : zw g X Post 198 [some (.ref m), none] [] G 22 422036 := by
  refine zr_iconst (v := 0) hX rfl d_M_init_198 ?_
  refine zs_istore_n hX (by decide) rfl d_M_init_199 ?_
  have L200 : ∀ j, j ≤ 114688 → ∀ (s : zU) (G_s : zG), s = zfor j st_M_init1 u → zMv s m G_s → zMf u m G G_s → s.1 = u.1 → s.2.1 = u.2.1 → zw g X Post 200 [some (.ref m), some (.int (nI j))] [] G_s 22 422036 := by
    refine zup 114688 (fun j hj_s ih_s => ?_)
    intro s G_s hs_s hk_s fk_s ek_s ik_s
    by_cases hlt_s : j < 114688
    · skip
      refine zr_iload_n hX rfl d_M_init_200 ?_
      refine zr_ldc hX q650 d_M_init_201 ?_
      refine zr_icmp_ge hX (tgt := 227) d_M_init_203 (by decide) (fun h9 => absurd h9 (nI_ge (a := j) (b := 114688) (by omega) (by decide))) (fun _ => ?_)
      refine zr_aload_n hX rfl d_M_init_206 ?_
      refine zr_get hX k_M 1 (by decide) q654 rfl hk_s.m rfl d_M_init_207 ?_
      refine zr_iload_n hX rfl d_M_init_210 ?_
      refine zr_ldc hX q652 d_M_init_211 ?_
      refine zr_iastN hX (hk_s.ar 1 rfl) j rfl (by omega) (by decide) d_M_init_213 ?_
      refine zr_aload_n hX rfl d_M_init_214 ?_
      refine zr_get hX k_M 2 (by decide) q655 rfl (zput_k (zne hk_s.m (hk_s.ar 1 rfl) rfl) hk_s.m) rfl d_M_init_215 ?_
      refine zr_iload_n hX rfl d_M_init_218 ?_
      refine zr_iconst (v := (-1)) hX rfl d_M_init_219 ?_
      refine zr_iastN hX (zput_k (hk_s.ne 2 1 rfl rfl (by decide)) (hk_s.ar 2 rfl)) j rfl (by omega) (by decide) d_M_init_220 ?_
      refine zs_iinc (v := nI (j + 1)) hX rfl (nI_add _ 1) (by decide) rfl d_M_init_221 ?_
      refine zr_goto hX (tgt := 200) (by decide) d_M_init_224 ?_
      exact ih_s hlt_s (zua (zua s 1 (upd (s.ar 1) j (-2147483648))) 2 (upd (s.ar 2) j (-1))) _ (by rw [zfor_s, ← hs_s]; unfold st_M_init1; rfl) (zMv.arr (zMv.arr hk_s 1 rfl _) 2 rfl _) (zMf.arr (zMf.arr fk_s 1 rfl (congrFun ek_s 1) _) 2 rfl (congrFun ek_s 2) _) ek_s ik_s
    · skip
      have ej_s : j = 114688 := by omega
      rw [ej_s] at hs_s
      refine zr_iload_n hX rfl d_M_init_200 ?_
      refine zr_ldc hX q650 d_M_init_201 ?_
      refine zr_icmp_ge hX (tgt := 227) d_M_init_203 (by decide) (fun _ => ?_) (fun h9 => absurd h9 (zq_leT (a := 114688) (b := j) (by omega) (by omega)))
      refine zr_iconst (v := 0) hX rfl d_M_init_227 ?_
      refine zs_istore_n hX (by decide) rfl d_M_init_228 ?_
      have L229 : ∀ i, i ≤ 4 → ∀ (t : zU) (G_t : zG), t = zfor i st_M_init2 s → zMv t m G_t → zMf u m G G_t → t.1 = u.1 → t.2.1 = s.2.1 → zw g X Post 229 [some (.ref m), some (.int (nI i))] [] G_t 22 422036 := by
        refine zup 4 (fun i hj_t ih_t => ?_)
        intro t G_t hs_t hk_t fk_t ek_t ik_t
        by_cases hlt_t : i < 4
        · skip
          refine zr_iload_n hX rfl d_M_init_229 ?_
          refine zr_iconst (v := 4) hX rfl d_M_init_230 ?_
          refine zr_icmp_ge hX (tgt := 247) d_M_init_231 (by decide) (fun h9 => absurd h9 (nI_ge (a := i) (b := 4) (by omega) (by decide))) (fun _ => ?_)
          refine zr_aload_n hX rfl d_M_init_234 ?_
          refine zr_get hX k_M 9 (by decide) q662 rfl hk_t.m rfl d_M_init_235 ?_
          refine zr_iload_n hX rfl d_M_init_238 ?_
          refine zr_iconst (v := (-1)) hX rfl d_M_init_239 ?_
          refine zr_iastN hX (hk_t.ar 9 rfl) i rfl (by omega) (by decide) d_M_init_240 ?_
          refine zs_iinc (v := nI (i + 1)) hX rfl (nI_add _ 1) (by decide) rfl d_M_init_241 ?_
          refine zr_goto hX (tgt := 229) (by decide) d_M_init_244 ?_
          exact ih_t hlt_t (zua t 9 (upd (t.ar 9) i (-1))) _ (by rw [zfor_s, ← hs_t]; unfold st_M_init2; rfl) (zMv.arr hk_t 9 rfl _) (zMf.arr fk_t 9 rfl (congrFun ek_t 9) _) ek_t ik_t
        · skip
          have ej_t : i = 4 := by omega
          rw [ej_t] at hs_t
          refine zr_iload_n hX rfl d_M_init_229 ?_
          refine zr_iconst (v := 4) hX rfl d_M_init_230 ?_
          refine zr_icmp_ge hX (tgt := 247) d_M_init_231 (by decide) (fun _ => ?_) (fun h9 => absurd h9 (zq_leT (a := 4) (b := i) (by omega) (by omega)))
          refine zr_iconst (v := 0) hX rfl d_M_init_247 ?_
          refine zs_istore_n hX (by decide) rfl d_M_init_248 ?_
          have L249 : ∀ e, e ≤ 8 → ∀ (r : zU) (G_r : zG), r = zfor e st_M_init3 t → zMv r m G_r → zMf u m G G_r → r.1 = u.1 → r.2.1 = t.2.1 → zw g X Post 249 [some (.ref m), some (.int (nI e))] [] G_r 22 422036 := by
            refine zup 8 (fun e hj_r ih_r => ?_)
            intro r G_r hs_r hk_r fk_r ek_r ik_r
            by_cases hlt_r : e < 8
            · skip
              refine zr_iload_n hX rfl d_M_init_249 ?_
              refine zr_bipush (v := 8) hX rfl d_M_init_250 ?_
              refine zr_icmp_ge hX (tgt := 277) d_M_init_252 (by decide) (fun h9 => absurd h9 (nI_ge (a := e) (b := 8) (by omega) (by decide))) (fun _ => ?_)
              refine zr_aload_n hX rfl d_M_init_255 ?_
              refine zr_get hX k_M 22 (by decide) q675 rfl hk_r.m rfl d_M_init_256 ?_
              refine zr_iload_n hX rfl d_M_init_259 ?_
              refine zr_ldc hX q652 d_M_init_260 ?_
              refine zr_iastN hX (hk_r.ar 22 rfl) e rfl (by omega) (by decide) d_M_init_262 ?_
              refine zr_aload_n hX rfl d_M_init_263 ?_
              refine zr_get hX k_M 23 (by decide) q676 rfl (zput_k (zne hk_r.m (hk_r.ar 22 rfl) rfl) hk_r.m) rfl d_M_init_264 ?_
              refine zr_iload_n hX rfl d_M_init_267 ?_
              refine zr_ldc hX q652 d_M_init_268 ?_
              refine zr_iastN hX (zput_k (hk_r.ne 23 22 rfl rfl (by decide)) (hk_r.ar 23 rfl)) e rfl (by omega) (by decide) d_M_init_270 ?_
              refine zs_iinc (v := nI (e + 1)) hX rfl (nI_add _ 1) (by decide) rfl d_M_init_271 ?_
              refine zr_goto hX (tgt := 249) (by decide) d_M_init_274 ?_
              exact ih_r hlt_r (zua (zua r 22 (upd (r.ar 22) e (-2147483648))) 23 (upd (r.ar 23) e (-2147483648))) _ (by rw [zfor_s, ← hs_r]; unfold st_M_init3; rfl) (zMv.arr (zMv.arr hk_r 22 rfl _) 23 rfl _) (zMf.arr (zMf.arr fk_r 22 rfl (congrFun ek_r 22) _) 23 rfl (congrFun ek_r 23) _) ek_r ik_r
            · skip
              have ej_r : e = 8 := by omega
              rw [ej_r] at hs_r
              refine zr_iload_n hX rfl d_M_init_249 ?_
              refine zr_bipush (v := 8) hX rfl d_M_init_250 ?_
              refine zr_icmp_ge hX (tgt := 277) d_M_init_252 (by decide) (fun _ => ?_) (fun h9 => absurd h9 (zq_leT (a := 8) (b := e) (by omega) (by omega)))
              refine zr_aload_n hX rfl d_M_init_277 ?_
              refine zr_get hX k_M 4 (by decide) q657 rfl hk_r.m rfl d_M_init_278 ?_
              refine zr_iconst (v := 0) hX rfl d_M_init_281 ?_
              refine zr_iconst (v := (-1)) hX rfl d_M_init_282 ?_
              refine zr_iastN hX (hk_r.ar 4 rfl) 0 rfl (by omega) (by decide) d_M_init_283 ?_
              refine zr_aload_n hX rfl d_M_init_284 ?_
              refine zr_get hX k_M 5 (by decide) q658 rfl (zput_k (zne hk_r.m (hk_r.ar 4 rfl) rfl) hk_r.m) rfl d_M_init_285 ?_
              refine zr_iconst (v := 0) hX rfl d_M_init_288 ?_
              refine zr_iconst (v := (-1)) hX rfl d_M_init_289 ?_
              refine zr_iastN hX (zput_k (hk_r.ne 5 4 rfl rfl (by decide)) (hk_r.ar 5 rfl)) 0 rfl (by omega) (by decide) d_M_init_290 ?_
              refine zr_aload_n hX rfl d_M_init_291 ?_
              refine zr_get hX k_M 7 (by decide) q660 rfl (zput_k (zne hk_r.m (hk_r.ar 5 rfl) rfl) (zput_k (zne hk_r.m (hk_r.ar 4 rfl) rfl) hk_r.m)) rfl d_M_init_292 ?_
              refine zr_iconst (v := 0) hX rfl d_M_init_295 ?_
              refine zr_iconst (v := 1) hX rfl d_M_init_296 ?_
              refine zr_zastN hX (zput_k (hk_r.ne 7 5 rfl rfl (by decide)) (zput_k (hk_r.ne 7 4 rfl rfl (by decide)) (hk_r.ar 7 rfl))) 0 rfl (by omega) (by decide) rfl d_M_init_297 ?_
              exact zr_vret hX d_M_init_298 (kk _ (by unfold t_M_init; rw [← hs_s]; rw [← hs_t]; rw [← hs_r]; exact (zMv.arr (zMv.arr (zMv.arr hk_r 4 rfl _) 5 rfl _) 7 rfl _)) (zMf.arr (zMf.arr (zMf.arr fk_r 4 rfl (congrFun ek_r 4) _) 5 rfl (congrFun ek_r 5) _) 7 rfl (congrFun ek_r 7) _) (by unfold t_M_init; rw [← hs_s]; rw [← hs_t]; rw [← hs_r]; exact ek_r))
          exact L249 0 (Nat.zero_le _) _ _ rfl hk_t fk_t ek_t rfl
      exact L229 0 (Nat.zero_le _) _ _ rfl hk_s fk_s ek_s rfl
  exact L200 0 (Nat.zero_le _) _ _ rfl h zMf.rf rfl rfl
def zMi : Nat → Int32 := upd (upd (upd (fun _ => 0) 6 1) 18 32) 19 32
set_option maxHeartbeats 400000 in
theorem c_M_init (g : zGt) (d : Nat) (hd : 1 ≤ d) (G : zG) (m : Nat) (hm : G m = some (zO 6 [.int 0, .null, .null, .null, .null, .null, .int 0, .null, .null, .null, .null, .null, .null, .null, .null, .null, .int 0, .int 0, .int 0, .int 0, .null, .null, .null, .null, .null, .null, .null, .null])) : zMet g y_M_init b_M_init 2 none [] d 22 422036 [.ref m] G (fun r G1 => r = .inl none ∧ ∃ a : Nat → Nat, zMv (t_M_init (a, zMi, (fun _ _ => 0))) m G1 ∧ (t_M_init (a, zMi, (fun _ _ => 0))).1 = a ∧ (∀ j, zMa j = true → G (a j) = none) ∧ ∀ q, q ≠ m → G q ≠ none → G1 q = G q) := by
  refine zMet.of (by decide) (Nat.le_of_ble_eq_true rfl) rfl (fun X hX => ?_)
  have hp : zMp (fun _ => false) (fun _ => 0) m [.int 0, .null, .null, .null, .null, .null, .int 0, .null, .null, .null, .null, .null, .null, .null, .null, .null, .int 0, .int 0, .int 0, .int 0, .null, .null, .null, .null, .null, .null, .null, .null] G G := ⟨hm, (fun j hj => nomatch hj), (fun j k hj => nomatch hj), fun _ _ _ => rfl⟩
  refine zr_aload_n hX rfl d_M_init_0 ?_
  refine zr_objInit hX q649 q22 q23 (Nat.le_of_ble_eq_true rfl) (by omega) d_M_init_1 ?_
  refine zr_aload_n hX rfl d_M_init_4 ?_
  refine zr_ldc hX q650 d_M_init_5 ?_
  refine zr_mnewI hX hp 1 (by decide) rfl q654 rfl rfl rfl (fun _ => rfl) (fun _ => rfl) (Nat.le_of_ble_eq_true rfl) (by decide) rfl (by decide) (Nat.le_of_ble_eq_true rfl) (Nat.le_of_ble_eq_true rfl) d_M_init_7 d_M_init_9 (fun a1 G1 hr1 => ?_)
  have hp1 : zMp _ _ m [.int 0, .ref a1, .null, .null, .null, .null, .int 0, .null, .null, .null, .null, .null, .null, .null, .null, .null, .int 0, .int 0, .int 0, .int 0, .null, .null, .null, .null, .null, .null, .null, .null] G G1 := hr1
  refine zr_aload_n hX rfl d_M_init_12 ?_
  refine zr_ldc hX q650 d_M_init_13 ?_
  refine zr_mnewI hX hp1 2 (by decide) rfl q655 rfl rfl rfl (fun _ => rfl) (fun _ => rfl) (Nat.le_of_ble_eq_true rfl) (by decide) rfl (by decide) (Nat.le_of_ble_eq_true rfl) (Nat.le_of_ble_eq_true rfl) d_M_init_15 d_M_init_17 (fun a2 G2 hr2 => ?_)
  have hp2 : zMp _ _ m [.int 0, .ref a1, .ref a2, .null, .null, .null, .int 0, .null, .null, .null, .null, .null, .null, .null, .null, .null, .int 0, .int 0, .int 0, .int 0, .null, .null, .null, .null, .null, .null, .null, .null] G G2 := hr2
  refine zr_aload_n hX rfl d_M_init_20 ?_
  refine zr_iconst (v := 4) hX rfl d_M_init_21 ?_
  refine zr_mnewI hX hp2 3 (by decide) rfl q656 rfl rfl rfl (fun _ => rfl) (fun _ => rfl) (Nat.le_of_ble_eq_true rfl) (by decide) rfl (by decide) (Nat.le_of_ble_eq_true rfl) (Nat.le_of_ble_eq_true rfl) d_M_init_22 d_M_init_24 (fun a3 G3 hr3 => ?_)
  have hp3 : zMp _ _ m [.int 0, .ref a1, .ref a2, .ref a3, .null, .null, .int 0, .null, .null, .null, .null, .null, .null, .null, .null, .null, .int 0, .int 0, .int 0, .int 0, .null, .null, .null, .null, .null, .null, .null, .null] G G3 := hr3
  refine zr_aload_n hX rfl d_M_init_27 ?_
  refine zr_bipush (v := 24) hX rfl d_M_init_28 ?_
  refine zr_mnewI hX hp3 4 (by decide) rfl q657 rfl rfl rfl (fun _ => rfl) (fun _ => rfl) (Nat.le_of_ble_eq_true rfl) (by decide) rfl (by decide) (Nat.le_of_ble_eq_true rfl) (Nat.le_of_ble_eq_true rfl) d_M_init_30 d_M_init_32 (fun a4 G4 hr4 => ?_)
  have hp4 : zMp _ _ m [.int 0, .ref a1, .ref a2, .ref a3, .ref a4, .null, .int 0, .null, .null, .null, .null, .null, .null, .null, .null, .null, .int 0, .int 0, .int 0, .int 0, .null, .null, .null, .null, .null, .null, .null, .null] G G4 := hr4
  refine zr_aload_n hX rfl d_M_init_35 ?_
  refine zr_bipush (v := 24) hX rfl d_M_init_36 ?_
  refine zr_mnewI hX hp4 5 (by decide) rfl q658 rfl rfl rfl (fun _ => rfl) (fun _ => rfl) (Nat.le_of_ble_eq_true rfl) (by decide) rfl (by decide) (Nat.le_of_ble_eq_true rfl) (Nat.le_of_ble_eq_true rfl) d_M_init_38 d_M_init_40 (fun a5 G5 hr5 => ?_)
  have hp5 : zMp _ _ m [.int 0, .ref a1, .ref a2, .ref a3, .ref a4, .ref a5, .int 0, .null, .null, .null, .null, .null, .null, .null, .null, .null, .int 0, .int 0, .int 0, .int 0, .null, .null, .null, .null, .null, .null, .null, .null] G G5 := hr5
  refine zr_aload_n hX rfl d_M_init_43 ?_
  refine zr_iconst (v := 1) hX rfl d_M_init_44 ?_
  refine zr_put hX k_M 6 (by decide) q659 rfl rfl rfl rfl (Nat.le_of_ble_eq_true rfl) hp5.1 d_M_init_45 ?_
  have hp6 : zMp _ _ m [.int 0, .ref a1, .ref a2, .ref a3, .ref a4, .ref a5, .int 1, .null, .null, .null, .null, .null, .null, .null, .null, .null, .int 0, .int 0, .int 0, .int 0, .null, .null, .null, .null, .null, .null, .null, .null] G _ := zMp_obj hp5
  refine zr_aload_n hX rfl d_M_init_48 ?_
  refine zr_iconst (v := 4) hX rfl d_M_init_49 ?_
  refine zr_mnewZ hX hp6 7 (by decide) rfl q660 rfl rfl rfl (fun _ => rfl) (fun _ => rfl) (Nat.le_of_ble_eq_true rfl) (by decide) rfl (by decide) (Nat.le_of_ble_eq_true rfl) (Nat.le_of_ble_eq_true rfl) d_M_init_50 d_M_init_52 (fun a7 G7 hr7 => ?_)
  have hp7 : zMp _ _ m [.int 0, .ref a1, .ref a2, .ref a3, .ref a4, .ref a5, .int 1, .ref a7, .null, .null, .null, .null, .null, .null, .null, .null, .int 0, .int 0, .int 0, .int 0, .null, .null, .null, .null, .null, .null, .null, .null] G G7 := hr7
  refine zr_aload_n hX rfl d_M_init_55 ?_
  refine zr_iconst (v := 4) hX rfl d_M_init_56 ?_
  refine zr_mnewI hX hp7 8 (by decide) rfl q661 rfl rfl rfl (fun _ => rfl) (fun _ => rfl) (Nat.le_of_ble_eq_true rfl) (by decide) rfl (by decide) (Nat.le_of_ble_eq_true rfl) (Nat.le_of_ble_eq_true rfl) d_M_init_57 d_M_init_59 (fun a8 G8 hr8 => ?_)
  have hp8 : zMp _ _ m [.int 0, .ref a1, .ref a2, .ref a3, .ref a4, .ref a5, .int 1, .ref a7, .ref a8, .null, .null, .null, .null, .null, .null, .null, .int 0, .int 0, .int 0, .int 0, .null, .null, .null, .null, .null, .null, .null, .null] G G8 := hr8
  refine zr_aload_n hX rfl d_M_init_62 ?_
  refine zr_iconst (v := 4) hX rfl d_M_init_63 ?_
  refine zr_mnewI hX hp8 9 (by decide) rfl q662 rfl rfl rfl (fun _ => rfl) (fun _ => rfl) (Nat.le_of_ble_eq_true rfl) (by decide) rfl (by decide) (Nat.le_of_ble_eq_true rfl) (Nat.le_of_ble_eq_true rfl) d_M_init_64 d_M_init_66 (fun a9 G9 hr9 => ?_)
  have hp9 : zMp _ _ m [.int 0, .ref a1, .ref a2, .ref a3, .ref a4, .ref a5, .int 1, .ref a7, .ref a8, .ref a9, .null, .null, .null, .null, .null, .null, .int 0, .int 0, .int 0, .int 0, .null, .null, .null, .null, .null, .null, .null, .null] G G9 := hr9
  refine zr_aload_n hX rfl d_M_init_69 ?_
  refine zr_sipush (v := 16384) hX rfl d_M_init_70 ?_
  refine zr_mnewI hX hp9 10 (by decide) rfl q663 rfl rfl rfl (fun _ => rfl) (fun _ => rfl) (Nat.le_of_ble_eq_true rfl) (by decide) rfl (by decide) (Nat.le_of_ble_eq_true rfl) (Nat.le_of_ble_eq_true rfl) d_M_init_73 d_M_init_75 (fun a10 G10 hr10 => ?_)
  have hp10 : zMp _ _ m [.int 0, .ref a1, .ref a2, .ref a3, .ref a4, .ref a5, .int 1, .ref a7, .ref a8, .ref a9, .ref a10, .null, .null, .null, .null, .null, .int 0, .int 0, .int 0, .int 0, .null, .null, .null, .null, .null, .null, .null, .null] G G10 := hr10
  refine zr_aload_n hX rfl d_M_init_78 ?_
  refine zr_sipush (v := 16384) hX rfl d_M_init_79 ?_
  refine zr_mnewI hX hp10 11 (by decide) rfl q664 rfl rfl rfl (fun _ => rfl) (fun _ => rfl) (Nat.le_of_ble_eq_true rfl) (by decide) rfl (by decide) (Nat.le_of_ble_eq_true rfl) (Nat.le_of_ble_eq_true rfl) d_M_init_82 d_M_init_84 (fun a11 G11 hr11 => ?_)
  have hp11 : zMp _ _ m [.int 0, .ref a1, .ref a2, .ref a3, .ref a4, .ref a5, .int 1, .ref a7, .ref a8, .ref a9, .ref a10, .ref a11, .null, .null, .null, .null, .int 0, .int 0, .int 0, .int 0, .null, .null, .null, .null, .null, .null, .null, .null] G G11 := hr11
  refine zr_aload_n hX rfl d_M_init_87 ?_
  refine zr_sipush (v := 16384) hX rfl d_M_init_88 ?_
  refine zr_mnewI hX hp11 12 (by decide) rfl q665 rfl rfl rfl (fun _ => rfl) (fun _ => rfl) (Nat.le_of_ble_eq_true rfl) (by decide) rfl (by decide) (Nat.le_of_ble_eq_true rfl) (Nat.le_of_ble_eq_true rfl) d_M_init_91 d_M_init_93 (fun a12 G12 hr12 => ?_)
  have hp12 : zMp _ _ m [.int 0, .ref a1, .ref a2, .ref a3, .ref a4, .ref a5, .int 1, .ref a7, .ref a8, .ref a9, .ref a10, .ref a11, .ref a12, .null, .null, .null, .int 0, .int 0, .int 0, .int 0, .null, .null, .null, .null, .null, .null, .null, .null] G G12 := hr12
  refine zr_aload_n hX rfl d_M_init_96 ?_
  refine zr_sipush (v := 16384) hX rfl d_M_init_97 ?_
  refine zr_mnewI hX hp12 13 (by decide) rfl q666 rfl rfl rfl (fun _ => rfl) (fun _ => rfl) (Nat.le_of_ble_eq_true rfl) (by decide) rfl (by decide) (Nat.le_of_ble_eq_true rfl) (Nat.le_of_ble_eq_true rfl) d_M_init_100 d_M_init_102 (fun a13 G13 hr13 => ?_)
  have hp13 : zMp _ _ m [.int 0, .ref a1, .ref a2, .ref a3, .ref a4, .ref a5, .int 1, .ref a7, .ref a8, .ref a9, .ref a10, .ref a11, .ref a12, .ref a13, .null, .null, .int 0, .int 0, .int 0, .int 0, .null, .null, .null, .null, .null, .null, .null, .null] G G13 := hr13
  refine zr_aload_n hX rfl d_M_init_105 ?_
  refine zr_iconst (v := 4) hX rfl d_M_init_106 ?_
  refine zr_mnewI hX hp13 14 (by decide) rfl q667 rfl rfl rfl (fun _ => rfl) (fun _ => rfl) (Nat.le_of_ble_eq_true rfl) (by decide) rfl (by decide) (Nat.le_of_ble_eq_true rfl) (Nat.le_of_ble_eq_true rfl) d_M_init_107 d_M_init_109 (fun a14 G14 hr14 => ?_)
  have hp14 : zMp _ _ m [.int 0, .ref a1, .ref a2, .ref a3, .ref a4, .ref a5, .int 1, .ref a7, .ref a8, .ref a9, .ref a10, .ref a11, .ref a12, .ref a13, .ref a14, .null, .int 0, .int 0, .int 0, .int 0, .null, .null, .null, .null, .null, .null, .null, .null] G G14 := hr14
  refine zr_aload_n hX rfl d_M_init_112 ?_
  refine zr_sipush (v := 16384) hX rfl d_M_init_113 ?_
  refine zr_mnewZ hX hp14 15 (by decide) rfl q668 rfl rfl rfl (fun _ => rfl) (fun _ => rfl) (Nat.le_of_ble_eq_true rfl) (by decide) rfl (by decide) (Nat.le_of_ble_eq_true rfl) (Nat.le_of_ble_eq_true rfl) d_M_init_116 d_M_init_118 (fun a15 G15 hr15 => ?_)
  have hp15 : zMp _ _ m [.int 0, .ref a1, .ref a2, .ref a3, .ref a4, .ref a5, .int 1, .ref a7, .ref a8, .ref a9, .ref a10, .ref a11, .ref a12, .ref a13, .ref a14, .ref a15, .int 0, .int 0, .int 0, .int 0, .null, .null, .null, .null, .null, .null, .null, .null] G G15 := hr15
  refine zr_aload_n hX rfl d_M_init_121 ?_
  refine zr_bipush (v := 32) hX rfl d_M_init_122 ?_
  refine zr_put hX k_M 18 (by decide) q671 rfl rfl rfl rfl (Nat.le_of_ble_eq_true rfl) hp15.1 d_M_init_124 ?_
  have hp18 : zMp _ _ m [.int 0, .ref a1, .ref a2, .ref a3, .ref a4, .ref a5, .int 1, .ref a7, .ref a8, .ref a9, .ref a10, .ref a11, .ref a12, .ref a13, .ref a14, .ref a15, .int 0, .int 0, .int 32, .int 0, .null, .null, .null, .null, .null, .null, .null, .null] G _ := zMp_obj hp15
  refine zr_aload_n hX rfl d_M_init_127 ?_
  refine zr_bipush (v := 32) hX rfl d_M_init_128 ?_
  refine zr_put hX k_M 19 (by decide) q672 rfl rfl rfl rfl (Nat.le_of_ble_eq_true rfl) hp18.1 d_M_init_130 ?_
  have hp19 : zMp _ _ m [.int 0, .ref a1, .ref a2, .ref a3, .ref a4, .ref a5, .int 1, .ref a7, .ref a8, .ref a9, .ref a10, .ref a11, .ref a12, .ref a13, .ref a14, .ref a15, .int 0, .int 0, .int 32, .int 32, .null, .null, .null, .null, .null, .null, .null, .null] G _ := zMp_obj hp18
  refine zr_aload_n hX rfl d_M_init_133 ?_
  refine zr_bipush (v := 6) hX rfl d_M_init_134 ?_
  refine zr_mnewI hX hp19 20 (by decide) rfl q673 rfl rfl rfl (fun _ => rfl) (fun _ => rfl) (Nat.le_of_ble_eq_true rfl) (by decide) rfl (by decide) (Nat.le_of_ble_eq_true rfl) (Nat.le_of_ble_eq_true rfl) d_M_init_136 d_M_init_138 (fun a20 G20 hr20 => ?_)
  have hp20 : zMp _ _ m [.int 0, .ref a1, .ref a2, .ref a3, .ref a4, .ref a5, .int 1, .ref a7, .ref a8, .ref a9, .ref a10, .ref a11, .ref a12, .ref a13, .ref a14, .ref a15, .int 0, .int 0, .int 32, .int 32, .ref a20, .null, .null, .null, .null, .null, .null, .null] G G20 := hr20
  refine zr_aload_n hX rfl d_M_init_141 ?_
  refine zr_bipush (v := 6) hX rfl d_M_init_142 ?_
  refine zr_mnewI hX hp20 21 (by decide) rfl q674 rfl rfl rfl (fun _ => rfl) (fun _ => rfl) (Nat.le_of_ble_eq_true rfl) (by decide) rfl (by decide) (Nat.le_of_ble_eq_true rfl) (Nat.le_of_ble_eq_true rfl) d_M_init_144 d_M_init_146 (fun a21 G21 hr21 => ?_)
  have hp21 : zMp _ _ m [.int 0, .ref a1, .ref a2, .ref a3, .ref a4, .ref a5, .int 1, .ref a7, .ref a8, .ref a9, .ref a10, .ref a11, .ref a12, .ref a13, .ref a14, .ref a15, .int 0, .int 0, .int 32, .int 32, .ref a20, .ref a21, .null, .null, .null, .null, .null, .null] G G21 := hr21
  refine zr_aload_n hX rfl d_M_init_149 ?_
  refine zr_bipush (v := 8) hX rfl d_M_init_150 ?_
  refine zr_mnewI hX hp21 22 (by decide) rfl q675 rfl rfl rfl (fun _ => rfl) (fun _ => rfl) (Nat.le_of_ble_eq_true rfl) (by decide) rfl (by decide) (Nat.le_of_ble_eq_true rfl) (Nat.le_of_ble_eq_true rfl) d_M_init_152 d_M_init_154 (fun a22 G22 hr22 => ?_)
  have hp22 : zMp _ _ m [.int 0, .ref a1, .ref a2, .ref a3, .ref a4, .ref a5, .int 1, .ref a7, .ref a8, .ref a9, .ref a10, .ref a11, .ref a12, .ref a13, .ref a14, .ref a15, .int 0, .int 0, .int 32, .int 32, .ref a20, .ref a21, .ref a22, .null, .null, .null, .null, .null] G G22 := hr22
  refine zr_aload_n hX rfl d_M_init_157 ?_
  refine zr_bipush (v := 8) hX rfl d_M_init_158 ?_
  refine zr_mnewI hX hp22 23 (by decide) rfl q676 rfl rfl rfl (fun _ => rfl) (fun _ => rfl) (Nat.le_of_ble_eq_true rfl) (by decide) rfl (by decide) (Nat.le_of_ble_eq_true rfl) (Nat.le_of_ble_eq_true rfl) d_M_init_160 d_M_init_162 (fun a23 G23 hr23 => ?_)
  have hp23 : zMp _ _ m [.int 0, .ref a1, .ref a2, .ref a3, .ref a4, .ref a5, .int 1, .ref a7, .ref a8, .ref a9, .ref a10, .ref a11, .ref a12, .ref a13, .ref a14, .ref a15, .int 0, .int 0, .int 32, .int 32, .ref a20, .ref a21, .ref a22, .ref a23, .null, .null, .null, .null] G G23 := hr23
  refine zr_aload_n hX rfl d_M_init_165 ?_
  refine zr_bipush (v := 26) hX rfl d_M_init_166 ?_
  refine zr_mnewI hX hp23 24 (by decide) rfl q677 rfl rfl rfl (fun _ => rfl) (fun _ => rfl) (Nat.le_of_ble_eq_true rfl) (by decide) rfl (by decide) (Nat.le_of_ble_eq_true rfl) (Nat.le_of_ble_eq_true rfl) d_M_init_168 d_M_init_170 (fun a24 G24 hr24 => ?_)
  have hp24 : zMp _ _ m [.int 0, .ref a1, .ref a2, .ref a3, .ref a4, .ref a5, .int 1, .ref a7, .ref a8, .ref a9, .ref a10, .ref a11, .ref a12, .ref a13, .ref a14, .ref a15, .int 0, .int 0, .int 32, .int 32, .ref a20, .ref a21, .ref a22, .ref a23, .ref a24, .null, .null, .null] G G24 := hr24
  refine zr_aload_n hX rfl d_M_init_173 ?_
  refine zr_bipush (v := 26) hX rfl d_M_init_174 ?_
  refine zr_mnewI hX hp24 25 (by decide) rfl q678 rfl rfl rfl (fun _ => rfl) (fun _ => rfl) (Nat.le_of_ble_eq_true rfl) (by decide) rfl (by decide) (Nat.le_of_ble_eq_true rfl) (Nat.le_of_ble_eq_true rfl) d_M_init_176 d_M_init_178 (fun a25 G25 hr25 => ?_)
  have hp25 : zMp _ _ m [.int 0, .ref a1, .ref a2, .ref a3, .ref a4, .ref a5, .int 1, .ref a7, .ref a8, .ref a9, .ref a10, .ref a11, .ref a12, .ref a13, .ref a14, .ref a15, .int 0, .int 0, .int 32, .int 32, .ref a20, .ref a21, .ref a22, .ref a23, .ref a24, .ref a25, .null, .null] G G25 := hr25
  refine zr_aload_n hX rfl d_M_init_181 ?_
  refine zr_ldc hX q651 d_M_init_182 ?_
  refine zr_mnewI hX hp25 26 (by decide) rfl q679 rfl rfl rfl (fun _ => rfl) (fun _ => rfl) (Nat.le_of_ble_eq_true rfl) (by decide) rfl (by decide) (Nat.le_of_ble_eq_true rfl) (Nat.le_of_ble_eq_true rfl) d_M_init_184 d_M_init_186 (fun a26 G26 hr26 => ?_)
  have hp26 : zMp _ _ m [.int 0, .ref a1, .ref a2, .ref a3, .ref a4, .ref a5, .int 1, .ref a7, .ref a8, .ref a9, .ref a10, .ref a11, .ref a12, .ref a13, .ref a14, .ref a15, .int 0, .int 0, .int 32, .int 32, .ref a20, .ref a21, .ref a22, .ref a23, .ref a24, .ref a25, .ref a26, .null] G G26 := hr26
  refine zr_aload_n hX rfl d_M_init_189 ?_
  refine zr_sipush (v := 4096) hX rfl d_M_init_190 ?_
  refine zr_mnewI hX hp26 27 (by decide) rfl q680 rfl rfl rfl (fun _ => rfl) (fun _ => rfl) (Nat.le_of_ble_eq_true rfl) (by decide) rfl (by decide) (Nat.le_of_ble_eq_true rfl) (Nat.le_of_ble_eq_true rfl) d_M_init_193 d_M_init_195 (fun a27 G27 hr27 => ?_)
  have hp27 : zMp _ _ m [.int 0, .ref a1, .ref a2, .ref a3, .ref a4, .ref a5, .int 1, .ref a7, .ref a8, .ref a9, .ref a10, .ref a11, .ref a12, .ref a13, .ref a14, .ref a15, .int 0, .int 0, .int 32, .int 32, .ref a20, .ref a21, .ref a22, .ref a23, .ref a24, .ref a25, .ref a26, .ref a27] G G27 := hr27
  have hp9 := hp27
  have hS : ∀ j, zMa j = true → (va_up (va_up (va_up (va_up (va_up (va_up (va_up (va_up (va_up (va_up (va_up (va_up (va_up (va_up (va_up (va_up (va_up (va_up (va_up (va_up (va_up (va_up (fun _ => false) 1 true) 2 true) 3 true) 4 true) 5 true) 7 true) 8 true) 9 true) 10 true) 11 true) 12 true) 13 true) 14 true) 15 true) 20 true) 21 true) 22 true) 23 true) 24 true) 25 true) 26 true) 27 true) j = true := by
    have h9 : ∀ j, j < 28 → zMa j = true → (va_up (va_up (va_up (va_up (va_up (va_up (va_up (va_up (va_up (va_up (va_up (va_up (va_up (va_up (va_up (va_up (va_up (va_up (va_up (va_up (va_up (va_up (fun _ => false) 1 true) 2 true) 3 true) 4 true) 5 true) 7 true) 8 true) 9 true) 10 true) 11 true) 12 true) 13 true) 14 true) 15 true) 20 true) 21 true) 22 true) 23 true) 24 true) 25 true) 26 true) 27 true) j = true := by decide
    intro j hj
    refine h9 j ?_ hj
    unfold zMa at hj
    simp only [Bool.or_eq_true, Bool.and_eq_true, decide_eq_true_eq] at hj
    omega
  have hu : zMv ((va_up (va_up (va_up (va_up (va_up (va_up (va_up (va_up (va_up (va_up (va_up (va_up (va_up (va_up (va_up (va_up (va_up (va_up (va_up (va_up (va_up (va_up (fun _ => 0) 1 a1) 2 a2) 3 a3) 4 a4) 5 a5) 7 a7) 8 a8) 9 a9) 10 a10) 11 a11) 12 a12) 13 a13) 14 a14) 15 a15) 20 a20) 21 a21) 22 a22) 23 a23) 24 a24) 25 a25) 26 a26) 27 a27), zMi, (fun _ _ => 0)) m _ := ⟨hp9.1, fun j hj => (hp9.2.1 j (hS j hj)).1, fun j k hj hk => hp9.2.2.1 j k (hS j hj) (hS k hk)⟩
  refine z_M_init2 hX hu (fun G2 h2 f2 e2 => ?_)
  refine ⟨rfl, (va_up (va_up (va_up (va_up (va_up (va_up (va_up (va_up (va_up (va_up (va_up (va_up (va_up (va_up (va_up (va_up (va_up (va_up (va_up (va_up (va_up (va_up (fun _ => 0) 1 a1) 2 a2) 3 a3) 4 a4) 5 a5) 7 a7) 8 a8) 9 a9) 10 a10) 11 a11) 12 a12) 13 a13) 14 a14) 15 a15) 20 a20) 21 a21) 22 a22) 23 a23) 24 a24) 25 a25) 26 a26) 27 a27), h2, e2, fun j hj => (hp9.2.1 j (hS j hj)).2, fun q hq hq0 => ?_⟩
  rw [f2 q hq (fun j hj e => ?_)]
  · exact hp9.2.2.2 q hq hq0
  · exact hq0 (by rw [e]; exact (hp9.2.1 j (hS j hj)).2)
