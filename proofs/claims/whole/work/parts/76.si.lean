def zWin (x k0 k1 k3 k8 k9 ka kb kc nn qc qb bc : Nat) (fE fB : Nat → Int64) (n1 n2 : Nat → Int32) : zW :=
  (fun f i => if f = 1 ∧ i = 0 then some qc else if f = 3 ∧ i = 0 then some qb else none,
   fun f i => match f with
    | 0 => x
    | 2 => nn
    | 4 => bc
    | 9 => match i with
      | 0 => k0
      | 1 => k1
      | 3 => k3
      | 8 => k8
      | 9 => k9
      | 10 => ka
      | 11 => kb
      | _ => kc
    | _ => 0,
   fun k j => match k with
    | 0 => match j with
      | 2 => 1
      | 6 => 32
      | 7 => 32
      | _ => 0
    | 1 => (-1)
    | 2 => (-1)
    | 3 => 1
    | 4 => 1
    | 6 => (-1)
    | _ => 0,
   fun k _ => if k = 2 then fE else fB,
   fun k j => if k = 9 ∧ j = 10 then n1 else if k = 9 ∧ j = 11 then n2 else fun _ => 0)
theorem zwin_t {x k0 k1 k3 k8 k9 ka kb kc nn qc qb bc : Nat} {fE fB : Nat → Int64} {n1 n2 : Nat → Int32} {f i q : Nat} (h : zAd (zWin x k0 k1 k3 k8 k9 ka kb kc nn qc qb bc fE fB n1 n2) f i = some q) : (f = 0 ∧ i = 0 ∧ q = x) ∨ (f = 1 ∧ i = 0 ∧ q = qc) ∨ (f = 2 ∧ i = 0 ∧ q = nn) ∨ (f = 3 ∧ i = 0 ∧ q = qb) ∨ (f = 4 ∧ i = 0 ∧ q = bc) ∨ (f = 9 ∧ i = 0 ∧ q = k0) ∨ (f = 9 ∧ i = 1 ∧ q = k1) ∨ (f = 9 ∧ i = 3 ∧ q = k3) ∨ (f = 9 ∧ i = 8 ∧ q = k8) ∨ (f = 9 ∧ i = 9 ∧ q = k9) ∨ (f = 9 ∧ i = 10 ∧ q = ka) ∨ (f = 9 ∧ i = 11 ∧ q = kb) ∨ (f = 9 ∧ i = 12 ∧ q = kc) := by
  unfold zAd at h
  split at h
  · by_cases e : i = 0
    · rw [if_pos e] at h
      exact Or.inl ⟨rfl, e, (Option.some.inj h).symm⟩
    · rw [if_neg e] at h; cases h
  · change (if 1 = 1 ∧ i = 0 then some qc else if 1 = 3 ∧ i = 0 then some qb else none) = some q at h
    by_cases e : i = 0
    · rw [if_pos ⟨rfl, e⟩] at h
      exact Or.inr (Or.inl ⟨rfl, e, (Option.some.inj h).symm⟩)
    · rw [if_neg (fun z => e z.2), if_neg (by omega)] at h; cases h
  · obtain ⟨r, h1, h2⟩ := zmp_i h
    change (if 1 = 1 ∧ i = 0 then some qc else if 1 = 3 ∧ i = 0 then some qb else none) = some r at h1
    by_cases e : i = 0
    · exact Or.inr (Or.inr (Or.inl ⟨rfl, e, h2⟩))
    · rw [if_neg (fun z => e z.2), if_neg (by omega)] at h1; cases h1
  · change (if 3 = 1 ∧ i = 0 then some qc else if 3 = 3 ∧ i = 0 then some qb else none) = some q at h
    by_cases e : i = 0
    · rw [if_neg (by omega), if_pos ⟨rfl, e⟩] at h
      exact Or.inr (Or.inr (Or.inr (Or.inl ⟨rfl, e, (Option.some.inj h).symm⟩)))
    · rw [if_neg (by omega), if_neg (by omega)] at h; cases h
  · obtain ⟨r, h1, h2⟩ := zmp_i h
    change (if 3 = 1 ∧ i = 0 then some qc else if 3 = 3 ∧ i = 0 then some qb else none) = some r at h1
    by_cases e : i = 0
    · exact Or.inr (Or.inr (Or.inr (Or.inr (Or.inl ⟨rfl, e, h2⟩))))
    · rw [if_neg (by omega), if_neg (by omega)] at h1; cases h1
  · change (if 5 = 1 ∧ i = 0 then some qc else if 5 = 3 ∧ i = 0 then some qb else none) = some q at h
    rw [if_neg (by omega), if_neg (by omega)] at h; cases h
  · change (if 6 = 1 ∧ i = 0 then some qc else if 6 = 3 ∧ i = 0 then some qb else none) = some q at h
    rw [if_neg (by omega), if_neg (by omega)] at h; cases h
  · obtain ⟨r, h1, h2⟩ := zmp_i h
    change (if 6 = 1 ∧ i = 0 then some qc else if 6 = 3 ∧ i = 0 then some qb else none) = some r at h1
    rw [if_neg (by omega), if_neg (by omega)] at h1; cases h1
  · split at h <;> cases h
  · by_cases e : zS9 i = true
    · rw [if_pos e] at h
      have hq := (Option.some.inj h).symm
      have hi : i = 0 ∨ i = 1 ∨ i = 3 ∨ i = 8 ∨ i = 9 ∨ i = 10 ∨ i = 11 ∨ i = 12 := by
        by_cases e0 : i = 0
        · omega
        by_cases e1 : i = 1
        · omega
        by_cases e3 : i = 3
        · omega
        by_cases e8 : i = 8
        · omega
        by_cases e9 : i = 9
        · omega
        by_cases ea : i = 10
        · omega
        by_cases eb : i = 11
        · omega
        have := zS9_12 e e0 e1 e3 e8 e9 ea eb
        omega
      rcases hi with rfl | rfl | rfl | rfl | rfl | rfl | rfl | rfl
      · exact Or.inr (Or.inr (Or.inr (Or.inr (Or.inr (Or.inl ⟨rfl, rfl, hq⟩)))))
      · exact Or.inr (Or.inr (Or.inr (Or.inr (Or.inr (Or.inr (Or.inl ⟨rfl, rfl, hq⟩))))))
      · exact Or.inr (Or.inr (Or.inr (Or.inr (Or.inr (Or.inr (Or.inr (Or.inl ⟨rfl, rfl, hq⟩)))))))
      · exact Or.inr (Or.inr (Or.inr (Or.inr (Or.inr (Or.inr (Or.inr (Or.inr (Or.inl ⟨rfl, rfl, hq⟩))))))))
      · exact Or.inr (Or.inr (Or.inr (Or.inr (Or.inr (Or.inr (Or.inr (Or.inr (Or.inr (Or.inl ⟨rfl, rfl, hq⟩)))))))))
      · exact Or.inr (Or.inr (Or.inr (Or.inr (Or.inr (Or.inr (Or.inr (Or.inr (Or.inr (Or.inr (Or.inl ⟨rfl, rfl, hq⟩))))))))))
      · exact Or.inr (Or.inr (Or.inr (Or.inr (Or.inr (Or.inr (Or.inr (Or.inr (Or.inr (Or.inr (Or.inr (Or.inl ⟨rfl, rfl, hq⟩)))))))))))
      · exact Or.inr (Or.inr (Or.inr (Or.inr (Or.inr (Or.inr (Or.inr (Or.inr (Or.inr (Or.inr (Or.inr (Or.inr ⟨rfl, rfl, hq⟩)))))))))))
    · rw [if_neg e] at h; cases h
  · obtain ⟨r, h1, h2⟩ := zmp_i h
    change (if 5 = 1 ∧ i = 0 then some qc else if 5 = 3 ∧ i = 0 then some qb else none) = some r at h1
    rw [if_neg (by omega), if_neg (by omega)] at h1; cases h1
  · obtain ⟨r, h1, h2⟩ := zmp_i h
    change (if 5 = 1 ∧ i = 0 then some qc else if 5 = 3 ∧ i = 0 then some qb else none) = some r at h1
    rw [if_neg (by omega), if_neg (by omega)] at h1; cases h1
  · obtain ⟨r, h1, h2⟩ := zmp_i h
    change (if 5 = 1 ∧ i = 0 then some qc else if 5 = 3 ∧ i = 0 then some qb else none) = some r at h1
    rw [if_neg (by omega), if_neg (by omega)] at h1; cases h1
  · obtain ⟨r, h1, h2⟩ := zmp_i h
    change (if 5 = 1 ∧ i = 0 then some qc else if 5 = 3 ∧ i = 0 then some qb else none) = some r at h1
    rw [if_neg (by omega), if_neg (by omega)] at h1; cases h1
  · obtain ⟨r, h1, h2⟩ := zmp_i h
    change (if 5 = 1 ∧ i = 0 then some qc else if 5 = 3 ∧ i = 0 then some qb else none) = some r at h1
    rw [if_neg (by omega), if_neg (by omega)] at h1; cases h1
  · cases h
theorem zrne {G : zG} {r q : Nat} (h : G r ≠ none) (f : G q = none) : r ≠ q := fun z => h (by rw [z]; exact f)
theorem zfre {G Gs : zG} {x q : Nat} (h : ∀ r, r ≠ x → G r ≠ none → Gs r = G r) (hq : Gs q = none) (hx : q ≠ x) : G q = none := by
  apply Classical.byContradiction
  intro z
  exact z ((h q hx z).symm.trans hq)
theorem zinit_end {G G1 : zG} {x k0 k1 k3 k8 k9 ka kb kc nn qc qb bc : Nat} {fE : Nat → Int64} {n1 n2 : Nat → Int32} (h_x : G1 x = some (zO 0 [.ref k0, .ref k1, .int 1, .ref k3, .int 0, .int 0, .int 32, .int 32, .ref k8, .ref k9, .ref ka, .ref kb, .ref kc, .null])) (h_k0 : G1 k0 = some (zI 4 (fun _ => 0))) (h_k1 : G1 k1 = some (zR 3 24 (va_up (fun _ => none) 0 (some qc)))) (h_k3 : G1 k3 = some (zR 4 4 (va_up (fun _ => none) 0 (some qb)))) (h_k8 : G1 k8 = some (zI 6 (fun _ => 0))) (h_k9 : G1 k9 = some (zI 6 (fun _ => 0))) (h_ka : G1 ka = some (zI 8 n1)) (h_kb : G1 kb = some (zI 8 n2)) (h_kc : G1 kc = some (zR 5 24 (fun _ => none))) (h_nn : G1 nn = some (zJ 4096 fE)) (h_qc : G1 qc = some (zO 1 [.int (-1), .int (-1), .int 1, .ref nn])) (h_qb : G1 qb = some (zO 2 [.ref bc, .int 1, .int 0, .int (-1), .null])) (h_bc : G1 bc = some (zJ 4096 (va_cpy fE (fun _ => 0) 0 0 4096))) (d_x_k0 : x ≠ k0) (d_x_k1 : x ≠ k1) (d_x_k3 : x ≠ k3) (d_x_k8 : x ≠ k8) (d_x_k9 : x ≠ k9) (d_x_ka : x ≠ ka) (d_x_kb : x ≠ kb) (d_x_kc : x ≠ kc) (d_x_nn : x ≠ nn) (d_x_qc : x ≠ qc) (d_x_qb : x ≠ qb) (d_x_bc : x ≠ bc) (d_k0_k1 : k0 ≠ k1) (d_k0_k3 : k0 ≠ k3) (d_k0_k8 : k0 ≠ k8) (d_k0_k9 : k0 ≠ k9) (d_k0_ka : k0 ≠ ka) (d_k0_kb : k0 ≠ kb) (d_k0_kc : k0 ≠ kc) (d_k0_nn : k0 ≠ nn) (d_k0_qc : k0 ≠ qc) (d_k0_qb : k0 ≠ qb) (d_k0_bc : k0 ≠ bc) (d_k1_k3 : k1 ≠ k3) (d_k1_k8 : k1 ≠ k8) (d_k1_k9 : k1 ≠ k9) (d_k1_ka : k1 ≠ ka) (d_k1_kb : k1 ≠ kb) (d_k1_kc : k1 ≠ kc) (d_k1_nn : k1 ≠ nn) (d_k1_qc : k1 ≠ qc) (d_k1_qb : k1 ≠ qb) (d_k1_bc : k1 ≠ bc) (d_k3_k8 : k3 ≠ k8) (d_k3_k9 : k3 ≠ k9) (d_k3_ka : k3 ≠ ka) (d_k3_kb : k3 ≠ kb) (d_k3_kc : k3 ≠ kc) (d_k3_nn : k3 ≠ nn) (d_k3_qc : k3 ≠ qc) (d_k3_qb : k3 ≠ qb) (d_k3_bc : k3 ≠ bc) (d_k8_k9 : k8 ≠ k9) (d_k8_ka : k8 ≠ ka) (d_k8_kb : k8 ≠ kb) (d_k8_kc : k8 ≠ kc) (d_k8_nn : k8 ≠ nn) (d_k8_qc : k8 ≠ qc) (d_k8_qb : k8 ≠ qb) (d_k8_bc : k8 ≠ bc) (d_k9_ka : k9 ≠ ka) (d_k9_kb : k9 ≠ kb) (d_k9_kc : k9 ≠ kc) (d_k9_nn : k9 ≠ nn) (d_k9_qc : k9 ≠ qc) (d_k9_qb : k9 ≠ qb) (d_k9_bc : k9 ≠ bc) (d_ka_kb : ka ≠ kb) (d_ka_kc : ka ≠ kc) (d_ka_nn : ka ≠ nn) (d_ka_qc : ka ≠ qc) (d_ka_qb : ka ≠ qb) (d_ka_bc : ka ≠ bc) (d_kb_kc : kb ≠ kc) (d_kb_nn : kb ≠ nn) (d_kb_qc : kb ≠ qc) (d_kb_qb : kb ≠ qb) (d_kb_bc : kb ≠ bc) (d_kc_nn : kc ≠ nn) (d_kc_qc : kc ≠ qc) (d_kc_qb : kc ≠ qb) (d_kc_bc : kc ≠ bc) (d_nn_qc : nn ≠ qc) (d_nn_qb : nn ≠ qb) (d_nn_bc : nn ≠ bc) (d_qc_qb : qc ≠ qb) (d_qc_bc : qc ≠ bc) (d_qb_bc : qb ≠ bc) (g_k0 : G k0 = none) (g_k1 : G k1 = none) (g_k3 : G k3 = none) (g_k8 : G k8 = none) (g_k9 : G k9 = none) (g_ka : G ka = none) (g_kb : G kb = none) (g_kc : G kc = none) (g_nn : G nn = none) (g_qc : G qc = none) (g_qb : G qb = none) (g_bc : G bc = none) (hfE : ∀ k, k < 4096 → fE k = (-9223372036854775808)) (hn1 : ∀ k, k < 8 → n1 k = (-2147483648)) (hn2 : ∀ k, k < 8 → n2 k = (-2147483648)) (fr : ∀ r, r ≠ x → G r ≠ none → G1 r = G r) : ∃ w, zHp w G1 ∧ w.a 0 0 = x ∧ (∀ a : Nat → Nat, zIn w 0 (t_M_init (a, zMi, (fun _ _ => 0))) 1) ∧ (∀ f i q, zAd w f i = some q → q = x ∨ G q = none) ∧ ∀ r, r ≠ x → G r ≠ none → G1 r = G r := by
  have ho1 : (zWin x k0 k1 k3 k8 k9 ka kb kc nn qc qb bc fE (va_cpy fE (fun _ => 0) 0 0 4096) n1 n2).o 1 = va_up (fun _ => none) 0 (some qc) := funext fun j => by
    unfold va_up; show (if 1 = 1 ∧ j = 0 then some qc else if 1 = 3 ∧ j = 0 then some qb else none) = _
    by_cases e : j = 0
    · rw [if_pos ⟨rfl, e⟩, if_pos e]
    · rw [if_neg (fun z => e z.2), if_neg (by omega), if_neg e]
  have ho3 : (zWin x k0 k1 k3 k8 k9 ka kb kc nn qc qb bc fE (va_cpy fE (fun _ => 0) 0 0 4096) n1 n2).o 3 = va_up (fun _ => none) 0 (some qb) := funext fun j => by
    unfold va_up; show (if 3 = 1 ∧ j = 0 then some qc else if 3 = 3 ∧ j = 0 then some qb else none) = _
    by_cases e : j = 0
    · rw [if_neg (by omega), if_pos ⟨rfl, e⟩, if_pos e]
    · rw [if_neg (by omega), if_neg (by omega), if_neg e]
  have ho : ∀ k j, k ≠ 1 → k ≠ 3 → (zWin x k0 k1 k3 k8 k9 ka kb kc nn qc qb bc fE (va_cpy fE (fun _ => 0) 0 0 4096) n1 n2).o k j = none := fun k j k1 k3 => by
    show (if k = 1 ∧ j = 0 then some qc else if k = 3 ∧ j = 0 then some qb else none) = _
    rw [if_neg (by omega), if_neg (by omega)]
  refine ⟨zWin x k0 k1 k3 k8 k9 ka kb kc nn qc qb bc fE (va_cpy fE (fun _ => 0) 0 0 4096) n1 n2, ⟨fun f i q h => ?_, fun f i f2 i2 q h h2 => ?_⟩, rfl, fun a => ⟨zRl.init (q0 := qc) (q1 := qb) a ⟨rfl, rfl, rfl, rfl, rfl⟩ ⟨by rw [ho1]; exact va_up_self _ _ _, fun c hc => by rw [ho1]; exact va_up_ne _ _ hc⟩ ⟨rfl, rfl, rfl⟩ hfE ⟨by rw [ho3]; exact va_up_self _ _ _, fun c hc => by rw [ho3]; exact va_up_ne _ _ hc⟩ ⟨rfl, rfl, rfl⟩ (ho 5 0 (by decide) (by decide)) (fun k hk => by show va_cpy fE (fun _ => 0) 0 0 4096 k = _; exact (zcpy fE _ hk).trans (hfE k hk)) ⟨fun _ _ => rfl, fun _ _ => ⟨rfl, rfl⟩, fun k hk => ⟨hn1 k hk, hn2 k hk⟩⟩, ⟨by omega, fun d _ => ⟨fun _ => by omega, fun _ => ho 6 d (by decide) (by decide)⟩⟩, fun b _ => ho 5 b (by decide) (by decide)⟩, fun f i q h => ?_, fr⟩
  · rcases zwin_t h with ⟨rfl, rfl, hq⟩ | ⟨rfl, rfl, hq⟩ | ⟨rfl, rfl, hq⟩ | ⟨rfl, rfl, hq⟩ | ⟨rfl, rfl, hq⟩ | ⟨rfl, rfl, hq⟩ | ⟨rfl, rfl, hq⟩ | ⟨rfl, rfl, hq⟩ | ⟨rfl, rfl, hq⟩ | ⟨rfl, rfl, hq⟩ | ⟨rfl, rfl, hq⟩ | ⟨rfl, rfl, hq⟩ | ⟨rfl, rfl, hq⟩
    · rw [hq, h_x]; show _ = some (zO 0 (zS _ _ (va_rf ((zWin x k0 k1 k3 k8 k9 ka kb kc nn qc qb bc fE (va_cpy fE (fun _ => 0) 0 0 4096) n1 n2).o 8 0)))); rw [ho 8 0 (by decide) (by decide)]; rfl
    · rw [hq, h_qc]; rfl
    · rw [hq, h_nn]; rfl
    · rw [hq, h_qb]; show _ = some (zO 2 [_, _, _, _, va_rf ((zWin x k0 k1 k3 k8 k9 ka kb kc nn qc qb bc fE (va_cpy fE (fun _ => 0) 0 0 4096) n1 n2).o 5 0)]); rw [ho 5 0 (by decide) (by decide)]; rfl
    · rw [hq, h_bc]; rfl
    · rw [hq, h_k0]; rfl
    · rw [hq, h_k1]; exact congrArg (fun z => some (zR 3 24 z)) ho1.symm
    · rw [hq, h_k3]; exact congrArg (fun z => some (zR 4 4 z)) ho3.symm
    · rw [hq, h_k8]; rfl
    · rw [hq, h_k9]; rfl
    · rw [hq, h_ka]; rfl
    · rw [hq, h_kb]; rfl
    · rw [hq, h_kc]; exact congrArg (fun z => some (zR 5 24 z)) (funext fun j => (ho 6 j (by decide) (by decide)).symm)
  · rcases zwin_t h with ⟨a1, a2, a3⟩ | ⟨a1, a2, a3⟩ | ⟨a1, a2, a3⟩ | ⟨a1, a2, a3⟩ | ⟨a1, a2, a3⟩ | ⟨a1, a2, a3⟩ | ⟨a1, a2, a3⟩ | ⟨a1, a2, a3⟩ | ⟨a1, a2, a3⟩ | ⟨a1, a2, a3⟩ | ⟨a1, a2, a3⟩ | ⟨a1, a2, a3⟩ | ⟨a1, a2, a3⟩
    · rcases zwin_t h2 with ⟨b1, b2, b3⟩ | ⟨b1, b2, b3⟩ | ⟨b1, b2, b3⟩ | ⟨b1, b2, b3⟩ | ⟨b1, b2, b3⟩ | ⟨b1, b2, b3⟩ | ⟨b1, b2, b3⟩ | ⟨b1, b2, b3⟩ | ⟨b1, b2, b3⟩ | ⟨b1, b2, b3⟩ | ⟨b1, b2, b3⟩ | ⟨b1, b2, b3⟩ | ⟨b1, b2, b3⟩
      · exact ⟨a1.trans b1.symm, a2.trans b2.symm⟩
      · exact absurd (a3.symm.trans b3) d_x_qc
      · exact absurd (a3.symm.trans b3) d_x_nn
      · exact absurd (a3.symm.trans b3) d_x_qb
      · exact absurd (a3.symm.trans b3) d_x_bc
      · exact absurd (a3.symm.trans b3) d_x_k0
      · exact absurd (a3.symm.trans b3) d_x_k1
      · exact absurd (a3.symm.trans b3) d_x_k3
      · exact absurd (a3.symm.trans b3) d_x_k8
      · exact absurd (a3.symm.trans b3) d_x_k9
      · exact absurd (a3.symm.trans b3) d_x_ka
      · exact absurd (a3.symm.trans b3) d_x_kb
      · exact absurd (a3.symm.trans b3) d_x_kc
    · rcases zwin_t h2 with ⟨b1, b2, b3⟩ | ⟨b1, b2, b3⟩ | ⟨b1, b2, b3⟩ | ⟨b1, b2, b3⟩ | ⟨b1, b2, b3⟩ | ⟨b1, b2, b3⟩ | ⟨b1, b2, b3⟩ | ⟨b1, b2, b3⟩ | ⟨b1, b2, b3⟩ | ⟨b1, b2, b3⟩ | ⟨b1, b2, b3⟩ | ⟨b1, b2, b3⟩ | ⟨b1, b2, b3⟩
      · exact absurd (a3.symm.trans b3) (Ne.symm d_x_qc)
      · exact ⟨a1.trans b1.symm, a2.trans b2.symm⟩
      · exact absurd (a3.symm.trans b3) (Ne.symm d_nn_qc)
      · exact absurd (a3.symm.trans b3) d_qc_qb
      · exact absurd (a3.symm.trans b3) d_qc_bc
      · exact absurd (a3.symm.trans b3) (Ne.symm d_k0_qc)
      · exact absurd (a3.symm.trans b3) (Ne.symm d_k1_qc)
      · exact absurd (a3.symm.trans b3) (Ne.symm d_k3_qc)
      · exact absurd (a3.symm.trans b3) (Ne.symm d_k8_qc)
      · exact absurd (a3.symm.trans b3) (Ne.symm d_k9_qc)
      · exact absurd (a3.symm.trans b3) (Ne.symm d_ka_qc)
      · exact absurd (a3.symm.trans b3) (Ne.symm d_kb_qc)
      · exact absurd (a3.symm.trans b3) (Ne.symm d_kc_qc)
    · rcases zwin_t h2 with ⟨b1, b2, b3⟩ | ⟨b1, b2, b3⟩ | ⟨b1, b2, b3⟩ | ⟨b1, b2, b3⟩ | ⟨b1, b2, b3⟩ | ⟨b1, b2, b3⟩ | ⟨b1, b2, b3⟩ | ⟨b1, b2, b3⟩ | ⟨b1, b2, b3⟩ | ⟨b1, b2, b3⟩ | ⟨b1, b2, b3⟩ | ⟨b1, b2, b3⟩ | ⟨b1, b2, b3⟩
      · exact absurd (a3.symm.trans b3) (Ne.symm d_x_nn)
      · exact absurd (a3.symm.trans b3) d_nn_qc
      · exact ⟨a1.trans b1.symm, a2.trans b2.symm⟩
      · exact absurd (a3.symm.trans b3) d_nn_qb
      · exact absurd (a3.symm.trans b3) d_nn_bc
      · exact absurd (a3.symm.trans b3) (Ne.symm d_k0_nn)
      · exact absurd (a3.symm.trans b3) (Ne.symm d_k1_nn)
      · exact absurd (a3.symm.trans b3) (Ne.symm d_k3_nn)
      · exact absurd (a3.symm.trans b3) (Ne.symm d_k8_nn)
      · exact absurd (a3.symm.trans b3) (Ne.symm d_k9_nn)
      · exact absurd (a3.symm.trans b3) (Ne.symm d_ka_nn)
      · exact absurd (a3.symm.trans b3) (Ne.symm d_kb_nn)
      · exact absurd (a3.symm.trans b3) (Ne.symm d_kc_nn)
    · rcases zwin_t h2 with ⟨b1, b2, b3⟩ | ⟨b1, b2, b3⟩ | ⟨b1, b2, b3⟩ | ⟨b1, b2, b3⟩ | ⟨b1, b2, b3⟩ | ⟨b1, b2, b3⟩ | ⟨b1, b2, b3⟩ | ⟨b1, b2, b3⟩ | ⟨b1, b2, b3⟩ | ⟨b1, b2, b3⟩ | ⟨b1, b2, b3⟩ | ⟨b1, b2, b3⟩ | ⟨b1, b2, b3⟩
      · exact absurd (a3.symm.trans b3) (Ne.symm d_x_qb)
      · exact absurd (a3.symm.trans b3) (Ne.symm d_qc_qb)
      · exact absurd (a3.symm.trans b3) (Ne.symm d_nn_qb)
      · exact ⟨a1.trans b1.symm, a2.trans b2.symm⟩
      · exact absurd (a3.symm.trans b3) d_qb_bc
      · exact absurd (a3.symm.trans b3) (Ne.symm d_k0_qb)
      · exact absurd (a3.symm.trans b3) (Ne.symm d_k1_qb)
      · exact absurd (a3.symm.trans b3) (Ne.symm d_k3_qb)
      · exact absurd (a3.symm.trans b3) (Ne.symm d_k8_qb)
      · exact absurd (a3.symm.trans b3) (Ne.symm d_k9_qb)
      · exact absurd (a3.symm.trans b3) (Ne.symm d_ka_qb)
      · exact absurd (a3.symm.trans b3) (Ne.symm d_kb_qb)
      · exact absurd (a3.symm.trans b3) (Ne.symm d_kc_qb)
    · rcases zwin_t h2 with ⟨b1, b2, b3⟩ | ⟨b1, b2, b3⟩ | ⟨b1, b2, b3⟩ | ⟨b1, b2, b3⟩ | ⟨b1, b2, b3⟩ | ⟨b1, b2, b3⟩ | ⟨b1, b2, b3⟩ | ⟨b1, b2, b3⟩ | ⟨b1, b2, b3⟩ | ⟨b1, b2, b3⟩ | ⟨b1, b2, b3⟩ | ⟨b1, b2, b3⟩ | ⟨b1, b2, b3⟩
      · exact absurd (a3.symm.trans b3) (Ne.symm d_x_bc)
      · exact absurd (a3.symm.trans b3) (Ne.symm d_qc_bc)
      · exact absurd (a3.symm.trans b3) (Ne.symm d_nn_bc)
      · exact absurd (a3.symm.trans b3) (Ne.symm d_qb_bc)
      · exact ⟨a1.trans b1.symm, a2.trans b2.symm⟩
      · exact absurd (a3.symm.trans b3) (Ne.symm d_k0_bc)
      · exact absurd (a3.symm.trans b3) (Ne.symm d_k1_bc)
      · exact absurd (a3.symm.trans b3) (Ne.symm d_k3_bc)
      · exact absurd (a3.symm.trans b3) (Ne.symm d_k8_bc)
      · exact absurd (a3.symm.trans b3) (Ne.symm d_k9_bc)
      · exact absurd (a3.symm.trans b3) (Ne.symm d_ka_bc)
      · exact absurd (a3.symm.trans b3) (Ne.symm d_kb_bc)
      · exact absurd (a3.symm.trans b3) (Ne.symm d_kc_bc)
    · rcases zwin_t h2 with ⟨b1, b2, b3⟩ | ⟨b1, b2, b3⟩ | ⟨b1, b2, b3⟩ | ⟨b1, b2, b3⟩ | ⟨b1, b2, b3⟩ | ⟨b1, b2, b3⟩ | ⟨b1, b2, b3⟩ | ⟨b1, b2, b3⟩ | ⟨b1, b2, b3⟩ | ⟨b1, b2, b3⟩ | ⟨b1, b2, b3⟩ | ⟨b1, b2, b3⟩ | ⟨b1, b2, b3⟩
      · exact absurd (a3.symm.trans b3) (Ne.symm d_x_k0)
      · exact absurd (a3.symm.trans b3) d_k0_qc
      · exact absurd (a3.symm.trans b3) d_k0_nn
      · exact absurd (a3.symm.trans b3) d_k0_qb
      · exact absurd (a3.symm.trans b3) d_k0_bc
      · exact ⟨a1.trans b1.symm, a2.trans b2.symm⟩
      · exact absurd (a3.symm.trans b3) d_k0_k1
      · exact absurd (a3.symm.trans b3) d_k0_k3
      · exact absurd (a3.symm.trans b3) d_k0_k8
      · exact absurd (a3.symm.trans b3) d_k0_k9
      · exact absurd (a3.symm.trans b3) d_k0_ka
      · exact absurd (a3.symm.trans b3) d_k0_kb
      · exact absurd (a3.symm.trans b3) d_k0_kc
    · rcases zwin_t h2 with ⟨b1, b2, b3⟩ | ⟨b1, b2, b3⟩ | ⟨b1, b2, b3⟩ | ⟨b1, b2, b3⟩ | ⟨b1, b2, b3⟩ | ⟨b1, b2, b3⟩ | ⟨b1, b2, b3⟩ | ⟨b1, b2, b3⟩ | ⟨b1, b2, b3⟩ | ⟨b1, b2, b3⟩ | ⟨b1, b2, b3⟩ | ⟨b1, b2, b3⟩ | ⟨b1, b2, b3⟩
      · exact absurd (a3.symm.trans b3) (Ne.symm d_x_k1)
      · exact absurd (a3.symm.trans b3) d_k1_qc
      · exact absurd (a3.symm.trans b3) d_k1_nn
      · exact absurd (a3.symm.trans b3) d_k1_qb
      · exact absurd (a3.symm.trans b3) d_k1_bc
      · exact absurd (a3.symm.trans b3) (Ne.symm d_k0_k1)
      · exact ⟨a1.trans b1.symm, a2.trans b2.symm⟩
      · exact absurd (a3.symm.trans b3) d_k1_k3
      · exact absurd (a3.symm.trans b3) d_k1_k8
      · exact absurd (a3.symm.trans b3) d_k1_k9
      · exact absurd (a3.symm.trans b3) d_k1_ka
      · exact absurd (a3.symm.trans b3) d_k1_kb
      · exact absurd (a3.symm.trans b3) d_k1_kc
    · rcases zwin_t h2 with ⟨b1, b2, b3⟩ | ⟨b1, b2, b3⟩ | ⟨b1, b2, b3⟩ | ⟨b1, b2, b3⟩ | ⟨b1, b2, b3⟩ | ⟨b1, b2, b3⟩ | ⟨b1, b2, b3⟩ | ⟨b1, b2, b3⟩ | ⟨b1, b2, b3⟩ | ⟨b1, b2, b3⟩ | ⟨b1, b2, b3⟩ | ⟨b1, b2, b3⟩ | ⟨b1, b2, b3⟩
      · exact absurd (a3.symm.trans b3) (Ne.symm d_x_k3)
      · exact absurd (a3.symm.trans b3) d_k3_qc
      · exact absurd (a3.symm.trans b3) d_k3_nn
      · exact absurd (a3.symm.trans b3) d_k3_qb
      · exact absurd (a3.symm.trans b3) d_k3_bc
      · exact absurd (a3.symm.trans b3) (Ne.symm d_k0_k3)
      · exact absurd (a3.symm.trans b3) (Ne.symm d_k1_k3)
      · exact ⟨a1.trans b1.symm, a2.trans b2.symm⟩
      · exact absurd (a3.symm.trans b3) d_k3_k8
      · exact absurd (a3.symm.trans b3) d_k3_k9
      · exact absurd (a3.symm.trans b3) d_k3_ka
      · exact absurd (a3.symm.trans b3) d_k3_kb
      · exact absurd (a3.symm.trans b3) d_k3_kc
    · rcases zwin_t h2 with ⟨b1, b2, b3⟩ | ⟨b1, b2, b3⟩ | ⟨b1, b2, b3⟩ | ⟨b1, b2, b3⟩ | ⟨b1, b2, b3⟩ | ⟨b1, b2, b3⟩ | ⟨b1, b2, b3⟩ | ⟨b1, b2, b3⟩ | ⟨b1, b2, b3⟩ | ⟨b1, b2, b3⟩ | ⟨b1, b2, b3⟩ | ⟨b1, b2, b3⟩ | ⟨b1, b2, b3⟩
      · exact absurd (a3.symm.trans b3) (Ne.symm d_x_k8)
      · exact absurd (a3.symm.trans b3) d_k8_qc
      · exact absurd (a3.symm.trans b3) d_k8_nn
      · exact absurd (a3.symm.trans b3) d_k8_qb
      · exact absurd (a3.symm.trans b3) d_k8_bc
      · exact absurd (a3.symm.trans b3) (Ne.symm d_k0_k8)
      · exact absurd (a3.symm.trans b3) (Ne.symm d_k1_k8)
      · exact absurd (a3.symm.trans b3) (Ne.symm d_k3_k8)
      · exact ⟨a1.trans b1.symm, a2.trans b2.symm⟩
      · exact absurd (a3.symm.trans b3) d_k8_k9
      · exact absurd (a3.symm.trans b3) d_k8_ka
      · exact absurd (a3.symm.trans b3) d_k8_kb
      · exact absurd (a3.symm.trans b3) d_k8_kc
    · rcases zwin_t h2 with ⟨b1, b2, b3⟩ | ⟨b1, b2, b3⟩ | ⟨b1, b2, b3⟩ | ⟨b1, b2, b3⟩ | ⟨b1, b2, b3⟩ | ⟨b1, b2, b3⟩ | ⟨b1, b2, b3⟩ | ⟨b1, b2, b3⟩ | ⟨b1, b2, b3⟩ | ⟨b1, b2, b3⟩ | ⟨b1, b2, b3⟩ | ⟨b1, b2, b3⟩ | ⟨b1, b2, b3⟩
      · exact absurd (a3.symm.trans b3) (Ne.symm d_x_k9)
      · exact absurd (a3.symm.trans b3) d_k9_qc
      · exact absurd (a3.symm.trans b3) d_k9_nn
      · exact absurd (a3.symm.trans b3) d_k9_qb
      · exact absurd (a3.symm.trans b3) d_k9_bc
      · exact absurd (a3.symm.trans b3) (Ne.symm d_k0_k9)
      · exact absurd (a3.symm.trans b3) (Ne.symm d_k1_k9)
      · exact absurd (a3.symm.trans b3) (Ne.symm d_k3_k9)
      · exact absurd (a3.symm.trans b3) (Ne.symm d_k8_k9)
      · exact ⟨a1.trans b1.symm, a2.trans b2.symm⟩
      · exact absurd (a3.symm.trans b3) d_k9_ka
      · exact absurd (a3.symm.trans b3) d_k9_kb
      · exact absurd (a3.symm.trans b3) d_k9_kc
    · rcases zwin_t h2 with ⟨b1, b2, b3⟩ | ⟨b1, b2, b3⟩ | ⟨b1, b2, b3⟩ | ⟨b1, b2, b3⟩ | ⟨b1, b2, b3⟩ | ⟨b1, b2, b3⟩ | ⟨b1, b2, b3⟩ | ⟨b1, b2, b3⟩ | ⟨b1, b2, b3⟩ | ⟨b1, b2, b3⟩ | ⟨b1, b2, b3⟩ | ⟨b1, b2, b3⟩ | ⟨b1, b2, b3⟩
      · exact absurd (a3.symm.trans b3) (Ne.symm d_x_ka)
      · exact absurd (a3.symm.trans b3) d_ka_qc
      · exact absurd (a3.symm.trans b3) d_ka_nn
      · exact absurd (a3.symm.trans b3) d_ka_qb
      · exact absurd (a3.symm.trans b3) d_ka_bc
      · exact absurd (a3.symm.trans b3) (Ne.symm d_k0_ka)
      · exact absurd (a3.symm.trans b3) (Ne.symm d_k1_ka)
      · exact absurd (a3.symm.trans b3) (Ne.symm d_k3_ka)
      · exact absurd (a3.symm.trans b3) (Ne.symm d_k8_ka)
      · exact absurd (a3.symm.trans b3) (Ne.symm d_k9_ka)
      · exact ⟨a1.trans b1.symm, a2.trans b2.symm⟩
      · exact absurd (a3.symm.trans b3) d_ka_kb
      · exact absurd (a3.symm.trans b3) d_ka_kc
    · rcases zwin_t h2 with ⟨b1, b2, b3⟩ | ⟨b1, b2, b3⟩ | ⟨b1, b2, b3⟩ | ⟨b1, b2, b3⟩ | ⟨b1, b2, b3⟩ | ⟨b1, b2, b3⟩ | ⟨b1, b2, b3⟩ | ⟨b1, b2, b3⟩ | ⟨b1, b2, b3⟩ | ⟨b1, b2, b3⟩ | ⟨b1, b2, b3⟩ | ⟨b1, b2, b3⟩ | ⟨b1, b2, b3⟩
      · exact absurd (a3.symm.trans b3) (Ne.symm d_x_kb)
      · exact absurd (a3.symm.trans b3) d_kb_qc
      · exact absurd (a3.symm.trans b3) d_kb_nn
      · exact absurd (a3.symm.trans b3) d_kb_qb
      · exact absurd (a3.symm.trans b3) d_kb_bc
      · exact absurd (a3.symm.trans b3) (Ne.symm d_k0_kb)
      · exact absurd (a3.symm.trans b3) (Ne.symm d_k1_kb)
      · exact absurd (a3.symm.trans b3) (Ne.symm d_k3_kb)
      · exact absurd (a3.symm.trans b3) (Ne.symm d_k8_kb)
      · exact absurd (a3.symm.trans b3) (Ne.symm d_k9_kb)
      · exact absurd (a3.symm.trans b3) (Ne.symm d_ka_kb)
      · exact ⟨a1.trans b1.symm, a2.trans b2.symm⟩
      · exact absurd (a3.symm.trans b3) d_kb_kc
    · rcases zwin_t h2 with ⟨b1, b2, b3⟩ | ⟨b1, b2, b3⟩ | ⟨b1, b2, b3⟩ | ⟨b1, b2, b3⟩ | ⟨b1, b2, b3⟩ | ⟨b1, b2, b3⟩ | ⟨b1, b2, b3⟩ | ⟨b1, b2, b3⟩ | ⟨b1, b2, b3⟩ | ⟨b1, b2, b3⟩ | ⟨b1, b2, b3⟩ | ⟨b1, b2, b3⟩ | ⟨b1, b2, b3⟩
      · exact absurd (a3.symm.trans b3) (Ne.symm d_x_kc)
      · exact absurd (a3.symm.trans b3) d_kc_qc
      · exact absurd (a3.symm.trans b3) d_kc_nn
      · exact absurd (a3.symm.trans b3) d_kc_qb
      · exact absurd (a3.symm.trans b3) d_kc_bc
      · exact absurd (a3.symm.trans b3) (Ne.symm d_k0_kc)
      · exact absurd (a3.symm.trans b3) (Ne.symm d_k1_kc)
      · exact absurd (a3.symm.trans b3) (Ne.symm d_k3_kc)
      · exact absurd (a3.symm.trans b3) (Ne.symm d_k8_kc)
      · exact absurd (a3.symm.trans b3) (Ne.symm d_k9_kc)
      · exact absurd (a3.symm.trans b3) (Ne.symm d_ka_kc)
      · exact absurd (a3.symm.trans b3) (Ne.symm d_kb_kc)
      · exact ⟨a1.trans b1.symm, a2.trans b2.symm⟩
  · rcases zwin_t h with ⟨-, -, hq⟩ | ⟨-, -, hq⟩ | ⟨-, -, hq⟩ | ⟨-, -, hq⟩ | ⟨-, -, hq⟩ | ⟨-, -, hq⟩ | ⟨-, -, hq⟩ | ⟨-, -, hq⟩ | ⟨-, -, hq⟩ | ⟨-, -, hq⟩ | ⟨-, -, hq⟩ | ⟨-, -, hq⟩ | ⟨-, -, hq⟩
    · exact Or.inl hq
    · exact Or.inr (hq ▸ g_qc)
    · exact Or.inr (hq ▸ g_nn)
    · exact Or.inr (hq ▸ g_qb)
    · exact Or.inr (hq ▸ g_bc)
    · exact Or.inr (hq ▸ g_k0)
    · exact Or.inr (hq ▸ g_k1)
    · exact Or.inr (hq ▸ g_k3)
    · exact Or.inr (hq ▸ g_k8)
    · exact Or.inr (hq ▸ g_k9)
    · exact Or.inr (hq ▸ g_ka)
    · exact Or.inr (hq ▸ g_kb)
    · exact Or.inr (hq ▸ g_kc)
set_option maxRecDepth 100000 in
set_option maxHeartbeats 4000000 in
theorem c_S_init (g : zGt) (d : Nat) (hdd : 6 ≤ d) (G : zG) (x : Nat) (hx : G x = some (zO 0 [.null, .null, .int 0, .null, .int 0, .int 0, .int 0, .int 0, .null, .null, .null, .null, .null, .null])) : zMet g y_S_init b_S_init 2 none [] d 12 8285 [.ref x] G (fun r G1 => r = .inl none ∧ ∃ w, zHp w G1 ∧ w.a 0 0 = x ∧ (∀ a : Nat → Nat, zIn w 0 (t_M_init (a, zMi, (fun _ _ => 0))) 1) ∧ (∀ f i q, zAd w f i = some q → q = x ∨ G q = none) ∧ ∀ r, r ≠ x → G r ≠ none → G1 r = G r) := by
  refine zMet.of (by decide) (Nat.le_of_ble_eq_true rfl) rfl (fun X hX => ?_)
  refine zr_aload_n hX rfl d_S_init_0 ?_
  refine zr_objInit hX q21 q22 q23 (Nat.le_of_ble_eq_true rfl) (by omega) d_S_init_1 ?_
  refine zr_aload_n hX rfl d_S_init_4 ?_
  refine zr_iconst (v := 4) hX rfl d_S_init_5 ?_
  refine zr_newI (N := 4) hX q56 (by decide) rfl (by decide) (by omega) (by omega) d_S_init_6 (fun k0 hn_k0 => ?_)
  have n_x_k0 : x ≠ k0 := zfr hn_k0 hx
  have f_k0 : G k0 = none := hn_k0
  obtain ⟨G1, hG1⟩ : ∃ z, z = zput G k0 (zI 4 (fun _ => 0)) := ⟨_, rfl⟩
  rw [← hG1]
  have h1_x : G1 x = some (zO 0 [.null, .null, .int 0, .null, .int 0, .int 0, .int 0, .int 0, .null, .null, .null, .null, .null, .null]) := by rw [hG1]; exact (zput_n n_x_k0).trans hx
  have h1_k0 : G1 k0 = some (zI 4 (fun _ => 0)) := by rw [hG1]; exact zput_s _ _ _
  have fr1 : ∀ r, r ≠ x → G r ≠ none → G1 r = G r := fun r r1 r2 => by rw [hG1]; exact (zput_n (zrne r2 f_k0)).trans rfl
  refine zr_putF hX k_S 0 (by decide) q103 rfl rfl rfl rfl rfl rfl (Nat.le_of_ble_eq_true rfl) h1_x d_S_init_8 ?_
  obtain ⟨G2, hG2⟩ : ∃ z, z = zput G1 x (zO 0 ([.null, .null, .int 0, .null, .int 0, .int 0, .int 0, .int 0, .null, .null, .null, .null, .null, .null].set 0 (.ref k0))) := ⟨_, rfl⟩
  rw [← hG2]
  have h2_k0 : G2 k0 = some (zI 4 (fun _ => 0)) := by rw [hG2]; exact (zput_n (Ne.symm n_x_k0)).trans h1_k0
  have h2_x : G2 x = some (zO 0 [.ref k0, .null, .int 0, .null, .int 0, .int 0, .int 0, .int 0, .null, .null, .null, .null, .null, .null]) := by rw [hG2]; exact zput_s _ _ _
  have fr2 : ∀ r, r ≠ x → G r ≠ none → G2 r = G r := fun r r1 r2 => by rw [hG2]; exact (zput_n r1).trans (fr1 r r1 r2)
  refine zr_aload_n hX rfl d_S_init_11 ?_
  refine zr_bipush (v := 24) hX rfl d_S_init_12 ?_
  refine zr_anew (N := 24) (t := 3) hX q24 q25 rfl (by decide) (by decide) rfl (by decide) (by omega) (by omega) d_S_init_14 (fun k1 hn_k1 => ?_)
  have n_x_k1 : x ≠ k1 := zfr hn_k1 h2_x
  have n_k0_k1 : k0 ≠ k1 := zfr hn_k1 h2_k0
  have f_k1 : G k1 = none := zfre fr2 hn_k1 (Ne.symm n_x_k1)
  obtain ⟨G3, hG3⟩ : ∃ z, z = zput G2 k1 (zR 3 24 (fun _ => none)) := ⟨_, rfl⟩
  rw [← hG3]
  have h3_x : G3 x = some (zO 0 [.ref k0, .null, .int 0, .null, .int 0, .int 0, .int 0, .int 0, .null, .null, .null, .null, .null, .null]) := by rw [hG3]; exact (zput_n n_x_k1).trans h2_x
  have h3_k0 : G3 k0 = some (zI 4 (fun _ => 0)) := by rw [hG3]; exact (zput_n n_k0_k1).trans h2_k0
  have h3_k1 : G3 k1 = some (zR 3 24 (fun _ => none)) := by rw [hG3]; exact zput_s _ _ _
  have fr3 : ∀ r, r ≠ x → G r ≠ none → G3 r = G r := fun r r1 r2 => by rw [hG3]; exact (zput_n (zrne r2 f_k1)).trans (fr2 r r1 r2)
  refine zr_putF hX k_S 1 (by decide) q104 rfl rfl rfl rfl rfl rfl (Nat.le_of_ble_eq_true rfl) h3_x d_S_init_17 ?_
  obtain ⟨G4, hG4⟩ : ∃ z, z = zput G3 x (zO 0 ([.ref k0, .null, .int 0, .null, .int 0, .int 0, .int 0, .int 0, .null, .null, .null, .null, .null, .null].set 1 (.ref k1))) := ⟨_, rfl⟩
  rw [← hG4]
  have h4_k0 : G4 k0 = some (zI 4 (fun _ => 0)) := by rw [hG4]; exact (zput_n (Ne.symm n_x_k0)).trans h3_k0
  have h4_k1 : G4 k1 = some (zR 3 24 (fun _ => none)) := by rw [hG4]; exact (zput_n (Ne.symm n_x_k1)).trans h3_k1
  have h4_x : G4 x = some (zO 0 [.ref k0, .ref k1, .int 0, .null, .int 0, .int 0, .int 0, .int 0, .null, .null, .null, .null, .null, .null]) := by rw [hG4]; exact zput_s _ _ _
  have fr4 : ∀ r, r ≠ x → G r ≠ none → G4 r = G r := fun r r1 r2 => by rw [hG4]; exact (zput_n r1).trans (fr3 r r1 r2)
  refine zr_aload_n hX rfl d_S_init_20 ?_
  refine zr_iconst (v := 4) hX rfl d_S_init_21 ?_
  refine zr_anew (N := 4) (t := 4) hX q26 q27 rfl (by decide) (by decide) rfl (by decide) (by omega) (by omega) d_S_init_22 (fun k3 hn_k3 => ?_)
  have n_x_k3 : x ≠ k3 := zfr hn_k3 h4_x
  have n_k0_k3 : k0 ≠ k3 := zfr hn_k3 h4_k0
  have n_k1_k3 : k1 ≠ k3 := zfr hn_k3 h4_k1
  have f_k3 : G k3 = none := zfre fr4 hn_k3 (Ne.symm n_x_k3)
  obtain ⟨G5, hG5⟩ : ∃ z, z = zput G4 k3 (zR 4 4 (fun _ => none)) := ⟨_, rfl⟩
  rw [← hG5]
  have h5_x : G5 x = some (zO 0 [.ref k0, .ref k1, .int 0, .null, .int 0, .int 0, .int 0, .int 0, .null, .null, .null, .null, .null, .null]) := by rw [hG5]; exact (zput_n n_x_k3).trans h4_x
  have h5_k0 : G5 k0 = some (zI 4 (fun _ => 0)) := by rw [hG5]; exact (zput_n n_k0_k3).trans h4_k0
  have h5_k1 : G5 k1 = some (zR 3 24 (fun _ => none)) := by rw [hG5]; exact (zput_n n_k1_k3).trans h4_k1
  have h5_k3 : G5 k3 = some (zR 4 4 (fun _ => none)) := by rw [hG5]; exact zput_s _ _ _
  have fr5 : ∀ r, r ≠ x → G r ≠ none → G5 r = G r := fun r r1 r2 => by rw [hG5]; exact (zput_n (zrne r2 f_k3)).trans (fr4 r r1 r2)
  refine zr_putF hX k_S 3 (by decide) q106 rfl rfl rfl rfl rfl rfl (Nat.le_of_ble_eq_true rfl) h5_x d_S_init_25 ?_
  obtain ⟨G6, hG6⟩ : ∃ z, z = zput G5 x (zO 0 ([.ref k0, .ref k1, .int 0, .null, .int 0, .int 0, .int 0, .int 0, .null, .null, .null, .null, .null, .null].set 3 (.ref k3))) := ⟨_, rfl⟩
  rw [← hG6]
  have h6_k0 : G6 k0 = some (zI 4 (fun _ => 0)) := by rw [hG6]; exact (zput_n (Ne.symm n_x_k0)).trans h5_k0
  have h6_k1 : G6 k1 = some (zR 3 24 (fun _ => none)) := by rw [hG6]; exact (zput_n (Ne.symm n_x_k1)).trans h5_k1
  have h6_k3 : G6 k3 = some (zR 4 4 (fun _ => none)) := by rw [hG6]; exact (zput_n (Ne.symm n_x_k3)).trans h5_k3
  have h6_x : G6 x = some (zO 0 [.ref k0, .ref k1, .int 0, .ref k3, .int 0, .int 0, .int 0, .int 0, .null, .null, .null, .null, .null, .null]) := by rw [hG6]; exact zput_s _ _ _
  have fr6 : ∀ r, r ≠ x → G r ≠ none → G6 r = G r := fun r r1 r2 => by rw [hG6]; exact (zput_n r1).trans (fr5 r r1 r2)
  refine zr_aload_n hX rfl d_S_init_28 ?_
  refine zr_bipush (v := 6) hX rfl d_S_init_29 ?_
  refine zr_newI (N := 6) hX q56 (by decide) rfl (by decide) (by omega) (by omega) d_S_init_31 (fun k8 hn_k8 => ?_)
  have n_x_k8 : x ≠ k8 := zfr hn_k8 h6_x
  have n_k0_k8 : k0 ≠ k8 := zfr hn_k8 h6_k0
  have n_k1_k8 : k1 ≠ k8 := zfr hn_k8 h6_k1
  have n_k3_k8 : k3 ≠ k8 := zfr hn_k8 h6_k3
  have f_k8 : G k8 = none := zfre fr6 hn_k8 (Ne.symm n_x_k8)
  obtain ⟨G7, hG7⟩ : ∃ z, z = zput G6 k8 (zI 6 (fun _ => 0)) := ⟨_, rfl⟩
  rw [← hG7]
  have h7_x : G7 x = some (zO 0 [.ref k0, .ref k1, .int 0, .ref k3, .int 0, .int 0, .int 0, .int 0, .null, .null, .null, .null, .null, .null]) := by rw [hG7]; exact (zput_n n_x_k8).trans h6_x
  have h7_k0 : G7 k0 = some (zI 4 (fun _ => 0)) := by rw [hG7]; exact (zput_n n_k0_k8).trans h6_k0
  have h7_k1 : G7 k1 = some (zR 3 24 (fun _ => none)) := by rw [hG7]; exact (zput_n n_k1_k8).trans h6_k1
  have h7_k3 : G7 k3 = some (zR 4 4 (fun _ => none)) := by rw [hG7]; exact (zput_n n_k3_k8).trans h6_k3
  have h7_k8 : G7 k8 = some (zI 6 (fun _ => 0)) := by rw [hG7]; exact zput_s _ _ _
  have fr7 : ∀ r, r ≠ x → G r ≠ none → G7 r = G r := fun r r1 r2 => by rw [hG7]; exact (zput_n (zrne r2 f_k8)).trans (fr6 r r1 r2)
  refine zr_putF hX k_S 8 (by decide) q111 rfl rfl rfl rfl rfl rfl (Nat.le_of_ble_eq_true rfl) h7_x d_S_init_33 ?_
  obtain ⟨G8, hG8⟩ : ∃ z, z = zput G7 x (zO 0 ([.ref k0, .ref k1, .int 0, .ref k3, .int 0, .int 0, .int 0, .int 0, .null, .null, .null, .null, .null, .null].set 8 (.ref k8))) := ⟨_, rfl⟩
  rw [← hG8]
  have h8_k0 : G8 k0 = some (zI 4 (fun _ => 0)) := by rw [hG8]; exact (zput_n (Ne.symm n_x_k0)).trans h7_k0
  have h8_k1 : G8 k1 = some (zR 3 24 (fun _ => none)) := by rw [hG8]; exact (zput_n (Ne.symm n_x_k1)).trans h7_k1
  have h8_k3 : G8 k3 = some (zR 4 4 (fun _ => none)) := by rw [hG8]; exact (zput_n (Ne.symm n_x_k3)).trans h7_k3
  have h8_k8 : G8 k8 = some (zI 6 (fun _ => 0)) := by rw [hG8]; exact (zput_n (Ne.symm n_x_k8)).trans h7_k8
  have h8_x : G8 x = some (zO 0 [.ref k0, .ref k1, .int 0, .ref k3, .int 0, .int 0, .int 0, .int 0, .ref k8, .null, .null, .null, .null, .null]) := by rw [hG8]; exact zput_s _ _ _
  have fr8 : ∀ r, r ≠ x → G r ≠ none → G8 r = G r := fun r r1 r2 => by rw [hG8]; exact (zput_n r1).trans (fr7 r r1 r2)
  refine zr_aload_n hX rfl d_S_init_36 ?_
  refine zr_bipush (v := 6) hX rfl d_S_init_37 ?_
  refine zr_newI (N := 6) hX q56 (by decide) rfl (by decide) (by omega) (by omega) d_S_init_39 (fun k9 hn_k9 => ?_)
  have n_x_k9 : x ≠ k9 := zfr hn_k9 h8_x
  have n_k0_k9 : k0 ≠ k9 := zfr hn_k9 h8_k0
  have n_k1_k9 : k1 ≠ k9 := zfr hn_k9 h8_k1
  have n_k3_k9 : k3 ≠ k9 := zfr hn_k9 h8_k3
  have n_k8_k9 : k8 ≠ k9 := zfr hn_k9 h8_k8
  have f_k9 : G k9 = none := zfre fr8 hn_k9 (Ne.symm n_x_k9)
  obtain ⟨G9, hG9⟩ : ∃ z, z = zput G8 k9 (zI 6 (fun _ => 0)) := ⟨_, rfl⟩
  rw [← hG9]
  have h9_x : G9 x = some (zO 0 [.ref k0, .ref k1, .int 0, .ref k3, .int 0, .int 0, .int 0, .int 0, .ref k8, .null, .null, .null, .null, .null]) := by rw [hG9]; exact (zput_n n_x_k9).trans h8_x
  have h9_k0 : G9 k0 = some (zI 4 (fun _ => 0)) := by rw [hG9]; exact (zput_n n_k0_k9).trans h8_k0
  have h9_k1 : G9 k1 = some (zR 3 24 (fun _ => none)) := by rw [hG9]; exact (zput_n n_k1_k9).trans h8_k1
  have h9_k3 : G9 k3 = some (zR 4 4 (fun _ => none)) := by rw [hG9]; exact (zput_n n_k3_k9).trans h8_k3
  have h9_k8 : G9 k8 = some (zI 6 (fun _ => 0)) := by rw [hG9]; exact (zput_n n_k8_k9).trans h8_k8
  have h9_k9 : G9 k9 = some (zI 6 (fun _ => 0)) := by rw [hG9]; exact zput_s _ _ _
  have fr9 : ∀ r, r ≠ x → G r ≠ none → G9 r = G r := fun r r1 r2 => by rw [hG9]; exact (zput_n (zrne r2 f_k9)).trans (fr8 r r1 r2)
  refine zr_putF hX k_S 9 (by decide) q112 rfl rfl rfl rfl rfl rfl (Nat.le_of_ble_eq_true rfl) h9_x d_S_init_41 ?_
  obtain ⟨G10, hG10⟩ : ∃ z, z = zput G9 x (zO 0 ([.ref k0, .ref k1, .int 0, .ref k3, .int 0, .int 0, .int 0, .int 0, .ref k8, .null, .null, .null, .null, .null].set 9 (.ref k9))) := ⟨_, rfl⟩
  rw [← hG10]
  have h10_k0 : G10 k0 = some (zI 4 (fun _ => 0)) := by rw [hG10]; exact (zput_n (Ne.symm n_x_k0)).trans h9_k0
  have h10_k1 : G10 k1 = some (zR 3 24 (fun _ => none)) := by rw [hG10]; exact (zput_n (Ne.symm n_x_k1)).trans h9_k1
  have h10_k3 : G10 k3 = some (zR 4 4 (fun _ => none)) := by rw [hG10]; exact (zput_n (Ne.symm n_x_k3)).trans h9_k3
  have h10_k8 : G10 k8 = some (zI 6 (fun _ => 0)) := by rw [hG10]; exact (zput_n (Ne.symm n_x_k8)).trans h9_k8
  have h10_k9 : G10 k9 = some (zI 6 (fun _ => 0)) := by rw [hG10]; exact (zput_n (Ne.symm n_x_k9)).trans h9_k9
  have h10_x : G10 x = some (zO 0 [.ref k0, .ref k1, .int 0, .ref k3, .int 0, .int 0, .int 0, .int 0, .ref k8, .ref k9, .null, .null, .null, .null]) := by rw [hG10]; exact zput_s _ _ _
  have fr10 : ∀ r, r ≠ x → G r ≠ none → G10 r = G r := fun r r1 r2 => by rw [hG10]; exact (zput_n r1).trans (fr9 r r1 r2)
  refine zr_aload_n hX rfl d_S_init_44 ?_
  refine zr_bipush (v := 8) hX rfl d_S_init_45 ?_
  refine zr_newI (N := 8) hX q56 (by decide) rfl (by decide) (by omega) (by omega) d_S_init_47 (fun ka hn_ka => ?_)
  have n_x_ka : x ≠ ka := zfr hn_ka h10_x
  have n_k0_ka : k0 ≠ ka := zfr hn_ka h10_k0
  have n_k1_ka : k1 ≠ ka := zfr hn_ka h10_k1
  have n_k3_ka : k3 ≠ ka := zfr hn_ka h10_k3
  have n_k8_ka : k8 ≠ ka := zfr hn_ka h10_k8
  have n_k9_ka : k9 ≠ ka := zfr hn_ka h10_k9
  have f_ka : G ka = none := zfre fr10 hn_ka (Ne.symm n_x_ka)
  obtain ⟨G11, hG11⟩ : ∃ z, z = zput G10 ka (zI 8 (fun _ => 0)) := ⟨_, rfl⟩
  rw [← hG11]
  have h11_x : G11 x = some (zO 0 [.ref k0, .ref k1, .int 0, .ref k3, .int 0, .int 0, .int 0, .int 0, .ref k8, .ref k9, .null, .null, .null, .null]) := by rw [hG11]; exact (zput_n n_x_ka).trans h10_x
  have h11_k0 : G11 k0 = some (zI 4 (fun _ => 0)) := by rw [hG11]; exact (zput_n n_k0_ka).trans h10_k0
  have h11_k1 : G11 k1 = some (zR 3 24 (fun _ => none)) := by rw [hG11]; exact (zput_n n_k1_ka).trans h10_k1
  have h11_k3 : G11 k3 = some (zR 4 4 (fun _ => none)) := by rw [hG11]; exact (zput_n n_k3_ka).trans h10_k3
  have h11_k8 : G11 k8 = some (zI 6 (fun _ => 0)) := by rw [hG11]; exact (zput_n n_k8_ka).trans h10_k8
  have h11_k9 : G11 k9 = some (zI 6 (fun _ => 0)) := by rw [hG11]; exact (zput_n n_k9_ka).trans h10_k9
  have h11_ka : G11 ka = some (zI 8 (fun _ => 0)) := by rw [hG11]; exact zput_s _ _ _
  have fr11 : ∀ r, r ≠ x → G r ≠ none → G11 r = G r := fun r r1 r2 => by rw [hG11]; exact (zput_n (zrne r2 f_ka)).trans (fr10 r r1 r2)
  refine zr_putF hX k_S 10 (by decide) q113 rfl rfl rfl rfl rfl rfl (Nat.le_of_ble_eq_true rfl) h11_x d_S_init_49 ?_
  obtain ⟨G12, hG12⟩ : ∃ z, z = zput G11 x (zO 0 ([.ref k0, .ref k1, .int 0, .ref k3, .int 0, .int 0, .int 0, .int 0, .ref k8, .ref k9, .null, .null, .null, .null].set 10 (.ref ka))) := ⟨_, rfl⟩
  rw [← hG12]
  have h12_k0 : G12 k0 = some (zI 4 (fun _ => 0)) := by rw [hG12]; exact (zput_n (Ne.symm n_x_k0)).trans h11_k0
  have h12_k1 : G12 k1 = some (zR 3 24 (fun _ => none)) := by rw [hG12]; exact (zput_n (Ne.symm n_x_k1)).trans h11_k1
  have h12_k3 : G12 k3 = some (zR 4 4 (fun _ => none)) := by rw [hG12]; exact (zput_n (Ne.symm n_x_k3)).trans h11_k3
  have h12_k8 : G12 k8 = some (zI 6 (fun _ => 0)) := by rw [hG12]; exact (zput_n (Ne.symm n_x_k8)).trans h11_k8
  have h12_k9 : G12 k9 = some (zI 6 (fun _ => 0)) := by rw [hG12]; exact (zput_n (Ne.symm n_x_k9)).trans h11_k9
  have h12_ka : G12 ka = some (zI 8 (fun _ => 0)) := by rw [hG12]; exact (zput_n (Ne.symm n_x_ka)).trans h11_ka
  have h12_x : G12 x = some (zO 0 [.ref k0, .ref k1, .int 0, .ref k3, .int 0, .int 0, .int 0, .int 0, .ref k8, .ref k9, .ref ka, .null, .null, .null]) := by rw [hG12]; exact zput_s _ _ _
  have fr12 : ∀ r, r ≠ x → G r ≠ none → G12 r = G r := fun r r1 r2 => by rw [hG12]; exact (zput_n r1).trans (fr11 r r1 r2)
  refine zr_aload_n hX rfl d_S_init_52 ?_
  refine zr_bipush (v := 8) hX rfl d_S_init_53 ?_
  refine zr_newI (N := 8) hX q56 (by decide) rfl (by decide) (by omega) (by omega) d_S_init_55 (fun kb hn_kb => ?_)
  have n_x_kb : x ≠ kb := zfr hn_kb h12_x
  have n_k0_kb : k0 ≠ kb := zfr hn_kb h12_k0
  have n_k1_kb : k1 ≠ kb := zfr hn_kb h12_k1
  have n_k3_kb : k3 ≠ kb := zfr hn_kb h12_k3
  have n_k8_kb : k8 ≠ kb := zfr hn_kb h12_k8
  have n_k9_kb : k9 ≠ kb := zfr hn_kb h12_k9
  have n_ka_kb : ka ≠ kb := zfr hn_kb h12_ka
  have f_kb : G kb = none := zfre fr12 hn_kb (Ne.symm n_x_kb)
  obtain ⟨G13, hG13⟩ : ∃ z, z = zput G12 kb (zI 8 (fun _ => 0)) := ⟨_, rfl⟩
  rw [← hG13]
  have h13_x : G13 x = some (zO 0 [.ref k0, .ref k1, .int 0, .ref k3, .int 0, .int 0, .int 0, .int 0, .ref k8, .ref k9, .ref ka, .null, .null, .null]) := by rw [hG13]; exact (zput_n n_x_kb).trans h12_x
  have h13_k0 : G13 k0 = some (zI 4 (fun _ => 0)) := by rw [hG13]; exact (zput_n n_k0_kb).trans h12_k0
  have h13_k1 : G13 k1 = some (zR 3 24 (fun _ => none)) := by rw [hG13]; exact (zput_n n_k1_kb).trans h12_k1
  have h13_k3 : G13 k3 = some (zR 4 4 (fun _ => none)) := by rw [hG13]; exact (zput_n n_k3_kb).trans h12_k3
  have h13_k8 : G13 k8 = some (zI 6 (fun _ => 0)) := by rw [hG13]; exact (zput_n n_k8_kb).trans h12_k8
  have h13_k9 : G13 k9 = some (zI 6 (fun _ => 0)) := by rw [hG13]; exact (zput_n n_k9_kb).trans h12_k9
  have h13_ka : G13 ka = some (zI 8 (fun _ => 0)) := by rw [hG13]; exact (zput_n n_ka_kb).trans h12_ka
  have h13_kb : G13 kb = some (zI 8 (fun _ => 0)) := by rw [hG13]; exact zput_s _ _ _
  have fr13 : ∀ r, r ≠ x → G r ≠ none → G13 r = G r := fun r r1 r2 => by rw [hG13]; exact (zput_n (zrne r2 f_kb)).trans (fr12 r r1 r2)
  refine zr_putF hX k_S 11 (by decide) q114 rfl rfl rfl rfl rfl rfl (Nat.le_of_ble_eq_true rfl) h13_x d_S_init_57 ?_
  obtain ⟨G14, hG14⟩ : ∃ z, z = zput G13 x (zO 0 ([.ref k0, .ref k1, .int 0, .ref k3, .int 0, .int 0, .int 0, .int 0, .ref k8, .ref k9, .ref ka, .null, .null, .null].set 11 (.ref kb))) := ⟨_, rfl⟩
  rw [← hG14]
  have h14_k0 : G14 k0 = some (zI 4 (fun _ => 0)) := by rw [hG14]; exact (zput_n (Ne.symm n_x_k0)).trans h13_k0
  have h14_k1 : G14 k1 = some (zR 3 24 (fun _ => none)) := by rw [hG14]; exact (zput_n (Ne.symm n_x_k1)).trans h13_k1
  have h14_k3 : G14 k3 = some (zR 4 4 (fun _ => none)) := by rw [hG14]; exact (zput_n (Ne.symm n_x_k3)).trans h13_k3
  have h14_k8 : G14 k8 = some (zI 6 (fun _ => 0)) := by rw [hG14]; exact (zput_n (Ne.symm n_x_k8)).trans h13_k8
  have h14_k9 : G14 k9 = some (zI 6 (fun _ => 0)) := by rw [hG14]; exact (zput_n (Ne.symm n_x_k9)).trans h13_k9
  have h14_ka : G14 ka = some (zI 8 (fun _ => 0)) := by rw [hG14]; exact (zput_n (Ne.symm n_x_ka)).trans h13_ka
  have h14_kb : G14 kb = some (zI 8 (fun _ => 0)) := by rw [hG14]; exact (zput_n (Ne.symm n_x_kb)).trans h13_kb
  have h14_x : G14 x = some (zO 0 [.ref k0, .ref k1, .int 0, .ref k3, .int 0, .int 0, .int 0, .int 0, .ref k8, .ref k9, .ref ka, .ref kb, .null, .null]) := by rw [hG14]; exact zput_s _ _ _
  have fr14 : ∀ r, r ≠ x → G r ≠ none → G14 r = G r := fun r r1 r2 => by rw [hG14]; exact (zput_n r1).trans (fr13 r r1 r2)
  refine zr_aload_n hX rfl d_S_init_60 ?_
  refine zr_bipush (v := 24) hX rfl d_S_init_61 ?_
  refine zr_anew (N := 24) (t := 5) hX q28 q29 rfl (by decide) (by decide) rfl (by decide) (by omega) (by omega) d_S_init_63 (fun kc hn_kc => ?_)
  have n_x_kc : x ≠ kc := zfr hn_kc h14_x
  have n_k0_kc : k0 ≠ kc := zfr hn_kc h14_k0
  have n_k1_kc : k1 ≠ kc := zfr hn_kc h14_k1
  have n_k3_kc : k3 ≠ kc := zfr hn_kc h14_k3
  have n_k8_kc : k8 ≠ kc := zfr hn_kc h14_k8
  have n_k9_kc : k9 ≠ kc := zfr hn_kc h14_k9
  have n_ka_kc : ka ≠ kc := zfr hn_kc h14_ka
  have n_kb_kc : kb ≠ kc := zfr hn_kc h14_kb
  have f_kc : G kc = none := zfre fr14 hn_kc (Ne.symm n_x_kc)
  obtain ⟨G15, hG15⟩ : ∃ z, z = zput G14 kc (zR 5 24 (fun _ => none)) := ⟨_, rfl⟩
  rw [← hG15]
  have h15_x : G15 x = some (zO 0 [.ref k0, .ref k1, .int 0, .ref k3, .int 0, .int 0, .int 0, .int 0, .ref k8, .ref k9, .ref ka, .ref kb, .null, .null]) := by rw [hG15]; exact (zput_n n_x_kc).trans h14_x
  have h15_k0 : G15 k0 = some (zI 4 (fun _ => 0)) := by rw [hG15]; exact (zput_n n_k0_kc).trans h14_k0
  have h15_k1 : G15 k1 = some (zR 3 24 (fun _ => none)) := by rw [hG15]; exact (zput_n n_k1_kc).trans h14_k1
  have h15_k3 : G15 k3 = some (zR 4 4 (fun _ => none)) := by rw [hG15]; exact (zput_n n_k3_kc).trans h14_k3
  have h15_k8 : G15 k8 = some (zI 6 (fun _ => 0)) := by rw [hG15]; exact (zput_n n_k8_kc).trans h14_k8
  have h15_k9 : G15 k9 = some (zI 6 (fun _ => 0)) := by rw [hG15]; exact (zput_n n_k9_kc).trans h14_k9
  have h15_ka : G15 ka = some (zI 8 (fun _ => 0)) := by rw [hG15]; exact (zput_n n_ka_kc).trans h14_ka
  have h15_kb : G15 kb = some (zI 8 (fun _ => 0)) := by rw [hG15]; exact (zput_n n_kb_kc).trans h14_kb
  have h15_kc : G15 kc = some (zR 5 24 (fun _ => none)) := by rw [hG15]; exact zput_s _ _ _
  have fr15 : ∀ r, r ≠ x → G r ≠ none → G15 r = G r := fun r r1 r2 => by rw [hG15]; exact (zput_n (zrne r2 f_kc)).trans (fr14 r r1 r2)
  refine zr_putF hX k_S 12 (by decide) q115 rfl rfl rfl rfl rfl rfl (Nat.le_of_ble_eq_true rfl) h15_x d_S_init_66 ?_
  obtain ⟨G16, hG16⟩ : ∃ z, z = zput G15 x (zO 0 ([.ref k0, .ref k1, .int 0, .ref k3, .int 0, .int 0, .int 0, .int 0, .ref k8, .ref k9, .ref ka, .ref kb, .null, .null].set 12 (.ref kc))) := ⟨_, rfl⟩
  rw [← hG16]
  have h16_k0 : G16 k0 = some (zI 4 (fun _ => 0)) := by rw [hG16]; exact (zput_n (Ne.symm n_x_k0)).trans h15_k0
  have h16_k1 : G16 k1 = some (zR 3 24 (fun _ => none)) := by rw [hG16]; exact (zput_n (Ne.symm n_x_k1)).trans h15_k1
  have h16_k3 : G16 k3 = some (zR 4 4 (fun _ => none)) := by rw [hG16]; exact (zput_n (Ne.symm n_x_k3)).trans h15_k3
  have h16_k8 : G16 k8 = some (zI 6 (fun _ => 0)) := by rw [hG16]; exact (zput_n (Ne.symm n_x_k8)).trans h15_k8
  have h16_k9 : G16 k9 = some (zI 6 (fun _ => 0)) := by rw [hG16]; exact (zput_n (Ne.symm n_x_k9)).trans h15_k9
  have h16_ka : G16 ka = some (zI 8 (fun _ => 0)) := by rw [hG16]; exact (zput_n (Ne.symm n_x_ka)).trans h15_ka
  have h16_kb : G16 kb = some (zI 8 (fun _ => 0)) := by rw [hG16]; exact (zput_n (Ne.symm n_x_kb)).trans h15_kb
  have h16_kc : G16 kc = some (zR 5 24 (fun _ => none)) := by rw [hG16]; exact (zput_n (Ne.symm n_x_kc)).trans h15_kc
  have h16_x : G16 x = some (zO 0 [.ref k0, .ref k1, .int 0, .ref k3, .int 0, .int 0, .int 0, .int 0, .ref k8, .ref k9, .ref ka, .ref kb, .ref kc, .null]) := by rw [hG16]; exact zput_s _ _ _
  have fr16 : ∀ r, r ≠ x → G r ≠ none → G16 r = G r := fun r r1 r2 => by rw [hG16]; exact (zput_n r1).trans (fr15 r r1 r2)
  refine zr_sipush (v := 4096) hX rfl d_S_init_69 ?_
  refine zr_newJ (N := 4096) hX q57 (by decide) rfl (by decide) (by omega) (by omega) d_S_init_72 (fun nn hn_nn => ?_)
  have n_x_nn : x ≠ nn := zfr hn_nn h16_x
  have n_k0_nn : k0 ≠ nn := zfr hn_nn h16_k0
  have n_k1_nn : k1 ≠ nn := zfr hn_nn h16_k1
  have n_k3_nn : k3 ≠ nn := zfr hn_nn h16_k3
  have n_k8_nn : k8 ≠ nn := zfr hn_nn h16_k8
  have n_k9_nn : k9 ≠ nn := zfr hn_nn h16_k9
  have n_ka_nn : ka ≠ nn := zfr hn_nn h16_ka
  have n_kb_nn : kb ≠ nn := zfr hn_nn h16_kb
  have n_kc_nn : kc ≠ nn := zfr hn_nn h16_kc
  have f_nn : G nn = none := zfre fr16 hn_nn (Ne.symm n_x_nn)
  obtain ⟨G17, hG17⟩ : ∃ z, z = zput G16 nn (zJ 4096 (fun _ => 0)) := ⟨_, rfl⟩
  rw [← hG17]
  have h17_x : G17 x = some (zO 0 [.ref k0, .ref k1, .int 0, .ref k3, .int 0, .int 0, .int 0, .int 0, .ref k8, .ref k9, .ref ka, .ref kb, .ref kc, .null]) := by rw [hG17]; exact (zput_n n_x_nn).trans h16_x
  have h17_k0 : G17 k0 = some (zI 4 (fun _ => 0)) := by rw [hG17]; exact (zput_n n_k0_nn).trans h16_k0
  have h17_k1 : G17 k1 = some (zR 3 24 (fun _ => none)) := by rw [hG17]; exact (zput_n n_k1_nn).trans h16_k1
  have h17_k3 : G17 k3 = some (zR 4 4 (fun _ => none)) := by rw [hG17]; exact (zput_n n_k3_nn).trans h16_k3
  have h17_k8 : G17 k8 = some (zI 6 (fun _ => 0)) := by rw [hG17]; exact (zput_n n_k8_nn).trans h16_k8
  have h17_k9 : G17 k9 = some (zI 6 (fun _ => 0)) := by rw [hG17]; exact (zput_n n_k9_nn).trans h16_k9
  have h17_ka : G17 ka = some (zI 8 (fun _ => 0)) := by rw [hG17]; exact (zput_n n_ka_nn).trans h16_ka
  have h17_kb : G17 kb = some (zI 8 (fun _ => 0)) := by rw [hG17]; exact (zput_n n_kb_nn).trans h16_kb
  have h17_kc : G17 kc = some (zR 5 24 (fun _ => none)) := by rw [hG17]; exact (zput_n n_kc_nn).trans h16_kc
  have h17_nn : G17 nn = some (zJ 4096 (fun _ => 0)) := by rw [hG17]; exact zput_s _ _ _
  have fr17 : ∀ r, r ≠ x → G r ≠ none → G17 r = G r := fun r r1 r2 => by rw [hG17]; exact (zput_n (zrne r2 f_nn)).trans (fr16 r r1 r2)
  refine zs_astore_n hX (by decide) rfl d_S_init_74 ?_
  refine zr_aload_n hX rfl d_S_init_75 ?_
  refine zr_ldc2 hX q30 d_S_init_76 ?_
  refine zr_eS0 hX (c_A_fillJ g (d - 1) _ nn 4096 (fun _ => 0) (-9223372036854775808) (by decide) h17_nn) l_S_45 st_A_fillJ f_A_fillJ rfl (Nat.le_of_ble_eq_true rfl) (by omega) (by omega) (by omega) d_S_init_79 (fun Gf hGf => ?_)
  obtain ⟨fE, rfl, hfE⟩ := hGf
  obtain ⟨G18, hG18⟩ : ∃ z, z = zput G17 nn (zJ 4096 fE) := ⟨_, rfl⟩
  rw [← hG18]
  have h18_x : G18 x = some (zO 0 [.ref k0, .ref k1, .int 0, .ref k3, .int 0, .int 0, .int 0, .int 0, .ref k8, .ref k9, .ref ka, .ref kb, .ref kc, .null]) := by rw [hG18]; exact (zput_n n_x_nn).trans h17_x
  have h18_k0 : G18 k0 = some (zI 4 (fun _ => 0)) := by rw [hG18]; exact (zput_n n_k0_nn).trans h17_k0
  have h18_k1 : G18 k1 = some (zR 3 24 (fun _ => none)) := by rw [hG18]; exact (zput_n n_k1_nn).trans h17_k1
  have h18_k3 : G18 k3 = some (zR 4 4 (fun _ => none)) := by rw [hG18]; exact (zput_n n_k3_nn).trans h17_k3
  have h18_k8 : G18 k8 = some (zI 6 (fun _ => 0)) := by rw [hG18]; exact (zput_n n_k8_nn).trans h17_k8
  have h18_k9 : G18 k9 = some (zI 6 (fun _ => 0)) := by rw [hG18]; exact (zput_n n_k9_nn).trans h17_k9
  have h18_ka : G18 ka = some (zI 8 (fun _ => 0)) := by rw [hG18]; exact (zput_n n_ka_nn).trans h17_ka
  have h18_kb : G18 kb = some (zI 8 (fun _ => 0)) := by rw [hG18]; exact (zput_n n_kb_nn).trans h17_kb
  have h18_kc : G18 kc = some (zR 5 24 (fun _ => none)) := by rw [hG18]; exact (zput_n n_kc_nn).trans h17_kc
  have h18_nn : G18 nn = some (zJ 4096 fE) := by rw [hG18]; exact zput_s _ _ _
  have fr18 : ∀ r, r ≠ x → G r ≠ none → G18 r = G r := fun r r1 r2 => by rw [hG18]; exact (zput_n (zrne r2 f_nn)).trans (fr17 r r1 r2)
  refine zr_aload_n hX rfl d_S_init_82 ?_
  refine zr_get hX k_S 1 (by decide) q104 rfl h18_x rfl d_S_init_83 ?_
  refine zr_iconst (v := 0) hX rfl d_S_init_86 ?_
  refine zr_new (fs := [.int 0, .int 0, .int 0, .null]) hX k_C q24 q34 q3 zdef_C (by omega) (by omega) d_S_init_87 (fun qc hn_qc => ?_)
  have n_x_qc : x ≠ qc := zfr hn_qc h18_x
  have n_k0_qc : k0 ≠ qc := zfr hn_qc h18_k0
  have n_k1_qc : k1 ≠ qc := zfr hn_qc h18_k1
  have n_k3_qc : k3 ≠ qc := zfr hn_qc h18_k3
  have n_k8_qc : k8 ≠ qc := zfr hn_qc h18_k8
  have n_k9_qc : k9 ≠ qc := zfr hn_qc h18_k9
  have n_ka_qc : ka ≠ qc := zfr hn_qc h18_ka
  have n_kb_qc : kb ≠ qc := zfr hn_qc h18_kb
  have n_kc_qc : kc ≠ qc := zfr hn_qc h18_kc
  have n_nn_qc : nn ≠ qc := zfr hn_qc h18_nn
  have f_qc : G qc = none := zfre fr18 hn_qc (Ne.symm n_x_qc)
  obtain ⟨G19, hG19⟩ : ∃ z, z = zput G18 qc (zO 1 [.int 0, .int 0, .int 0, .null]) := ⟨_, rfl⟩
  rw [← hG19]
  have h19_x : G19 x = some (zO 0 [.ref k0, .ref k1, .int 0, .ref k3, .int 0, .int 0, .int 0, .int 0, .ref k8, .ref k9, .ref ka, .ref kb, .ref kc, .null]) := by rw [hG19]; exact (zput_n n_x_qc).trans h18_x
  have h19_k0 : G19 k0 = some (zI 4 (fun _ => 0)) := by rw [hG19]; exact (zput_n n_k0_qc).trans h18_k0
  have h19_k1 : G19 k1 = some (zR 3 24 (fun _ => none)) := by rw [hG19]; exact (zput_n n_k1_qc).trans h18_k1
  have h19_k3 : G19 k3 = some (zR 4 4 (fun _ => none)) := by rw [hG19]; exact (zput_n n_k3_qc).trans h18_k3
  have h19_k8 : G19 k8 = some (zI 6 (fun _ => 0)) := by rw [hG19]; exact (zput_n n_k8_qc).trans h18_k8
  have h19_k9 : G19 k9 = some (zI 6 (fun _ => 0)) := by rw [hG19]; exact (zput_n n_k9_qc).trans h18_k9
  have h19_ka : G19 ka = some (zI 8 (fun _ => 0)) := by rw [hG19]; exact (zput_n n_ka_qc).trans h18_ka
  have h19_kb : G19 kb = some (zI 8 (fun _ => 0)) := by rw [hG19]; exact (zput_n n_kb_qc).trans h18_kb
  have h19_kc : G19 kc = some (zR 5 24 (fun _ => none)) := by rw [hG19]; exact (zput_n n_kc_qc).trans h18_kc
  have h19_nn : G19 nn = some (zJ 4096 fE) := by rw [hG19]; exact (zput_n n_nn_qc).trans h18_nn
  have h19_qc : G19 qc = some (zO 1 [.int 0, .int 0, .int 0, .null]) := by rw [hG19]; exact zput_s _ _ _
  have fr19 : ∀ r, r ≠ x → G r ≠ none → G19 r = G r := fun r r1 r2 => by rw [hG19]; exact (zput_n (zrne r2 f_qc)).trans (fr18 r r1 r2)
  refine zr_dup hX rfl d_S_init_90 ?_
  refine zr_iconst (v := (-1)) hX rfl d_S_init_91 ?_
  refine zr_iconst (v := (-1)) hX rfl d_S_init_92 ?_
  refine zr_iconst (v := 1) hX rfl d_S_init_93 ?_
  refine zr_aload_n hX rfl d_S_init_94 ?_
  refine zr_uI0 hX (c_C_init g (d - 1) (by omega) _ qc nn (-1) (-1) 1 h19_qc) l_S_51 rfl im_C_init f_C_init rfl (Nat.le_of_ble_eq_true rfl) (by omega) (by omega) (by omega) d_S_init_95 ?_
  obtain ⟨G20, hG20⟩ : ∃ z, z = zput G19 qc (zO 1 [.int (-1), .int (-1), .int 1, .ref nn]) := ⟨_, rfl⟩
  rw [← hG20]
  have h20_x : G20 x = some (zO 0 [.ref k0, .ref k1, .int 0, .ref k3, .int 0, .int 0, .int 0, .int 0, .ref k8, .ref k9, .ref ka, .ref kb, .ref kc, .null]) := by rw [hG20]; exact (zput_n n_x_qc).trans h19_x
  have h20_k0 : G20 k0 = some (zI 4 (fun _ => 0)) := by rw [hG20]; exact (zput_n n_k0_qc).trans h19_k0
  have h20_k1 : G20 k1 = some (zR 3 24 (fun _ => none)) := by rw [hG20]; exact (zput_n n_k1_qc).trans h19_k1
  have h20_k3 : G20 k3 = some (zR 4 4 (fun _ => none)) := by rw [hG20]; exact (zput_n n_k3_qc).trans h19_k3
  have h20_k8 : G20 k8 = some (zI 6 (fun _ => 0)) := by rw [hG20]; exact (zput_n n_k8_qc).trans h19_k8
  have h20_k9 : G20 k9 = some (zI 6 (fun _ => 0)) := by rw [hG20]; exact (zput_n n_k9_qc).trans h19_k9
  have h20_ka : G20 ka = some (zI 8 (fun _ => 0)) := by rw [hG20]; exact (zput_n n_ka_qc).trans h19_ka
  have h20_kb : G20 kb = some (zI 8 (fun _ => 0)) := by rw [hG20]; exact (zput_n n_kb_qc).trans h19_kb
  have h20_kc : G20 kc = some (zR 5 24 (fun _ => none)) := by rw [hG20]; exact (zput_n n_kc_qc).trans h19_kc
  have h20_nn : G20 nn = some (zJ 4096 fE) := by rw [hG20]; exact (zput_n n_nn_qc).trans h19_nn
  have h20_qc : G20 qc = some (zO 1 [.int (-1), .int (-1), .int 1, .ref nn]) := by rw [hG20]; exact zput_s _ _ _
  have fr20 : ∀ r, r ≠ x → G r ≠ none → G20 r = G r := fun r r1 r2 => by rw [hG20]; exact (zput_n (zrne r2 f_qc)).trans (fr19 r r1 r2)
  refine zr_aast hX k_C.1 rfl h20_k1 h20_qc (zixN (a := 0) rfl (by decide) (by decide)) d_S_init_98 ?_
  obtain ⟨G21, hG21⟩ : ∃ z, z = zput G20 k1 (zR 3 24 (va_up (fun _ => none) (0 : Int32).toNatClampNeg (some qc))) := ⟨_, rfl⟩
  rw [← hG21]
  have h21_x : G21 x = some (zO 0 [.ref k0, .ref k1, .int 0, .ref k3, .int 0, .int 0, .int 0, .int 0, .ref k8, .ref k9, .ref ka, .ref kb, .ref kc, .null]) := by rw [hG21]; exact (zput_n n_x_k1).trans h20_x
  have h21_k0 : G21 k0 = some (zI 4 (fun _ => 0)) := by rw [hG21]; exact (zput_n n_k0_k1).trans h20_k0
  have h21_k3 : G21 k3 = some (zR 4 4 (fun _ => none)) := by rw [hG21]; exact (zput_n (Ne.symm n_k1_k3)).trans h20_k3
  have h21_k8 : G21 k8 = some (zI 6 (fun _ => 0)) := by rw [hG21]; exact (zput_n (Ne.symm n_k1_k8)).trans h20_k8
  have h21_k9 : G21 k9 = some (zI 6 (fun _ => 0)) := by rw [hG21]; exact (zput_n (Ne.symm n_k1_k9)).trans h20_k9
  have h21_ka : G21 ka = some (zI 8 (fun _ => 0)) := by rw [hG21]; exact (zput_n (Ne.symm n_k1_ka)).trans h20_ka
  have h21_kb : G21 kb = some (zI 8 (fun _ => 0)) := by rw [hG21]; exact (zput_n (Ne.symm n_k1_kb)).trans h20_kb
  have h21_kc : G21 kc = some (zR 5 24 (fun _ => none)) := by rw [hG21]; exact (zput_n (Ne.symm n_k1_kc)).trans h20_kc
  have h21_nn : G21 nn = some (zJ 4096 fE) := by rw [hG21]; exact (zput_n (Ne.symm n_k1_nn)).trans h20_nn
  have h21_qc : G21 qc = some (zO 1 [.int (-1), .int (-1), .int 1, .ref nn]) := by rw [hG21]; exact (zput_n (Ne.symm n_k1_qc)).trans h20_qc
  have h21_k1 : G21 k1 = some (zR 3 24 (va_up (fun _ => none) 0 (some qc))) := by rw [hG21]; exact zput_s _ _ _
  have fr21 : ∀ r, r ≠ x → G r ≠ none → G21 r = G r := fun r r1 r2 => by rw [hG21]; exact (zput_n (zrne r2 f_k1)).trans (fr20 r r1 r2)
  refine zr_aload_n hX rfl d_S_init_99 ?_
  refine zr_iconst (v := 1) hX rfl d_S_init_100 ?_
  refine zr_put hX k_S 2 (by decide) q105 rfl rfl rfl rfl (Nat.le_of_ble_eq_true rfl) h21_x d_S_init_101 ?_
  obtain ⟨G22, hG22⟩ : ∃ z, z = zput G21 x (zO 0 ([.ref k0, .ref k1, .int 0, .ref k3, .int 0, .int 0, .int 0, .int 0, .ref k8, .ref k9, .ref ka, .ref kb, .ref kc, .null].set 2 (.int 1))) := ⟨_, rfl⟩
  rw [← hG22]
  have h22_k0 : G22 k0 = some (zI 4 (fun _ => 0)) := by rw [hG22]; exact (zput_n (Ne.symm n_x_k0)).trans h21_k0
  have h22_k1 : G22 k1 = some (zR 3 24 (va_up (fun _ => none) 0 (some qc))) := by rw [hG22]; exact (zput_n (Ne.symm n_x_k1)).trans h21_k1
  have h22_k3 : G22 k3 = some (zR 4 4 (fun _ => none)) := by rw [hG22]; exact (zput_n (Ne.symm n_x_k3)).trans h21_k3
  have h22_k8 : G22 k8 = some (zI 6 (fun _ => 0)) := by rw [hG22]; exact (zput_n (Ne.symm n_x_k8)).trans h21_k8
  have h22_k9 : G22 k9 = some (zI 6 (fun _ => 0)) := by rw [hG22]; exact (zput_n (Ne.symm n_x_k9)).trans h21_k9
  have h22_ka : G22 ka = some (zI 8 (fun _ => 0)) := by rw [hG22]; exact (zput_n (Ne.symm n_x_ka)).trans h21_ka
  have h22_kb : G22 kb = some (zI 8 (fun _ => 0)) := by rw [hG22]; exact (zput_n (Ne.symm n_x_kb)).trans h21_kb
  have h22_kc : G22 kc = some (zR 5 24 (fun _ => none)) := by rw [hG22]; exact (zput_n (Ne.symm n_x_kc)).trans h21_kc
  have h22_nn : G22 nn = some (zJ 4096 fE) := by rw [hG22]; exact (zput_n (Ne.symm n_x_nn)).trans h21_nn
  have h22_qc : G22 qc = some (zO 1 [.int (-1), .int (-1), .int 1, .ref nn]) := by rw [hG22]; exact (zput_n (Ne.symm n_x_qc)).trans h21_qc
  have h22_x : G22 x = some (zO 0 [.ref k0, .ref k1, .int 1, .ref k3, .int 0, .int 0, .int 0, .int 0, .ref k8, .ref k9, .ref ka, .ref kb, .ref kc, .null]) := by rw [hG22]; exact zput_s _ _ _
  have fr22 : ∀ r, r ≠ x → G r ≠ none → G22 r = G r := fun r r1 r2 => by rw [hG22]; exact (zput_n r1).trans (fr21 r r1 r2)
  refine zr_aload_n hX rfl d_S_init_104 ?_
  refine zr_get hX k_S 3 (by decide) q106 rfl h22_x rfl d_S_init_105 ?_
  refine zr_iconst (v := 0) hX rfl d_S_init_108 ?_
  refine zr_new (fs := [.null, .int 0, .int 0, .int 0, .null]) hX k_B q26 q58 q4 zdef_B (by omega) (by omega) d_S_init_109 (fun qb hn_qb => ?_)
  have n_x_qb : x ≠ qb := zfr hn_qb h22_x
  have n_k0_qb : k0 ≠ qb := zfr hn_qb h22_k0
  have n_k1_qb : k1 ≠ qb := zfr hn_qb h22_k1
  have n_k3_qb : k3 ≠ qb := zfr hn_qb h22_k3
  have n_k8_qb : k8 ≠ qb := zfr hn_qb h22_k8
  have n_k9_qb : k9 ≠ qb := zfr hn_qb h22_k9
  have n_ka_qb : ka ≠ qb := zfr hn_qb h22_ka
  have n_kb_qb : kb ≠ qb := zfr hn_qb h22_kb
  have n_kc_qb : kc ≠ qb := zfr hn_qb h22_kc
  have n_nn_qb : nn ≠ qb := zfr hn_qb h22_nn
  have n_qc_qb : qc ≠ qb := zfr hn_qb h22_qc
  have f_qb : G qb = none := zfre fr22 hn_qb (Ne.symm n_x_qb)
  obtain ⟨G23, hG23⟩ : ∃ z, z = zput G22 qb (zO 2 [.null, .int 0, .int 0, .int 0, .null]) := ⟨_, rfl⟩
  rw [← hG23]
  have h23_x : G23 x = some (zO 0 [.ref k0, .ref k1, .int 1, .ref k3, .int 0, .int 0, .int 0, .int 0, .ref k8, .ref k9, .ref ka, .ref kb, .ref kc, .null]) := by rw [hG23]; exact (zput_n n_x_qb).trans h22_x
  have h23_k0 : G23 k0 = some (zI 4 (fun _ => 0)) := by rw [hG23]; exact (zput_n n_k0_qb).trans h22_k0
  have h23_k1 : G23 k1 = some (zR 3 24 (va_up (fun _ => none) 0 (some qc))) := by rw [hG23]; exact (zput_n n_k1_qb).trans h22_k1
  have h23_k3 : G23 k3 = some (zR 4 4 (fun _ => none)) := by rw [hG23]; exact (zput_n n_k3_qb).trans h22_k3
  have h23_k8 : G23 k8 = some (zI 6 (fun _ => 0)) := by rw [hG23]; exact (zput_n n_k8_qb).trans h22_k8
  have h23_k9 : G23 k9 = some (zI 6 (fun _ => 0)) := by rw [hG23]; exact (zput_n n_k9_qb).trans h22_k9
  have h23_ka : G23 ka = some (zI 8 (fun _ => 0)) := by rw [hG23]; exact (zput_n n_ka_qb).trans h22_ka
  have h23_kb : G23 kb = some (zI 8 (fun _ => 0)) := by rw [hG23]; exact (zput_n n_kb_qb).trans h22_kb
  have h23_kc : G23 kc = some (zR 5 24 (fun _ => none)) := by rw [hG23]; exact (zput_n n_kc_qb).trans h22_kc
  have h23_nn : G23 nn = some (zJ 4096 fE) := by rw [hG23]; exact (zput_n n_nn_qb).trans h22_nn
  have h23_qc : G23 qc = some (zO 1 [.int (-1), .int (-1), .int 1, .ref nn]) := by rw [hG23]; exact (zput_n n_qc_qb).trans h22_qc
  have h23_qb : G23 qb = some (zO 2 [.null, .int 0, .int 0, .int 0, .null]) := by rw [hG23]; exact zput_s _ _ _
  have fr23 : ∀ r, r ≠ x → G r ≠ none → G23 r = G r := fun r r1 r2 => by rw [hG23]; exact (zput_n (zrne r2 f_qb)).trans (fr22 r r1 r2)
  refine zr_dup hX rfl d_S_init_112 ?_
  refine zr_eI0 hX (c_B_init g (d - 1) (by omega) _ qb h23_qb) l_S_58 rfl im_B_init f_B_init rfl (Nat.le_of_ble_eq_true rfl) (by omega) (by omega) (by omega) d_S_init_113 (fun Gb hGb => ?_)
  obtain ⟨bc, hn_bc, rfl⟩ := hGb
  have n_x_bc : x ≠ bc := zfr hn_bc h23_x
  have n_k0_bc : k0 ≠ bc := zfr hn_bc h23_k0
  have n_k1_bc : k1 ≠ bc := zfr hn_bc h23_k1
  have n_k3_bc : k3 ≠ bc := zfr hn_bc h23_k3
  have n_k8_bc : k8 ≠ bc := zfr hn_bc h23_k8
  have n_k9_bc : k9 ≠ bc := zfr hn_bc h23_k9
  have n_ka_bc : ka ≠ bc := zfr hn_bc h23_ka
  have n_kb_bc : kb ≠ bc := zfr hn_bc h23_kb
  have n_kc_bc : kc ≠ bc := zfr hn_bc h23_kc
  have n_nn_bc : nn ≠ bc := zfr hn_bc h23_nn
  have n_qc_bc : qc ≠ bc := zfr hn_bc h23_qc
  have n_qb_bc : qb ≠ bc := zfr hn_bc h23_qb
  have f_bc : G bc = none := zfre fr23 hn_bc (Ne.symm n_x_bc)
  obtain ⟨G24, hG24⟩ : ∃ z, z = zput G23 bc (zJ 4096 (fun _ => 0)) := ⟨_, rfl⟩
  rw [← hG24]
  have h24_x : G24 x = some (zO 0 [.ref k0, .ref k1, .int 1, .ref k3, .int 0, .int 0, .int 0, .int 0, .ref k8, .ref k9, .ref ka, .ref kb, .ref kc, .null]) := by rw [hG24]; exact (zput_n n_x_bc).trans h23_x
  have h24_k0 : G24 k0 = some (zI 4 (fun _ => 0)) := by rw [hG24]; exact (zput_n n_k0_bc).trans h23_k0
  have h24_k1 : G24 k1 = some (zR 3 24 (va_up (fun _ => none) 0 (some qc))) := by rw [hG24]; exact (zput_n n_k1_bc).trans h23_k1
  have h24_k3 : G24 k3 = some (zR 4 4 (fun _ => none)) := by rw [hG24]; exact (zput_n n_k3_bc).trans h23_k3
  have h24_k8 : G24 k8 = some (zI 6 (fun _ => 0)) := by rw [hG24]; exact (zput_n n_k8_bc).trans h23_k8
  have h24_k9 : G24 k9 = some (zI 6 (fun _ => 0)) := by rw [hG24]; exact (zput_n n_k9_bc).trans h23_k9
  have h24_ka : G24 ka = some (zI 8 (fun _ => 0)) := by rw [hG24]; exact (zput_n n_ka_bc).trans h23_ka
  have h24_kb : G24 kb = some (zI 8 (fun _ => 0)) := by rw [hG24]; exact (zput_n n_kb_bc).trans h23_kb
  have h24_kc : G24 kc = some (zR 5 24 (fun _ => none)) := by rw [hG24]; exact (zput_n n_kc_bc).trans h23_kc
  have h24_nn : G24 nn = some (zJ 4096 fE) := by rw [hG24]; exact (zput_n n_nn_bc).trans h23_nn
  have h24_qc : G24 qc = some (zO 1 [.int (-1), .int (-1), .int 1, .ref nn]) := by rw [hG24]; exact (zput_n n_qc_bc).trans h23_qc
  have h24_qb : G24 qb = some (zO 2 [.null, .int 0, .int 0, .int 0, .null]) := by rw [hG24]; exact (zput_n n_qb_bc).trans h23_qb
  have h24_bc : G24 bc = some (zJ 4096 (fun _ => 0)) := by rw [hG24]; exact zput_s _ _ _
  have fr24 : ∀ r, r ≠ x → G r ≠ none → G24 r = G r := fun r r1 r2 => by rw [hG24]; exact (zput_n (zrne r2 f_bc)).trans (fr23 r r1 r2)
  obtain ⟨G25, hG25⟩ : ∃ z, z = zput G24 qb (zO 2 [.ref bc, .int 0, .int 0, .int 0, .null]) := ⟨_, rfl⟩
  rw [← hG25]
  have h25_x : G25 x = some (zO 0 [.ref k0, .ref k1, .int 1, .ref k3, .int 0, .int 0, .int 0, .int 0, .ref k8, .ref k9, .ref ka, .ref kb, .ref kc, .null]) := by rw [hG25]; exact (zput_n n_x_qb).trans h24_x
  have h25_k0 : G25 k0 = some (zI 4 (fun _ => 0)) := by rw [hG25]; exact (zput_n n_k0_qb).trans h24_k0
  have h25_k1 : G25 k1 = some (zR 3 24 (va_up (fun _ => none) 0 (some qc))) := by rw [hG25]; exact (zput_n n_k1_qb).trans h24_k1
  have h25_k3 : G25 k3 = some (zR 4 4 (fun _ => none)) := by rw [hG25]; exact (zput_n n_k3_qb).trans h24_k3
  have h25_k8 : G25 k8 = some (zI 6 (fun _ => 0)) := by rw [hG25]; exact (zput_n n_k8_qb).trans h24_k8
  have h25_k9 : G25 k9 = some (zI 6 (fun _ => 0)) := by rw [hG25]; exact (zput_n n_k9_qb).trans h24_k9
  have h25_ka : G25 ka = some (zI 8 (fun _ => 0)) := by rw [hG25]; exact (zput_n n_ka_qb).trans h24_ka
  have h25_kb : G25 kb = some (zI 8 (fun _ => 0)) := by rw [hG25]; exact (zput_n n_kb_qb).trans h24_kb
  have h25_kc : G25 kc = some (zR 5 24 (fun _ => none)) := by rw [hG25]; exact (zput_n n_kc_qb).trans h24_kc
  have h25_nn : G25 nn = some (zJ 4096 fE) := by rw [hG25]; exact (zput_n n_nn_qb).trans h24_nn
  have h25_qc : G25 qc = some (zO 1 [.int (-1), .int (-1), .int 1, .ref nn]) := by rw [hG25]; exact (zput_n n_qc_qb).trans h24_qc
  have h25_bc : G25 bc = some (zJ 4096 (fun _ => 0)) := by rw [hG25]; exact (zput_n (Ne.symm n_qb_bc)).trans h24_bc
  have h25_qb : G25 qb = some (zO 2 [.ref bc, .int 0, .int 0, .int 0, .null]) := by rw [hG25]; exact zput_s _ _ _
  have fr25 : ∀ r, r ≠ x → G r ≠ none → G25 r = G r := fun r r1 r2 => by rw [hG25]; exact (zput_n (zrne r2 f_qb)).trans (fr24 r r1 r2)
  refine zr_aast hX k_B.1 rfl h25_k3 h25_qb (zixN (a := 0) rfl (by decide) (by decide)) d_S_init_116 ?_
  obtain ⟨G26, hG26⟩ : ∃ z, z = zput G25 k3 (zR 4 4 (va_up (fun _ => none) (0 : Int32).toNatClampNeg (some qb))) := ⟨_, rfl⟩
  rw [← hG26]
  have h26_x : G26 x = some (zO 0 [.ref k0, .ref k1, .int 1, .ref k3, .int 0, .int 0, .int 0, .int 0, .ref k8, .ref k9, .ref ka, .ref kb, .ref kc, .null]) := by rw [hG26]; exact (zput_n n_x_k3).trans h25_x
  have h26_k0 : G26 k0 = some (zI 4 (fun _ => 0)) := by rw [hG26]; exact (zput_n n_k0_k3).trans h25_k0
  have h26_k1 : G26 k1 = some (zR 3 24 (va_up (fun _ => none) 0 (some qc))) := by rw [hG26]; exact (zput_n n_k1_k3).trans h25_k1
  have h26_k8 : G26 k8 = some (zI 6 (fun _ => 0)) := by rw [hG26]; exact (zput_n (Ne.symm n_k3_k8)).trans h25_k8
  have h26_k9 : G26 k9 = some (zI 6 (fun _ => 0)) := by rw [hG26]; exact (zput_n (Ne.symm n_k3_k9)).trans h25_k9
  have h26_ka : G26 ka = some (zI 8 (fun _ => 0)) := by rw [hG26]; exact (zput_n (Ne.symm n_k3_ka)).trans h25_ka
  have h26_kb : G26 kb = some (zI 8 (fun _ => 0)) := by rw [hG26]; exact (zput_n (Ne.symm n_k3_kb)).trans h25_kb
  have h26_kc : G26 kc = some (zR 5 24 (fun _ => none)) := by rw [hG26]; exact (zput_n (Ne.symm n_k3_kc)).trans h25_kc
  have h26_nn : G26 nn = some (zJ 4096 fE) := by rw [hG26]; exact (zput_n (Ne.symm n_k3_nn)).trans h25_nn
  have h26_qc : G26 qc = some (zO 1 [.int (-1), .int (-1), .int 1, .ref nn]) := by rw [hG26]; exact (zput_n (Ne.symm n_k3_qc)).trans h25_qc
  have h26_qb : G26 qb = some (zO 2 [.ref bc, .int 0, .int 0, .int 0, .null]) := by rw [hG26]; exact (zput_n (Ne.symm n_k3_qb)).trans h25_qb
  have h26_bc : G26 bc = some (zJ 4096 (fun _ => 0)) := by rw [hG26]; exact (zput_n (Ne.symm n_k3_bc)).trans h25_bc
  have h26_k3 : G26 k3 = some (zR 4 4 (va_up (fun _ => none) 0 (some qb))) := by rw [hG26]; exact zput_s _ _ _
  have fr26 : ∀ r, r ≠ x → G r ≠ none → G26 r = G r := fun r r1 r2 => by rw [hG26]; exact (zput_n (zrne r2 f_k3)).trans (fr25 r r1 r2)
  refine zr_aload_n hX rfl d_S_init_117 ?_
  refine zr_get hX k_S 3 (by decide) q106 rfl h26_x rfl d_S_init_118 ?_
  refine zr_iconst (v := 0) hX rfl d_S_init_121 ?_
  refine zr_aaldN hX rfl h26_k3 0 rfl (by decide) (by decide) d_S_init_122 ?_
  rw [va_up_self]
  refine zr_iconst (v := 0) hX rfl d_S_init_123 ?_
  refine zr_aload_n hX rfl d_S_init_124 ?_
  refine zr_uV0 hX (c_B_startAt_n g (d - 1) (by omega) _ qb bc nn 0 0 0 0 (fun _ => 0) fE h26_qb h26_bc h26_nn) l_S_59 im_B_startAt se_B_startAt f_B_startAt k_B.1 h26_qb rfl (Nat.le_of_ble_eq_true rfl) (by omega) (by omega) (by omega) d_S_init_125 ?_
  obtain ⟨G27, hG27⟩ : ∃ z, z = zput G26 bc (zJ 4096 (va_cpy fE (fun _ => 0) 0 0 4096)) := ⟨_, rfl⟩
  rw [← hG27]
  have h27_x : G27 x = some (zO 0 [.ref k0, .ref k1, .int 1, .ref k3, .int 0, .int 0, .int 0, .int 0, .ref k8, .ref k9, .ref ka, .ref kb, .ref kc, .null]) := by rw [hG27]; exact (zput_n n_x_bc).trans h26_x
  have h27_k0 : G27 k0 = some (zI 4 (fun _ => 0)) := by rw [hG27]; exact (zput_n n_k0_bc).trans h26_k0
  have h27_k1 : G27 k1 = some (zR 3 24 (va_up (fun _ => none) 0 (some qc))) := by rw [hG27]; exact (zput_n n_k1_bc).trans h26_k1
  have h27_k3 : G27 k3 = some (zR 4 4 (va_up (fun _ => none) 0 (some qb))) := by rw [hG27]; exact (zput_n n_k3_bc).trans h26_k3
  have h27_k8 : G27 k8 = some (zI 6 (fun _ => 0)) := by rw [hG27]; exact (zput_n n_k8_bc).trans h26_k8
  have h27_k9 : G27 k9 = some (zI 6 (fun _ => 0)) := by rw [hG27]; exact (zput_n n_k9_bc).trans h26_k9
  have h27_ka : G27 ka = some (zI 8 (fun _ => 0)) := by rw [hG27]; exact (zput_n n_ka_bc).trans h26_ka
  have h27_kb : G27 kb = some (zI 8 (fun _ => 0)) := by rw [hG27]; exact (zput_n n_kb_bc).trans h26_kb
  have h27_kc : G27 kc = some (zR 5 24 (fun _ => none)) := by rw [hG27]; exact (zput_n n_kc_bc).trans h26_kc
  have h27_nn : G27 nn = some (zJ 4096 fE) := by rw [hG27]; exact (zput_n n_nn_bc).trans h26_nn
  have h27_qc : G27 qc = some (zO 1 [.int (-1), .int (-1), .int 1, .ref nn]) := by rw [hG27]; exact (zput_n n_qc_bc).trans h26_qc
  have h27_qb : G27 qb = some (zO 2 [.ref bc, .int 0, .int 0, .int 0, .null]) := by rw [hG27]; exact (zput_n n_qb_bc).trans h26_qb
  have h27_bc : G27 bc = some (zJ 4096 (va_cpy fE (fun _ => 0) 0 0 4096)) := by rw [hG27]; exact zput_s _ _ _
  have fr27 : ∀ r, r ≠ x → G r ≠ none → G27 r = G r := fun r r1 r2 => by rw [hG27]; exact (zput_n (zrne r2 f_bc)).trans (fr26 r r1 r2)
  obtain ⟨G28, hG28⟩ : ∃ z, z = zput G27 qb (zO 2 [.ref bc, .int 1, .int 0, .int (-1), .null]) := ⟨_, rfl⟩
  rw [← hG28]
  have h28_x : G28 x = some (zO 0 [.ref k0, .ref k1, .int 1, .ref k3, .int 0, .int 0, .int 0, .int 0, .ref k8, .ref k9, .ref ka, .ref kb, .ref kc, .null]) := by rw [hG28]; exact (zput_n n_x_qb).trans h27_x
  have h28_k0 : G28 k0 = some (zI 4 (fun _ => 0)) := by rw [hG28]; exact (zput_n n_k0_qb).trans h27_k0
  have h28_k1 : G28 k1 = some (zR 3 24 (va_up (fun _ => none) 0 (some qc))) := by rw [hG28]; exact (zput_n n_k1_qb).trans h27_k1
  have h28_k3 : G28 k3 = some (zR 4 4 (va_up (fun _ => none) 0 (some qb))) := by rw [hG28]; exact (zput_n n_k3_qb).trans h27_k3
  have h28_k8 : G28 k8 = some (zI 6 (fun _ => 0)) := by rw [hG28]; exact (zput_n n_k8_qb).trans h27_k8
  have h28_k9 : G28 k9 = some (zI 6 (fun _ => 0)) := by rw [hG28]; exact (zput_n n_k9_qb).trans h27_k9
  have h28_ka : G28 ka = some (zI 8 (fun _ => 0)) := by rw [hG28]; exact (zput_n n_ka_qb).trans h27_ka
  have h28_kb : G28 kb = some (zI 8 (fun _ => 0)) := by rw [hG28]; exact (zput_n n_kb_qb).trans h27_kb
  have h28_kc : G28 kc = some (zR 5 24 (fun _ => none)) := by rw [hG28]; exact (zput_n n_kc_qb).trans h27_kc
  have h28_nn : G28 nn = some (zJ 4096 fE) := by rw [hG28]; exact (zput_n n_nn_qb).trans h27_nn
  have h28_qc : G28 qc = some (zO 1 [.int (-1), .int (-1), .int 1, .ref nn]) := by rw [hG28]; exact (zput_n n_qc_qb).trans h27_qc
  have h28_bc : G28 bc = some (zJ 4096 (va_cpy fE (fun _ => 0) 0 0 4096)) := by rw [hG28]; exact (zput_n (Ne.symm n_qb_bc)).trans h27_bc
  have h28_qb : G28 qb = some (zO 2 [.ref bc, .int 1, .int 0, .int (-1), .null]) := by rw [hG28]; exact zput_s _ _ _
  have fr28 : ∀ r, r ≠ x → G r ≠ none → G28 r = G r := fun r r1 r2 => by rw [hG28]; exact (zput_n (zrne r2 f_qb)).trans (fr27 r r1 r2)
  refine zr_aload_n hX rfl d_S_init_128 ?_
  refine zr_bipush (v := 32) hX rfl d_S_init_129 ?_
  refine zr_put hX k_S 6 (by decide) q109 rfl rfl rfl rfl (Nat.le_of_ble_eq_true rfl) h28_x d_S_init_131 ?_
  obtain ⟨G29, hG29⟩ : ∃ z, z = zput G28 x (zO 0 ([.ref k0, .ref k1, .int 1, .ref k3, .int 0, .int 0, .int 0, .int 0, .ref k8, .ref k9, .ref ka, .ref kb, .ref kc, .null].set 6 (.int 32))) := ⟨_, rfl⟩
  rw [← hG29]
  have h29_k0 : G29 k0 = some (zI 4 (fun _ => 0)) := by rw [hG29]; exact (zput_n (Ne.symm n_x_k0)).trans h28_k0
  have h29_k1 : G29 k1 = some (zR 3 24 (va_up (fun _ => none) 0 (some qc))) := by rw [hG29]; exact (zput_n (Ne.symm n_x_k1)).trans h28_k1
  have h29_k3 : G29 k3 = some (zR 4 4 (va_up (fun _ => none) 0 (some qb))) := by rw [hG29]; exact (zput_n (Ne.symm n_x_k3)).trans h28_k3
  have h29_k8 : G29 k8 = some (zI 6 (fun _ => 0)) := by rw [hG29]; exact (zput_n (Ne.symm n_x_k8)).trans h28_k8
  have h29_k9 : G29 k9 = some (zI 6 (fun _ => 0)) := by rw [hG29]; exact (zput_n (Ne.symm n_x_k9)).trans h28_k9
  have h29_ka : G29 ka = some (zI 8 (fun _ => 0)) := by rw [hG29]; exact (zput_n (Ne.symm n_x_ka)).trans h28_ka
  have h29_kb : G29 kb = some (zI 8 (fun _ => 0)) := by rw [hG29]; exact (zput_n (Ne.symm n_x_kb)).trans h28_kb
  have h29_kc : G29 kc = some (zR 5 24 (fun _ => none)) := by rw [hG29]; exact (zput_n (Ne.symm n_x_kc)).trans h28_kc
  have h29_nn : G29 nn = some (zJ 4096 fE) := by rw [hG29]; exact (zput_n (Ne.symm n_x_nn)).trans h28_nn
  have h29_qc : G29 qc = some (zO 1 [.int (-1), .int (-1), .int 1, .ref nn]) := by rw [hG29]; exact (zput_n (Ne.symm n_x_qc)).trans h28_qc
  have h29_qb : G29 qb = some (zO 2 [.ref bc, .int 1, .int 0, .int (-1), .null]) := by rw [hG29]; exact (zput_n (Ne.symm n_x_qb)).trans h28_qb
  have h29_bc : G29 bc = some (zJ 4096 (va_cpy fE (fun _ => 0) 0 0 4096)) := by rw [hG29]; exact (zput_n (Ne.symm n_x_bc)).trans h28_bc
  have h29_x : G29 x = some (zO 0 [.ref k0, .ref k1, .int 1, .ref k3, .int 0, .int 0, .int 32, .int 0, .ref k8, .ref k9, .ref ka, .ref kb, .ref kc, .null]) := by rw [hG29]; exact zput_s _ _ _
  have fr29 : ∀ r, r ≠ x → G r ≠ none → G29 r = G r := fun r r1 r2 => by rw [hG29]; exact (zput_n r1).trans (fr28 r r1 r2)
  refine zr_aload_n hX rfl d_S_init_134 ?_
  refine zr_bipush (v := 32) hX rfl d_S_init_135 ?_
  refine zr_put hX k_S 7 (by decide) q110 rfl rfl rfl rfl (Nat.le_of_ble_eq_true rfl) h29_x d_S_init_137 ?_
  obtain ⟨G30, hG30⟩ : ∃ z, z = zput G29 x (zO 0 ([.ref k0, .ref k1, .int 1, .ref k3, .int 0, .int 0, .int 32, .int 0, .ref k8, .ref k9, .ref ka, .ref kb, .ref kc, .null].set 7 (.int 32))) := ⟨_, rfl⟩
  rw [← hG30]
  have h30_k0 : G30 k0 = some (zI 4 (fun _ => 0)) := by rw [hG30]; exact (zput_n (Ne.symm n_x_k0)).trans h29_k0
  have h30_k1 : G30 k1 = some (zR 3 24 (va_up (fun _ => none) 0 (some qc))) := by rw [hG30]; exact (zput_n (Ne.symm n_x_k1)).trans h29_k1
  have h30_k3 : G30 k3 = some (zR 4 4 (va_up (fun _ => none) 0 (some qb))) := by rw [hG30]; exact (zput_n (Ne.symm n_x_k3)).trans h29_k3
  have h30_k8 : G30 k8 = some (zI 6 (fun _ => 0)) := by rw [hG30]; exact (zput_n (Ne.symm n_x_k8)).trans h29_k8
  have h30_k9 : G30 k9 = some (zI 6 (fun _ => 0)) := by rw [hG30]; exact (zput_n (Ne.symm n_x_k9)).trans h29_k9
  have h30_ka : G30 ka = some (zI 8 (fun _ => 0)) := by rw [hG30]; exact (zput_n (Ne.symm n_x_ka)).trans h29_ka
  have h30_kb : G30 kb = some (zI 8 (fun _ => 0)) := by rw [hG30]; exact (zput_n (Ne.symm n_x_kb)).trans h29_kb
  have h30_kc : G30 kc = some (zR 5 24 (fun _ => none)) := by rw [hG30]; exact (zput_n (Ne.symm n_x_kc)).trans h29_kc
  have h30_nn : G30 nn = some (zJ 4096 fE) := by rw [hG30]; exact (zput_n (Ne.symm n_x_nn)).trans h29_nn
  have h30_qc : G30 qc = some (zO 1 [.int (-1), .int (-1), .int 1, .ref nn]) := by rw [hG30]; exact (zput_n (Ne.symm n_x_qc)).trans h29_qc
  have h30_qb : G30 qb = some (zO 2 [.ref bc, .int 1, .int 0, .int (-1), .null]) := by rw [hG30]; exact (zput_n (Ne.symm n_x_qb)).trans h29_qb
  have h30_bc : G30 bc = some (zJ 4096 (va_cpy fE (fun _ => 0) 0 0 4096)) := by rw [hG30]; exact (zput_n (Ne.symm n_x_bc)).trans h29_bc
  have h30_x : G30 x = some (zO 0 [.ref k0, .ref k1, .int 1, .ref k3, .int 0, .int 0, .int 32, .int 32, .ref k8, .ref k9, .ref ka, .ref kb, .ref kc, .null]) := by rw [hG30]; exact zput_s _ _ _
  have fr30 : ∀ r, r ≠ x → G r ≠ none → G30 r = G r := fun r r1 r2 => by rw [hG30]; exact (zput_n r1).trans (fr29 r r1 r2)
  refine zr_aload_n hX rfl d_S_init_140 ?_
  refine zr_get hX k_S 10 (by decide) q113 rfl h30_x rfl d_S_init_141 ?_
  refine zr_ldc hX q99 d_S_init_144 ?_
  refine zr_eS0 hX (c_A_fillI g (d - 1) _ ka 8 (fun _ => 0) (-2147483648) (by decide) h30_ka) l_S_70 st_A_fillI f_A_fillI rfl (Nat.le_of_ble_eq_true rfl) (by omega) (by omega) (by omega) d_S_init_146 (fun Gf hGf => ?_)
  obtain ⟨n1, rfl, h_n1⟩ := hGf
  obtain ⟨G31, hG31⟩ : ∃ z, z = zput G30 ka (zI 8 n1) := ⟨_, rfl⟩
  rw [← hG31]
  have h31_x : G31 x = some (zO 0 [.ref k0, .ref k1, .int 1, .ref k3, .int 0, .int 0, .int 32, .int 32, .ref k8, .ref k9, .ref ka, .ref kb, .ref kc, .null]) := by rw [hG31]; exact (zput_n n_x_ka).trans h30_x
  have h31_k0 : G31 k0 = some (zI 4 (fun _ => 0)) := by rw [hG31]; exact (zput_n n_k0_ka).trans h30_k0
  have h31_k1 : G31 k1 = some (zR 3 24 (va_up (fun _ => none) 0 (some qc))) := by rw [hG31]; exact (zput_n n_k1_ka).trans h30_k1
  have h31_k3 : G31 k3 = some (zR 4 4 (va_up (fun _ => none) 0 (some qb))) := by rw [hG31]; exact (zput_n n_k3_ka).trans h30_k3
  have h31_k8 : G31 k8 = some (zI 6 (fun _ => 0)) := by rw [hG31]; exact (zput_n n_k8_ka).trans h30_k8
  have h31_k9 : G31 k9 = some (zI 6 (fun _ => 0)) := by rw [hG31]; exact (zput_n n_k9_ka).trans h30_k9
  have h31_kb : G31 kb = some (zI 8 (fun _ => 0)) := by rw [hG31]; exact (zput_n (Ne.symm n_ka_kb)).trans h30_kb
  have h31_kc : G31 kc = some (zR 5 24 (fun _ => none)) := by rw [hG31]; exact (zput_n (Ne.symm n_ka_kc)).trans h30_kc
  have h31_nn : G31 nn = some (zJ 4096 fE) := by rw [hG31]; exact (zput_n (Ne.symm n_ka_nn)).trans h30_nn
  have h31_qc : G31 qc = some (zO 1 [.int (-1), .int (-1), .int 1, .ref nn]) := by rw [hG31]; exact (zput_n (Ne.symm n_ka_qc)).trans h30_qc
  have h31_qb : G31 qb = some (zO 2 [.ref bc, .int 1, .int 0, .int (-1), .null]) := by rw [hG31]; exact (zput_n (Ne.symm n_ka_qb)).trans h30_qb
  have h31_bc : G31 bc = some (zJ 4096 (va_cpy fE (fun _ => 0) 0 0 4096)) := by rw [hG31]; exact (zput_n (Ne.symm n_ka_bc)).trans h30_bc
  have h31_ka : G31 ka = some (zI 8 n1) := by rw [hG31]; exact zput_s _ _ _
  have fr31 : ∀ r, r ≠ x → G r ≠ none → G31 r = G r := fun r r1 r2 => by rw [hG31]; exact (zput_n (zrne r2 f_ka)).trans (fr30 r r1 r2)
  refine zr_aload_n hX rfl d_S_init_149 ?_
  refine zr_get hX k_S 11 (by decide) q114 rfl h31_x rfl d_S_init_150 ?_
  refine zr_ldc hX q99 d_S_init_153 ?_
  refine zr_eS0 hX (c_A_fillI g (d - 1) _ kb 8 (fun _ => 0) (-2147483648) (by decide) h31_kb) l_S_70 st_A_fillI f_A_fillI rfl (Nat.le_of_ble_eq_true rfl) (by omega) (by omega) (by omega) d_S_init_155 (fun Gf hGf => ?_)
  obtain ⟨n2, rfl, h_n2⟩ := hGf
  obtain ⟨G32, hG32⟩ : ∃ z, z = zput G31 kb (zI 8 n2) := ⟨_, rfl⟩
  rw [← hG32]
  have h32_x : G32 x = some (zO 0 [.ref k0, .ref k1, .int 1, .ref k3, .int 0, .int 0, .int 32, .int 32, .ref k8, .ref k9, .ref ka, .ref kb, .ref kc, .null]) := by rw [hG32]; exact (zput_n n_x_kb).trans h31_x
  have h32_k0 : G32 k0 = some (zI 4 (fun _ => 0)) := by rw [hG32]; exact (zput_n n_k0_kb).trans h31_k0
  have h32_k1 : G32 k1 = some (zR 3 24 (va_up (fun _ => none) 0 (some qc))) := by rw [hG32]; exact (zput_n n_k1_kb).trans h31_k1
  have h32_k3 : G32 k3 = some (zR 4 4 (va_up (fun _ => none) 0 (some qb))) := by rw [hG32]; exact (zput_n n_k3_kb).trans h31_k3
  have h32_k8 : G32 k8 = some (zI 6 (fun _ => 0)) := by rw [hG32]; exact (zput_n n_k8_kb).trans h31_k8
  have h32_k9 : G32 k9 = some (zI 6 (fun _ => 0)) := by rw [hG32]; exact (zput_n n_k9_kb).trans h31_k9
  have h32_ka : G32 ka = some (zI 8 n1) := by rw [hG32]; exact (zput_n n_ka_kb).trans h31_ka
  have h32_kc : G32 kc = some (zR 5 24 (fun _ => none)) := by rw [hG32]; exact (zput_n (Ne.symm n_kb_kc)).trans h31_kc
  have h32_nn : G32 nn = some (zJ 4096 fE) := by rw [hG32]; exact (zput_n (Ne.symm n_kb_nn)).trans h31_nn
  have h32_qc : G32 qc = some (zO 1 [.int (-1), .int (-1), .int 1, .ref nn]) := by rw [hG32]; exact (zput_n (Ne.symm n_kb_qc)).trans h31_qc
  have h32_qb : G32 qb = some (zO 2 [.ref bc, .int 1, .int 0, .int (-1), .null]) := by rw [hG32]; exact (zput_n (Ne.symm n_kb_qb)).trans h31_qb
  have h32_bc : G32 bc = some (zJ 4096 (va_cpy fE (fun _ => 0) 0 0 4096)) := by rw [hG32]; exact (zput_n (Ne.symm n_kb_bc)).trans h31_bc
  have h32_kb : G32 kb = some (zI 8 n2) := by rw [hG32]; exact zput_s _ _ _
  have fr32 : ∀ r, r ≠ x → G r ≠ none → G32 r = G r := fun r r1 r2 => by rw [hG32]; exact (zput_n (zrne r2 f_kb)).trans (fr31 r r1 r2)
  exact zr_vret hX d_S_init_158 ⟨rfl, zinit_end h32_x h32_k0 h32_k1 h32_k3 h32_k8 h32_k9 h32_ka h32_kb h32_kc h32_nn h32_qc h32_qb h32_bc n_x_k0 n_x_k1 n_x_k3 n_x_k8 n_x_k9 n_x_ka n_x_kb n_x_kc n_x_nn n_x_qc n_x_qb n_x_bc n_k0_k1 n_k0_k3 n_k0_k8 n_k0_k9 n_k0_ka n_k0_kb n_k0_kc n_k0_nn n_k0_qc n_k0_qb n_k0_bc n_k1_k3 n_k1_k8 n_k1_k9 n_k1_ka n_k1_kb n_k1_kc n_k1_nn n_k1_qc n_k1_qb n_k1_bc n_k3_k8 n_k3_k9 n_k3_ka n_k3_kb n_k3_kc n_k3_nn n_k3_qc n_k3_qb n_k3_bc n_k8_k9 n_k8_ka n_k8_kb n_k8_kc n_k8_nn n_k8_qc n_k8_qb n_k8_bc n_k9_ka n_k9_kb n_k9_kc n_k9_nn n_k9_qc n_k9_qb n_k9_bc n_ka_kb n_ka_kc n_ka_nn n_ka_qc n_ka_qb n_ka_bc n_kb_kc n_kb_nn n_kb_qc n_kb_qb n_kb_bc n_kc_nn n_kc_qc n_kc_qb n_kc_bc n_nn_qc n_nn_qb n_nn_bc n_qc_qb n_qc_bc n_qb_bc f_k0 f_k1 f_k3 f_k8 f_k9 f_ka f_kb f_kc f_nn f_qc f_qb f_bc hfE h_n1 h_n2 fr32⟩
