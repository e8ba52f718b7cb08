/-! the class: fewest -/
theorem b_one_0 {n : Nat} {p : Nat → Bool} {a t : Nat} {S : BS} (h : 1 ≤ S.1) : 1 ≤ (b_one n p a t S).2.1 ∧ (b_one n p a t S).2.2.2.1 0 = S.2.2.1 0 ∧ (b_one n p a t S).2.2.2.2 0 = S.2.2.2 0 := by
  unfold b_one
  split
  · split
    · exact ⟨h, rfl, rfl⟩
    · split
      · exact ⟨h, rfl, rfl⟩
      · split
        · exact ⟨h, rfl, rfl⟩
        · exact ⟨Nat.le_succ_of_le h, va_up_n (by omega), va_up_n (by omega)⟩
  · exact ⟨h, rfl, rfl⟩
theorem b_row_0 {n : Nat} {p : Nat → Bool} {a : Nat} : ∀ (m t : Nat) (S : BS), 1 ≤ S.1 → 1 ≤ (b_row n p a m t S).2.2.1 ∧ (b_row n p a m t S).2.2.2.2.1 0 = S.2.2.1 0 ∧ (b_row n p a m t S).2.2.2.2.2 0 = S.2.2.2 0
  | 0, t, S, h => ⟨h, rfl, rfl⟩
  | m + 1, t, S, h => by
    have h1 := b_one_0 (n := n) (p := p) (a := a) (t := t) h
    rw [b_row]
    split
    · have h2 := b_row_0 (p := p) (n := n) (a := a) m (t + 1) _ h1.1
      exact ⟨h2.1, h2.2.1.trans h1.2.1, h2.2.2.trans h1.2.2⟩
    · exact h1
theorem b_all_0 {n : Nat} {p : Nat → Bool} : ∀ (m a : Nat) (S : BS), 1 ≤ S.1 → (b_all n p m a S).2.2.2.2.2.1 0 = S.2.2.1 0 ∧ (b_all n p m a S).2.2.2.2.2.2 0 = S.2.2.2 0
  | 0, a, S, h => ⟨rfl, rfl⟩
  | m + 1, a, S, h => by
    rw [b_all]
    split
    · have h1 := b_row_0 (n := n) (p := p) (a := a) (2 ^ n - 1) 1 S h
      split
      · have h2 := b_all_0 (p := p) (n := n) m (a + 1) _ h1.1
        exact ⟨h2.1.trans h1.2.1, h2.2.trans h1.2.2⟩
      · exact h1.2
    · exact ⟨rfl, rfl⟩
theorem b_R1 {n M e0 : Nat} {p : Nat → Bool} {R : Nat × Nat × Nat × BS} (hR : b_all n p M 0 (b_S0 e0) = R) : R.2.2.2.2.2.1 0 = 0 ∧ R.2.2.2.2.2.2 0 = 0 := by
  have h := b_all_0 (n := n) (p := p) M 0 (b_S0 e0) (Nat.le_refl _)
  rw [hR] at h
  exact h
theorem z_enc_n {nd : Nat → Nat} {n : Nat} (h0 : ∀ c, n ≤ c → nd c = 0) : ∀ d, z_enc nd (n + d) = z_enc nd n
  | 0 => rfl
  | d + 1 => by
    show z_enc nd (n + d) + nd (n + d) * 16 ^ (n + d) = _
    rw [z_enc_n h0 d, h0 (n + d) (by omega), Nat.zero_mul, Nat.add_zero]
theorem z_enc_10 {nd : Nat → Nat} {n : Nat} (h10 : n ≤ 10) (h0 : ∀ c, n ≤ c → nd c = 0) : z_enc nd n = z_enc nd 10 := by
  obtain ⟨d, hd⟩ : ∃ d, 10 = n + d := ⟨10 - n, by omega⟩
  rw [hd, z_enc_n h0 d]
abbrev x_kpE (n : Nat) (f F : Nat → Nat → Int32) (g G : Nat → Nat → Int64) : Prop := (∀ a, a ≠ 0 → a ≠ 2 → a ≠ 4 → a ≠ 5 → a ≠ 11 → a ≠ 12 → a < 21 ∨ 27 < a → F a = f a) ∧ (∀ k, k ≠ 10 → F 0 k = f 0 k) ∧ (∀ s, 2 ^ n ≤ s → F 11 s = f 11 s) ∧ (∀ a, a ≠ 5 → a < 22 ∨ 27 < a → G a = g a)
set_option maxHeartbeats 4000000 in
set_option maxRecDepth 100000 in
theorem c_X7_fewest {n : Nat} {sB tB : Bool} {f : Nat → Nat → Int32} {g : Nat → Nat → Int64} (hn : f 1 1 = nI n) (h10 : n ≤ 10) (hgt : ∀ c, c < n → ∃ j : Nat, j ≤ 2 ∧ f (c + 40) 3 = nI j) (hbm : ∃ b : Nat, b ≤ 4 ∧ f 1 4 = nI b) (nd : Nat → Nat) (hnd : ∀ c, c < n → f (c + 40) 5 = nI (nd c) ∧ nd c ≤ 9) (hnd0 : ∀ c, n ≤ c → nd c = 0) (h11 : ∀ s, 2 ^ n ≤ s → s < 1024 → f 11 s = 0) (p : Nat → Bool) (hp : p = z_p n f) (R : Nat × Nat × Nat × BS) (hR : b_all n p 5001 0 (b_S0 (z_enc nd 10)) = R) (hRb : ¬ z_enc nd 10 = 0 → (∀ c, c < n → 0 < nd c → p (2 ^ c) = true) → b_ok n (z_enc nd 10) R.2.2.2 ∧ (R.1 = 1 ∨ R.1 = 2) ∧ (R.1 = 1 → R.2.1 < R.2.2.2.1 ∧ R.2.2.1 < 1024 ∧ b_d R.2.2.2.2.2.1 R.2.1 ≤ 89)) (hR0 : R.2.2.2.2.2.1 0 = 0 ∧ R.2.2.2.2.2.2 0 = 0) (mcF msF : Nat) (hmc : sB = false → ¬ z_enc nd 10 = 0 → (∀ c, c < n → 0 < nd c → p (2 ^ c) = true) → 7 ≤ mcF ∧ 19360 ≤ msF) : q_ConN yX7_fewest cX7_fewest 4 (some .int) 4 96 mcF msF tyX (alX n sB tB) [.ref 0] (f, g, rfX n sB tB) (fun v al2 h' => (z_enc nd 10 = 0 ∧ v = some (.int 0) ∧ al2 = alX n sB tB ∧ h' = (q_up (q_up f 0 10 0) 4 1 0, g, rfX n sB tB)) ∨ (¬ z_enc nd 10 = 0 ∧ (∃ c, c < n ∧ 0 < nd c ∧ ¬ p (2 ^ c) = true) ∧ v = some (.int (-1)) ∧ al2 = alX n sB tB ∧ h' = (q_up f 0 10 0, g, rfX n sB tB)) ∨ (¬ z_enc nd 10 = 0 ∧ (∀ c, c < n → 0 < nd c → p (2 ^ c) = true) ∧ al2 = alX n true tB ∧ ∃ (F : Nat → Nat → Int32) (G : Nat → Nat → Int64), x_kpE n f F g G ∧ F 0 10 = nI R.2.2.2.1 ∧ ((R.1 = 1 ∧ v = some (.int (nI (b_d R.2.2.2.2.2.1 R.2.1 + 1))) ∧ F 4 1 = nI (b_d R.2.2.2.2.2.1 R.2.1 + 1) ∧ F 21 = b_l R.2.2.2.2.2.1 R.2.2.2.2.2.2 (va_up (f 21) (b_d R.2.2.2.2.2.1 R.2.1) (nI R.2.2.1)) R.2.1 (b_d R.2.2.2.2.2.1 R.2.1)) ∨ (R.1 = 2 ∧ v = some (.int (-4)) ∧ F 4 1 = f 4 1 ∧ F 21 = f 21)) ∧ h' = (F, G, rfX n true tB))) := by
  refine q_ConN.of RX7 [some (.ref 0), none, none, none] (by decide +kernel) rfl rfl (Nat.le_of_ble_eq_true rfl) (fun C ad E V I0 Z => ?_)
  have K := q_Kp.rf (al := alX n sB tB) (ad := ad)
  have p10 : 2 ^ n ≤ 2 ^ 10 := Nat.pow_le_pow_right (by decide) h10
  have he10 := z_enc_10 h10 hnd0
  have hpf : z_p n (q_up f 0 10 0) = p := (z_p_congr (F := q_up f 0 10 0) (f := f) (q_up_ne (by decide)) (fun c => q_up_ne (by omega)) (q_up_ne (by decide)) (q_up_ne (by decide))).trans hp.symm
  have helt : z_enc nd 10 < 2 ^ 63 := by
    have := z_enc_lt (v := nd) (k := 10) (fun c _ => by
      rcases Nat.lt_or_ge c n with q | q
      · have := (hnd c q).2; omega
      · rw [hnd0 c q]; decide)
    omega
  have hgt1 : ∀ c, c < n → ∃ j : Nat, j ≤ 2 ∧ q_up f 0 10 0 (c + 40) 3 = nI j := fun c hc => by rw [q_up_ne (by omega)]; exact hgt c hc
  have K70 : ¬ z_enc nd 10 = 0 → (∀ c, c < n → 0 < nd c → p (2 ^ c) = true) → ∀ (F : Nat → Nat → Int32) (G : Nat → Nat → Int64) (kc ks : Nat) (ad2 : Nat → Nat), kc ≤ mcF → ks ≤ msF → q_Kp (alX n sB tB) ad (alX n true tB) ad2 → q_Ev C cX7_fewest 4 RX7 (alX n true tB) ad2 4 96 → (∀ a, a ≠ 5 → a < 22 ∨ 27 < a → F a = z_fnd n (q_up f 0 10 0) (2 ^ n) a ∧ G a = g a) → gg C tyX 4 kc ks (alX n true tB) ad2 70 [some (.ref 0), some (.long (lN (z_enc nd 10))), none, none] [] (F, G, rfX n true tB) := by
    intro hne hall F G kc ks ad2 hkc hks K E hF
    obtain ⟨bk, hR12, hR1⟩ := hRb hne hall
    have hF2 : F 2 = z_fnd n (q_up f 0 10 0) (2 ^ n) 2 := (hF 2 (by decide) (by omega)).1
    have hF11 : F 11 = z_fnd n (q_up f 0 10 0) (2 ^ n) 11 := (hF 11 (by decide) (by omega)).1
    have hF12 : F 12 = z_fnd n (q_up f 0 10 0) (2 ^ n) 12 := (hF 12 (by decide) (by omega)).1
    have hls0 := z_fnd_lst (n := n) (f := q_up f 0 10 0) h10 hbm
    rw [hpf] at hls0
    have hls : z_lst1 n p F := ⟨by rw [hF2]; exact hls0.1, hls0.2.1, fun s hs hps => by rw [hF12]; exact hls0.2.2 s hs hps⟩
    have hleg : ∀ s, z_legX n (q_up f 0 10 0) s ↔ p s = true := fun s => by rw [← hpf]; exact decide_eq_true_iff.symm
    have hq : ∀ s, s < 1024 → ((fun s => decide (¬ F 11 s = 0)) s = true ↔ s < 2 ^ n ∧ p s = true) := fun s hs => by
      show decide (¬ F 11 s = 0) = true ↔ _
      rw [decide_eq_true_iff, hF11]
      by_cases q : s < 2 ^ n
      · rw [show z_fnd n (q_up f 0 10 0) (2 ^ n) 11 s = q_b (z_legX n (q_up f 0 10 0) s) from if_pos q, q_b1, hleg]
        exact ⟨fun z => ⟨q, z⟩, fun z => z.2⟩
      · rw [show z_fnd n (q_up f 0 10 0) (2 ^ n) 11 s = f 11 s from if_neg q, h11 s (by omega) hs]
        exact ⟨fun z => absurd rfl z, fun z => absurd z.1 q⟩
    have hkeepF : ∀ a, a ≠ 2 → a ≠ 11 → a ≠ 12 → z_fnd n (q_up f 0 10 0) (2 ^ n) a = q_up f 0 10 0 a := fun a h1 h2 h3 => by
      show (if a = 2 then _ else if a = 11 then _ else if a = 12 then _ else q_up f 0 10 0 a) = _
      rw [if_neg h1, if_neg h2, if_neg h3]
    refine g_aload_0 (pc := 70) E dX7_fewest_70 ?_
    refine g_getR (pc := 71) E (by first | assumption | rfl) (by first | assumption | rfl) fl_X7_155 rfl (by first | assumption | rfl) dX7_fewest_71 ?_
    refine g_aload_0 (pc := 74) E dX7_fewest_74 ?_
    refine g_getR (pc := 75) E (by first | assumption | rfl) (by first | assumption | rfl) fl_X7_19 rfl (by first | assumption | rfl) dX7_fewest_75 ?_
    refine g_lload_1 (pc := 78) E dX7_fewest_78 ?_
    refine g_cVi2 (pc := 79) E (c_X4_reachesEnd h10 nd (fun c hc => (hnd c hc).2) hnd0 hne p hq hls hall R hR) cw_X7_162 (by decide) (by decide) (by first | assumption | rfl) (by first | assumption | rfl) (Nat.le_of_ble_eq_true rfl) dX7_fewest_79 (fun v_79 h_79 hp => ?_)
    obtain ⟨F2, G2, hk2, hF52, hcase, rfl⟩ := hp
    have hA : ∀ a, a ≠ 5 → a < 22 ∨ 27 < a → F2 a = z_fnd n (q_up f 0 10 0) (2 ^ n) a := fun a h5 hr => by rw [hk2.1 a h5 hr, (hF a h5 hr).1]
    have hG2 : ∀ a, a ≠ 5 → a < 22 ∨ 27 < a → G2 a = g a := fun a h5 hr => by rw [hk2.2 a (by omega) (by omega), (hF a h5 hr).2]
    have h0 : F2 0 = q_up f 0 10 0 0 := by rw [hA 0 (by decide) (by omega), hkeepF 0 (by decide) (by decide) (by decide)]
    have h11b : ∀ s, 2 ^ n ≤ s → F2 11 s = f 11 s := fun s hs => by rw [hA 11 (by decide) (by omega)]; exact if_neg (by omega)
    have hoth : ∀ a, a ≠ 0 → a ≠ 2 → a ≠ 5 → a ≠ 11 → a ≠ 12 → a < 22 ∨ 27 < a → F2 a = f a := fun a a0 a2 a5 a11 a12 hr => by rw [hA a a5 hr, hkeepF a a2 a11 a12, q_up_ne a0]
    have h00 : ∀ k, k ≠ 10 → F2 0 k = f 0 k := fun k hk => by rw [h0]; exact q_upz hk
    rcases hcase with ⟨hr1, rfl, h59, h23⟩ | ⟨hr1, rfl⟩
    · refine g_istore_3 (pc := 82) E dX7_fewest_82 (by decide) rfl ?_
      refine g_aload_0 (pc := 83) E dX7_fewest_83 ?_
      refine g_aload_0 (pc := 84) E dX7_fewest_84 ?_
      refine g_getR (pc := 85) E (by first | assumption | rfl) (by first | assumption | rfl) fl_X7_155 rfl (by first | assumption | rfl) dX7_fewest_85 ?_
      refine g_getI (pc := 88) E (by first | assumption | rfl) (by first | assumption | rfl) fl_X7_166 rfl dX7_fewest_88 ?_
      refine g_putI (pc := 91) E (by first | assumption | rfl) (by first | assumption | rfl) fw_X7_143 rfl dX7_fewest_91 ?_
      refine g_iload_3 (pc := 94) E dX7_fewest_94 ?_
      refine g_if_ne (pc := 95) (tgt := 101) E dX7_fewest_95 (by decide) (fun c_95 => ?_) (fun c_95 => ?_)
      · refine g_aload_0 (pc := 101) E dX7_fewest_101 ?_
        refine g_getR (pc := 102) E (by first | assumption | rfl) (by first | assumption | rfl) fl_X7_155 rfl (by first | assumption | rfl) dX7_fewest_102 ?_
        refine g_aload_0 (pc := 105) E dX7_fewest_105 ?_
        refine g_getR (pc := 106) E (by first | assumption | rfl) (by first | assumption | rfl) fl_X7_33 rfl (by first | assumption | rfl) dX7_fewest_106 ?_
        refine g_cVv1 (pc := 109) E (c_X4_tellRow (n := n) (tB := tB) (f := q_up F2 0 10 (F2 5 2)) (g := G2) R.2.2.2.1 bk.1.2 R.2.2.2.2.2.1 R.2.2.2.2.2.2 (fun j hj => h23 j hj) (fun j h1 h2 => (bk.2.2 j h1 h2).1) (fun j hj => by exact (Nat.eq_zero_or_pos j).elim (fun z => by rw [z, hR0.2]; decide) (fun z => (bk.2.2 j z hj).2)) hR0.1 R.2.1 R.2.2.1 (hR1 hr1).1 (hR1 hr1).2.1 h59 (hR1 hr1).2.2) cw_X7_167 (by decide) (by decide) (by first | assumption | rfl) (by first | assumption | rfl) (Nat.le_of_ble_eq_true rfl) dX7_fewest_109 (fun h_109 hp => ?_)
        subst hp
        refine g_aload_0 (pc := 112) E dX7_fewest_112 ?_
        refine g_getR (pc := 113) E (by first | assumption | rfl) (by first | assumption | rfl) fl_X7_33 rfl (by first | assumption | rfl) dX7_fewest_113 ?_
        refine g_getI (pc := 116) E (by first | assumption | rfl) (by first | assumption | rfl) fl_X7_150 rfl dX7_fewest_116 ?_
        exact g_iretN (pc := 119) E Z K hkc hks dX7_fewest_119 (Or.inr (Or.inr ⟨hne, hall, rfl, _, _, ⟨fun a a0 a2 a4 a5 a11 a12 hr => by rw [va_up_n (by omega), q_up_ne a4, q_up_ne a0]; exact hoth a a0 a2 a5 a11 a12 (by omega), fun k hk => by rw [va_up_n (by decide), q_up_ne (by decide), q_upz hk]; exact h00 k hk, fun s hs => by rw [va_up_n (by decide), q_up_ne (by decide), q_up_ne (by decide)]; exact h11b s hs, hG2⟩, by rw [va_up_n (by decide), q_up_ne (by decide), q_ups]; exact hF52, Or.inl ⟨hr1, rfl, rfl, by rw [va_up_s, q_up_ne (by decide), hoth 21 (by decide) (by decide) (by decide) (by decide) (by decide) (by omega)]⟩, rfl⟩))
      · exact absurd c_95 (by decide)
    · refine g_istore_3 (pc := 82) E dX7_fewest_82 (by decide) rfl ?_
      refine g_aload_0 (pc := 83) E dX7_fewest_83 ?_
      refine g_aload_0 (pc := 84) E dX7_fewest_84 ?_
      refine g_getR (pc := 85) E (by first | assumption | rfl) (by first | assumption | rfl) fl_X7_155 rfl (by first | assumption | rfl) dX7_fewest_85 ?_
      refine g_getI (pc := 88) E (by first | assumption | rfl) (by first | assumption | rfl) fl_X7_166 rfl dX7_fewest_88 ?_
      refine g_putI (pc := 91) E (by first | assumption | rfl) (by first | assumption | rfl) fw_X7_143 rfl dX7_fewest_91 ?_
      refine g_iload_3 (pc := 94) E dX7_fewest_94 ?_
      refine g_if_ne (pc := 95) (tgt := 101) E dX7_fewest_95 (by decide) (fun c_95 => ?_) (fun c_95 => ?_)
      · exact absurd rfl c_95
      · refine g_bipush (pc := 98) (v := -4) E dX7_fewest_98 (by decide) ?_
        exact g_iretN (pc := 100) E Z K hkc hks dX7_fewest_100 (Or.inr (Or.inr ⟨hne, hall, rfl, _, _, ⟨fun a a0 a2 a4 a5 a11 a12 hr => by rw [q_up_ne a0]; exact hoth a a0 a2 a5 a11 a12 (by omega), fun k hk => by rw [q_upz hk]; exact h00 k hk, fun s hs => by rw [q_up_ne (by decide)]; exact h11b s hs, hG2⟩, by rw [q_ups]; exact hF52, Or.inr ⟨hR12.resolve_left hr1, rfl, by rw [q_up_ne (by decide), hoth 4 (by decide) (by decide) (by decide) (by decide) (by decide) (by omega)], by rw [q_up_ne (by decide), hoth 21 (by decide) (by decide) (by decide) (by decide) (by decide) (by omega)]⟩, rfl⟩))
  cases sB with
  | true =>
    refine g_aload_0 (pc := 0) E dX7_fewest_0 ?_
    refine g_iconst (pc := 1) (v := 0) E dX7_fewest_1 (by decide) ?_
    refine g_putI (pc := 2) E (by first | assumption | rfl) (by first | assumption | rfl) fw_X7_143 rfl dX7_fewest_2 ?_
    refine g_aload_0 (pc := 5) E dX7_fewest_5 ?_
    refine g_getR (pc := 6) E (by first | assumption | rfl) (by first | assumption | rfl) fl_X7_12 rfl (by first | assumption | rfl) dX7_fewest_6 ?_
    refine g_cVl0 (pc := 9) E (c_X2_lacksAtFirst (by exact hn) h10 nd (fun c hc => by rw [q_up_ne (by omega)]; exact hnd c hc)) cw_X7_146 (by decide) (by decide) (by first | assumption | rfl) (by first | assumption | rfl) (Nat.le_of_ble_eq_true rfl) dX7_fewest_9 (fun v_9 h_9 hp => ?_)
    obtain ⟨rfl, rfl⟩ := hp
    rw [he10]
    refine g_lstore_1 (pc := 12) E dX7_fewest_12 (by decide) rfl ?_
    refine g_lload_1 (pc := 13) E dX7_fewest_13 ?_
    refine g_lconst (pc := 14) (v := 0) E dX7_fewest_14 (by decide) ?_
    refine g_lcmp (pc := 15) E dX7_fewest_15 ?_
    refine g_if_ne (pc := 16) (tgt := 29) E dX7_fewest_16 (by decide) (fun c_16 => ?_) (fun c_16 => ?_)
    · have hne : ¬ z_enc nd 10 = 0 := fun q => c_16 (by rw [q]; decide)
      refine g_aload_0 (pc := 29) E dX7_fewest_29 ?_
      refine g_getR (pc := 30) E (by first | assumption | rfl) (by first | assumption | rfl) fl_X7_12 rfl (by first | assumption | rfl) dX7_fewest_30 ?_
      refine g_cVi0 (pc := 33) E (c_X2_canMeetNeeds (by exact hn) h10 hgt1 (by exact hbm)) cw_X7_151 (by decide) (by decide) (by first | assumption | rfl) (by first | assumption | rfl) (Nat.le_of_ble_eq_true rfl) dX7_fewest_33 (fun v_33 h_33 hp => ?_)
      obtain ⟨hv, rfl⟩ := hp
      rcases hv with ⟨rfl, hall0⟩ | ⟨rfl, hex0⟩
      · have hall : ∀ c, c < n → 0 < nd c → p (2 ^ c) = true := fun c hc h0 => by
          rw [← hpf]
          exact decide_eq_true (hall0 c hc (by rw [q_up_ne (by omega), (hnd c hc).1]; exact nI_lt (a := 0) h0 (by have := (hnd c hc).2; omega)))
        refine g_if_ne (pc := 36) (tgt := 41) E dX7_fewest_36 (by decide) (fun c_36 => ?_) (fun c_36 => ?_)
        · refine g_aload_0 (pc := 41) E dX7_fewest_41 ?_
          refine g_getR (pc := 42) E (by first | assumption | rfl) (by first | assumption | rfl) fl_X7_19 rfl (by first | assumption | rfl) dX7_fewest_42 ?_
          refine g_aload_0 (pc := 45) E dX7_fewest_45 ?_
          refine g_getR (pc := 46) E (by first | assumption | rfl) (by first | assumption | rfl) fl_X7_12 rfl (by first | assumption | rfl) dX7_fewest_46 ?_
          refine g_cVv1 (pc := 49) E (c_X3_find (by exact hn) h10 hgt1 (by exact hbm)) cw_X7_138 (by decide) (by decide) (by first | assumption | rfl) (by first | assumption | rfl) (Nat.le_of_ble_eq_true rfl) dX7_fewest_49 (fun h_49 hp => ?_)
          subst hp
          refine g_aload_0 (pc := 52) E dX7_fewest_52 ?_
          refine g_getR (pc := 53) E (by first | assumption | rfl) (by first | assumption | rfl) fl_X7_155 rfl (by first | assumption | rfl) dX7_fewest_53 ?_
          refine g_ifnonnull (pc := 56) (tgt := 70) E dX7_fewest_56 (by decide) ?_
          exact K70 hne hall _ _ 0 0 ad (Nat.zero_le _) (Nat.zero_le _) K E (fun a _ _ => ⟨rfl, rfl⟩)
        · exact absurd c_36 (by decide)
      · have hex : ∃ c, c < n ∧ 0 < nd c ∧ ¬ p (2 ^ c) = true := by
          obtain ⟨c, hc, h0, hno⟩ := hex0
          refine ⟨c, hc, ?_, fun q => hno ?_⟩
          · rw [q_up_ne (by omega), (hnd c hc).1] at h0
            exact (nI_ltI (a := 0) (by omega) (by have := (hnd c hc).2; omega)).mp h0
          · rw [← hpf] at q
            exact of_decide_eq_true q
        refine g_if_ne (pc := 36) (tgt := 41) E dX7_fewest_36 (by decide) (fun c_36 => ?_) (fun c_36 => ?_)
        · exact absurd rfl c_36
        · refine g_iconst (pc := 39) (v := -1) E dX7_fewest_39 (by decide) ?_
          exact g_iretN (pc := 40) E Z K (Nat.zero_le _) (Nat.zero_le _) dX7_fewest_40 (Or.inr (Or.inl ⟨hne, hex, rfl, rfl, rfl⟩))
    · have heq : z_enc nd 10 = 0 := (q_lN0 helt).mp c_16
      refine g_aload_0 (pc := 19) E dX7_fewest_19 ?_
      refine g_getR (pc := 20) E (by first | assumption | rfl) (by first | assumption | rfl) fl_X7_33 rfl (by first | assumption | rfl) dX7_fewest_20 ?_
      refine g_iconst (pc := 23) (v := 0) E dX7_fewest_23 (by decide) ?_
      refine g_putI (pc := 24) E (by first | assumption | rfl) (by first | assumption | rfl) fw_X7_150 rfl dX7_fewest_24 ?_
      refine g_iconst (pc := 27) (v := 0) E dX7_fewest_27 (by decide) ?_
      exact g_iretN (pc := 28) E Z K (Nat.zero_le _) (Nat.zero_le _) dX7_fewest_28 (Or.inl ⟨heq, rfl, rfl, rfl⟩)
  | false =>
    refine g_aload_0 (pc := 0) E dX7_fewest_0 ?_
    refine g_iconst (pc := 1) (v := 0) E dX7_fewest_1 (by decide) ?_
    refine g_putI (pc := 2) E (by first | assumption | rfl) (by first | assumption | rfl) fw_X7_143 rfl dX7_fewest_2 ?_
    refine g_aload_0 (pc := 5) E dX7_fewest_5 ?_
    refine g_getR (pc := 6) E (by first | assumption | rfl) (by first | assumption | rfl) fl_X7_12 rfl (by first | assumption | rfl) dX7_fewest_6 ?_
    refine g_cVl0 (pc := 9) E (c_X2_lacksAtFirst (by exact hn) h10 nd (fun c hc => by rw [q_up_ne (by omega)]; exact hnd c hc)) cw_X7_146 (by decide) (by decide) (by first | assumption | rfl) (by first | assumption | rfl) (Nat.le_of_ble_eq_true rfl) dX7_fewest_9 (fun v_9 h_9 hp => ?_)
    obtain ⟨rfl, rfl⟩ := hp
    rw [he10]
    refine g_lstore_1 (pc := 12) E dX7_fewest_12 (by decide) rfl ?_
    refine g_lload_1 (pc := 13) E dX7_fewest_13 ?_
    refine g_lconst (pc := 14) (v := 0) E dX7_fewest_14 (by decide) ?_
    refine g_lcmp (pc := 15) E dX7_fewest_15 ?_
    refine g_if_ne (pc := 16) (tgt := 29) E dX7_fewest_16 (by decide) (fun c_16 => ?_) (fun c_16 => ?_)
    · have hne : ¬ z_enc nd 10 = 0 := fun q => c_16 (by rw [q]; decide)
      refine g_aload_0 (pc := 29) E dX7_fewest_29 ?_
      refine g_getR (pc := 30) E (by first | assumption | rfl) (by first | assumption | rfl) fl_X7_12 rfl (by first | assumption | rfl) dX7_fewest_30 ?_
      refine g_cVi0 (pc := 33) E (c_X2_canMeetNeeds (by exact hn) h10 hgt1 (by exact hbm)) cw_X7_151 (by decide) (by decide) (by first | assumption | rfl) (by first | assumption | rfl) (Nat.le_of_ble_eq_true rfl) dX7_fewest_33 (fun v_33 h_33 hp => ?_)
      obtain ⟨hv, rfl⟩ := hp
      rcases hv with ⟨rfl, hall0⟩ | ⟨rfl, hex0⟩
      · have hall : ∀ c, c < n → 0 < nd c → p (2 ^ c) = true := fun c hc h0 => by
          rw [← hpf]
          exact decide_eq_true (hall0 c hc (by rw [q_up_ne (by omega), (hnd c hc).1]; exact nI_lt (a := 0) h0 (by have := (hnd c hc).2; omega)))
        refine g_if_ne (pc := 36) (tgt := 41) E dX7_fewest_36 (by decide) (fun c_36 => ?_) (fun c_36 => ?_)
        · refine g_aload_0 (pc := 41) E dX7_fewest_41 ?_
          refine g_getR (pc := 42) E (by first | assumption | rfl) (by first | assumption | rfl) fl_X7_19 rfl (by first | assumption | rfl) dX7_fewest_42 ?_
          refine g_aload_0 (pc := 45) E dX7_fewest_45 ?_
          refine g_getR (pc := 46) E (by first | assumption | rfl) (by first | assumption | rfl) fl_X7_12 rfl (by first | assumption | rfl) dX7_fewest_46 ?_
          refine g_cVv1 (pc := 49) E (c_X3_find (by exact hn) h10 hgt1 (by exact hbm)) cw_X7_138 (by decide) (by decide) (by first | assumption | rfl) (by first | assumption | rfl) (Nat.le_of_ble_eq_true rfl) dX7_fewest_49 (fun h_49 hp => ?_)
          subst hp
          refine g_aload_0 (pc := 52) E dX7_fewest_52 ?_
          refine g_getN (pc := 53) E (by first | assumption | rfl) (by first | assumption | rfl) fl_X7_155 rfl rfl dX7_fewest_53 ?_
          refine g_ifnonnullN (pc := 56) E dX7_fewest_56 ?_
          refine g_aload_0 (pc := 59) E dX7_fewest_59 ?_
          have hm7 := hmc rfl hne hall
          refine g_new (pc := 60) (a := 5) E V rfl q_ok4 kl_X7_159 in_X4 it_X4 rfl (q_clX h10) rfl rfl (by omega) (by omega) dX7_fewest_60 (fun q0 E => ?_)
          have K := K.new (a := 5) (q := q0) rfl
          have hc := (q_clX (n := n) (sB := false) (tB := tB) h10).new (a := 5)
          refine g_dupr (pc := 63) E dX7_fewest_63 ?_
          refine g_cIN (pc := 64) E V (c_X4_init rfl rfl rfl rfl rfl rfl rfl hc) cw_X7_161 rfl (by decide) (by decide) (by omega) (by omega) (Nat.le_of_ble_eq_true rfl) rfl dX7_fewest_64 rfl (fun v al2 h2 hp ad2 K2 E => ?_)
          obtain ⟨rfl, rfl, rfl, hc⟩ := hp
          have K := K.tr K2
          refine g_putR (pc := 67) E (by rfl) (by rfl) fw_X7_155 rfl dX7_fewest_67 ?_
          refine g_weakN (al' := alX n true tB) (r' := rfX n true tB) (fun b hb => ⟨(x_seaW (f := f) (g := g) hb).1, rfl, rfl, (x_seaW (f := f) (g := g) hb).2.1⟩) ?_
          have E := E.weak (fun b hb => (x_seaW (f := f) (g := g) hb).1)
          have K := K.weak (al' := alX n true tB) (fun a ha => alX_B ha (fun _ => rfl) (fun q => q))
          exact K70 hne hall _ _ _ _ _ (by omega) (by omega) K E (fun a a5 hr => ⟨by rw [va_up_n (by omega), va_up_n (by omega), va_up_n (by omega), va_up_n (by omega), va_up_n (by omega), va_up_n (by omega), va_up_n (by omega)], by rw [va_up_n (by omega), va_up_n (by omega), va_up_n (by omega), va_up_n (by omega), va_up_n (by omega), va_up_n (by omega), va_up_n (by omega)]⟩)
        · exact absurd c_36 (by decide)
      · have hex : ∃ c, c < n ∧ 0 < nd c ∧ ¬ p (2 ^ c) = true := by
          obtain ⟨c, hc, h0, hno⟩ := hex0
          refine ⟨c, hc, ?_, fun q => hno ?_⟩
          · rw [q_up_ne (by omega), (hnd c hc).1] at h0
            exact (nI_ltI (a := 0) (by omega) (by have := (hnd c hc).2; omega)).mp h0
          · rw [← hpf] at q
            exact of_decide_eq_true q
        refine g_if_ne (pc := 36) (tgt := 41) E dX7_fewest_36 (by decide) (fun c_36 => ?_) (fun c_36 => ?_)
        · exact absurd rfl c_36
        · refine g_iconst (pc := 39) (v := -1) E dX7_fewest_39 (by decide) ?_
          exact g_iretN (pc := 40) E Z K (Nat.zero_le _) (Nat.zero_le _) dX7_fewest_40 (Or.inr (Or.inl ⟨hne, hex, rfl, rfl, rfl⟩))
    · have heq : z_enc nd 10 = 0 := (q_lN0 helt).mp c_16
      refine g_aload_0 (pc := 19) E dX7_fewest_19 ?_
      refine g_getR (pc := 20) E (by first | assumption | rfl) (by first | assumption | rfl) fl_X7_33 rfl (by first | assumption | rfl) dX7_fewest_20 ?_
      refine g_iconst (pc := 23) (v := 0) E dX7_fewest_23 (by decide) ?_
      refine g_putI (pc := 24) E (by first | assumption | rfl) (by first | assumption | rfl) fw_X7_150 rfl dX7_fewest_24 ?_
      refine g_iconst (pc := 27) (v := 0) E dX7_fewest_27 (by decide) ?_
      exact g_iretN (pc := 28) E Z K (Nat.zero_le _) (Nat.zero_le _) dX7_fewest_28 (Or.inl ⟨heq, rfl, rfl, rfl⟩)
