/-! fewest: both sides alike -/
section RF
variable {n t : Nat} {sB tB : Bool} {f : Nat → Nat → Int32} {g : Nat → Nat → Int64} {F : Nat → Nat → Int32} {G : Nat → Nat → Int64}
theorem b_all_g {e0 : Nat} {p : Nat → Bool} (hn : n ≤ 10) : ∀ (M a : Nat) (S : BS), b_iv n e0 S → b_iv n e0 (b_all n p M a S).2.2.2 ∧ ((b_all n p M a S).1 = 1 → (b_all n p M a S).2.1 < (b_all n p M a S).2.2.2.1)
  | 0, a, S, h => ⟨h, fun q => absurd q (show ¬ (3 : Nat) = 1 by decide)⟩
  | M + 1, a, S, h => by
    have p10 : 2 ^ n ≤ 2 ^ 10 := Nat.pow_le_pow_right (by decide) hn
    have h2n : 0 < 2 ^ n := Nat.pow_pos (by decide)
    by_cases ha : a < S.1
    · rw [b_all, if_pos ha]
      obtain ⟨r1, r2, -, -, -⟩ := b_row_f (p := p) hn (2 ^ n - 1) 1 S (by omega) h ha
      by_cases e : (b_row n p a (2 ^ n - 1) 1 S).1 = 0
      · rw [if_pos e]; exact b_all_g hn M (a + 1) _ r1
      · rw [if_neg e]; exact ⟨r1, fun _ => Nat.lt_of_lt_of_le ha r2⟩
    · rw [b_all, if_neg ha]; exact ⟨h, fun q => absurd q (show ¬ (3 : Nat) = 1 by decide)⟩
theorem b_one_e {p : Nat → Bool} {a t : Nat} {S : BS} (h : S.2.1 a = 0) (ht : t < 1024) : b_one n p a t S = (0, S) := by
  unfold b_one
  rw [if_neg]
  rintro ⟨h0, h1, -⟩
  rw [h] at h1
  apply h0
  apply Nat.eq_of_testBit_eq
  intro i
  rw [Nat.zero_testBit]
  by_cases hi : i < 10
  · rw [Bool.eq_false_iff]
    intro q
    have := h1 i hi q
    rw [z_lk_bit, dg_0] at this
    simp at this
  · exact q_tb10 ht (by omega)
theorem b_row_e {p : Nat → Bool} {a : Nat} : ∀ (m t : Nat) (S : BS), S.2.1 a = 0 → t + m ≤ 1024 → (b_row n p a m t S).1 = 0 ∧ (b_row n p a m t S).2.2 = S
  | 0, t, S, _, _ => ⟨rfl, rfl⟩
  | m + 1, t, S, h, ht => by
    rw [b_row, b_one_e h (by omega), if_pos rfl]
    exact b_row_e m (t + 1) S h (by omega)
theorem b_all_e {p : Nat → Bool} (hn : n ≤ 10) : ∀ (M a : Nat) (S : BS), (∀ j, j < S.1 → S.2.1 j = 0) → ¬ (b_all n p M a S).1 = 1
  | 0, a, S, _ => show ¬ (3 : Nat) = 1 by decide
  | M + 1, a, S, h => by
    have p10 : 2 ^ n ≤ 2 ^ 10 := Nat.pow_le_pow_right (by decide) hn
    have h2n : 0 < 2 ^ n := Nat.pow_pos (by decide)
    by_cases ha : a < S.1
    · obtain ⟨e1, e2⟩ := b_row_e (n := n) (p := p) (a := a) (2 ^ n - 1) 1 S (h a ha) (by omega)
      rw [b_all, if_pos ha, if_pos e1, e2]
      exact b_all_e hn M (a + 1) S h
    · rw [b_all, if_neg ha]; exact show ¬ (3 : Nat) = 1 by decide
theorem b_dep9 {M : Nat} {nd : Nat → Nat} {p : Nat → Bool} {R : Nat × Nat × Nat × BS} (hn : n ≤ 10) (h9 : ∀ c, c < n → nd c ≤ 9) (h0 : ∀ c, n ≤ c → nd c = 0) (hR : b_all n p M 0 (b_S0 (z_enc nd 10)) = R) : R.1 = 1 → b_d R.2.2.2.2.2.1 R.2.1 ≤ 89 := by
  obtain ⟨he0, hdg0⟩ := z_e0 hn h9 h0
  generalize z_enc nd 10 = e0 at he0 hdg0 hR
  intro q
  by_cases hz : e0 = 0
  · subst hz
    exact absurd (hR ▸ q) (b_all_e hn M 0 (b_S0 0) (fun j hj => by
      have hj1 : j < 0 + 1 := hj
      rw [show j = 0 by omega]; rfl))
  · have hb := b_all_g (n := n) (p := p) hn M 0 _ (b_iv0 (b_ok0 he0 hz) (fun c => by
      rw [hdg0]
      rcases Nat.lt_or_ge c n with z | z
      · exact h9 c z
      · rw [h0 c z]; decide))
    rw [hR] at hb
    exact b_Rend hn hb.1 (hb.2 q)
theorem b_one_by {p : Nat → Bool} {a t : Nat} {S : BS} (ht : t < 2 ^ n) (h : ∀ j, 0 < j → j < S.1 → S.2.2.2 j < 2 ^ n) : ∀ j, 0 < j → j < (b_one n p a t S).2.1 → (b_one n p a t S).2.2.2.2 j < 2 ^ n := by
  unfold b_one
  split
  · split
    · exact h
    · split
      · exact h
      · split
        · exact h
        · intro j h1 h2
          have h2' : j < S.1 + 1 := h2
          show va_up S.2.2.2 S.1 t j < 2 ^ n
          by_cases e : j = S.1
          · subst e; rw [va_up_s]; exact ht
          · rw [va_up_n e]; exact h j h1 (by omega)
  · exact h
theorem b_row_by {p : Nat → Bool} {a : Nat} : ∀ (m t : Nat) (S : BS), t + m ≤ 2 ^ n → (∀ j, 0 < j → j < S.1 → S.2.2.2 j < 2 ^ n) → (∀ j, 0 < j → j < (b_row n p a m t S).2.2.1 → (b_row n p a m t S).2.2.2.2.2 j < 2 ^ n) ∧ ((b_row n p a m t S).1 = 0 ∨ (b_row n p a m t S).2.1 < 2 ^ n)
  | 0, t, S, _, h => ⟨h, Or.inl rfl⟩
  | m + 1, t, S, ht, h => by
    have h1 := b_one_by (n := n) (p := p) (a := a) (t := t) (by omega) h
    rw [b_row]
    split
    · exact b_row_by m (t + 1) _ (by omega) h1
    · exact ⟨h1, Or.inr (by show t < 2 ^ n; omega)⟩
theorem b_all_by {p : Nat → Bool} : ∀ (M a : Nat) (S : BS), (∀ j, 0 < j → j < S.1 → S.2.2.2 j < 2 ^ n) → (∀ j, 0 < j → j < (b_all n p M a S).2.2.2.1 → (b_all n p M a S).2.2.2.2.2.2 j < 2 ^ n) ∧ ((b_all n p M a S).1 = 1 → (b_all n p M a S).2.2.1 < 2 ^ n)
  | 0, a, S, h => ⟨h, fun q => absurd q (show ¬ (3 : Nat) = 1 by decide)⟩
  | M + 1, a, S, h => by
    have h2n : 0 < 2 ^ n := Nat.pow_pos (by decide)
    rw [b_all]
    split
    · have h1 := b_row_by (n := n) (p := p) (a := a) (2 ^ n - 1) 1 S (by omega) h
      split
      · exact b_all_by M (a + 1) _ h1.1
      · rename_i e
        exact ⟨h1.1, fun _ => h1.2.resolve_left e⟩
    · exact ⟨h, fun q => absurd q (show ¬ (3 : Nat) = 1 by decide)⟩
theorem b_Rby {M e0 : Nat} {p : Nat → Bool} {R : Nat × Nat × Nat × BS} (hR : b_all n p M 0 (b_S0 e0) = R) : (∀ j, 0 < j → j < R.2.2.2.1 → R.2.2.2.2.2.2 j < 2 ^ n) ∧ (R.1 = 1 → R.2.2.1 < 2 ^ n) := by
  have h := b_all_by (n := n) (p := p) M 0 (b_S0 e0) (fun j h1 h2 => by
    have h2' : j < 0 + 1 := h2
    omega)
  rw [hR] at h
  exact h
theorem b_l_rel {fr by_ : Nat → Nat} {N M : Nat} (hf : ∀ j, 0 < j → j < N → fr j < j) {B : Nat} (hby : ∀ j, 0 < j → j < N → by_ j < B) : ∀ (d k : Nat) (r1 r2 : Nat → Int32), b_d fr k = d → k < N → (∀ i, d ≤ i → i < M → r1 i = r2 i ∧ ∃ s : Nat, s < B ∧ r1 i = nI s) → ∀ i, i < M → b_l fr by_ r1 k d i = b_l fr by_ r2 k d i ∧ ∃ s : Nat, s < B ∧ b_l fr by_ r1 k d i = nI s := by
  intro d
  induction d with
  | zero =>
    intro k r1 r2 hd hk h i hi
    have ek : k = 0 := Classical.byContradiction (fun z => by have := b_d_s hf (by omega) hk; omega)
    subst ek
    rw [b_l_0, b_l_0]
    exact h i (by omega) hi
  | succ d ih =>
    intro k r1 r2 hd hk h i hi
    have hk0 : 0 < k := Nat.pos_of_ne_zero (fun z => by subst z; exact absurd hd (by rw [b_d_0]; omega))
    have hs := b_d_s hf hk0 hk
    have hfk := hf k hk0 hk
    rw [b_l_s hf hk0 hk, b_l_s hf hk0 hk, Nat.add_sub_cancel]
    refine ih (fr k) _ _ (by omega) (by omega) (fun j h1 h2 => ?_) i hi
    by_cases ej : j = d
    · subst ej
      rw [va_up_s, va_up_s]
      exact ⟨rfl, by_ k, hby k hk0 hk, rfl⟩
    · rw [va_up_n ej, va_up_n ej]
      exact h j (by omega) h2
theorem x_R.need (h : x_R n t tB f g F G) : ∃ nd : Nat → Nat, (∀ c, c < n → f (c + 40) 5 = nI (nd c) ∧ nd c ≤ 9) ∧ (∀ c, c < n → F 20 c = nI (nd c) ∧ nd c ≤ 9) ∧ ∀ c, n ≤ c → nd c = 0 := by
  have hx : ∀ c, ∃ k : Nat, (c < n → f (c + 40) 5 = nI k ∧ F 20 c = nI k ∧ k ≤ 9) ∧ (n ≤ c → k = 0) := fun c => by
    by_cases hc : c < n
    · obtain ⟨k, -, k2, k3, k4⟩ := (h.cel c hc).nd
      exact ⟨k, fun _ => ⟨k3, k4, k2⟩, fun q => absurd hc (by omega)⟩
    · exact ⟨0, fun q => absurd q hc, fun _ => rfl⟩
  exact ⟨fun c => (hx c).choose, fun c hc => ⟨((hx c).choose_spec.1 hc).1, ((hx c).choose_spec.1 hc).2.2⟩, fun c hc => ⟨((hx c).choose_spec.1 hc).2.1, ((hx c).choose_spec.1 hc).2.2⟩, fun c hc => (hx c).choose_spec.2 hc⟩
theorem r_fewest (h : x_R n t tB f g F G) {nd : Nat → Nat} {p : Nat → Bool} {R : Nat × Nat × Nat × BS} (hRb : ¬ z_enc nd 10 = 0 → (∀ c, c < n → 0 < nd c → p (2 ^ c) = true) → b_ok n (z_enc nd 10) R.2.2.2 ∧ (R.1 = 1 ∨ R.1 = 2) ∧ (R.1 = 1 → R.2.1 < R.2.2.2.1 ∧ R.2.2.1 < 1024 ∧ b_d R.2.2.2.2.2.1 R.2.1 ≤ 89)) (hB : (∀ j, 0 < j → j < R.2.2.2.1 → R.2.2.2.2.2.2 j < 2 ^ n) ∧ (R.1 = 1 → R.2.2.1 < 2 ^ n)) {vm : Int32} {vx : Option Value} {al2 : Nat → Bool} {hx hm : PH}
    (px : (z_enc nd 10 = 0 ∧ vx = some (.int 0) ∧ al2 = alX n sB tB ∧ hx = (q_up (q_up f 0 10 0) 4 1 0, g, rfX n sB tB)) ∨ (¬ z_enc nd 10 = 0 ∧ (∃ c, c < n ∧ 0 < nd c ∧ ¬ p (2 ^ c) = true) ∧ vx = some (.int (-1)) ∧ al2 = alX n sB tB ∧ hx = (q_up f 0 10 0, g, rfX n sB tB)) ∨ (¬ z_enc nd 10 = 0 ∧ (∀ c, c < n → 0 < nd c → p (2 ^ c) = true) ∧ al2 = alX n true tB ∧ ∃ (F' : Nat → Nat → Int32) (G' : Nat → Nat → Int64), x_kpE n f F' g G' ∧ F' 0 10 = nI R.2.2.2.1 ∧ ((R.1 = 1 ∧ vx = some (.int (nI (b_d R.2.2.2.2.2.1 R.2.1 + 1))) ∧ F' 4 1 = nI (b_d R.2.2.2.2.2.1 R.2.1 + 1) ∧ F' 21 = b_l R.2.2.2.2.2.1 R.2.2.2.2.2.2 (va_up (f 21) (b_d R.2.2.2.2.2.1 R.2.1) (nI R.2.2.1)) R.2.1 (b_d R.2.2.2.2.2.1 R.2.1)) ∨ (R.1 = 2 ∧ vx = some (.int (-4)) ∧ F' 4 1 = f 4 1 ∧ F' 21 = f 21)) ∧ hx = (F', G', rfX n true tB)))
    (pm : ((∃ c, c < n ∧ 0 < nd c ∧ ¬ p (2 ^ c) = true) ∧ vm = -1 ∧ ∃ F', z_kp F F' ∧ F' 0 14 = 0 ∧ hm = (F', G, rfM)) ∨ ((∀ c, c < n → 0 < nd c → p (2 ^ c) = true) ∧ ((z_enc nd 10 = 0 ∧ vm = 0 ∧ ∃ F', z_kp (q_up F 0 13 0) F' ∧ F' 0 14 = 0 ∧ hm = (F', G, rfM)) ∨ (¬ z_enc nd 10 = 0 ∧ ((R.1 = 1 ∧ vm = nI (b_d R.2.2.2.2.2.1 R.2.1 + 1) ∧ ∃ F', z_kp (va_up (q_up F 0 13 (nI (b_d R.2.2.2.2.2.1 R.2.1 + 1))) 29 (b_l R.2.2.2.2.2.1 R.2.2.2.2.2.2 (va_up (F 29) (b_d R.2.2.2.2.2.1 R.2.1) (nI R.2.2.1)) R.2.1 (b_d R.2.2.2.2.2.1 R.2.1))) F' ∧ F' 0 14 = nI R.2.2.2.1 ∧ hm = (F', G, rfM)) ∨ (R.1 = 2 ∧ vm = -4 ∧ ∃ F', z_kp F F' ∧ F' 0 14 = nI R.2.2.2.1 ∧ hm = (F', G, rfM)) ∨ R.1 = 3))))) : vx = some (.int vm) ∧ x_Q al2 hx hm := by
  have hnz : z_enc nd 10 = 0 → ∀ c, c < n → ¬ 0 < nd c := fun q c hc h0 => by
    have := z_enc_0 q c (by have := h.n10; omega)
    omega
  have kk : ∀ {F2 : Nat → Nat → Int32}, z_kp F F2 → (∀ k, k ≠ 13 → k ≠ 14 → k ≠ 46 → F2 0 k = F 0 k) ∧ (∀ a, a = 1 ∨ a = 2 ∨ (15 ≤ a ∧ a ≤ 28) ∨ a = 30 → F2 a = F a) ∧ F2 0 13 = F 0 13 ∧ F2 0 46 = F 0 46 ∧ F2 29 = F 29 ∧ F2 45 = F 45 := fun hk => ⟨fun k _ k14 _ => hk.2 k k14, fun a ha => hk.1 a (by omega) (by omega), hk.2 13 (by decide), hk.2 46 (by decide), hk.1 29 (by decide) (by omega), hk.1 45 (by decide) (by omega)⟩
  rcases px with ⟨c, rfl, rfl, rfl⟩ | ⟨c, ⟨j, j1, j2, j3⟩, rfl, rfl, rfl⟩ | ⟨c, hall, rfl, fX, gX, hkX, h10, hcase, rfl⟩
  · rcases pm with ⟨⟨j, j1, j2, -⟩, -⟩ | ⟨-, ⟨-, rfl, F2, hk, h14, rfl⟩ | ⟨d, -⟩⟩
    · exact absurd j2 (hnz c j j1)
    · refine ⟨rfl, x_R.Q (t := t) ?_⟩
      have e0 : ∀ k, k ≠ 13 → k ≠ 14 → F2 0 k = F 0 k := fun k k13 k14 => by rw [hk.2 k k14]; exact q_upz k13
      have eA : ∀ a, a ≠ 0 → a < 34 ∨ 41 < a → F2 a = F a := fun a a0 ar => by rw [hk.1 a a0 ar]; exact q_up_ne a0
      refine x_keep h (fun k hk => (q_upz hk : q_up f 0 10 0 0 k = f 0 k)) (by rw [h14]; rfl) rfl ⟨0, by decide, rfl, by rw [hk.2 13 (by decide)]; rfl, fun i hi => absurd hi (Nat.not_lt_zero i)⟩ rfl rfl rfl rfl h.x13 (fun c hc => by rw [q_up_ne (by omega), q_up_ne (by omega)]) (fun c hc => by rw [q_up_ne (by omega), q_up_ne (by omega)]) (fun _ _ => rfl) (fun _ _ => rfl) (fun k k13 k14 _ => e0 k k13 k14) (fun a ha => eA a (by omega) (by omega)) (by rw [e0 46 (by decide) (by decide), eA 45 (by decide) (by omega)]; exact h.dig) h.x11
    · exact absurd c d
  · rcases pm with ⟨-, rfl, F2, hk, h14, rfl⟩ | ⟨d, -⟩
    · refine ⟨rfl, x_R.Q (t := t) ?_⟩
      obtain ⟨a1, a2, a3, a4, a5, a6⟩ := kk hk
      refine x_keep h (fun k hk => (q_upz hk : q_up f 0 10 0 0 k = f 0 k)) (by rw [h14]; rfl) rfl (by rw [a3, a5]; exact h.frm) rfl rfl rfl rfl h.x13 (fun c hc => q_up_ne (by omega)) (fun c hc => q_up_ne (by omega)) (fun _ _ => rfl) (fun _ _ => rfl) a1 a2 (by rw [a4, a6]; exact h.dig) h.x11
    · exact absurd (d j j1 j2) j3
  · obtain ⟨bk, hR12, hR1⟩ := hRb c hall
    have kX : ∀ a, a ≠ 0 → a ≠ 2 → a ≠ 4 → a ≠ 5 → a ≠ 11 → a ≠ 12 → a < 21 ∨ 27 < a → fX a = f a := hkX.1
    rcases pm with ⟨⟨j, j1, j2, j3⟩, -⟩ | ⟨-, ⟨d, -⟩ | ⟨-, ⟨e1, rfl, F2, hk, h14, rfl⟩ | ⟨e1, rfl, F2, hk, h14, rfl⟩ | e1⟩⟩
    · exact absurd (hall j j1 j2) j3
    · exact absurd d c
    · rcases hcase with ⟨-, rfl, h41, h21⟩ | ⟨e2, -⟩
      · refine ⟨rfl, x_R.Q (t := t) ?_⟩
        obtain ⟨ha, ht, hd⟩ := hR1 e1
        have f13 : F2 0 13 = nI (b_d R.2.2.2.2.2.1 R.2.1 + 1) := by rw [hk.2 13 (by decide), va_up_n (by decide)]; exact q_ups
        have f29 : F2 29 = b_l R.2.2.2.2.2.1 R.2.2.2.2.2.2 (va_up (F 29) (b_d R.2.2.2.2.2.1 R.2.1) (nI R.2.2.1)) R.2.1 (b_d R.2.2.2.2.2.1 R.2.1) := by rw [hk.1 29 (by decide) (by omega)]; exact va_up_s
        have e0 : ∀ k, k ≠ 13 → k ≠ 14 → F2 0 k = F 0 k := fun k k13 k14 => by rw [hk.2 k k14]; exact (q_upz k13 : q_up F 0 13 _ 0 k = F 0 k)
        have eA : ∀ a, a ≠ 0 → a ≠ 29 → a < 34 ∨ 41 < a → F2 a = F a := fun a a0 a29 ar => by rw [hk.1 a a0 ar, va_up_n a29, q_up_ne a0]
        have hfr : r_F n (fX 4 1) (fX 21) (F2 0 13) (F2 29) := by
          rw [h41, h21, f13, f29]
          refine ⟨b_d R.2.2.2.2.2.1 R.2.1 + 1, by omega, rfl, rfl, ?_⟩
          exact b_l_rel (N := R.2.2.2.1) (fun j h1 h2 => (bk.2.2 j h1 h2).1) (B := 2 ^ n) (fun j h1 h2 => hB.1 j h1 h2) _ _ _ _ rfl ha (fun i h1 h2 => by
            rw [show i = b_d R.2.2.2.2.2.1 R.2.1 by omega, va_up_s, va_up_s]
            exact ⟨rfl, R.2.2.1, hB.2 e1, rfl⟩)
        exact x_keep h hkX.2.1 (by rw [h10, h14]) (kX 1 (by decide) (by decide) (by decide) (by decide) (by decide) (by decide) (by omega)) hfr (kX 9 (by decide) (by decide) (by decide) (by decide) (by decide) (by decide) (by omega)) (kX 10 (by decide) (by decide) (by decide) (by decide) (by decide) (by decide) (by omega)) (kX 19 (by decide) (by decide) (by decide) (by decide) (by decide) (by decide) (by omega)) (kX 20 (by decide) (by decide) (by decide) (by decide) (by decide) (by decide) (by omega)) (by rw [kX 13 (by decide) (by decide) (by decide) (by decide) (by decide) (by decide) (by omega)]; exact h.x13) (fun c _ => kX _ (by omega) (by omega) (by omega) (by omega) (by omega) (by omega) (by omega)) (fun c _ => kX _ (by omega) (by omega) (by omega) (by omega) (by omega) (by omega) (by omega)) (fun c _ => hkX.2.2.2 _ (by omega) (by omega)) (fun S hS => hkX.2.2.2 _ (by omega) (by omega)) (fun k k13 k14 _ => e0 k k13 k14) (fun a ha => eA a (by omega) (by omega) (by omega)) (by rw [kX 32 (by decide) (by decide) (by decide) (by decide) (by decide) (by decide) (by omega), e0 46 (by decide) (by decide), eA 45 (by decide) (by decide) (by omega)]; exact h.dig) (fun s h1 h2 => by rw [hkX.2.2.1 s h1]; exact h.x11 s h1 h2)
      · omega
    · rcases hcase with ⟨e2, -⟩ | ⟨-, rfl, h41, h21⟩
      · omega
      · refine ⟨rfl, x_R.Q (t := t) ?_⟩
        obtain ⟨a1, a2, a3, a4, a5, a6⟩ := kk hk
        exact x_keep h hkX.2.1 (by rw [h10, h14]) (kX 1 (by decide) (by decide) (by decide) (by decide) (by decide) (by decide) (by omega)) (by rw [h41, h21, a3, a5]; exact h.frm) (kX 9 (by decide) (by decide) (by decide) (by decide) (by decide) (by decide) (by omega)) (kX 10 (by decide) (by decide) (by decide) (by decide) (by decide) (by decide) (by omega)) (kX 19 (by decide) (by decide) (by decide) (by decide) (by decide) (by decide) (by omega)) (kX 20 (by decide) (by decide) (by decide) (by decide) (by decide) (by decide) (by omega)) (by rw [kX 13 (by decide) (by decide) (by decide) (by decide) (by decide) (by decide) (by omega)]; exact h.x13) (fun c _ => kX _ (by omega) (by omega) (by omega) (by omega) (by omega) (by omega) (by omega)) (fun c _ => kX _ (by omega) (by omega) (by omega) (by omega) (by omega) (by omega) (by omega)) (fun c _ => hkX.2.2.2 _ (by omega) (by omega)) (fun S hS => hkX.2.2.2 _ (by omega) (by omega)) a1 a2 (by rw [kX 32 (by decide) (by decide) (by decide) (by decide) (by decide) (by decide) (by omega), a4, a6]; exact h.dig) (fun s h1 h2 => by rw [hkX.2.2.1 s h1]; exact h.x11 s h1 h2)
    · omega
end RF
