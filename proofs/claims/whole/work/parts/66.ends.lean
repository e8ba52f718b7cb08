/-! the search ends, and not too deep -/
theorem b_max {P : Nat → Prop} : ∀ {N : Nat}, (∃ t, t < N ∧ P t) → ∃ t, t < N ∧ P t ∧ ∀ s, s < N → P s → s ≤ t
  | 0, ⟨t, h, _⟩ => absurd h (Nat.not_lt_zero t)
  | N + 1, ⟨t, h, hP⟩ => by
    by_cases e : P N
    · exact ⟨N, Nat.lt_succ_self N, e, fun s hs _ => by omega⟩
    · have ht : t < N := by
        rcases Nat.lt_or_eq_of_le (Nat.lt_succ_iff.mp h) with q | q
        · exact q
        · subst q; exact absurd hP e
      obtain ⟨u, h1, h2, h3⟩ := b_max (P := P) (N := N) ⟨t, ht, hP⟩
      exact ⟨u, by omega, h2, fun s hs hs2 => by
        rcases Nat.lt_or_eq_of_le (Nat.lt_succ_iff.mp hs) with q | q
        · exact h3 s q hs2
        · subst q; exact absurd hs2 e⟩
theorem b_ex {n l : Nat} {p : Nat → Bool} (h10 : n ≤ 10) (hlc : ∃ c, c < n ∧ l.testBit c = true) (hlg : ∀ c, c < n → l.testBit c = true → p (2 ^ c) = true) : ∃ t, 1 ≤ t ∧ t < 2 ^ n ∧ z_wh n p l t := by
  obtain ⟨c, hc, hb⟩ := hlc
  have h0 : ∃ t, t < 2 ^ n ∧ (¬ t = 0 ∧ (∀ i, i < 10 → t.testBit i = true → l.testBit i = true) ∧ p t = true) := by
    refine ⟨2 ^ c, Nat.pow_lt_pow_right (by decide) hc, Nat.ne_of_gt (Nat.pow_pos (by decide)), fun i _ hi => ?_, hlg c hc hb⟩
    rw [Nat.testBit_two_pow] at hi
    have : c = i := of_decide_eq_true hi
    subst this
    exact hb
  obtain ⟨t, h1, ⟨h2, h3, h4⟩, h5⟩ := b_max h0
  refine ⟨t, by omega, h1, h2, h3, h4, fun d hd hld htd hp => ?_⟩
  have hol := q_or_lt h1 hd
  have hle := h5 (t ||| 2 ^ d) hol ⟨fun q => h2 (Nat.eq_zero_of_le_zero (q ▸ Nat.left_le_or)), fun i hi hb => ?_, hp⟩
  · have e : t ||| 2 ^ d = t := Nat.le_antisymm hle Nat.left_le_or
    apply htd
    have : (t ||| 2 ^ d).testBit d = true := by rw [Nat.testBit_or, Nat.testBit_two_pow_self, Bool.or_true]
    rw [e] at this
    exact this
  · rw [Nat.testBit_or, Bool.or_eq_true] at hb
    rcases hb with q | q
    · exact h3 i hi q
    · rw [Nat.testBit_two_pow] at q
      have : d = i := of_decide_eq_true q
      subst this
      exact hld
theorem b_dep_congr {fr fs : Nat → Nat} {N : Nat} (hf : ∀ j, 0 < j → j < N → fr j < j) (he : ∀ j, j < N → fr j = fs j) : ∀ (m k : Nat), k < N → b_dep fr m k = b_dep fs m k
  | 0, _, _ => rfl
  | m + 1, k, hk => by
    rw [b_dep, b_dep]
    by_cases e : k = 0
    · rw [if_pos e, if_pos e]
    · rw [if_neg e, if_neg e, ← he k hk]
      have := hf k (by omega) hk
      rw [b_dep_congr hf he m (fr k) (by omega)]
theorem z_sm_congr {v u : Nat → Nat} : ∀ {k : Nat}, (∀ c, c < k → v c = u c) → z_sm v k = z_sm u k
  | 0, _ => rfl
  | k + 1, h => by rw [z_sm, z_sm, z_sm_congr (fun c hc => h c (by omega)), h k (by omega)]
theorem z_sm_sub {v b : Nat → Nat} : ∀ {k : Nat}, (∀ c, c < k → b c ≤ v c) → z_sm (fun c => v c - b c) k + z_sm b k = z_sm v k
  | 0, _ => rfl
  | k + 1, h => by
    have h1 := h k (by omega)
    have h2 := z_sm_sub (v := v) (b := b) (k := k) (fun c hc => h c (by omega))
    rw [z_sm, z_sm, z_sm]
    omega
theorem z_sm_bt {t : Nat} (ht : t < 1024) (h0 : ¬ t = 0) : 0 < z_sm (z_bt t) 10 := by
  rcases Nat.eq_zero_or_pos (z_sm (z_bt t) 10) with q | q
  · exfalso
    have hz := z_sm_0.mp q
    apply h0
    apply Nat.eq_of_testBit_eq
    intro i
    rw [Nat.zero_testBit]
    by_cases hi : i < 10
    · have := hz i hi
      unfold z_bt at this
      split at this
      · exact absurd this (by decide)
      · rename_i hb; exact Bool.eq_false_iff.mpr hb
    · exact q_tb10 ht (by omega)
  · exact q
abbrev b_iv (n e0 : Nat) (S : BS) : Prop := b_ok n e0 S ∧ ∀ j, j < S.1 → z_sm (dg (S.2.1 j)) 10 + b_d S.2.2.1 j ≤ 90
theorem b_iv_psh {n e0 : Nat} {S : BS} {a t : Nat} (hn : n ≤ 10) (h : b_iv n e0 S) (ha : a < S.1) (ht : t < 1024) (ht0 : ¬ t = 0) (hw : ∀ i, i < 10 → t.testBit i = true → (z_lk (S.2.1 a) 10).testBit i = true) (h0 : ¬ S.2.1 a - z_on t = 0) (h5 : ¬ S.1 = 5000) : b_iv n e0 (b_psh S (S.2.1 a - z_on t) a t) := by
  have hok := b_ok_psh hn h.1 ha ht hw h0 h5
  refine ⟨hok, fun j hj => ?_⟩
  have hj' : j < S.1 + 1 := hj
  have hx := z_next hn (h.1.2.1 a ha).1 hw
  have hf : ∀ j, 0 < j → j < S.1 → S.2.2.1 j < j := fun j h1 h2 => (h.1.2.2 j h1 h2).1
  have hcg : ∀ m k, k < S.1 → b_dep S.2.2.1 m k = b_dep (va_up S.2.2.1 S.1 a) m k := fun m k hk => b_dep_congr hf (fun j hj => (va_up_n (by omega)).symm) m k hk
  have hcd : ∀ k, k < S.1 → b_d S.2.2.1 k = b_d (va_up S.2.2.1 S.1 a) k := fun k hk => hcg _ k hk
  show z_sm (dg (va_up S.2.1 S.1 (S.2.1 a - z_on t) j)) 10 + b_d (va_up S.2.2.1 S.1 a) j ≤ 90
  by_cases e : j = S.1
  · subst e
    rw [va_up_s]
    have hf2 : ∀ j, 0 < j → j < S.1 + 1 → va_up S.2.2.1 S.1 a j < j := fun j h1 h2 => (hok.2.2 j h1 h2).1
    have hd := b_d_s hf2 (show 0 < S.1 by omega) (Nat.lt_succ_self _)
    rw [hd, va_up_s, ← hcd a ha]
    have e1 := z_sm_congr hx.1
    have e2 := z_sm_sub hx.2.2.2
    have e3 := z_sm_bt ht ht0
    have e4 := h.2 a ha
    omega
  · rw [va_up_n e, ← hcd j (by omega)]
    exact h.2 j (by omega)
theorem b_one_f {n e0 : Nat} {p : Nat → Bool} {S : BS} {a t : Nat} (hn : n ≤ 10) (h : b_iv n e0 S) (ha : a < S.1) (ht : t < 1024) : b_iv n e0 (b_one n p a t S).2 ∧ S.1 ≤ (b_one n p a t S).2.1 ∧ (∀ j, j < S.1 → (b_one n p a t S).2.2.1 j = S.2.1 j) ∧ ((b_one n p a t S).1 = 0 → z_wh n p (z_lk (S.2.1 a) 10) t → b_in (b_one n p a t S).2 (S.2.1 a - z_on t)) ∧ ((b_one n p a t S).1 = 0 ∨ (b_one n p a t S).1 = 1 ∨ (b_one n p a t S).1 = 2) := by
  unfold b_one
  split
  · rename_i hw
    split
    · exact ⟨h, Nat.le_refl _, fun _ _ => rfl, fun q => absurd q (show ¬ (1 : Nat) = 0 by decide), Or.inr (Or.inl rfl)⟩
    · rename_i h0
      split
      · rename_i hin
        exact ⟨h, Nat.le_refl _, fun _ _ => rfl, fun _ _ => hin, Or.inl rfl⟩
      · split
        · exact ⟨h, Nat.le_refl _, fun _ _ => rfl, fun q => absurd q (show ¬ (2 : Nat) = 0 by decide), Or.inr (Or.inr rfl)⟩
        · rename_i h5
          exact ⟨b_iv_psh hn h ha ht hw.1 hw.2.1 h0 h5, Nat.le_succ _, fun j hj => va_up_n (by omega), fun _ _ => ⟨S.1, Nat.lt_succ_self _, va_up_s⟩, Or.inl rfl⟩
  · rename_i hw
    exact ⟨h, Nat.le_refl _, fun _ _ => rfl, fun _ q => absurd q hw, Or.inl rfl⟩
theorem b_in_mono {S T : BS} (h1 : S.1 ≤ T.1) (h2 : ∀ j, j < S.1 → T.2.1 j = S.2.1 j) {x : Nat} (h : b_in S x) : b_in T x := by
  obtain ⟨j, hj, e⟩ := h
  exact ⟨j, by omega, by rw [h2 j hj]; exact e⟩
theorem b_row_f {n e0 : Nat} {p : Nat → Bool} {a : Nat} (hn : n ≤ 10) : ∀ (m t : Nat) (S : BS), t + m ≤ 1024 → b_iv n e0 S → a < S.1 → b_iv n e0 (b_row n p a m t S).2.2 ∧ S.1 ≤ (b_row n p a m t S).2.2.1 ∧ (∀ j, j < S.1 → (b_row n p a m t S).2.2.2.1 j = S.2.1 j) ∧ ((b_row n p a m t S).1 = 0 → ∀ t', t ≤ t' → t' < t + m → z_wh n p (z_lk (S.2.1 a) 10) t' → b_in (b_row n p a m t S).2.2 (S.2.1 a - z_on t')) ∧ ((b_row n p a m t S).1 = 0 ∨ (((b_row n p a m t S).1 = 1 ∨ (b_row n p a m t S).1 = 2) ∧ (b_row n p a m t S).2.1 < 1024))
  | 0, t, S, ht, h, ha => by
    rw [b_row]
    exact ⟨h, Nat.le_refl _, fun _ _ => rfl, fun _ t' h1 h2 => absurd h2 (by omega), Or.inl rfl⟩
  | m + 1, t, S, ht, h, ha => by
    obtain ⟨o1, o2, o3, o4, o5⟩ := b_one_f (p := p) hn h ha (show t < 1024 by omega)
    rw [b_row]
    by_cases e : (b_one n p a t S).1 = 0
    · rw [if_pos e]
      obtain ⟨r1, r2, r3, r4, r5⟩ := b_row_f (p := p) hn m (t + 1) (b_one n p a t S).2 (by omega) o1 (Nat.lt_of_lt_of_le ha o2)
      refine ⟨r1, Nat.le_trans o2 r2, fun j hj => by rw [r3 j (Nat.lt_of_lt_of_le hj o2), o3 j hj], fun q t' h1 h2 hw => ?_, r5⟩
      rw [o3 a ha] at r4
      by_cases et : t' = t
      · subst et; exact b_in_mono r2 r3 (o4 e hw)
      · exact r4 q t' (by omega) (by omega) hw
    · rw [if_neg e]
      exact ⟨o1, o2, o3, fun q => absurd q e, Or.inr ⟨o5.resolve_left e, by show t < 1024; omega⟩⟩
/-- the whole search -/
theorem b_all_f {n e0 : Nat} {p : Nat → Bool} (hn : n ≤ 10) (hlg : ∀ c, c < n → 0 < dg e0 c → p (2 ^ c) = true) : ∀ (M a : Nat) (S : BS), a + M = 5001 → b_iv n e0 S → (∀ j, j < a → j < S.1 → ∀ t, 1 ≤ t → t < 2 ^ n → z_wh n p (z_lk (S.2.1 j) 10) t → b_in S (S.2.1 j - z_on t)) →
    b_iv n e0 (b_all n p M a S).2.2.2 ∧ ((b_all n p M a S).1 = 1 ∨ (b_all n p M a S).1 = 2) ∧ ((b_all n p M a S).1 = 1 → (b_all n p M a S).2.1 < (b_all n p M a S).2.2.2.1 ∧ (b_all n p M a S).2.2.1 < 1024) := by
  have p10 : 2 ^ n ≤ 2 ^ 10 := Nat.pow_le_pow_right (by decide) hn
  have h2n : 0 < 2 ^ n := Nat.pow_pos (by decide)
  have hexh : ∀ (S : BS), b_iv n e0 S → (∀ j, j < S.1 → ∀ t, 1 ≤ t → t < 2 ^ n → z_wh n p (z_lk (S.2.1 j) 10) t → b_in S (S.2.1 j - z_on t)) → False := by
    intro S h hall
    have key : ∀ v, ∀ j, j < S.1 → S.2.1 j = v → False := by
      intro v
      induction v using Nat.strongRecOn with
      | ind v ih =>
        intro j hj hv
        obtain ⟨h1, h2, h3⟩ := h.1.2.1 j hj
        obtain ⟨t, t1, t2, hw⟩ := b_ex (p := p) hn (z_lk_ne hn h1 h2) (fun c hc hb => by
          rw [z_lk_bit] at hb
          simp only [Bool.and_eq_true, decide_eq_true_eq] at hb
          have := h3 c
          exact hlg c hc (by omega))
        obtain ⟨i, hi, ei⟩ := hall j hj t t1 t2 hw
        have hp := z_on_pos (show t < 1024 by omega) hw.1
        have hle := (z_next hn h1 hw.2.1).2.2.1
        exact ih (S.2.1 i) (by omega) i hi rfl
    exact key _ 0 (by have := h.1.1.1; omega) rfl
  intro M
  induction M with
  | zero =>
    intro a S haM h hall
    exact absurd (hexh S h (fun j hj => hall j (by have := h.1.1.2; omega) hj)) id
  | succ M ih =>
    intro a S haM h hall
    by_cases ha : a < S.1
    · rw [b_all, if_pos ha]
      obtain ⟨r1, r2, r3, r4, r5⟩ := b_row_f (p := p) hn (2 ^ n - 1) 1 S (by omega) h ha
      by_cases e : (b_row n p a (2 ^ n - 1) 1 S).1 = 0
      · rw [if_pos e]
        refine ih (a + 1) _ (by omega) r1 (fun j hj hj2 t t1 t2 hw => ?_)
        by_cases ej : j = a
        · subst ej
          rw [r3 j ha] at hw ⊢
          exact r4 e t t1 (by omega) hw
        · have hjS : j < S.1 := by omega
          rw [r3 j hjS] at hw ⊢
          exact b_in_mono r2 r3 (hall j (by omega) hjS t t1 t2 hw)
      · rw [if_neg e]
        have r6 := r5.resolve_left e
        exact ⟨r1, r6.1, fun _ => ⟨Nat.lt_of_lt_of_le ha r2, r6.2⟩⟩
    · exact absurd (hexh S h (fun j hj => hall j (by omega) hj)) id
theorem b_iv0 {n e0 : Nat} (h : b_ok n e0 (b_S0 e0)) (h9 : ∀ c, dg e0 c ≤ 9) : b_iv n e0 (b_S0 e0) := by
  have e1 : (b_S0 e0).2.1 0 = e0 := rfl
  have e2 : b_d (b_S0 e0).2.2.1 0 = 0 := b_d_0
  have e3 : (b_S0 e0).1 = 1 := rfl
  have hs := z_sm_le (v := dg e0) (B := 9) (k := 10) (fun c _ => h9 c)
  refine ⟨h, fun j hj => ?_⟩
  rw [e3] at hj
  have e : j = 0 := by omega
  subst e
  rw [e1, e2]
  exact hs
theorem b_Rend {n e0 : Nat} {S : BS} {a : Nat} (hn : n ≤ 10) (h : b_iv n e0 S) (ha : a < S.1) : b_d S.2.2.1 a ≤ 89 := by
  have h3 := h.2 a ha
  have h4 := h.1.2.1 a ha
  have h5 : 0 < z_sm (dg (S.2.1 a)) 10 := by
    rcases Nat.eq_zero_or_pos (z_sm (dg (S.2.1 a)) 10) with z | z
    · have := (dg_all0 hn h4.1).mpr (fun c hc => z_sm_0.mp z c (by omega))
      omega
    · exact z
  generalize z_sm (dg (S.2.1 a)) 10 = y at *
  generalize b_d S.2.2.1 a = x at *
  omega
theorem b_R0 {n e0 M : Nat} {p : Nat → Bool} {R : Nat × Nat × Nat × BS} (hM : 0 + M = 5001) (hn : n ≤ 10) (hb : b_iv n e0 (b_S0 e0)) (hlg : ∀ c, c < n → 0 < dg e0 c → p (2 ^ c) = true) (hR : b_all n p M 0 (b_S0 e0) = R) : b_ok n e0 R.2.2.2 ∧ (R.1 = 1 ∨ R.1 = 2) ∧ (R.1 = 1 → R.2.1 < R.2.2.2.1 ∧ R.2.2.1 < 1024 ∧ b_d R.2.2.2.2.2.1 R.2.1 ≤ 89) := by
  generalize b_S0 e0 = S0 at hb hR
  have h := b_all_f (p := p) (e0 := e0) hn hlg M 0 S0 hM hb (fun j hj => absurd hj (Nat.not_lt_zero j))
  rw [hR] at h
  refine ⟨h.1.1, h.2.1, fun q => ?_⟩
  obtain ⟨h1, h2⟩ := h.2.2 q
  exact ⟨h1, h2, b_Rend hn h.1 h1⟩
theorem b_R {n M : Nat} (hM : 0 + M = 5001) {nd : Nat → Nat} {p : Nat → Bool} {R : Nat × Nat × Nat × BS} (hn : n ≤ 10) (h9 : ∀ c, c < n → nd c ≤ 9) (h0 : ∀ c, n ≤ c → nd c = 0) (hne : ¬ z_enc nd 10 = 0) (hlg : ∀ c, c < n → 0 < nd c → p (2 ^ c) = true) (hR : b_all n p M 0 (b_S0 (z_enc nd 10)) = R) : b_ok n (z_enc nd 10) R.2.2.2 ∧ (R.1 = 1 ∨ R.1 = 2) ∧ (R.1 = 1 → R.2.1 < R.2.2.2.1 ∧ R.2.2.1 < 1024 ∧ b_d R.2.2.2.2.2.1 R.2.1 ≤ 89) := by
  obtain ⟨he0, hdg0⟩ := z_e0 hn h9 h0
  generalize z_enc nd 10 = e0 at he0 hdg0 hne hR ⊢
  refine b_R0 hM hn (b_iv0 (b_ok0 he0 hne) (fun c => ?_)) (fun c hc h1 => hlg c hc (by rw [hdg0] at h1; exact h1)) hR
  rw [hdg0]
  rcases Nat.lt_or_ge c n with q | q
  · exact h9 c q
  · rw [h0 c q]; decide
