/-! the reference: fewest -/
abbrev z_kp (f F : Nat → Nat → Int32) : Prop := (∀ a, a ≠ 0 → a < 34 ∨ 41 < a → F a = f a) ∧ ∀ k, k ≠ 14 → F 0 k = f 0 k
abbrev z_MI (n : Nat) (S : BS) (F : Nat → Nat → Int32) : Prop := F 0 14 = nI S.1 ∧ (∀ j, j < S.1 → ∀ c, c < n → F 34 (10 * j + c) = nI (dg (S.2.1 j) c)) ∧ (∀ j, j < S.1 → F 35 j = z_hs (fun c => nI (dg (S.2.1 j) c)) n) ∧ (∀ j, j < S.1 → F 36 j = if j = 0 then -1 else nI (S.2.2.1 j)) ∧ (∀ j, 0 < j → j < S.1 → F 37 j = nI (S.2.2.2 j)) ∧ z_ch S.1 F
def z_layF (n : Nat) (f : Nat → Nat → Int32) (K : Nat) (v wc st : Int32) : Nat → Nat → Int32 := q_up (q_up (q_up (q_up (q_up (q_up (q_fill f 34 (10 * K) n (f 38)) 35 K v) 36 K wc) 37 K st) 40 K (f 39 (z_h13 v))) 39 (z_h13 v) (nI K)) 0 14 (nI (K + 1))
theorem z_MI_lay {n : Nat} {S : BS} {F : Nat → Nat → Int32} {x a t : Nat} {v wc st : Int32} (h10 : n ≤ 10) (h : z_MI n S F) (h38 : ∀ c, c < n → F 38 c = nI (dg x c)) (hv : v = z_hs (fun c => nI (dg x c)) n) (hwc : wc = if S.1 = 0 then -1 else nI a) (hst : 0 < S.1 → st = nI t) : z_MI n (b_psh S x a t) (z_layF n F S.1 v wc st) := by
  obtain ⟨h1, h2, h3, h4, h5, h6, h7⟩ := h
  have r35 : z_layF n F S.1 v wc st 35 = va_up (F 35) S.1 v := rfl
  have r36 : z_layF n F S.1 v wc st 36 = va_up (F 36) S.1 wc := rfl
  have r37 : z_layF n F S.1 v wc st 37 = va_up (F 37) S.1 st := rfl
  have r40 : z_layF n F S.1 v wc st 40 = va_up (F 40) S.1 (F 39 (z_h13 v)) := rfl
  have r39 : z_layF n F S.1 v wc st 39 = va_up (F 39) (z_h13 v) (nI S.1) := rfl
  have r34 : z_layF n F S.1 v wc st 34 = q_fill F 34 (10 * S.1) n (F 38) 34 := rfl
  have hlt : ∀ j, j < S.1 + 1 → j ≠ S.1 → j < S.1 := fun j h1 h2 => by omega
  have hcg : ∀ m, m ≤ S.1 → ∀ h, z_nx (fun j => z_h13 (va_up (F 35) S.1 v j)) h m = z_nx (fun j => z_h13 (F 35 j)) h m := fun m hm h => z_nx_congr (fun j hj => by rw [va_up_n (by omega)])
  refine ⟨q_ups, fun j hj c hc => ?_, fun j hj => ?_, fun j hj => ?_, fun j hj0 hj => ?_, fun h hh => ?_, fun j hj => ?_⟩
  · rw [r34]
    show _ = nI (dg (va_up S.2.1 S.1 x j) c)
    by_cases e : j = S.1
    · subst e; rw [va_up_s, q_fill_in (by omega) (by omega), Nat.add_sub_cancel_left, h38 c hc]
    · rw [va_up_n e, q_fill_out (by have := hlt j hj e; omega)]
      exact h2 j (hlt j hj e) c hc
  · rw [r35]
    show _ = z_hs (fun c => nI (dg (va_up S.2.1 S.1 x j) c)) n
    by_cases e : j = S.1
    · subst e; rw [va_up_s, va_up_s, hv]
    · rw [va_up_n e, va_up_n e]; exact h3 j (hlt j hj e)
  · rw [r36]
    show _ = if j = 0 then -1 else nI (va_up S.2.2.1 S.1 a j)
    by_cases e : j = S.1
    · subst e; rw [va_up_s, va_up_s, hwc]
    · rw [va_up_n e, va_up_n e]; exact h4 j (hlt j hj e)
  · rw [r37]
    show _ = nI (va_up S.2.2.2 S.1 t j)
    by_cases e : j = S.1
    · subst e; rw [va_up_s, va_up_s, hst hj0]
    · rw [va_up_n e, va_up_n e]; exact h5 j hj0 (hlt j hj e)
  · rw [r39, r35]
    show _ = z_nx (fun j => z_h13 (va_up (F 35) S.1 v j)) h (S.1 + 1)
    rw [z_nx, va_up_s]
    by_cases e : h = z_h13 v
    · subst e; rw [va_up_s, if_pos rfl]
    · rw [va_up_n e, if_neg (fun q => e q.symm), hcg _ (Nat.le_refl _), h6 h hh]
  · rw [r40, r35]
    by_cases e : j = S.1
    · subst e; rw [va_up_s, va_up_s, hcg _ (Nat.le_refl _), h6 _ (z_h13_s v).2]
    · rw [va_up_n e, va_up_n e, hcg _ (by have := hlt j hj e; omega)]
      exact h7 j (hlt j hj e)
def z_sm (v : Nat → Nat) : Nat → Nat
  | 0 => 0
  | k + 1 => z_sm v k + v k
theorem z_sm_0 {v : Nat → Nat} : ∀ {k : Nat}, z_sm v k = 0 ↔ ∀ c, c < k → v c = 0
  | 0 => ⟨fun _ c hc => absurd hc (Nat.not_lt_zero c), fun _ => rfl⟩
  | k + 1 => by
    rw [z_sm]
    constructor
    · intro h c hc
      by_cases e : c = k
      · subst e; omega
      · exact z_sm_0.mp (show z_sm v k = 0 by omega) c (by omega)
    · intro h
      have h1 := z_sm_0.mpr (fun c hc => h c (Nat.lt_succ_of_lt hc) : ∀ c, c < k → v c = 0)
      have h2 := h k (Nat.lt_succ_self k)
      omega
theorem z_sm_le {v : Nat → Nat} {B : Nat} : ∀ {k : Nat}, (∀ c, c < k → v c ≤ B) → z_sm v k ≤ k * B
  | 0, _ => Nat.zero_le _
  | k + 1, h => by
    rw [z_sm, Nat.succ_mul]
    have h1 := z_sm_le (v := v) (B := B) (k := k) (fun c hc => h c (by omega))
    have := h k (by omega)
    omega
theorem q_sum_nI {a : Nat → Int32} {v : Nat → Nat} : ∀ {k : Nat}, (∀ c, c < k → a c = nI (v c)) → q_sum a k = nI (z_sm v k)
  | 0, _ => rfl
  | k + 1, h => by rw [q_sum, z_sm, q_sum_nI (fun c hc => h c (by omega)), h k (by omega), nI_add]
/-- the first state -/
theorem z_e0 {n : Nat} {nd : Nat → Nat} (h10 : n ≤ 10) (h9 : ∀ c, c < n → nd c ≤ 9) (h0 : ∀ c, n ≤ c → nd c = 0) : z_enc nd 10 < 16 ^ n ∧ (∀ c, dg (z_enc nd 10) c = nd c) := by
  have h16 : ∀ c, nd c < 16 := fun c => by
    rcases Nat.lt_or_ge c n with q | q
    · have := h9 c q; omega
    · rw [h0 c q]; decide
  have e : ∀ d, z_enc nd (n + d) = z_enc nd n := by
    intro d
    induction d with
    | zero => rfl
    | succ d ih => rw [show n + (d + 1) = (n + d) + 1 from rfl, z_enc, ih, h0 (n + d) (by omega), Nat.zero_mul, Nat.add_zero]
  obtain ⟨d, hd⟩ : ∃ d, 10 = n + d := ⟨10 - n, by omega⟩
  have e1 : z_enc nd 10 = z_enc nd n := by rw [hd]; exact e d
  have hlt : z_enc nd 10 < 16 ^ n := by rw [e1]; exact z_enc_lt (fun c _ => h16 c)
  refine ⟨hlt, fun c => ?_⟩
  by_cases hc : c < 10
  · exact z_enc_dg (fun c _ => h16 c) hc
  · rw [dg_big hlt (by omega), h0 c (by omega)]
theorem dg_all0 {x n : Nat} (h10 : n ≤ 10) (hx : x < 16 ^ n) : x = 0 ↔ ∀ c, c < n → dg x c = 0 :=
  ⟨fun h c _ => by rw [h]; exact dg_0 c, fun h => dg_ext hx (Nat.pow_pos (by decide)) (fun c hc => by rw [h c hc, dg_0])⟩
def b_S0 (e0 : Nat) : BS := b_psh (0, fun _ => 0, fun _ => 0, fun _ => 0) e0 0 0
def b_nxt (n : Nat) (p : Nat → Bool) (M a : Nat) (r : Nat × Nat × BS) : Nat × Nat × Nat × BS := if r.1 = 0 then b_all n p M (a + 1) r.2.2 else (r.1, a, r.2.1, r.2.2)
theorem b_ok0 {n e0 : Nat} (he : e0 < 16 ^ n) (h0 : ¬ e0 = 0) : b_ok n e0 (b_S0 e0) := by
  refine ⟨⟨Nat.le_refl _, by show 0 + 1 ≤ 5000; omega⟩, fun j hj => ?_, fun j h1 h2 => ?_⟩
  · have hj0 : j < 0 + 1 := hj
    have e : j = 0 := by omega
    subst e
    exact ⟨he, Nat.pos_of_ne_zero h0, fun c => Nat.le_refl _⟩
  · have hj0 : j < 0 + 1 := h2
    omega
theorem b_ok_psh_e {n e0 : Nat} {S : BS} {a t e : Nat} (hn : n ≤ 10) (h : b_ok n e0 S) (ha : a < S.1) (ht : t < 1024) (hw : ∀ i, i < 10 → t.testBit i = true → (z_lk e 10).testBit i = true) (h0 : ¬ e - z_on t = 0) (h5 : ¬ S.1 = 5000) (ee : S.2.1 a = e) : b_ok n e0 (b_psh S (e - z_on t) a t) := by
  subst ee
  exact b_ok_psh hn h ha ht hw h0 h5
theorem z_kp_lay {n K : Nat} {f F : Nat → Nat → Int32} {v wc st : Int32} (h : z_kp f F) : z_kp f (z_layF n F K v wc st) := by
  refine ⟨fun a h0 h1 => ?_, fun k hk => ?_⟩
  · unfold z_layF
    rw [q_up_ne h0, q_up_ne (by omega), q_up_ne (by omega), q_up_ne (by omega), q_up_ne (by omega), q_up_ne (by omega), q_fill_ne (by omega)]
    exact h.1 a h0 h1
  · unfold z_layF
    rw [q_upz hk]
    exact h.2 k hk
theorem z_kp_told {f F : Nat → Nat → Int32} {v : Int32} {fr by_ : Nat → Nat} {k i : Nat} {u : Int32} (h : z_kp f F) : z_kp (va_up (q_up f 0 13 v) 29 (b_l fr by_ (va_up (f 29) i u) k i)) (va_up (q_up F 0 13 v) 29 (b_l fr by_ (va_up (F 29) i u) k i)) := by
  refine ⟨fun a h0 h1 => ?_, fun k hk => ?_⟩
  · by_cases e : a = 29
    · subst e; rw [va_up_s, va_up_s, h.1 29 (by decide) (by decide)]
    · rw [va_up_n e, va_up_n e, q_up_ne h0, q_up_ne h0]; exact h.1 a h0 h1
  · show q_up F 0 13 v 0 k = q_up f 0 13 v 0 k
    by_cases e : k = 13
    · subst e; rw [q_ups, q_ups]
    · rw [q_upz e, q_upz e]; exact h.2 k hk
theorem z_kpA {f : Nat → Nat → Int32} {r : Nat → Int32} : z_kp f (va_up (q_up f 0 14 0) 41 r) := ⟨fun a h0 h1 => by rw [va_up_n (by omega), q_up_ne h0], fun k hk => (q_upz hk : q_up f 0 14 0 0 k = f 0 k)⟩
theorem z_kpB {f : Nat → Nat → Int32} {r : Nat → Int32} : z_kp (q_up f 0 13 0) (q_up (va_up (q_up f 0 14 0) 41 r) 0 13 0) := by
  refine ⟨fun a h0 h1 => by rw [q_up_ne h0, va_up_n (by omega), q_up_ne h0, q_up_ne h0], fun k hk => ?_⟩
  by_cases e : k = 13
  · subst e; rw [q_ups, q_ups]
  · rw [q_upz e, q_upz e]; exact (q_upz hk : q_up f 0 14 0 0 k = f 0 k)
set_option maxHeartbeats 4000000 in
set_option maxRecDepth 100000 in
theorem c_X8_fewest {f : Nat → Nat → Int32} {g : Nat → Nat → Int64} (ht : f 0 0 = 0) (n : Nat) (hn : f 0 5 = nI n) (h10 : n ≤ 10) (hgt : ∀ c, c < n → ∃ j : Nat, j ≤ 2 ∧ f 18 c = nI j) (nd : Nat → Nat) (hnd : ∀ c, c < n → f 20 c = nI (nd c) ∧ nd c ≤ 9) (hnd0 : ∀ c, n ≤ c → nd c = 0) (p : Nat → Bool) (hp : p = fun s => decide (z_legM n f s)) (R : Nat × Nat × Nat × BS) (hR : b_all n p 5001 0 (b_S0 (z_enc nd 10)) = R) (hdep : R.1 = 1 → b_d R.2.2.2.2.2.1 R.2.1 ≤ 90) : q_ConI yX8_fewest cX8_fewest 6 (some .int) 2 48 tyM alM [.ref 0] (f, g, rfM) (fun v h' => ((∃ c, c < n ∧ 0 < nd c ∧ ¬ p (2 ^ c) = true) ∧ v = -1 ∧ ∃ F, z_kp f F ∧ F 0 14 = 0 ∧ h' = (F, g, rfM)) ∨ ((∀ c, c < n → 0 < nd c → p (2 ^ c) = true) ∧ ((z_enc nd 10 = 0 ∧ v = 0 ∧ ∃ F, z_kp (q_up f 0 13 0) F ∧ F 0 14 = 0 ∧ h' = (F, g, rfM)) ∨ (¬ z_enc nd 10 = 0 ∧ ((R.1 = 1 ∧ v = nI (b_d R.2.2.2.2.2.1 R.2.1 + 1) ∧ ∃ F, z_kp (va_up (q_up f 0 13 (nI (b_d R.2.2.2.2.2.1 R.2.1 + 1))) 29 (b_l R.2.2.2.2.2.1 R.2.2.2.2.2.2 (va_up (f 29) (b_d R.2.2.2.2.2.1 R.2.1) (nI R.2.2.1)) R.2.1 (b_d R.2.2.2.2.2.1 R.2.1))) F ∧ F 0 14 = nI R.2.2.2.1 ∧ h' = (F, g, rfM)) ∨ (R.1 = 2 ∧ v = -4 ∧ ∃ F, z_kp f F ∧ F 0 14 = nI R.2.2.2.1 ∧ h' = (F, g, rfM)) ∨ R.1 = 3))))) := by
  refine q_Con.of RX8 [some (.ref 0), none, none, none, none, none] (by decide +kernel) rfl rfl (Nat.le_of_ble_eq_true rfl) (fun C ad E Z => ?_)
  have p10 : 2 ^ n ≤ 2 ^ 10 := Nat.pow_le_pow_right (by decide) h10
  have h2n : 0 < 2 ^ n := Nat.pow_pos (by decide)
  have hsh : (1 : Int32) <<< (f 0 5 &&& 31) = nI (2 ^ n) := by rw [hn]; exact q_shl1 n (by omega)
  obtain ⟨he0, hdg0⟩ := z_e0 h10 (fun c hc => (hnd c hc).2) hnd0
  -- the search
  have LALL : (∀ c, c < n → 0 < nd c → p (2 ^ c) = true) → ¬ z_enc nd 10 = 0 → ∀ (M a : Nat) (S : BS) (F : Nat → Nat → Int32), a + M = 5001 → b_ok n (z_enc nd 10) S → z_kp f F → (∀ s, s < 2 ^ n → F 41 s = q_b (p s = true)) → z_MI n S F → b_all n p M a S = R → ∀ x2 x3 x4 x5 : Option Value, gg C tyM 6 0 0 alM ad 159 [some (.ref 0), some (.int (nI a)), x2, x3, x4, x5] [] (F, g, rfM) := by
    intro hlg hne M
    induction M with
    | zero =>
      intro a S F haM hok hkp h41 hMI hRR x2 x3 x4 x5
      have h14 := hMI.1
      have hS5 := hok.1.2
      refine g_iload_1 (pc := 159) E dX8_fewest_159 ?_
      refine g_aload_0 (pc := 160) E dX8_fewest_160 ?_
      refine g_getI (pc := 161) E (by first | rfl | assumption) (by first | rfl | assumption) fl_X8_196 rfl dX8_fewest_161 ?_
      refine g_icmp_ge (pc := 164) (tgt := 355) E dX8_fewest_164 (by decide) (fun c_164 => ?_) (fun c_164 => ?_)
      · skip
        refine g_iconst (pc := 355) (v := -1) E dX8_fewest_355 (by decide) ?_
        exact g_iret (pc := 356) E Z dX8_fewest_356 ⟨_, rfl, Or.inr ⟨hlg, Or.inr ⟨hne, Or.inr (Or.inr (by rw [← hRR, b_all]))⟩⟩⟩
      · exact absurd (show F 0 14 ≤ nI a by rw [h14]; exact nI_le (by omega) (by omega)) c_164
    | succ M ihM =>
      intro a S F haM hok hkp h41 hMI hRR x2 x3 x4 x5
      have h14 := hMI.1
      have hS5 := hok.1.2
      have hn1 : F 0 5 = nI n := (hkp.2 5 (by decide)).trans hn
      by_cases haS : a < S.1
      · rw [b_all, if_pos haS] at hRR
        have hRR : b_nxt n p M a (b_row n p a (2 ^ n - 1) 1 S) = R := hRR
        have hea := (hok.2.1 a haS).1
        have hsh1 : (1 : Int32) <<< (F 0 5 &&& 31) = nI (2 ^ n) := by rw [hn1]; exact q_shl1 n (by omega)
        have hl10 := z_lk_10 hea h10
        have hlN : z_lk (S.2.1 a) 10 < 2 ^ n := by rw [hl10]; exact z_lk_lt _ n
        have LROW : ∀ (m t : Nat) (S1 : BS) (F : Nat → Nat → Int32), 1 ≤ t → t + m = 2 ^ n → b_ok n (z_enc nd 10) S1 → a < S1.1 → S1.2.1 a = S.2.1 a → z_kp f F → (∀ s, s < 2 ^ n → F 41 s = q_b (p s = true)) → z_MI n S1 F → b_nxt n p M a (b_row n p a m t S1) = R → ∀ x4 x5 : Option Value, gg C tyM 6 0 0 alM ad 211 [some (.ref 0), some (.int (nI a)), some (.int (nI (z_lk (S.2.1 a) 10))), some (.int (nI t)), x4, x5] [] (F, g, rfM) := by
          intro m
          induction m with
          | zero =>
            intro t S1 F ht1 htm hok haS hea1 hkp h41 hMI hRR x4 x5
            have hn1 : F 0 5 = nI n := (hkp.2 5 (by decide)).trans hn
            have hsh1 : (1 : Int32) <<< (F 0 5 &&& 31) = nI (2 ^ n) := by rw [hn1]; exact q_shl1 n (by omega)
            have et : t = 2 ^ n := by omega
            subst et
            refine g_iload_3 (pc := 211) E dX8_fewest_211 ?_
            refine g_iconst (pc := 212) (v := 1) E dX8_fewest_212 (by decide) ?_
            refine g_aload_0 (pc := 213) E dX8_fewest_213 ?_
            refine g_getI (pc := 214) E (by first | rfl | assumption) (by first | rfl | assumption) fl_X8_154 rfl dX8_fewest_214 ?_
            refine g_ishl (pc := 217) E dX8_fewest_217 ?_
            refine g_icmp_ge (pc := 218) (tgt := 349) E dX8_fewest_218 (by decide) (fun c_218 => ?_) (fun c_218 => ?_)
            · refine g_iinc_1 (pc := 349) (u := 1) E dX8_fewest_349 (by decide) (by decide) rfl ?_
              refine g_goto (pc := 352) (tgt := 159) E dX8_fewest_352 (by decide) ?_
              rw [nI_1]
              exact ihM (a + 1) S1 F (by omega) hok hkp h41 hMI hRR _ _ _ _
            · exact absurd (show (1 : Int32) <<< (F 0 5 &&& 31) ≤ nI (2 ^ n) by rw [hsh1]; exact nI_le (Nat.le_refl _) (by omega)) c_218
          | succ m ihm =>
            intro t S1 F ht1 htm hok haS hea1 hkp h41 hMI hRR x4 x5
            have hn1 : F 0 5 = nI n := (hkp.2 5 (by decide)).trans hn
            have hsh1 : (1 : Int32) <<< (F 0 5 &&& 31) = nI (2 ^ n) := by rw [hn1]; exact q_shl1 n (by omega)
            have htn : t < 2 ^ n := by omega
            have hb1 := b_one_ok (p := p) h10 hok haS (show t < 1024 by omega)
            have hR0 : (b_one n p a t S1).1 = 0 → b_nxt n p M a (b_row n p a m (t + 1) (b_one n p a t S1).2) = R := fun q => by rw [← hRR, b_row, if_pos q]
            have hone : b_one n p a t S1 = if z_wh n p (z_lk (S.2.1 a) 10) t then (if S.2.1 a - z_on t = 0 then (1, S1) else if b_in S1 (S.2.1 a - z_on t) then (0, S1) else if S1.1 = 5000 then (2, S1) else (0, b_psh S1 (S.2.1 a - z_on t) a t)) else (0, S1) := by unfold b_one; rw [hea1]
            have h34 : ∀ i, i < n → F 34 (10 * a + i) = nI (dg (S.2.1 a) i) := fun i hi => by rw [hMI.2.1 a haS i hi, hea1]
            have LNX : z_wh n p (z_lk (S.2.1 a) 10) t → ∀ i, i ≤ n → gg C tyM 6 0 0 alM ad 239 [some (.ref 0), some (.int (nI a)), some (.int (nI (z_lk (S.2.1 a) 10))), some (.int (nI t)), some (.int (nI (z_sm (dg (S.2.1 a - z_on t)) i))), some (.int (nI i))] [] (va_up F 38 (q_part i (F 38) (fun c => nI (dg (S.2.1 a - z_on t) c))), g, rfM) := by
              intro hwh
              obtain ⟨hx1, hx2, hx3, hx4⟩ := z_next h10 hea hwh.2.1
              refine q_loop n (fun i hi ih => ?_)
              have hn2 : va_up F 38 (q_part i (F 38) (fun c => nI (dg (S.2.1 a - z_on t) c))) 0 5 = nI n := hn1
              have hv : i < n → va_up F 38 (q_part i (F 38) (fun c => nI (dg (S.2.1 a - z_on t) c))) 34 (10 * a + i) - q_bit (nI t) (nI i) = nI (dg (S.2.1 a - z_on t) i) := by
                intro hi2
                show F 34 (10 * a + i) - q_bit (nI t) (nI i) = _
                rw [h34 i hi2, q_bitA t (by omega) i (by omega), show (if t.testBit i = true then (1 : Int32) else 0) = nI (z_bt t i) from by unfold z_bt; split <;> rfl, pk_sub (hx4 i (by omega)), hx1 i (by omega)]
              have hzero : i = n → (nI (z_sm (dg (S.2.1 a - z_on t)) i) = 0 ↔ S.2.1 a - z_on t = 0) := by
                intro en
                subst en
                have hb : z_sm (dg (S.2.1 a - z_on t)) i ≤ i * 16 := z_sm_le (fun c _ => Nat.le_of_lt (dg_lt _ c))
                rw [dg_all0 h10 hx2, ← z_sm_0]
                exact nI_eq (b := 0) (by omega) (by omega)
              have h38 : i = n → ∀ c, c < n → va_up F 38 (q_part i (F 38) (fun c => nI (dg (S.2.1 a - z_on t) c))) 38 c = nI (dg (S.2.1 a - z_on t) c) := by
                intro en c hc
                rw [va_up_s]; exact q_part_lt (by omega)
              have hkp1 : z_kp f (va_up F 38 (q_part i (F 38) (fun c => nI (dg (S.2.1 a - z_on t) c)))) := ⟨fun b h0 h1 => (va_up_n (by omega)).trans (hkp.1 b h0 h1), hkp.2⟩
              have hMI1 : z_MI n S1 (va_up F 38 (q_part i (F 38) (fun c => nI (dg (S.2.1 a - z_on t) c)))) := hMI
              have hsame : i = n → ∀ j, j < S1.1 → (z_same n (va_up F 38 (q_part i (F 38) (fun c => nI (dg (S.2.1 a - z_on t) c)))) j ↔ S1.2.1 j = S.2.1 a - z_on t) := by
                intro en j hj
                constructor
                · intro q
                  refine dg_ext (hok.2.1 j hj).1 hx2 (fun c hc => ?_)
                  have q1 := q c hc
                  rw [h38 en c hc, hMI1.2.1 j hj c hc] at q1
                  have l1 := dg_lt (S1.2.1 j) c
                  have l2 := dg_lt (S.2.1 a - z_on t) c
                  exact (nI_eq (by omega) (by omega)).mp q1
                · intro q c hc
                  rw [h38 en c hc, hMI1.2.1 j hj c hc, q]
              have hhash : i = n → ∀ j, j < S1.1 → z_same n (va_up F 38 (q_part i (F 38) (fun c => nI (dg (S.2.1 a - z_on t) c)))) j → va_up F 38 (q_part i (F 38) (fun c => nI (dg (S.2.1 a - z_on t) c))) 35 j = z_hs (va_up F 38 (q_part i (F 38) (fun c => nI (dg (S.2.1 a - z_on t) c))) 38) n := by
                intro en j hj q
                rw [hMI1.2.2.1 j hj]
                exact z_hs_congr (fun c hc => by rw [← q c hc, hMI1.2.1 j hj c hc])
              refine g_iload_5 (pc := 239) E dX8_fewest_239 ?_
              refine g_aload_0 (pc := 241) E dX8_fewest_241 ?_
              refine g_getI (pc := 242) E (by first | rfl | assumption) (by first | rfl | assumption) fl_X8_154 rfl dX8_fewest_242 ?_
              refine g_icmp_ge (pc := 245) (tgt := 292) E dX8_fewest_245 (by decide) (fun c_245 => ?_) (fun c_245 => ?_)
              · have e_245 := (q_ge (x := n) (y := i) hn2 rfl (by omega) (by omega)).mp c_245
                have en : i = n := by omega
                refine g_iload_4 (pc := 292) E dX8_fewest_292 ?_
                refine g_if_ne (pc := 294) (tgt := 304) E dX8_fewest_294 (by decide) (fun c_294 => ?_) (fun c_294 => ?_)
                · have hx0 : ¬ S.2.1 a - z_on t = 0 := fun q => c_294 ((hzero en).mpr q)
                  refine g_aload_0 (pc := 304) E dX8_fewest_304 ?_
                  refine g_cVi0 (pc := 305) E (c_X8_sumOf n (by exact hn2) h10) cw_X8_202 (by decide) (by decide) (by first | rfl | assumption) (by first | rfl | assumption) (Nat.le_of_ble_eq_true rfl) dX8_fewest_305 (fun v_305 h_305 hp => ?_)
                  obtain ⟨rfl, rfl⟩ := hp
                  refine g_istore_5 (pc := 308) E dX8_fewest_308 (by decide) rfl ?_
                  refine g_aload_0 (pc := 310) E dX8_fewest_310 ?_
                  refine g_iload_5 (pc := 311) E dX8_fewest_311 ?_
                  refine g_cVi1 (pc := 313) E (c_X8_isNew n (by exact hn2) h10 S1.1 hok.1.2 hMI1.2.2.2.2.2 _ (hhash en)) cw_X8_218 (by decide) (by decide) (by first | rfl | assumption) (by first | rfl | assumption) (Nat.le_of_ble_eq_true rfl) dX8_fewest_313 (fun v_313 h_313 hp => ?_)
                  obtain ⟨rfl, rfl⟩ := hp
                  refine g_if_ne (pc := 316) (tgt := 322) E dX8_fewest_316 (by decide) (fun c_316 => ?_) (fun c_316 => ?_)
                  · have k_316 := q_b1.mp c_316
                    have hnew : ¬ b_in S1 (S.2.1 a - z_on t) := fun ⟨j, hj, q⟩ => k_316 ⟨j, hj, (hsame en j hj).mpr q⟩
                    refine g_aload_0 (pc := 322) E dX8_fewest_322 ?_
                    refine g_getI (pc := 323) E (by first | rfl | assumption) (by first | rfl | assumption) fl_X8_196 rfl dX8_fewest_323 ?_
                    refine g_sipush (pc := 326) (v := 5000) E dX8_fewest_326 (by decide) ?_
                    refine g_icmp_ne (pc := 329) (tgt := 335) E dX8_fewest_329 (by decide) (fun c_329 => ?_) (fun c_329 => ?_)
                    · have h5 : ¬ S1.1 = 5000 := fun q => c_329 (by show F 0 14 = _; rw [hMI.1, q]; rfl)
                      have hS15 := hok.1.2
                      have eo : b_one n p a t S1 = (0, b_psh S1 (S.2.1 a - z_on t) a t) := by rw [hone, if_pos hwh, if_neg hx0, if_neg hnew, if_neg h5]
                      refine g_aload_0 (pc := 335) E dX8_fewest_335 ?_
                      refine g_iload_5 (pc := 336) E dX8_fewest_336 ?_
                      refine g_iload_1 (pc := 338) E dX8_fewest_338 ?_
                      refine g_iload_3 (pc := 339) E dX8_fewest_339 ?_
                      refine g_cVv3 (pc := 340) E (c_X8_lays n (by exact hn2) h10 S1.1 (by exact hMI.1) (by omega) _ _ _) cw_X8_206 (by decide) (by decide) (by first | rfl | assumption) (by first | rfl | assumption) (Nat.le_of_ble_eq_true rfl) dX8_fewest_340 (fun h_340 hp => ?_)
                      subst hp
                      refine g_iinc_3 (pc := 343) (u := 1) E dX8_fewest_343 (by decide) (by decide) rfl ?_
                      refine g_goto (pc := 346) (tgt := 211) E dX8_fewest_346 (by decide) ?_
                      rw [nI_1]
                      have hR2 := hR0 (by rw [eo])
                      rw [eo] at hR2
                      first
                      | exact ihm (t + 1) S1 _ (by omega) (by omega) hok haS hea1 hkp1 h41 hMI1 hR2 _ _
                      | exact ihm (t + 1) (b_psh S1 (S.2.1 a - z_on t) a t) (z_layF n _ S1.1 _ _ _) (by omega) (by omega) (b_ok_psh_e h10 hok haS (by omega) hwh.2.1 hx0 h5 hea1) (Nat.lt_succ_of_lt haS) (by show va_up S1.2.1 S1.1 _ a = _; rw [va_up_n (by omega)]; exact hea1) (z_kp_lay hkp1) h41 (z_MI_lay h10 hMI1 (h38 en) (z_hs_congr (h38 en)) (by rw [if_neg (by have := hok.1.1; omega)]) (fun _ => rfl)) hR2 _ _
                    · have h5 : S1.1 = 5000 := by
                        have q : F 0 14 = 5000 := c_329
                        rw [hMI.1] at q
                        exact (nI_eq (b := 5000) (by have := hok.1.2; omega) (by omega)).mp q
                      have hR1 : R = (2, a, t, S1) := by rw [← hRR, b_row, hone, if_pos hwh, if_neg hx0, if_neg hnew, if_pos h5]; rfl
                      subst hR1
                      refine g_bipush (pc := 332) (v := -4) E dX8_fewest_332 (by decide) ?_
                      exact g_iret (pc := 334) E Z dX8_fewest_334 ⟨_, rfl, Or.inr ⟨hlg, Or.inr ⟨hne, Or.inr (Or.inl ⟨rfl, rfl, _, hkp1, hMI.1, rfl⟩)⟩⟩⟩
                  · have k_316 := q_b0.mp c_316
                    have hold : b_in S1 (S.2.1 a - z_on t) := by
                      obtain ⟨j, hj, q⟩ := Classical.not_not.mp k_316
                      exact ⟨j, hj, (hsame en j hj).mp q⟩
                    have eo : b_one n p a t S1 = (0, S1) := by rw [hone, if_pos hwh, if_neg hx0, if_pos hold]
                    refine g_goto (pc := 319) (tgt := 343) E dX8_fewest_319 (by decide) ?_
                    refine g_iinc_3 (pc := 343) (u := 1) E dX8_fewest_343 (by decide) (by decide) rfl ?_
                    refine g_goto (pc := 346) (tgt := 211) E dX8_fewest_346 (by decide) ?_
                    rw [nI_1]
                    have hR2 := hR0 (by rw [eo])
                    rw [eo] at hR2
                    first
                    | exact ihm (t + 1) S1 _ (by omega) (by omega) hok haS hea1 hkp1 h41 hMI1 hR2 _ _
                    | exact ihm (t + 1) (b_psh S1 (S.2.1 a - z_on t) a t) (z_layF n _ S1.1 _ _ _) (by omega) (by omega) (b_ok_psh_e h10 hok haS (by omega) hwh.2.1 hx0 h5 hea1) (Nat.lt_succ_of_lt haS) (by show va_up S1.2.1 S1.1 _ a = _; rw [va_up_n (by omega)]; exact hea1) (z_kp_lay hkp1) h41 (z_MI_lay h10 hMI1 (h38 en) (z_hs_congr (h38 en)) (by rw [if_neg (by have := hok.1.1; omega)]) (fun _ => rfl)) hR2 _ _
                · have hx0 : S.2.1 a - z_on t = 0 := (hzero en).mp c_294
                  have hR1 : R = (1, a, t, S1) := by rw [← hRR, b_row, hone, if_pos hwh, if_pos hx0]; rfl
                  subst hR1
                  refine g_aload_0 (pc := 297) E dX8_fewest_297 ?_
                  refine g_iload_1 (pc := 298) E dX8_fewest_298 ?_
                  refine g_iload_3 (pc := 299) E dX8_fewest_299 ?_
                  refine g_cVi2 (pc := 300) E (c_X8_told S1.1 hok.1.2 S1.2.2.1 S1.2.2.2 (by exact hMI.2.2.2.1) (by exact hMI.2.2.2.2.1) (fun j h1 h2 => (hok.2.2 j h1 h2).1) a t haS (hdep rfl)) cw_X8_214 (by decide) (by decide) (by first | rfl | assumption) (by first | rfl | assumption) (Nat.le_of_ble_eq_true rfl) dX8_fewest_300 (fun v_300 h_300 hp => ?_)
                  obtain ⟨rfl, rfl⟩ := hp
                  exact g_iret (pc := 303) E Z dX8_fewest_303 ⟨_, rfl, Or.inr ⟨hlg, Or.inr ⟨hne, Or.inl ⟨rfl, rfl, _, z_kp_told hkp1, hMI.1, rfl⟩⟩⟩⟩
              · have e_245 := (not_congr (q_ge (x := n) (y := i) hn2 rfl (by omega) (by omega))).mp c_245
                refine g_aload_0 (pc := 248) E dX8_fewest_248 ?_
                refine g_getR (pc := 249) E (by first | rfl | assumption) (by first | rfl | assumption) fl_X8_110 rfl (by first | rfl | assumption) dX8_fewest_249 ?_
                refine g_iload_5 (pc := 252) E dX8_fewest_252 ?_
                refine g_aload_0 (pc := 254) E dX8_fewest_254 ?_
                refine g_getR (pc := 255) E (by first | rfl | assumption) (by first | rfl | assumption) fl_X8_98 rfl (by first | rfl | assumption) dX8_fewest_255 ?_
                refine g_bipush (pc := 258) (v := 10) E dX8_fewest_258 (by decide) ?_
                refine g_iload_1 (pc := 260) E dX8_fewest_260 ?_
                refine g_imul (pc := 261) E dX8_fewest_261 ?_
                refine g_iload_5 (pc := 262) E dX8_fewest_262 ?_
                refine g_iadd (pc := 264) E dX8_fewest_264 ?_
                refine g_iald (pc := 265) E (by first | rfl | assumption) (by first | rfl | assumption) dX8_fewest_265 (q_ix_e (q_10 _ _) (by have := hok.1.2; omega)) ?_
                refine g_iload_3 (pc := 266) E dX8_fewest_266 ?_
                refine g_iload_5 (pc := 267) E dX8_fewest_267 ?_
                refine g_ishr (pc := 269) E dX8_fewest_269 ?_
                refine g_iconst (pc := 270) (v := 1) E dX8_fewest_270 (by decide) ?_
                refine g_iand (pc := 271) E dX8_fewest_271 ?_
                refine g_isub (pc := 272) E dX8_fewest_272 ?_
                rw [show va_up F 38 (q_part i (F 38) (fun c => nI (dg (S.2.1 a - z_on t) c))) 34 (10 * a + i) - (nI t >>> (nI i &&& 31) &&& 1) = nI (dg (S.2.1 a - z_on t) i) from hv (by omega)]
                refine g_iast (pc := 273) E rfl rfl dX8_fewest_273 (q_ix_n (by omega)) ?_
                rw [q_upr, q_part_s (r2 := fun c => nI (dg (S.2.1 a - z_on t) c)) rfl]
                refine g_iload_4 (pc := 274) E dX8_fewest_274 ?_
                refine g_aload_0 (pc := 276) E dX8_fewest_276 ?_
                refine g_getR (pc := 277) E (by first | rfl | assumption) (by first | rfl | assumption) fl_X8_110 rfl (by first | rfl | assumption) dX8_fewest_277 ?_
                refine g_iload_5 (pc := 280) E dX8_fewest_280 ?_
                refine g_iald (pc := 282) E rfl rfl dX8_fewest_282 (q_ix_n (by omega)) ?_
                rw [show va_up F 38 (q_part (i + 1) (F 38) (fun c => nI (dg (S.2.1 a - z_on t) c))) 38 i = nI (dg (S.2.1 a - z_on t) i) from by rw [va_up_s]; exact q_part_lt (by omega)]
                refine g_iadd (pc := 283) E dX8_fewest_283 ?_
                refine g_istore_4 (pc := 284) E dX8_fewest_284 (by decide) rfl ?_
                refine g_iinc_5 (pc := 286) (u := 1) E dX8_fewest_286 (by decide) (by decide) rfl ?_
                refine g_goto (pc := 289) (tgt := 239) E dX8_fewest_289 (by decide) ?_
                rw [nI_1, nI_add]
                exact ih (by omega)
            refine g_iload_3 (pc := 211) E dX8_fewest_211 ?_
            refine g_iconst (pc := 212) (v := 1) E dX8_fewest_212 (by decide) ?_
            refine g_aload_0 (pc := 213) E dX8_fewest_213 ?_
            refine g_getI (pc := 214) E (by first | rfl | assumption) (by first | rfl | assumption) fl_X8_154 rfl dX8_fewest_214 ?_
            refine g_ishl (pc := 217) E dX8_fewest_217 ?_
            refine g_icmp_ge (pc := 218) (tgt := 349) E dX8_fewest_218 (by decide) (fun c_218 => ?_) (fun c_218 => ?_)
            · exact absurd ((q_ge (x := 2 ^ n) (y := t) hsh1 rfl (by omega) (by omega)).mp c_218) (by omega)
            · refine g_aload_0 (pc := 221) E dX8_fewest_221 ?_
              refine g_iload_3 (pc := 222) E dX8_fewest_222 ?_
              refine g_iload_2 (pc := 223) E dX8_fewest_223 ?_
              refine g_cVi2 (pc := 224) E (c_X8_isWhole n (by exact hn1) h10 p (by exact h41) t (z_lk (S.2.1 a) 10) htn hlN) cw_X8_210 (by decide) (by decide) (by first | rfl | assumption) (by first | rfl | assumption) (Nat.le_of_ble_eq_true rfl) dX8_fewest_224 (fun v_224 h_224 hp => ?_)
              obtain ⟨rfl, rfl⟩ := hp
              refine g_if_ne (pc := 227) (tgt := 233) E dX8_fewest_227 (by decide) (fun c_227 => ?_) (fun c_227 => ?_)
              · have k_227 := q_b1.mp c_227
                refine g_iconst (pc := 233) (v := 0) E dX8_fewest_233 (by decide) ?_
                refine g_istore_4 (pc := 234) E dX8_fewest_234 (by decide) rfl ?_
                refine g_iconst (pc := 236) (v := 0) E dX8_fewest_236 (by decide) ?_
                refine g_istore_5 (pc := 237) E dX8_fewest_237 (by decide) rfl ?_
                have e := LNX k_227 0 (Nat.zero_le _)
                rw [q_part_0, va_up_id] at e
                exact e
              · have k_227 := q_b0.mp c_227
                have eo : b_one n p a t S1 = (0, S1) := by rw [hone, if_neg k_227]
                refine g_goto (pc := 230) (tgt := 343) E dX8_fewest_230 (by decide) ?_
                refine g_iinc_3 (pc := 343) (u := 1) E dX8_fewest_343 (by decide) (by decide) rfl ?_
                refine g_goto (pc := 346) (tgt := 211) E dX8_fewest_346 (by decide) ?_
                rw [nI_1]
                have hR2 := hR0 (by rw [eo])
                rw [eo] at hR2
                exact ihm (t + 1) S1 F (by omega) (by omega) hok haS hea1 hkp h41 hMI hR2 _ _
        have LLK : ∀ i, i ≤ n → gg C tyM 6 0 0 alM ad 171 [some (.ref 0), some (.int (nI a)), some (.int (nI (z_lk (S.2.1 a) i))), some (.int (nI i)), x4, x5] [] (F, g, rfM) := by
          refine q_loop n (fun i hi ih => ?_)
          have h34 : i < n → F 34 (10 * a + i) = nI (dg (S.2.1 a) i) := fun q => hMI.2.1 a haS i q
          refine g_iload_3 (pc := 171) E dX8_fewest_171 ?_
          refine g_aload_0 (pc := 172) E dX8_fewest_172 ?_
          refine g_getI (pc := 173) E (by first | rfl | assumption) (by first | rfl | assumption) fl_X8_154 rfl dX8_fewest_173 ?_
          refine g_icmp_ge (pc := 176) (tgt := 209) E dX8_fewest_176 (by decide) (fun c_176 => ?_) (fun c_176 => ?_)
          · have e_176 := (q_ge (x := n) (y := i) hn1 rfl (by omega) (by omega)).mp c_176
            refine g_iconst (pc := 209) (v := 1) E dX8_fewest_209 (by decide) ?_
            refine g_istore_3 (pc := 210) E dX8_fewest_210 (by decide) rfl ?_
            rw [show z_lk (S.2.1 a) i = z_lk (S.2.1 a) 10 from by rw [hl10, show i = n by omega]]
            exact LROW (2 ^ n - 1) 1 S F (Nat.le_refl _) (by omega) hok haS rfl hkp h41 hMI hRR _ _
          · have e_176 := (not_congr (q_ge (x := n) (y := i) hn1 rfl (by omega) (by omega))).mp c_176
            refine g_iload_2 (pc := 179) E dX8_fewest_179 ?_
            refine g_aload_0 (pc := 180) E dX8_fewest_180 ?_
            refine g_getR (pc := 181) E (by first | rfl | assumption) (by first | rfl | assumption) fl_X8_98 rfl (by first | rfl | assumption) dX8_fewest_181 ?_
            refine g_bipush (pc := 184) (v := 10) E dX8_fewest_184 (by decide) ?_
            refine g_iload_1 (pc := 186) E dX8_fewest_186 ?_
            refine g_imul (pc := 187) E dX8_fewest_187 ?_
            refine g_iload_3 (pc := 188) E dX8_fewest_188 ?_
            refine g_iadd (pc := 189) E dX8_fewest_189 ?_
            refine g_iald (pc := 190) E (by first | rfl | assumption) (by first | rfl | assumption) dX8_fewest_190 (q_ix_e (q_10 _ _) (by omega)) ?_
            refine g_if_le (pc := 191) (tgt := 200) E dX8_fewest_191 (by decide) (fun c_191 => ?_) (fun c_191 => ?_)
            · have hd0 : dg (S.2.1 a) i = 0 := by
                have q := c_191
                rw [h34 (by omega)] at q
                have l1 := dg_lt (S.2.1 a) i
                have := (nI_leI (b := 0) (by omega) (by omega)).mp q
                omega
              refine g_iconst (pc := 200) (v := 0) E dX8_fewest_200 (by decide) ?_
              refine g_ior (pc := 201) E dX8_fewest_201 ?_
              refine g_istore_2 (pc := 202) E dX8_fewest_202 (by decide) rfl ?_
              refine g_iinc_3 (pc := 203) (u := 1) E dX8_fewest_203 (by decide) (by decide) rfl ?_
              refine g_goto (pc := 206) (tgt := 171) E dX8_fewest_206 (by decide) ?_
              rw [nI_1]
              have e := ih (by omega)
              rw [z_lk] at e
              first
              | (rw [if_pos hd0] at e; rw [Int32.or_zero]; exact e)
              | (rw [if_neg hd0] at e; rw [q_or2 (by omega)]; exact e)
            · have hd0 : ¬ dg (S.2.1 a) i = 0 := fun q => c_191 (by rw [h34 (by omega), q]; decide)
              refine g_iconst (pc := 194) (v := 1) E dX8_fewest_194 (by decide) ?_
              refine g_iload_3 (pc := 195) E dX8_fewest_195 ?_
              refine g_ishl (pc := 196) E dX8_fewest_196 ?_
              refine g_goto (pc := 197) (tgt := 201) E dX8_fewest_197 (by decide) ?_
              refine g_ior (pc := 201) E dX8_fewest_201 ?_
              refine g_istore_2 (pc := 202) E dX8_fewest_202 (by decide) rfl ?_
              refine g_iinc_3 (pc := 203) (u := 1) E dX8_fewest_203 (by decide) (by decide) rfl ?_
              refine g_goto (pc := 206) (tgt := 171) E dX8_fewest_206 (by decide) ?_
              rw [nI_1]
              have e := ih (by omega)
              rw [z_lk] at e
              first
              | (rw [if_pos hd0] at e; rw [Int32.or_zero]; exact e)
              | (rw [if_neg hd0] at e; rw [q_or2 (by omega)]; exact e)
        refine g_iload_1 (pc := 159) E dX8_fewest_159 ?_
        refine g_aload_0 (pc := 160) E dX8_fewest_160 ?_
        refine g_getI (pc := 161) E (by first | rfl | assumption) (by first | rfl | assumption) fl_X8_196 rfl dX8_fewest_161 ?_
        refine g_icmp_ge (pc := 164) (tgt := 355) E dX8_fewest_164 (by decide) (fun c_164 => ?_) (fun c_164 => ?_)
        · exact absurd ((q_ge (x := S.1) (y := a) h14 rfl (by omega) (by omega)).mp c_164) (by omega)
        · refine g_iconst (pc := 167) (v := 0) E dX8_fewest_167 (by decide) ?_
          refine g_istore_2 (pc := 168) E dX8_fewest_168 (by decide) rfl ?_
          refine g_iconst (pc := 169) (v := 0) E dX8_fewest_169 (by decide) ?_
          refine g_istore_3 (pc := 170) E dX8_fewest_170 (by decide) rfl ?_
          exact LLK 0 (Nat.zero_le _)
      · rw [b_all, if_neg haS] at hRR
        refine g_iload_1 (pc := 159) E dX8_fewest_159 ?_
        refine g_aload_0 (pc := 160) E dX8_fewest_160 ?_
        refine g_getI (pc := 161) E (by first | rfl | assumption) (by first | rfl | assumption) fl_X8_196 rfl dX8_fewest_161 ?_
        refine g_icmp_ge (pc := 164) (tgt := 355) E dX8_fewest_164 (by decide) (fun c_164 => ?_) (fun c_164 => ?_)
        · refine g_iconst (pc := 355) (v := -1) E dX8_fewest_355 (by decide) ?_
          exact g_iret (pc := 356) E Z dX8_fewest_356 ⟨_, rfl, Or.inr ⟨hlg, Or.inr ⟨hne, Or.inr (Or.inr (by rw [← hRR]))⟩⟩⟩
        · exact absurd (show F 0 14 ≤ nI a by rw [h14]; exact nI_le (by omega) (by omega)) c_164
  have LNEXT : (∀ c, c < n → 0 < nd c → p (2 ^ c) = true) → ¬ z_enc nd 10 = 0 → ∀ i, i ≤ n → gg C tyM 6 0 0 alM ad 121 [some (.ref 0), some (.int (nI i)), none, none, none, none] [] (va_up (va_up (va_up (q_up f 0 14 0) 41 (q_part (2 ^ n) (f 41) (fun s => q_b (z_legM n f s)))) 39 (q_part 8192 (f 39) (fun _ => -1))) 38 (q_part i (f 38) (f 20)), g, rfM) := by
    intro hlg hne
    refine q_loop n (fun i hi ih => ?_)
    have hn2 : va_up (va_up (va_up (q_up f 0 14 0) 41 (q_part (2 ^ n) (f 41) (fun s => q_b (z_legM n f s)))) 39 (q_part 8192 (f 39) (fun _ => -1))) 38 (q_part i (f 38) (f 20)) 0 5 = nI n := hn
    have h38 : i = n → ∀ c, c < n → va_up (va_up (va_up (q_up f 0 14 0) 41 (q_part (2 ^ n) (f 41) (fun s => q_b (z_legM n f s)))) 39 (q_part 8192 (f 39) (fun _ => -1))) 38 (q_part i (f 38) (f 20)) 38 c = nI (dg (z_enc nd 10) c) := by
      intro en c hc
      rw [va_up_s, q_part_lt (by omega), (hnd c hc).1, hdg0]
    refine g_iload_1 (pc := 121) E dX8_fewest_121 ?_
    refine g_aload_0 (pc := 122) E dX8_fewest_122 ?_
    refine g_getI (pc := 123) E (by first | rfl | assumption) (by first | rfl | assumption) fl_X8_154 rfl dX8_fewest_123 ?_
    refine g_icmp_ge (pc := 126) (tgt := 147) E dX8_fewest_126 (by decide) (fun c_126 => ?_) (fun c_126 => ?_)
    · have e_126 := (q_ge (x := n) (y := i) hn2 rfl (by omega) (by omega)).mp c_126
      have en : i = n := by omega
      refine g_aload_0 (pc := 147) E dX8_fewest_147 ?_
      refine g_aload_0 (pc := 148) E dX8_fewest_148 ?_
      refine g_cVi0 (pc := 149) E (c_X8_sumOf n (by exact hn2) h10) cw_X8_202 (by decide) (by decide) (by first | rfl | assumption) (by first | rfl | assumption) (Nat.le_of_ble_eq_true rfl) dX8_fewest_149 (fun v_149 h_149 hp => ?_)
      obtain ⟨rfl, rfl⟩ := hp
      refine g_iconst (pc := 152) (v := -1) E dX8_fewest_152 (by decide) ?_
      refine g_iconst (pc := 153) (v := -1) E dX8_fewest_153 (by decide) ?_
      refine g_cVv3 (pc := 154) E (c_X8_lays n (by exact hn2) h10 0 rfl (by decide) _ _ _) cw_X8_206 (by decide) (by decide) (by first | rfl | assumption) (by first | rfl | assumption) (Nat.le_of_ble_eq_true rfl) dX8_fewest_154 (fun h_154 hp => ?_)
      subst hp
      refine g_iconst (pc := 157) (v := 0) E dX8_fewest_157 (by decide) ?_
      refine g_istore_1 (pc := 158) E dX8_fewest_158 (by decide) rfl ?_
      exact LALL hlg hne 5001 0 (b_S0 (z_enc nd 10)) (z_layF n (va_up (va_up (va_up (q_up f 0 14 0) 41 (q_part (2 ^ n) (f 41) (fun s => q_b (z_legM n f s)))) 39 (q_part 8192 (f 39) (fun _ => -1))) 38 (q_part i (f 38) (f 20))) 0 _ _ _) rfl (b_ok0 he0 hne) (z_kp_lay ⟨fun a h0 h1 => by rw [va_up_n (by omega), va_up_n (by omega), va_up_n (by omega), q_up_ne (by omega)], fun k hk => (q_upz hk : q_up f 0 14 0 0 k = f 0 k)⟩) (fun s hs => by
        show q_part (2 ^ n) (f 41) (fun s => q_b (z_legM n f s)) s = _
        rw [q_part_lt hs, hp]
        exact q_bi (decide_eq_true_iff).symm) (z_MI_lay (S := (0, fun _ => 0, fun _ => 0, fun _ => 0)) h10 ⟨rfl, fun j hj => absurd hj (Nat.not_lt_zero j), fun j hj => absurd hj (Nat.not_lt_zero j), fun j hj => absurd hj (Nat.not_lt_zero j), fun j h0 hj => absurd hj (Nat.not_lt_zero j), fun h hh => by
          show q_part 8192 (f 39) (fun _ => -1) h = _
          rw [q_part_lt hh]; rfl, fun j hj => absurd hj (Nat.not_lt_zero j)⟩ (h38 en) (z_hs_congr (h38 en)) rfl (fun q => absurd q (Nat.lt_irrefl 0))) hR _ _ _ _
    · have e_126 := (not_congr (q_ge (x := n) (y := i) hn2 rfl (by omega) (by omega))).mp c_126
      refine g_aload_0 (pc := 129) E dX8_fewest_129 ?_
      refine g_getR (pc := 130) E (by first | rfl | assumption) (by first | rfl | assumption) fl_X8_110 rfl (by first | rfl | assumption) dX8_fewest_130 ?_
      refine g_iload_1 (pc := 133) E dX8_fewest_133 ?_
      refine g_aload_0 (pc := 134) E dX8_fewest_134 ?_
      refine g_getR (pc := 135) E (by first | rfl | assumption) (by first | rfl | assumption) fl_X8_54 rfl (by first | rfl | assumption) dX8_fewest_135 ?_
      refine g_iload_1 (pc := 138) E dX8_fewest_138 ?_
      refine g_iald (pc := 139) E (by first | rfl | assumption) (by first | rfl | assumption) dX8_fewest_139 (q_ix_n (by omega)) ?_
      refine g_iast (pc := 140) E (by first | rfl | assumption) (by first | rfl | assumption) dX8_fewest_140 (q_ix_n (by omega)) ?_
      refine g_iinc_1 (pc := 141) (u := 1) E dX8_fewest_141 (by decide) (by decide) rfl ?_
      refine g_goto (pc := 144) (tgt := 121) E dX8_fewest_144 (by decide) ?_
      rw [nI_1, q_upr]
      have e := ih (by omega)
      rw [← q_part_s (i := i) (r := f 38) (r2 := f 20) rfl] at e
      exact e
  have LHD : (∀ c, c < n → 0 < nd c → p (2 ^ c) = true) → ¬ z_enc nd 10 = 0 → ∀ i, i ≤ 8192 → gg C tyM 6 0 0 alM ad 97 [some (.ref 0), some (.int (nI i)), none, none, none, none] [] (va_up (va_up (q_up f 0 14 0) 41 (q_part (2 ^ n) (f 41) (fun s => q_b (z_legM n f s)))) 39 (q_part i (f 39) (fun _ => -1)), g, rfM) := by
    intro hlg hne
    refine q_loop 8192 (fun i hi ih => ?_)
    refine g_iload_1 (pc := 97) E dX8_fewest_97 ?_
    refine g_aload_0 (pc := 98) E dX8_fewest_98 ?_
    refine g_getR (pc := 99) E (by first | rfl | assumption) (by first | rfl | assumption) fl_X8_113 rfl (by first | rfl | assumption) dX8_fewest_99 ?_
    refine g_alen (pc := 102) E (by first | rfl | assumption) (by first | rfl | assumption) (by first | exact Or.inl rfl | exact Or.inr rfl) dX8_fewest_102 ?_
    refine g_icmp_ge (pc := 103) (tgt := 119) E dX8_fewest_103 (by decide) (fun c_103 => ?_) (fun c_103 => ?_)
    · have e_103 := (q_ge (x := 8192) (y := i) rfl rfl (by omega) (by omega)).mp c_103
      refine g_iconst (pc := 119) (v := 0) E dX8_fewest_119 (by decide) ?_
      refine g_istore_1 (pc := 120) E dX8_fewest_120 (by decide) rfl ?_
      have e := LNEXT hlg hne 0 (Nat.zero_le _)
      rw [show q_part 0 (f 38) (f 20) = f 38 from q_part_0, show va_up (va_up (va_up (q_up f 0 14 0) 41 (q_part (2 ^ n) (f 41) (fun s => q_b (z_legM n f s)))) 39 (q_part 8192 (f 39) (fun _ => -1))) 38 (f 38) = (va_up (va_up (q_up f 0 14 0) 41 (q_part (2 ^ n) (f 41) (fun s => q_b (z_legM n f s)))) 39 (q_part 8192 (f 39) (fun _ => -1))) from va_up_id (f := (va_up (va_up (q_up f 0 14 0) 41 (q_part (2 ^ n) (f 41) (fun s => q_b (z_legM n f s)))) 39 (q_part 8192 (f 39) (fun _ => -1)))) (k := 38)] at e
      rw [show i = 8192 by omega]
      exact e
    · have e_103 := (not_congr (q_ge (x := 8192) (y := i) rfl rfl (by omega) (by omega))).mp c_103
      refine g_aload_0 (pc := 106) E dX8_fewest_106 ?_
      refine g_getR (pc := 107) E (by first | rfl | assumption) (by first | rfl | assumption) fl_X8_113 rfl (by first | rfl | assumption) dX8_fewest_107 ?_
      refine g_iload_1 (pc := 110) E dX8_fewest_110 ?_
      refine g_iconst (pc := 111) (v := -1) E dX8_fewest_111 (by decide) ?_
      refine g_iast (pc := 112) E (by first | rfl | assumption) (by first | rfl | assumption) dX8_fewest_112 (q_ix_n (by omega)) ?_
      refine g_iinc_1 (pc := 113) (u := 1) E dX8_fewest_113 (by decide) (by decide) rfl ?_
      refine g_goto (pc := 116) (tgt := 97) E dX8_fewest_116 (by decide) ?_
      rw [nI_1, q_upr, q_part_s (r2 := fun _ => -1) rfl]
      exact ih (by omega)
  have LCK : ∀ i, i ≤ n → (∀ c, c < i → 0 < nd c → p (2 ^ c) = true) → gg C tyM 6 0 0 alM ad 41 [some (.ref 0), some (.int (nI i)), none, none, none, none] [] ((va_up (q_up f 0 14 0) 41 (q_part (2 ^ n) (f 41) (fun s => q_b (z_legM n f s)))), g, rfM) := by
    refine q_loop n (fun i hi ih hall => ?_)
    have hn2 : (va_up (q_up f 0 14 0) 41 (q_part (2 ^ n) (f 41) (fun s => q_b (z_legM n f s)))) 0 5 = nI n := hn
    have h41 : i < n → (va_up (q_up f 0 14 0) 41 (q_part (2 ^ n) (f 41) (fun s => q_b (z_legM n f s)))) 41 (2 ^ i) = q_b (p (2 ^ i) = true) := by
      intro hin
      show q_part (2 ^ n) (f 41) (fun s => q_b (z_legM n f s)) (2 ^ i) = _
      rw [q_part_lt (Nat.pow_lt_pow_right (by decide) hin), hp]
      exact q_bi (decide_eq_true_iff).symm
    refine g_iload_1 (pc := 41) E dX8_fewest_41 ?_
    refine g_aload_0 (pc := 42) E dX8_fewest_42 ?_
    refine g_getI (pc := 43) E (by first | rfl | assumption) (by first | rfl | assumption) fl_X8_154 rfl dX8_fewest_43 ?_
    refine g_icmp_ge (pc := 46) (tgt := 77) E dX8_fewest_46 (by decide) (fun c_46 => ?_) (fun c_46 => ?_)
    · have e_46 := (q_ge (x := n) (y := i) hn2 rfl (by omega) (by omega)).mp c_46
      have en : i = n := by omega
      have hall : ∀ c, c < n → 0 < nd c → p (2 ^ c) = true := fun c hc => hall c (by omega)
      have htot : q_sum ((va_up (q_up f 0 14 0) 41 (q_part (2 ^ n) (f 41) (fun s => q_b (z_legM n f s)))) 20) n = nI (z_sm nd n) := q_sum_nI (fun c hc => (hnd c hc).1)
      have hb : z_sm nd n ≤ n * 9 := z_sm_le (fun c hc => (hnd c hc).2)
      have hz : z_enc nd 10 = 0 ↔ z_sm nd n = 0 := by
        rw [dg_all0 h10 he0, z_sm_0]
        simp only [hdg0]
      refine g_aload_0 (pc := 77) E dX8_fewest_77 ?_
      refine g_aload_0 (pc := 78) E dX8_fewest_78 ?_
      refine g_getR (pc := 79) E (by first | rfl | assumption) (by first | rfl | assumption) fl_X8_54 rfl (by first | rfl | assumption) dX8_fewest_79 ?_
      refine g_cVi1 (pc := 82) E (c_X8_total n (by exact hn2) h10 20 rfl rfl) cw_X8_181 (by decide) (by decide) (by first | rfl | assumption) (by first | rfl | assumption) (Nat.le_of_ble_eq_true rfl) dX8_fewest_82 (fun v_82 h_82 hp => ?_)
      obtain ⟨rfl, rfl⟩ := hp
      refine g_if_ne (pc := 85) (tgt := 95) E dX8_fewest_85 (by decide) (fun c_85 => ?_) (fun c_85 => ?_)
      · have k85 : ¬ z_enc nd 10 = 0 := fun q => c_85 (by rw [htot, hz.mp q]; rfl)
        refine g_iconst (pc := 95) (v := 0) E dX8_fewest_95 (by decide) ?_
        refine g_istore_1 (pc := 96) E dX8_fewest_96 (by decide) rfl ?_
        have e := LHD hall k85 0 (Nat.zero_le _)
        rw [show q_part 0 (f 39) (fun _ => (-1 : Int32)) = f 39 from q_part_0, show va_up (va_up (q_up f 0 14 0) 41 (q_part (2 ^ n) (f 41) (fun s => q_b (z_legM n f s)))) 39 (f 39) = (va_up (q_up f 0 14 0) 41 (q_part (2 ^ n) (f 41) (fun s => q_b (z_legM n f s)))) from va_up_id (f := (va_up (q_up f 0 14 0) 41 (q_part (2 ^ n) (f 41) (fun s => q_b (z_legM n f s))))) (k := 39)] at e
        exact e
      · have k85 : z_enc nd 10 = 0 := by
          have q := c_85
          rw [htot] at q
          exact hz.mpr ((nI_eq (b := 0) (by omega) (by omega)).mp q)
        refine g_aload_0 (pc := 88) E dX8_fewest_88 ?_
        refine g_iconst (pc := 89) (v := 0) E dX8_fewest_89 (by decide) ?_
        refine g_putI (pc := 90) E (by first | rfl | assumption) (by first | rfl | assumption) fw_X8_199 rfl dX8_fewest_90 ?_
        refine g_iconst (pc := 93) (v := 0) E dX8_fewest_93 (by decide) ?_
        exact g_iret (pc := 94) E Z dX8_fewest_94 ⟨_, rfl, Or.inr ⟨hall, Or.inl ⟨k85, rfl, _, z_kpB, rfl, rfl⟩⟩⟩
    · have e_46 := (not_congr (q_ge (x := n) (y := i) hn2 rfl (by omega) (by omega))).mp c_46
      refine g_aload_0 (pc := 49) E dX8_fewest_49 ?_
      refine g_getR (pc := 50) E (by first | rfl | assumption) (by first | rfl | assumption) fl_X8_54 rfl (by first | rfl | assumption) dX8_fewest_50 ?_
      refine g_iload_1 (pc := 53) E dX8_fewest_53 ?_
      refine g_iald (pc := 54) E (by first | rfl | assumption) (by first | rfl | assumption) dX8_fewest_54 (q_ix_n (by omega)) ?_
      refine g_if_le (pc := 55) (tgt := 71) E dX8_fewest_55 (by decide) (fun c_55 => ?_) (fun c_55 => ?_)
      · have k55 : nd i = 0 := by
          have q : f 20 i ≤ 0 := c_55
          rw [(hnd i (by omega)).1] at q
          have l1 := (hnd i (by omega)).2
          have := (nI_leI (b := 0) (by omega) (by omega)).mp q
          omega
        refine g_iinc_1 (pc := 71) (u := 1) E dX8_fewest_71 (by decide) (by decide) rfl ?_
        refine g_goto (pc := 74) (tgt := 41) E dX8_fewest_74 (by decide) ?_
        rw [nI_1]
        exact ih (by omega) (fun c hc h0 => by
          by_cases e : c = i
          · subst e; first | exact k66 | exact absurd h0 (by omega)
          · exact hall c (by omega) h0)
      · have k55 : 0 < nd i := Nat.pos_of_ne_zero (fun z => c_55 (by show f 20 i ≤ 0; rw [(hnd i (by omega)).1, z]; decide))
        have p2 : 2 ^ i < 2 ^ n := Nat.pow_lt_pow_right (by decide) (by omega)
        refine g_aload_0 (pc := 58) E dX8_fewest_58 ?_
        refine g_getR (pc := 59) E (by first | rfl | assumption) (by first | rfl | assumption) fl_X8_119 rfl (by first | rfl | assumption) dX8_fewest_59 ?_
        refine g_iconst (pc := 62) (v := 1) E dX8_fewest_62 (by decide) ?_
        refine g_iload_1 (pc := 63) E dX8_fewest_63 ?_
        refine g_ishl (pc := 64) E dX8_fewest_64 ?_
        first | refine g_zald (pc := 65) E (by first | rfl | assumption) (by first | rfl | assumption) dX8_fewest_65 (q_ix_e (j := 2 ^ i) (q_shl1 i (by omega)) (by omega)) ?_ | refine g_bald (pc := 65) E (by first | rfl | assumption) (by first | rfl | assumption) dX8_fewest_65 (q_ix_e (j := 2 ^ i) (q_shl1 i (by omega)) (by omega)) ?_
        refine g_if_ne (pc := 66) (tgt := 71) E dX8_fewest_66 (by decide) (fun c_66 => ?_) (fun c_66 => ?_)
        · have k66 : p (2 ^ i) = true := by
            have q := c_66
            rw [h41 (by omega)] at q
            exact q_b1.mp q
          refine g_iinc_1 (pc := 71) (u := 1) E dX8_fewest_71 (by decide) (by decide) rfl ?_
          refine g_goto (pc := 74) (tgt := 41) E dX8_fewest_74 (by decide) ?_
          rw [nI_1]
          exact ih (by omega) (fun c hc h0 => by
            by_cases e : c = i
            · subst e; first | exact k66 | exact absurd h0 (by omega)
            · exact hall c (by omega) h0)
        · have k66 : ¬ p (2 ^ i) = true := by
            have q := c_66
            rw [h41 (by omega)] at q
            exact q_b0.mp q
          refine g_iconst (pc := 69) (v := -1) E dX8_fewest_69 (by decide) ?_
          exact g_iret (pc := 70) E Z dX8_fewest_70 ⟨_, rfl, Or.inl ⟨⟨i, by omega, k55, k66⟩, rfl, _, z_kpA, rfl, rfl⟩⟩
  have LST : ∀ i, i ≤ 2 ^ n → gg C tyM 6 0 0 alM ad 12 [some (.ref 0), some (.int (nI i)), none, none, none, none] [] (va_up (q_up f 0 14 0) 41 (q_part i (f 41) (fun s => q_b (z_legM n f s))), g, rfM) := by
    refine q_loop (2 ^ n) (fun i hi ih => ?_)
    have hsh2 : (1 : Int32) <<< (va_up (q_up f 0 14 0) 41 (q_part i (f 41) (fun s => q_b (z_legM n f s))) 0 5 &&& 31) = nI (2 ^ n) := hsh
    refine g_iload_1 (pc := 12) E dX8_fewest_12 ?_
    refine g_iconst (pc := 13) (v := 1) E dX8_fewest_13 (by decide) ?_
    refine g_aload_0 (pc := 14) E dX8_fewest_14 ?_
    refine g_getI (pc := 15) E (by first | rfl | assumption) (by first | rfl | assumption) fl_X8_154 rfl dX8_fewest_15 ?_
    refine g_ishl (pc := 18) E dX8_fewest_18 ?_
    refine g_icmp_ge (pc := 19) (tgt := 39) E dX8_fewest_19 (by decide) (fun c_19 => ?_) (fun c_19 => ?_)
    · have e_19 := (q_ge (x := 2 ^ n) (y := i) hsh2 rfl (by omega) (by omega)).mp c_19
      refine g_iconst (pc := 39) (v := 0) E dX8_fewest_39 (by decide) ?_
      refine g_istore_1 (pc := 40) E dX8_fewest_40 (by decide) rfl ?_
      rw [show i = 2 ^ n by omega]
      exact LCK 0 (Nat.zero_le _) (fun c hc => absurd hc (Nat.not_lt_zero c))
    · have e_19 := (not_congr (q_ge (x := 2 ^ n) (y := i) hsh2 rfl (by omega) (by omega))).mp c_19
      refine g_aload_0 (pc := 22) E dX8_fewest_22 ?_
      refine g_getR (pc := 23) E (by first | rfl | assumption) (by first | rfl | assumption) fl_X8_119 rfl (by first | rfl | assumption) dX8_fewest_23 ?_
      refine g_iload_1 (pc := 26) E dX8_fewest_26 ?_
      refine g_aload_0 (pc := 27) E dX8_fewest_27 ?_
      refine g_iload_1 (pc := 28) E dX8_fewest_28 ?_
      refine g_cVi1 (pc := 29) E (c_X8_isLegal n (by exact hn) h10 (by exact hgt) i (by omega)) cw_X8_193 (by decide) (by decide) (by first | rfl | assumption) (by first | rfl | assumption) (Nat.le_of_ble_eq_true rfl) dX8_fewest_29 (fun v_29 h_29 hp => ?_)
      obtain ⟨rfl, rfl⟩ := hp
      refine g_zast (pc := 32) E rfl rfl dX8_fewest_32 (q_ix_n (by omega)) q_bn ?_
      refine g_iinc_1 (pc := 33) (u := 1) E dX8_fewest_33 (by decide) (by decide) rfl ?_
      refine g_goto (pc := 36) (tgt := 12) E dX8_fewest_36 (by decide) ?_
      rw [nI_1, q_upr]
      have e := ih (by omega)
      rw [← q_part_s (i := i) (r := f 41) (r2 := fun s => q_b (z_legM n f s)) rfl] at e
      exact e
  refine g_aload_0 (pc := 0) E dX8_fewest_0 ?_
  refine g_iconst (pc := 1) (v := 0) E dX8_fewest_1 (by decide) ?_
  refine g_putI (pc := 2) E (by first | rfl | assumption) (by first | rfl | assumption) fw_X8_137 rfl dX8_fewest_2 ?_
  rw [q_up_same ht]
  refine g_aload_0 (pc := 5) E dX8_fewest_5 ?_
  refine g_iconst (pc := 6) (v := 0) E dX8_fewest_6 (by decide) ?_
  refine g_putI (pc := 7) E (by first | rfl | assumption) (by first | rfl | assumption) fw_X8_196 rfl dX8_fewest_7 ?_
  refine g_iconst (pc := 10) (v := 0) E dX8_fewest_10 (by decide) ?_
  refine g_istore_1 (pc := 11) E dX8_fewest_11 (by decide) rfl ?_
  have e := LST 0 (Nat.zero_le _)
  rw [show q_part 0 (f 41) (fun s => q_b (z_legM n f s)) = f 41 from q_part_0, show va_up (q_up f 0 14 0) 41 (f 41) = q_up f 0 14 0 from va_up_id (f := q_up f 0 14 0) (k := 41)] at e
  exact e
