/-! the reference: adds, multiplies, ways -/
abbrev w_kM (f F : Nat → Nat → Int32) : Prop := ∀ a, a < 41 ∨ 45 < a → F a = f a
theorem w_kM_leg {n : Nat} {f F : Nat → Nat → Int32} {s : Nat} (h : w_kM f F) : z_legM n F s ↔ z_legM n f s := by
  unfold z_legM
  simp only [h 0 (by omega), h 23 (by omega), h 18 (by omega), h 19 (by omega), h 15 (by omega), h 22 (by omega), h 28 (by omega), h 27 (by omega)]
theorem w_qb {P Q : Prop} [Decidable P] [Decidable Q] (h : P ↔ Q) : q_b P = q_b Q := by
  unfold q_b
  by_cases e : P
  · rw [if_pos e, if_pos (h.mp e)]
  · rw [if_neg e, if_neg (fun q => e (h.mpr q))]
theorem w_kM_up {f F : Nat → Nat → Int32} {a k : Nat} {v : Int32} (h : w_kM f F) (ha : 40 < a ∧ a < 46) : w_kM f (q_up F a k v) := fun b hb => by rw [q_up_ne (by omega)]; exact h b hb
theorem w_kM_va {f F : Nat → Nat → Int32} {a : Nat} {r : Nat → Int32} (h : w_kM f F) (ha : 40 < a ∧ a < 46) : w_kM f (va_up F a r) := fun b hb => by rw [va_up_n (by omega)]; exact h b hb
set_option maxHeartbeats 4000000 in
set_option maxRecDepth 100000 in
theorem c_X8_adds {f : Nat → Nat → Int32} {g : Nat → Nat → Int64} (a : Nat) (ha : alM a = true) (hta : tyM a = .inl (.int, 40)) (hne : 44 ≠ a) (u v : Nat) (hu : ∀ i, i < 40 → f a i = nI (w_lb u i)) (hv : ∀ i, i < 40 → f 44 i = nI (w_lb v i)) : q_ConV yX8_adds cX8_adds 5 none 0 0 tyM alM [.ref a, .ref 44] (f, g, rfM) (fun h' => ∃ r : Nat → Int32, (∀ i, i < 40 → r i = nI (w_lb (u + v) i)) ∧ h' = (va_up f a r, g, rfM)) := by
  refine q_Con.of RX8 [some (.ref a), some (.ref 44), none, none, none] (by decide +kernel) rfl rfl (Nat.le_of_ble_eq_true rfl) (fun C ad E Z => ?_)
  have L : ∀ i, i ≤ 40 → ∀ (r : Nat → Int32), (∀ j, j < i → r j = nI (w_lb (u + v) j)) → (∀ j, i ≤ j → r j = f a j) → gg C tyM 5 0 0 alM ad 5 [some (.ref a), some (.ref 44), some (.long (lN ((u % wB ^ i + v % wB ^ i) / wB ^ i))), none, some (.int (nI i))] [] (va_up f a r, g, rfM) := by
    refine q_loop 40 (fun i hi ih => ?_)
    intro r h1 h2
    have m1 := w_add1 u v i
    have m2 := w_add2 u v i
    have m3 := w_add3 u v i
    have m4 := w_lb_lt u i
    have m5 := w_lb_lt v i
    have hv44 : i < 40 → va_up f a r 44 i = nI (w_lb v i) := fun q => by rw [va_up_n hne]; exact hv i q
    have hva : i < 40 → va_up f a r a i = nI (w_lb u i) := fun q => by rw [va_up_s, h2 i (Nat.le_refl _)]; exact hu i q
    have ev : lN ((u % wB ^ i + v % wB ^ i) / wB ^ i) + ((nI (w_lb u i)).toInt64 + (nI (w_lb v i)).toInt64) = lN ((u % wB ^ (i + 1) + v % wB ^ (i + 1)) / wB ^ i) := by
      rw [nI_l (by omega), nI_l (by omega), lN_add, lN_add, ← m1, Nat.add_comm]
    refine g_iload_4 (pc := 5) E dX8_adds_5 ?_
    refine g_bipush (pc := 7) (v := 40) E dX8_adds_7 (by decide) ?_
    refine g_icmp_ge (pc := 9) (tgt := 48) E dX8_adds_9 (by decide) (fun c_9 => ?_) (fun c_9 => ?_)
    · have e_9 := (q_ge (x := 40) (y := i) rfl rfl (by omega) (by omega)).mp c_9
      exact g_vret (pc := 48) E Z dX8_adds_48 ⟨rfl, ⟨r, fun j hj => h1 j (by omega), rfl⟩⟩
    · have e_9 := (not_congr (q_ge (x := 40) (y := i) rfl rfl (by omega) (by omega))).mp c_9
      refine g_lload_2 (pc := 12) E dX8_adds_12 ?_
      refine g_aload_0 (pc := 13) E dX8_adds_13 ?_
      refine g_iload_4 (pc := 14) E dX8_adds_14 ?_
      refine g_iald (pc := 16) E (by first | assumption | rfl) (by first | assumption | rfl) dX8_adds_16 (q_ix_n (by omega)) ?_
      rw [hva (by omega)]
      refine g_i2l (pc := 17) E dX8_adds_17 ?_
      refine g_aload_1 (pc := 18) E dX8_adds_18 ?_
      refine g_iload_4 (pc := 19) E dX8_adds_19 ?_
      refine g_iald (pc := 21) E (by first | assumption | rfl) (by first | assumption | rfl) dX8_adds_21 (q_ix_n (by omega)) ?_
      rw [hv44 (by omega)]
      refine g_i2l (pc := 22) E dX8_adds_22 ?_
      refine g_ladd (pc := 23) E dX8_adds_23 ?_
      refine g_ladd (pc := 24) E dX8_adds_24 ?_
      rw [ev]
      refine g_lstore_2 (pc := 25) E dX8_adds_25 (by decide) rfl ?_
      refine g_aload_0 (pc := 26) E dX8_adds_26 ?_
      refine g_iload_4 (pc := 27) E dX8_adds_27 ?_
      refine g_lload_2 (pc := 29) E dX8_adds_29 ?_
      refine g_ldc2 (pc := 30) E kw_X8_234 dX8_adds_30 ?_
      refine g_lrem (pc := 33) E dX8_adds_33 (by decide) ?_
      refine g_l2i (pc := 34) E dX8_adds_34 ?_
      refine g_iast (pc := 35) E (by first | assumption | rfl) (by first | assumption | rfl) dX8_adds_35 (q_ix_n (by omega)) ?_
      refine g_lload_2 (pc := 36) E dX8_adds_36 ?_
      refine g_ldc2 (pc := 37) E kw_X8_234 dX8_adds_37 ?_
      refine g_ldiv (pc := 40) E dX8_adds_40 (by decide) ?_
      refine g_lstore_2 (pc := 41) E dX8_adds_41 (by decide) rfl ?_
      refine g_iinc_4 (pc := 42) (u := 1) E dX8_adds_42 (by decide) (by decide) rfl ?_
      refine g_goto (pc := 45) (tgt := 5) E dX8_adds_45 (by decide) ?_
      rw [nI_1, q_upr, show (1000000000 : Int64) = lN wB from rfl, wN_rem (by omega) (by decide) (by decide), wN_div (by omega) (by decide) (by decide), w_dd, m2, lN_i]
      exact ih (by omega) _ (fun j hj => by
        by_cases e : j = i
        · subst e; exact va_up_s
        · rw [va_up_n e]; exact h1 j (by omega)) (fun j hj => by rw [va_up_n (by omega)]; exact h2 j (by omega))
  refine g_lconst (pc := 0) (v := 0) E dX8_adds_0 (by decide) ?_
  refine g_lstore_2 (pc := 1) E dX8_adds_1 (by decide) rfl ?_
  refine g_iconst (pc := 2) (v := 0) E dX8_adds_2 (by decide) ?_
  refine g_istore_4 (pc := 3) E dX8_adds_3 (by decide) rfl ?_
  have e := L 0 (Nat.zero_le _) (f a) (fun j hj => absurd hj (Nat.not_lt_zero j)) (fun j _ => rfl)
  rw [va_up_id, show (u % wB ^ 0 + v % wB ^ 0) / wB ^ 0 = 0 by rw [Nat.pow_zero, Nat.mod_one, Nat.mod_one]] at e
  exact e
set_option maxHeartbeats 4000000 in
set_option maxRecDepth 100000 in
theorem c_X8_multiplies {f : Nat → Nat → Int32} {g : Nat → Nat → Int64} (v b : Nat) (hb : b ≤ 1024) (hv : ∀ i, i < 40 → f 44 i = nI (w_lb v i)) : q_ConV yX8_multiplies cX8_multiplies 5 none 0 0 tyM alM [.ref 44, .int (nI b)] (f, g, rfM) (fun h' => ∃ r : Nat → Int32, (∀ i, i < 40 → r i = nI (w_lb (v * b) i)) ∧ h' = (va_up f 44 r, g, rfM)) := by
  refine q_Con.of RX8 [some (.ref 44), some (.int (nI b)), none, none, none] (by decide +kernel) rfl rfl (Nat.le_of_ble_eq_true rfl) (fun C ad E Z => ?_)
  have L : ∀ i, i ≤ 40 → ∀ (r : Nat → Int32), (∀ j, j < i → r j = nI (w_lb (v * b) j)) → (∀ j, i ≤ j → r j = f 44 j) → gg C tyM 5 0 0 alM ad 5 [some (.ref 44), some (.int (nI b)), some (.long (lN (v % wB ^ i * b / wB ^ i))), none, some (.int (nI i))] [] (va_up f 44 r, g, rfM) := by
    refine q_loop 40 (fun i hi ih => ?_)
    intro r h1 h2
    have m1 := w_mul1 v b i
    have m2 := w_mul2 v b i
    have m3 := w_mul3 v b i
    have m4 := w_lb_lt v i
    have m5 : w_lb v i * b ≤ 1000000000 * 1024 := Nat.mul_le_mul (Nat.le_of_lt m4) hb
    have hva : i < 40 → va_up f 44 r 44 i = nI (w_lb v i) := fun q => by rw [va_up_s, h2 i (Nat.le_refl _)]; exact hv i q
    have ev : lN (v % wB ^ i * b / wB ^ i) + (nI (w_lb v i)).toInt64 * (nI b).toInt64 = lN (v % wB ^ (i + 1) * b / wB ^ i) := by
      rw [nI_l (by omega), nI_l (by omega), lN_mul, lN_add, ← m1, Nat.add_comm]
    refine g_iload_4 (pc := 5) E dX8_multiplies_5 ?_
    refine g_bipush (pc := 7) (v := 40) E dX8_multiplies_7 (by decide) ?_
    refine g_icmp_ge (pc := 9) (tgt := 45) E dX8_multiplies_9 (by decide) (fun c_9 => ?_) (fun c_9 => ?_)
    · have e_9 := (q_ge (x := 40) (y := i) rfl rfl (by omega) (by omega)).mp c_9
      exact g_vret (pc := 45) E Z dX8_multiplies_45 ⟨rfl, ⟨r, fun j hj => h1 j (by omega), rfl⟩⟩
    · have e_9 := (not_congr (q_ge (x := 40) (y := i) rfl rfl (by omega) (by omega))).mp c_9
      refine g_lload_2 (pc := 12) E dX8_multiplies_12 ?_
      refine g_aload_0 (pc := 13) E dX8_multiplies_13 ?_
      refine g_iload_4 (pc := 14) E dX8_multiplies_14 ?_
      refine g_iald (pc := 16) E (by first | assumption | rfl) (by first | assumption | rfl) dX8_multiplies_16 (q_ix_n (by omega)) ?_
      rw [hva (by omega)]
      refine g_i2l (pc := 17) E dX8_multiplies_17 ?_
      refine g_iload_1 (pc := 18) E dX8_multiplies_18 ?_
      refine g_i2l (pc := 19) E dX8_multiplies_19 ?_
      refine g_lmul (pc := 20) E dX8_multiplies_20 ?_
      refine g_ladd (pc := 21) E dX8_multiplies_21 ?_
      rw [ev]
      refine g_lstore_2 (pc := 22) E dX8_multiplies_22 (by decide) rfl ?_
      refine g_aload_0 (pc := 23) E dX8_multiplies_23 ?_
      refine g_iload_4 (pc := 24) E dX8_multiplies_24 ?_
      refine g_lload_2 (pc := 26) E dX8_multiplies_26 ?_
      refine g_ldc2 (pc := 27) E kw_X8_234 dX8_multiplies_27 ?_
      refine g_lrem (pc := 30) E dX8_multiplies_30 (by decide) ?_
      refine g_l2i (pc := 31) E dX8_multiplies_31 ?_
      refine g_iast (pc := 32) E (by first | assumption | rfl) (by first | assumption | rfl) dX8_multiplies_32 (q_ix_n (by omega)) ?_
      refine g_lload_2 (pc := 33) E dX8_multiplies_33 ?_
      refine g_ldc2 (pc := 34) E kw_X8_234 dX8_multiplies_34 ?_
      refine g_ldiv (pc := 37) E dX8_multiplies_37 (by decide) ?_
      refine g_lstore_2 (pc := 38) E dX8_multiplies_38 (by decide) rfl ?_
      refine g_iinc_4 (pc := 39) (u := 1) E dX8_multiplies_39 (by decide) (by decide) rfl ?_
      refine g_goto (pc := 42) (tgt := 5) E dX8_multiplies_42 (by decide) ?_
      rw [nI_1, q_upr, show (1000000000 : Int64) = lN wB from rfl, wN_rem (by omega) (by decide) (by decide), wN_div (by omega) (by decide) (by decide), w_dd, m2, lN_i]
      exact ih (by omega) _ (fun j hj => by
        by_cases e : j = i
        · subst e; exact va_up_s
        · rw [va_up_n e]; exact h1 j (by omega)) (fun j hj => by rw [va_up_n (by omega)]; exact h2 j (by omega))
  refine g_lconst (pc := 0) (v := 0) E dX8_multiplies_0 (by decide) ?_
  refine g_lstore_2 (pc := 1) E dX8_multiplies_1 (by decide) rfl ?_
  refine g_iconst (pc := 2) (v := 0) E dX8_multiplies_2 (by decide) ?_
  refine g_istore_4 (pc := 3) E dX8_multiplies_3 (by decide) rfl ?_
  have e := L 0 (Nat.zero_le _) (f 44) (fun j hj => absurd hj (Nat.not_lt_zero j)) (fun j _ => rfl)
  rw [va_up_id, show v % wB ^ 0 * b / wB ^ 0 = 0 by rw [Nat.pow_zero, Nat.mod_one, Nat.zero_mul]] at e
  exact e
abbrev w_LM (n : Nat) (f : Nat → Nat → Int32) : Nat → Nat := fun s => if z_legM n f s then 1 else 0
abbrev w_k2 (f F : Nat → Nat → Int32) (x : Int32) : Prop := (∀ a, 0 < a → a < 41 ∨ 45 < a → F a = f a) ∧ F 0 = va_up (f 0) 46 x
theorem w_k2_up {f F : Nat → Nat → Int32} {x : Int32} {k : Nat} {v : Int32} (h : w_k2 f F x) : w_k2 f (q_up F 45 k v) x := ⟨fun b h0 hb => by rw [q_up_ne (by omega)]; exact h.1 b h0 hb, by rw [q_up_ne (by decide)]; exact h.2⟩
theorem w_k2_dm {f F : Nat → Nat → Int32} {x y : Int32} (h : w_k2 f F x) : w_k2 f (q_up F 0 46 y) y := ⟨fun b h0 hb => by rw [q_up_ne (by omega)]; exact h.1 b h0 hb, by rw [q_up_eq, h.2, va_up_u]⟩
theorem w_k2_of {f F : Nat → Nat → Int32} {y : Int32} (h : w_kM f F) : w_k2 f (q_up F 0 46 y) y := ⟨fun b h0 hb => by rw [q_up_ne (by omega)]; exact h b hb, by rw [q_up_eq, h 0 (by omega)]⟩
set_option maxHeartbeats 4000000 in
set_option maxRecDepth 100000 in
theorem c_X8_ways {f : Nat → Nat → Int32} {g : Nat → Nat → Int64} (ht : f 0 0 = 0) (n : Nat) (hn : f 0 5 = nI n) (h10 : n ≤ 10) (hgt : ∀ c, c < n → ∃ j : Nat, j ≤ 2 ∧ f 18 c = nI j) (x : Int32) : q_ConI yX8_ways cX8_ways 7 (some .int) 2 48 tyM alM [.ref 0, .int x] (f, g, rfM) (fun v h' => (¬ (0 ≤ x.toInt ∧ x.toInt ≤ 24) ∧ v = -2 ∧ h' = (f, g, rfM)) ∨ (∃ e : Nat, e ≤ 24 ∧ x = nI e ∧ v = nI (w_dm (w_W n (w_LM n f) e) 360) ∧ ∃ F : Nat → Nat → Int32, w_k2 f F v ∧ (∀ j, j < 360 → F 45 j = nI (w_W n (w_LM n f) e / 10 ^ j % 10)) ∧ h' = (F, g, rfM))) := by
  refine q_Con.of RX8 [some (.ref 0), some (.int x), none, none, none, none, none] (by decide +kernel) rfl rfl (Nat.le_of_ble_eq_true rfl) (fun C ad E Z => ?_)
  have p10 : 2 ^ n ≤ 2 ^ 10 := Nat.pow_le_pow_right (by decide) h10
  have pp : 0 < 2 ^ n := Nat.pow_pos (by decide)
  have K : ∀ e : Nat, e ≤ 24 → x = nI e → gg C tyM 7 0 0 alM ad 20 [some (.ref 0), some (.int (nI e)), none, none, none, none, none] [] (f, g, rfM) := by
    intro e he hx
    generalize hLe : w_LM n f = Lg
    have hLg : ∀ s, Lg s = if z_legM n f s then 1 else 0 := fun s => by rw [← hLe]
    have hL1 : ∀ s, Lg s ≤ 1 := fun s => by rw [hLg]; split <;> decide
    have hNb : ∀ T, w_zc Lg n T ≤ 1024 := fun T => Nat.le_trans (w_zc_le hL1 n T) p10
    have hPW := w_P_W (n := n) (L := Lg) (e := e)
    generalize hPe : w_P n 1 (fun T => w_zc Lg n T ^ e) (2 ^ n) = P1 at *
    generalize hMe : w_P n (-1) (fun T => w_zc Lg n T ^ e) (2 ^ n) = M1 at *
    generalize hWe : w_W n Lg e = W at *
    obtain ⟨hPM, hPMW⟩ := hPW
    have L4 : ∀ k, k ≤ 40 → ∀ (F : Nat → Nat → Int32) (x5 x6 : Option Value), w_k2 f F (nI (w_dm W (9 * k))) → (∀ i, i < 40 → F 42 i = nI (w_lb P1 i)) → (∀ i, i < 40 → F 43 i = nI (w_lb M1 i)) → (∀ j, j < 9 * k → F 45 j = nI (W / 10 ^ j % 10)) → gg C tyM 7 0 0 alM ad 283 [some (.ref 0), some (.int (nI e)), some (.int (nI (2 ^ n - 1))), some (.int (nI (if P1 % wB ^ k < M1 % wB ^ k then 1 else 0))), some (.int (nI k)), x5, x6] [] (F, g, rfM) := by
      refine q_loop 40 (fun k hk ih => ?_)
      intro F x5 x6 hk2 h42 h43 h45
      have hlb := w_lb_lt W k
      have hlp := w_lb_lt P1 k
      have hlm := w_lb_lt M1 k
      have hsb := w_sub1 k hPM
      rw [hPMW] at hsb
      have L5 : ∀ i, i ≤ 9 → ∀ (F : Nat → Nat → Int32), w_k2 f F (nI (w_dm W (9 * k + i))) → (∀ i, i < 40 → F 42 i = nI (w_lb P1 i)) → (∀ i, i < 40 → F 43 i = nI (w_lb M1 i)) → (∀ j, j < 9 * k + i → F 45 j = nI (W / 10 ^ j % 10)) → k < 40 → gg C tyM 7 0 0 alM ad 332 [some (.ref 0), some (.int (nI e)), some (.int (nI (2 ^ n - 1))), some (.int (nI (if P1 % wB ^ (k + 1) < M1 % wB ^ (k + 1) then 1 else 0))), some (.int (nI k)), some (.int (nI (w_lb W k / 10 ^ i))), some (.int (nI i))] [] (F, g, rfM) := by
        refine q_loop 9 (fun i hi ih2 => ?_)
        intro F hk2 h42 h43 h45 hk40
        have hq : w_lb W k / 10 ^ i ≤ w_lb W k := Nat.div_le_self _ _
        have ed : nI (w_lb W k / 10 ^ i) / 10 = nI (w_lb W k / 10 ^ (i + 1)) := by rw [show (10 : Int32) = nI 10 from rfl, pk_div (by omega) (by decide) (by decide), w_dgs]
        have er : i < 9 → nI (w_lb W k / 10 ^ i) - nI (w_lb W k / 10 ^ i) / 10 * 10 = nI (W / 10 ^ (9 * k + i) % 10) := fun q => by rw [show (10 : Int32) = nI 10 from rfl, pk_rem (by omega) (by decide) (by decide), w_dig q]
        have hd := Nat.mod_lt (W / 10 ^ (9 * k + i)) (show 0 < 10 by decide)
        have exi : 9 * nI k + nI i = nI (9 * k + i) := by rw [show (9 : Int32) = nI 9 from rfl, pk_mul, nI_add]
        have hdm : w_dm W (9 * k + i + 1) = if 0 < W / 10 ^ (9 * k + i) % 10 then 9 * k + i + 1 else w_dm W (9 * k + i) := rfl
        have h45' : ∀ (F2 : Nat → Nat → Int32), F2 45 = va_up (F 45) (9 * k + i) (nI (W / 10 ^ (9 * k + i) % 10)) → ∀ j, j < 9 * k + (i + 1) → F2 45 j = nI (W / 10 ^ j % 10) := fun F2 hF2 j hj => by
          rw [hF2]
          by_cases e : j = 9 * k + i
          · subst e; exact va_up_s
          · rw [va_up_n e]; exact h45 j (by omega)
        refine g_iload_6 (pc := 332) E dX8_ways_332 ?_
        refine g_bipush (pc := 334) (v := 9) E dX8_ways_334 (by decide) ?_
        refine g_icmp_ge (pc := 336) (tgt := 392) E dX8_ways_336 (by decide) (fun c_336 => ?_) (fun c_336 => ?_)
        · have e_336 := (q_ge (x := 9) (y := i) rfl rfl (by omega) (by omega)).mp c_336
          refine g_iinc_4 (pc := 392) (u := 1) E dX8_ways_392 (by decide) (by decide) rfl ?_
          refine g_goto (pc := 395) (tgt := 283) E dX8_ways_395 (by decide) ?_
          rw [nI_1]
          exact ih (by omega) F _ _ (by rw [show 9 * (k + 1) = 9 * k + i by omega]; exact hk2) h42 h43 (fun j hj => h45 j (by omega))
        · have e_336 := (not_congr (q_ge (x := 9) (y := i) rfl rfl (by omega) (by omega))).mp c_336
          refine g_aload_0 (pc := 339) E dX8_ways_339 ?_
          refine g_getR (pc := 340) E (by first | assumption | rfl) (by first | assumption | rfl) fl_X8_131 rfl (by first | assumption | rfl) dX8_ways_340 ?_
          refine g_bipush (pc := 343) (v := 9) E dX8_ways_343 (by decide) ?_
          refine g_iload_4 (pc := 345) E dX8_ways_345 ?_
          refine g_imul (pc := 347) E dX8_ways_347 ?_
          refine g_iload_6 (pc := 348) E dX8_ways_348 ?_
          refine g_iadd (pc := 350) E dX8_ways_350 ?_
          refine g_iload_5 (pc := 351) E dX8_ways_351 ?_
          refine g_bipush (pc := 353) (v := 10) E dX8_ways_353 (by decide) ?_
          refine g_irem (pc := 355) E dX8_ways_355 (by decide) ?_
          rw [er (by omega)]
          refine g_iast (pc := 356) E (by first | assumption | rfl) (by first | assumption | rfl) dX8_ways_356 (q_ix_e exi (by omega)) ?_
          refine g_iload_5 (pc := 357) E dX8_ways_357 ?_
          refine g_bipush (pc := 359) (v := 10) E dX8_ways_359 (by decide) ?_
          refine g_irem (pc := 361) E dX8_ways_361 (by decide) ?_
          rw [er (by omega)]
          refine g_if_le (pc := 362) (tgt := 379) E dX8_ways_362 (by decide) (fun c_362 => ?_) (fun c_362 => ?_)
          · have k362 : ¬ 0 < W / 10 ^ (9 * k + i) % 10 := fun q => nI_nle q (by omega) c_362
            rw [if_neg k362] at hdm
            refine g_iload_5 (pc := 379) E dX8_ways_379 ?_
            refine g_bipush (pc := 381) (v := 10) E dX8_ways_381 (by decide) ?_
            refine g_idiv (pc := 383) E dX8_ways_383 (by decide) ?_
            refine g_istore_5 (pc := 384) E dX8_ways_384 (by decide) rfl ?_
            refine g_iinc_6 (pc := 386) (u := 1) E dX8_ways_386 (by decide) (by decide) rfl ?_
            refine g_goto (pc := 389) (tgt := 332) E dX8_ways_389 (by decide) ?_
            rw [nI_1, ed]
            first
            | (rw [exi, nI_1]; exact ih2 (by omega) _ (by rw [show 9 * k + (i + 1) = 9 * k + i + 1 from rfl, hdm]; exact w_k2_dm (w_k2_up hk2)) (fun j hj => h42 j hj) (fun j hj => h43 j hj) (h45' _ rfl) hk40)
            | exact ih2 (by omega) _ (by rw [show 9 * k + (i + 1) = 9 * k + i + 1 from rfl, hdm]; exact w_k2_up hk2) (fun j hj => h42 j hj) (fun j hj => h43 j hj) (h45' _ rfl) hk40
          · have k362 : 0 < W / 10 ^ (9 * k + i) % 10 := Nat.pos_of_ne_zero (fun q => c_362 (by rw [q]; decide))
            rw [if_pos k362] at hdm
            refine g_aload_0 (pc := 365) E dX8_ways_365 ?_
            refine g_bipush (pc := 366) (v := 9) E dX8_ways_366 (by decide) ?_
            refine g_iload_4 (pc := 368) E dX8_ways_368 ?_
            refine g_imul (pc := 370) E dX8_ways_370 ?_
            refine g_iload_6 (pc := 371) E dX8_ways_371 ?_
            refine g_iadd (pc := 373) E dX8_ways_373 ?_
            refine g_iconst (pc := 374) (v := 1) E dX8_ways_374 (by decide) ?_
            refine g_iadd (pc := 375) E dX8_ways_375 ?_
            refine g_putI (pc := 376) E (by first | assumption | rfl) (by first | assumption | rfl) fw_X8_246 rfl dX8_ways_376 ?_
            refine g_iload_5 (pc := 379) E dX8_ways_379 ?_
            refine g_bipush (pc := 381) (v := 10) E dX8_ways_381 (by decide) ?_
            refine g_idiv (pc := 383) E dX8_ways_383 (by decide) ?_
            refine g_istore_5 (pc := 384) E dX8_ways_384 (by decide) rfl ?_
            refine g_iinc_6 (pc := 386) (u := 1) E dX8_ways_386 (by decide) (by decide) rfl ?_
            refine g_goto (pc := 389) (tgt := 332) E dX8_ways_389 (by decide) ?_
            rw [nI_1, ed]
            first
            | (rw [exi, nI_1]; exact ih2 (by omega) _ (by rw [show 9 * k + (i + 1) = 9 * k + i + 1 from rfl, hdm]; exact w_k2_dm (w_k2_up hk2)) (fun j hj => h42 j hj) (fun j hj => h43 j hj) (h45' _ rfl) hk40)
            | exact ih2 (by omega) _ (by rw [show 9 * k + (i + 1) = 9 * k + i + 1 from rfl, hdm]; exact w_k2_up hk2) (fun j hj => h42 j hj) (fun j hj => h43 j hj) (h45' _ rfl) hk40
      have ev : ∀ (b1 : Nat), b1 = (if P1 % wB ^ (k + 1) < M1 % wB ^ (k + 1) then 1 else 0) → nI (w_lb P1 k) - nI (w_lb M1 k) - nI (if P1 % wB ^ k < M1 % wB ^ k then 1 else 0) = iZ ((w_lb W k : Int) - 1000000000 * (b1 : Int)) := fun b1 hb1 => by
        rw [← hb1] at hsb
        rw [iZ_N, iZ_N, iZ_N, iZ_sub, iZ_sub]
        congr 1
        have hsb2 : w_lb P1 k + 1000000000 * b1 = w_lb W k + w_lb M1 k + (if P1 % wB ^ k < M1 % wB ^ k then 1 else 0) := hsb
        omega
      have hb01 : (if P1 % wB ^ (k + 1) < M1 % wB ^ (k + 1) then 1 else 0) = 0 ∨ (if P1 % wB ^ (k + 1) < M1 % wB ^ (k + 1) then 1 else 0) = 1 := by split <;> simp
      refine g_iload_4 (pc := 283) E dX8_ways_283 ?_
      refine g_bipush (pc := 285) (v := 40) E dX8_ways_285 (by decide) ?_
      refine g_icmp_ge (pc := 287) (tgt := 398) E dX8_ways_287 (by decide) (fun c_287 => ?_) (fun c_287 => ?_)
      · have e_287 := (q_ge (x := 40) (y := k) rfl rfl (by omega) (by omega)).mp c_287
        refine g_aload_0 (pc := 398) E dX8_ways_398 ?_
        refine g_getI (pc := 399) E (by first | assumption | rfl) (by first | assumption | rfl) fl_X8_246 rfl dX8_ways_399 ?_
        exact g_iret (pc := 402) E Z dX8_ways_402 ⟨_, rfl, Or.inr ⟨e, he, hx, (by rw [hLe, hWe, show (360 : Nat) = 9 * k by omega]; exact congrFun hk2.2 46), F, (by rw [show F 0 46 = nI (w_dm W (9 * k)) from congrFun hk2.2 46]; exact hk2), (fun j hj => by rw [hLe, hWe]; exact h45 j (by omega)), rfl⟩⟩
      · have e_287 := (not_congr (q_ge (x := 40) (y := k) rfl rfl (by omega) (by omega))).mp c_287
        refine g_aload_0 (pc := 290) E dX8_ways_290 ?_
        refine g_getR (pc := 291) E (by first | assumption | rfl) (by first | assumption | rfl) fl_X8_122 rfl (by first | assumption | rfl) dX8_ways_291 ?_
        refine g_iload_4 (pc := 294) E dX8_ways_294 ?_
        refine g_iald (pc := 296) E (by first | assumption | rfl) (by first | assumption | rfl) dX8_ways_296 (q_ix_n (by omega)) ?_
        rw [h42 k (by omega)]
        refine g_aload_0 (pc := 297) E dX8_ways_297 ?_
        refine g_getR (pc := 298) E (by first | assumption | rfl) (by first | assumption | rfl) fl_X8_125 rfl (by first | assumption | rfl) dX8_ways_298 ?_
        refine g_iload_4 (pc := 301) E dX8_ways_301 ?_
        refine g_iald (pc := 303) E (by first | assumption | rfl) (by first | assumption | rfl) dX8_ways_303 (q_ix_n (by omega)) ?_
        rw [h43 k (by omega)]
        refine g_isub (pc := 304) E dX8_ways_304 ?_
        refine g_iload_3 (pc := 305) E dX8_ways_305 ?_
        refine g_isub (pc := 306) E dX8_ways_306 ?_
        rw [ev _ rfl]
        refine g_istore_5 (pc := 307) E dX8_ways_307 (by decide) rfl ?_
        refine g_iload_5 (pc := 309) E dX8_ways_309 ?_
        refine g_if_ge (pc := 311) (tgt := 318) E dX8_ways_311 (by decide) (fun c_311 => ?_) (fun c_311 => ?_)
        · have k311 : (if P1 % wB ^ (k + 1) < M1 % wB ^ (k + 1) then 1 else 0) = 0 := by
            rcases hb01 with q | q
            · exact q
            · rw [q, Int32.le_iff_toInt_le, iZ_I (by omega) (by omega)] at c_311
              have z : (0 : Int32).toInt = 0 := rfl
              omega
          refine g_iconst (pc := 318) (v := 0) E dX8_ways_318 (by decide) ?_
          refine g_istore_3 (pc := 319) E dX8_ways_319 (by decide) rfl ?_
          refine g_iload_5 (pc := 320) E dX8_ways_320 ?_
          refine g_iload_3 (pc := 322) E dX8_ways_322 ?_
          refine g_ldc (pc := 323) E kw_X8_249 dX8_ways_323 ?_
          refine g_imul (pc := 325) E dX8_ways_325 ?_
          refine g_iadd (pc := 326) E dX8_ways_326 ?_
          refine g_istore_5 (pc := 327) E dX8_ways_327 (by decide) rfl ?_
          refine g_iconst (pc := 329) (v := 0) E dX8_ways_329 (by decide) ?_
          refine g_istore_6 (pc := 330) E dX8_ways_330 (by decide) rfl ?_
          have e := L5 0 (Nat.zero_le _) F hk2 h42 h43 h45 (by omega)
          rw [Nat.pow_zero, Nat.div_one, k311] at e
          rw [k311, show (1000000000 : Int32) = iZ 1000000000 from rfl]
          first
          | (rw [show (0 : Int32) = iZ 0 from rfl, iZ_mul, iZ_add, show (w_lb W k : Int) - 1000000000 * ((0 : Nat) : Int) + 0 * 1000000000 = (w_lb W k : Nat) by omega]; exact e)
          | (rw [show (1 : Int32) = iZ 1 from rfl, iZ_mul, iZ_add, show (w_lb W k : Int) - 1000000000 * ((1 : Nat) : Int) + 1 * 1000000000 = (w_lb W k : Nat) by omega]; exact e)
        · have k311 : (if P1 % wB ^ (k + 1) < M1 % wB ^ (k + 1) then 1 else 0) = 1 := by
            rcases hb01 with q | q
            · rw [q, Int32.le_iff_toInt_le, iZ_I (by omega) (by omega)] at c_311
              have z : (0 : Int32).toInt = 0 := rfl
              omega
            · exact q
          refine g_iconst (pc := 314) (v := 1) E dX8_ways_314 (by decide) ?_
          refine g_goto (pc := 315) (tgt := 319) E dX8_ways_315 (by decide) ?_
          refine g_istore_3 (pc := 319) E dX8_ways_319 (by decide) rfl ?_
          refine g_iload_5 (pc := 320) E dX8_ways_320 ?_
          refine g_iload_3 (pc := 322) E dX8_ways_322 ?_
          refine g_ldc (pc := 323) E kw_X8_249 dX8_ways_323 ?_
          refine g_imul (pc := 325) E dX8_ways_325 ?_
          refine g_iadd (pc := 326) E dX8_ways_326 ?_
          refine g_istore_5 (pc := 327) E dX8_ways_327 (by decide) rfl ?_
          refine g_iconst (pc := 329) (v := 0) E dX8_ways_329 (by decide) ?_
          refine g_istore_6 (pc := 330) E dX8_ways_330 (by decide) rfl ?_
          have e := L5 0 (Nat.zero_le _) F hk2 h42 h43 h45 (by omega)
          rw [Nat.pow_zero, Nat.div_one, k311] at e
          rw [k311, show (1000000000 : Int32) = iZ 1000000000 from rfl]
          first
          | (rw [show (0 : Int32) = iZ 0 from rfl, iZ_mul, iZ_add, show (w_lb W k : Int) - 1000000000 * ((0 : Nat) : Int) + 0 * 1000000000 = (w_lb W k : Nat) by omega]; exact e)
          | (rw [show (1 : Int32) = iZ 1 from rfl, iZ_mul, iZ_add, show (w_lb W k : Int) - 1000000000 * ((1 : Nat) : Int) + 1 * 1000000000 = (w_lb W k : Nat) by omega]; exact e)
    have L3 : ∀ i, i ≤ 2 ^ n → ∀ (F : Nat → Nat → Int32) (x4 x5 x6 : Option Value), w_kM f F → (∀ s, s < 2 ^ n → F 41 s = q_b (z_legM n f s)) → (∀ j, j < 40 → F 42 j = nI (w_lb (w_P n 1 (fun T => w_zc Lg n T ^ e) i) j)) → (∀ j, j < 40 → F 43 j = nI (w_lb (w_P n (-1) (fun T => w_zc Lg n T ^ e) i) j)) → gg C tyM 7 0 0 alM ad 83 [some (.ref 0), some (.int (nI e)), some (.int (nI (2 ^ n - 1))), some (.int (nI i)), x4, x5, x6] [] (F, g, rfM) := by
      refine q_loop (2 ^ n) (fun i hi ih => ?_)
      intro F x4 x5 x6 hk h41 h42 h43
      have hp1 : w_P n 1 (fun T => w_zc Lg n T ^ e) (i + 1) = w_P n 1 (fun T => w_zc Lg n T ^ e) i + (if w_sg n i = 1 then w_zc Lg n i ^ e else 0) := rfl
      have hp2 : w_P n (-1) (fun T => w_zc Lg n T ^ e) (i + 1) = w_P n (-1) (fun T => w_zc Lg n T ^ e) i + (if w_sg n i = -1 then w_zc Lg n i ^ e else 0) := rfl
      have hNi := hNb i
      have L3d : ∀ c, c ≤ n → ∀ (F : Nat → Nat → Int32), w_kM f F → (∀ s, s < 2 ^ n → F 41 s = q_b (z_legM n f s)) → (∀ j, j < 40 → F 42 j = nI (w_lb (w_P n 1 (fun T => w_zc Lg n T ^ e) i) j)) → (∀ j, j < 40 → F 43 j = nI (w_lb (w_P n (-1) (fun T => w_zc Lg n T ^ e) i) j)) → (∀ j, j < 40 → F 44 j = nI (w_lb (w_zc Lg n i ^ e) j)) → i < 2 ^ n → gg C tyM 7 0 0 alM ad 202 [some (.ref 0), some (.int (nI e)), some (.int (nI (2 ^ n - 1))), some (.int (nI i)), some (.int (nI (w_zc Lg n i))), some (.int (q_b (w_sg c i = -1))), some (.int (nI c))] [] (F, g, rfM) := by
        refine q_loop n (fun c hc ih2 => ?_)
        intro F hk h41 h42 h43 h44 hi2
        have hn' : F 0 5 = nI n := by rw [hk 0 (by omega)]; exact hn
        have hsg : w_sg (c + 1) i = if i.testBit c = true then w_sg c i else - w_sg c i := rfl
        have hs1 := w_sg1 c i
        refine g_iload_6 (pc := 202) E dX8_ways_202 ?_
        refine g_aload_0 (pc := 204) E dX8_ways_204 ?_
        refine g_getI (pc := 205) E (by first | assumption | rfl) (by first | assumption | rfl) fl_X8_154 rfl dX8_ways_205 ?_
        refine g_icmp_ge (pc := 208) (tgt := 244) E dX8_ways_208 (by decide) (fun c_208 => ?_) (fun c_208 => ?_)
        · have e_208 := (q_ge (x := n) (y := c) hn' rfl (by omega) (by omega)).mp c_208
          refine g_iload_5 (pc := 244) E dX8_ways_244 ?_
          refine g_if_eq (pc := 246) (tgt := 256) E dX8_ways_246 (by decide) (fun c_246 => ?_) (fun c_246 => ?_)
          · have k_246 := q_b0.mp c_246
            refine g_aload_0 (pc := 256) E dX8_ways_256 ?_
            refine g_getR (pc := 257) E (by first | assumption | rfl) (by first | assumption | rfl) fl_X8_122 rfl (by first | assumption | rfl) dX8_ways_257 ?_
            refine g_aload_0 (pc := 260) E dX8_ways_260 ?_
            refine g_getR (pc := 261) E (by first | assumption | rfl) (by first | assumption | rfl) fl_X8_128 rfl (by first | assumption | rfl) dX8_ways_261 ?_
            refine g_cSv2 (pc := 264) E (c_X8_adds 42 (by rfl) rfl (by decide) _ (w_zc Lg n i ^ e) h42 h44) cw_X8_242 (by decide) (by decide) (Nat.le_of_ble_eq_true rfl) dX8_ways_264 (fun h_264 hp => ?_)
            obtain ⟨r, hr, rfl⟩ := hp
            refine g_iinc_3 (pc := 267) (u := 1) E dX8_ways_267 (by decide) (by decide) rfl ?_
            refine g_goto (pc := 270) (tgt := 83) E dX8_ways_270 (by decide) ?_
            rw [nI_1]
            have hcn : c = n := by omega
            subst hcn
            have hs2 : w_sg c i = 1 := hs1.resolve_right k_246
            rw [if_pos hs2] at hp1
            rw [if_neg (by rw [hs2]; decide), Nat.add_zero] at hp2
            exact ih hi2 _ _ _ _ (w_kM_va hk (by omega)) (fun s hs => by rw [va_up_n (by decide)]; exact h41 s hs) (fun j hj => by rw [va_up_s, hp1]; exact hr j hj) (fun j hj => by rw [va_up_n (by decide), hp2]; exact h43 j hj)
          · have k_246 := q_b1.mp c_246
            refine g_aload_0 (pc := 249) E dX8_ways_249 ?_
            refine g_getR (pc := 250) E (by first | assumption | rfl) (by first | assumption | rfl) fl_X8_125 rfl (by first | assumption | rfl) dX8_ways_250 ?_
            refine g_goto (pc := 253) (tgt := 260) E dX8_ways_253 (by decide) ?_
            refine g_aload_0 (pc := 260) E dX8_ways_260 ?_
            refine g_getR (pc := 261) E (by first | assumption | rfl) (by first | assumption | rfl) fl_X8_128 rfl (by first | assumption | rfl) dX8_ways_261 ?_
            refine g_cSv2 (pc := 264) E (c_X8_adds 43 (by rfl) rfl (by decide) _ (w_zc Lg n i ^ e) h43 h44) cw_X8_242 (by decide) (by decide) (Nat.le_of_ble_eq_true rfl) dX8_ways_264 (fun h_264 hp => ?_)
            obtain ⟨r, hr, rfl⟩ := hp
            refine g_iinc_3 (pc := 267) (u := 1) E dX8_ways_267 (by decide) (by decide) rfl ?_
            refine g_goto (pc := 270) (tgt := 83) E dX8_ways_270 (by decide) ?_
            rw [nI_1]
            have hcn : c = n := by omega
            subst hcn
            rw [if_pos k_246] at hp2
            rw [if_neg (by rw [k_246]; decide), Nat.add_zero] at hp1
            exact ih hi2 _ _ _ _ (w_kM_va hk (by omega)) (fun s hs => by rw [va_up_n (by decide)]; exact h41 s hs) (fun j hj => by rw [va_up_n (by decide), hp1]; exact h42 j hj) (fun j hj => by rw [va_up_s, hp2]; exact hr j hj)
        · have e_208 := (not_congr (q_ge (x := n) (y := c) hn' rfl (by omega) (by omega))).mp c_208
          refine g_iload_3 (pc := 211) E dX8_ways_211 ?_
          refine g_iload_6 (pc := 212) E dX8_ways_212 ?_
          refine g_ishr (pc := 214) E dX8_ways_214 ?_
          refine g_iconst (pc := 215) (v := 1) E dX8_ways_215 (by decide) ?_
          refine g_iand (pc := 216) E dX8_ways_216 ?_
          refine g_iconst (pc := 217) (v := 1) E dX8_ways_217 (by decide) ?_
          refine g_icmp_ne (pc := 218) (tgt := 226) E dX8_ways_218 (by decide) (fun c_218 => ?_) (fun c_218 => ?_)
          · have hb : ¬ i.testBit c = true := fun q => c_218 ((q_bit1 (by omega) (by omega)).mpr q)
            rw [if_neg hb] at hsg
            refine g_iload_5 (pc := 226) E dX8_ways_226 ?_
            refine g_if_ne (pc := 228) (tgt := 235) E dX8_ways_228 (by decide) (fun c_228 => ?_) (fun c_228 => ?_)
            · have k_228 := q_b1.mp c_228
              have hq1 : q_b (-w_sg c i = -1) = (0 : Int32) := if_neg (by rw [k_228]; decide)
              refine g_iconst (pc := 235) (v := 0) E dX8_ways_235 (by decide) ?_
              refine g_istore_5 (pc := 236) E dX8_ways_236 (by decide) rfl ?_
              refine g_iinc_6 (pc := 238) (u := 1) E dX8_ways_238 (by decide) (by decide) rfl ?_
              refine g_goto (pc := 241) (tgt := 202) E dX8_ways_241 (by decide) ?_
              rw [nI_1]
              have e2 := ih2 (by omega) F hk h41 h42 h43 h44 hi2
              rw [hsg] at e2
              first
              | exact e2
              | (rw [hq1] at e2; exact e2)
            · have k_228 := q_b0.mp c_228
              have hq1 : q_b (-w_sg c i = -1) = (1 : Int32) := if_pos (by rw [hs1.resolve_right k_228])
              refine g_iconst (pc := 231) (v := 1) E dX8_ways_231 (by decide) ?_
              refine g_goto (pc := 232) (tgt := 236) E dX8_ways_232 (by decide) ?_
              refine g_istore_5 (pc := 236) E dX8_ways_236 (by decide) rfl ?_
              refine g_iinc_6 (pc := 238) (u := 1) E dX8_ways_238 (by decide) (by decide) rfl ?_
              refine g_goto (pc := 241) (tgt := 202) E dX8_ways_241 (by decide) ?_
              rw [nI_1]
              have e2 := ih2 (by omega) F hk h41 h42 h43 h44 hi2
              rw [hsg] at e2
              first
              | exact e2
              | (rw [hq1] at e2; exact e2)
          · have hb : i.testBit c = true := (q_bit1 (by omega) (by omega)).mp c_218
            rw [if_pos hb] at hsg
            refine g_iload_5 (pc := 221) E dX8_ways_221 ?_
            refine g_goto (pc := 223) (tgt := 236) E dX8_ways_223 (by decide) ?_
            refine g_istore_5 (pc := 236) E dX8_ways_236 (by decide) rfl ?_
            refine g_iinc_6 (pc := 238) (u := 1) E dX8_ways_238 (by decide) (by decide) rfl ?_
            refine g_goto (pc := 241) (tgt := 202) E dX8_ways_241 (by decide) ?_
            rw [nI_1]
            have e2 := ih2 (by omega) F hk h41 h42 h43 h44 hi2
            rw [hsg] at e2
            first
            | exact e2
            | (rw [hq1] at e2; exact e2)
      have L3c : ∀ k, k ≤ e → ∀ (F : Nat → Nat → Int32) (x6 : Option Value), w_kM f F → (∀ s, s < 2 ^ n → F 41 s = q_b (z_legM n f s)) → (∀ j, j < 40 → F 42 j = nI (w_lb (w_P n 1 (fun T => w_zc Lg n T ^ e) i) j)) → (∀ j, j < 40 → F 43 j = nI (w_lb (w_P n (-1) (fun T => w_zc Lg n T ^ e) i) j)) → (∀ j, j < 40 → F 44 j = nI (w_lb (w_zc Lg n i ^ k) j)) → i < 2 ^ n → gg C tyM 7 0 0 alM ad 175 [some (.ref 0), some (.int (nI e)), some (.int (nI (2 ^ n - 1))), some (.int (nI i)), some (.int (nI (w_zc Lg n i))), some (.int (nI k)), x6] [] (F, g, rfM) := by
        refine q_loop e (fun k hk ih2 => ?_)
        intro F x6 hk1 h41 h42 h43 h44 hi2
        refine g_iload_5 (pc := 175) E dX8_ways_175 ?_
        refine g_iload_1 (pc := 177) E dX8_ways_177 ?_
        refine g_icmp_ge (pc := 178) (tgt := 196) E dX8_ways_178 (by decide) (fun c_178 => ?_) (fun c_178 => ?_)
        · have e_178 := (q_ge (x := e) (y := k) rfl rfl (by omega) (by omega)).mp c_178
          refine g_iconst (pc := 196) (v := 0) E dX8_ways_196 (by decide) ?_
          refine g_istore_5 (pc := 197) E dX8_ways_197 (by decide) rfl ?_
          refine g_iconst (pc := 199) (v := 0) E dX8_ways_199 (by decide) ?_
          refine g_istore_6 (pc := 200) E dX8_ways_200 (by decide) rfl ?_
          exact L3d 0 (Nat.zero_le _) F hk1 h41 h42 h43 (fun j hj => by rw [show e = k by omega]; exact h44 j hj) hi2
        · have e_178 := (not_congr (q_ge (x := e) (y := k) rfl rfl (by omega) (by omega))).mp c_178
          refine g_aload_0 (pc := 181) E dX8_ways_181 ?_
          refine g_getR (pc := 182) E (by first | assumption | rfl) (by first | assumption | rfl) fl_X8_128 rfl (by first | assumption | rfl) dX8_ways_182 ?_
          refine g_iload_4 (pc := 185) E dX8_ways_185 ?_
          refine g_cSv2 (pc := 187) E (c_X8_multiplies (w_zc Lg n i ^ k) (w_zc Lg n i) hNi h44) cw_X8_238 (by decide) (by decide) (Nat.le_of_ble_eq_true rfl) dX8_ways_187 (fun h_187 hp => ?_)
          obtain ⟨r, hr, rfl⟩ := hp
          refine g_iinc_5 (pc := 190) (u := 1) E dX8_ways_190 (by decide) (by decide) rfl ?_
          refine g_goto (pc := 193) (tgt := 175) E dX8_ways_193 (by decide) ?_
          rw [nI_1]
          exact ih2 (by omega) _ _ (w_kM_va hk1 (by omega)) (fun s hs => by rw [va_up_n (by decide)]; exact h41 s hs) (fun j hj => by rw [va_up_n (by decide)]; exact h42 j hj) (fun j hj => by rw [va_up_n (by decide)]; exact h43 j hj) (fun j hj => by rw [va_up_s, Nat.pow_succ]; exact hr j hj) hi2
      have L3b : ∀ k, k ≤ 40 → ∀ (F : Nat → Nat → Int32) (x6 : Option Value), w_kM f F → (∀ s, s < 2 ^ n → F 41 s = q_b (z_legM n f s)) → (∀ j, j < 40 → F 42 j = nI (w_lb (w_P n 1 (fun T => w_zc Lg n T ^ e) i) j)) → (∀ j, j < 40 → F 43 j = nI (w_lb (w_P n (-1) (fun T => w_zc Lg n T ^ e) i) j)) → (∀ j, j < k → F 44 j = nI (w_lb 1 j)) → i < 2 ^ n → gg C tyM 7 0 0 alM ad 142 [some (.ref 0), some (.int (nI e)), some (.int (nI (2 ^ n - 1))), some (.int (nI i)), some (.int (nI (w_zc Lg n i))), some (.int (nI k)), x6] [] (F, g, rfM) := by
        refine q_loop 40 (fun k hk ih2 => ?_)
        intro F x6 hk1 h41 h42 h43 h44 hi2
        have hl1 : k ≠ 0 → w_lb 1 k = 0 := fun q => w_lb0 (Nat.one_lt_pow q (by decide))
        refine g_iload_5 (pc := 142) E dX8_ways_142 ?_
        refine g_bipush (pc := 144) (v := 40) E dX8_ways_144 (by decide) ?_
        refine g_icmp_ge (pc := 146) (tgt := 172) E dX8_ways_146 (by decide) (fun c_146 => ?_) (fun c_146 => ?_)
        · have e_146 := (q_ge (x := 40) (y := k) rfl rfl (by omega) (by omega)).mp c_146
          refine g_iconst (pc := 172) (v := 0) E dX8_ways_172 (by decide) ?_
          refine g_istore_5 (pc := 173) E dX8_ways_173 (by decide) rfl ?_
          exact L3c 0 (Nat.zero_le _) F _ hk1 h41 h42 h43 (fun j hj => by rw [Nat.pow_zero]; exact h44 j (by omega)) hi2
        · have e_146 := (not_congr (q_ge (x := 40) (y := k) rfl rfl (by omega) (by omega))).mp c_146
          refine g_aload_0 (pc := 149) E dX8_ways_149 ?_
          refine g_getR (pc := 150) E (by first | assumption | rfl) (by first | assumption | rfl) fl_X8_128 rfl (by first | assumption | rfl) dX8_ways_150 ?_
          refine g_iload_5 (pc := 153) E dX8_ways_153 ?_
          refine g_iload_5 (pc := 155) E dX8_ways_155 ?_
          refine g_if_ne (pc := 157) (tgt := 164) E dX8_ways_157 (by decide) (fun c_157 => ?_) (fun c_157 => ?_)
          · have hk0 : k ≠ 0 := fun q => c_157 (by rw [q]; rfl)
            have hv : (0 : Int32) = nI (w_lb 1 k) := by rw [hl1 hk0]; rfl
            refine g_iconst (pc := 164) (v := 0) E dX8_ways_164 (by decide) ?_
            refine g_iast (pc := 165) E (by first | assumption | rfl) (by first | assumption | rfl) dX8_ways_165 (q_ix_n (by omega)) ?_
            refine g_iinc_5 (pc := 166) (u := 1) E dX8_ways_166 (by decide) (by decide) rfl ?_
            refine g_goto (pc := 169) (tgt := 142) E dX8_ways_169 (by decide) ?_
            rw [nI_1]
            exact ih2 (by omega) _ _ (w_kM_up hk1 (by omega)) (fun s hs => by rw [q_up_ne (by decide)]; exact h41 s hs) (fun j hj => by rw [q_up_ne (by decide)]; exact h42 j hj) (fun j hj => by rw [q_up_ne (by decide)]; exact h43 j hj) (fun j hj => by
              by_cases e0 : j = k
              · subst e0; rw [q_ups]; exact hv
              · rw [q_upz e0]; exact h44 j (by omega)) hi2
          · have hk0 : k = 0 := (nI_eq (b := 0) (by omega) (by omega)).mp c_157
            have hv : (1 : Int32) = nI (w_lb 1 k) := by rw [hk0]; rfl
            refine g_iconst (pc := 160) (v := 1) E dX8_ways_160 (by decide) ?_
            refine g_goto (pc := 161) (tgt := 165) E dX8_ways_161 (by decide) ?_
            refine g_iast (pc := 165) E (by first | assumption | rfl) (by first | assumption | rfl) dX8_ways_165 (q_ix_n (by omega)) ?_
            refine g_iinc_5 (pc := 166) (u := 1) E dX8_ways_166 (by decide) (by decide) rfl ?_
            refine g_goto (pc := 169) (tgt := 142) E dX8_ways_169 (by decide) ?_
            rw [nI_1]
            exact ih2 (by omega) _ _ (w_kM_up hk1 (by omega)) (fun s hs => by rw [q_up_ne (by decide)]; exact h41 s hs) (fun j hj => by rw [q_up_ne (by decide)]; exact h42 j hj) (fun j hj => by rw [q_up_ne (by decide)]; exact h43 j hj) (fun j hj => by
              by_cases e0 : j = k
              · subst e0; rw [q_ups]; exact hv
              · rw [q_upz e0]; exact h44 j (by omega)) hi2
      have L3a : ∀ s, ∀ (acc : Nat) (F : Nat → Nat → Int32) (x6 : Option Value), w_kM f F → (∀ s, s < 2 ^ n → F 41 s = q_b (z_legM n f s)) → (∀ j, j < 40 → F 42 j = nI (w_lb (w_P n 1 (fun T => w_zc Lg n T ^ e) i) j)) → (∀ j, j < 40 → F 43 j = nI (w_lb (w_P n (-1) (fun T => w_zc Lg n T ^ e) i) j)) → i < 2 ^ n → s ≤ i → s &&& i = s → acc + w_q Lg i (s + 1) = w_zc Lg n i → gg C tyM 7 0 0 alM ad 94 [some (.ref 0), some (.int (nI e)), some (.int (nI (2 ^ n - 1))), some (.int (nI i)), some (.int (nI acc)), some (.int (nI s)), x6] [] (F, g, rfM) := by
        intro s
        induction s using Nat.strongRecOn with
        | ind s ih2 =>
          intro acc F x6 hk1 h41 h42 h43 hi2 hsi hsub hacc
          have K94 : ∀ (x6 : Option Value), gg C tyM 7 0 0 alM ad 94 [some (.ref 0), some (.int (nI e)), some (.int (nI (2 ^ n - 1))), some (.int (nI i)), some (.int (nI (w_zc Lg n i))), some (.int (-1)), x6] [] (F, g, rfM) := by
            intro x6
            refine g_iload_5 (pc := 94) E dX8_ways_94 ?_
            refine g_if_lt (pc := 96) (tgt := 139) E dX8_ways_96 (by decide) (fun c_96 => ?_) (fun c_96 => ?_)
            · refine g_iconst (pc := 139) (v := 0) E dX8_ways_139 (by decide) ?_
              refine g_istore_5 (pc := 140) E dX8_ways_140 (by decide) rfl ?_
              exact L3b 0 (Nat.zero_le _) F _ hk1 h41 h42 h43 (fun j hj => absurd hj (Nat.not_lt_zero j)) hi2
            · exact absurd (by decide) c_96
          refine g_iload_5 (pc := 94) E dX8_ways_94 ?_
          refine g_if_lt (pc := 96) (tgt := 139) E dX8_ways_96 (by decide) (fun c_96 => ?_) (fun c_96 => ?_)
          · exact absurd c_96 (nI_pos (by omega))
          · refine g_iload_4 (pc := 99) E dX8_ways_99 ?_
            refine g_aload_0 (pc := 101) E dX8_ways_101 ?_
            refine g_getR (pc := 102) E (by first | assumption | rfl) (by first | assumption | rfl) fl_X8_119 rfl (by first | assumption | rfl) dX8_ways_102 ?_
            refine g_iload_5 (pc := 105) E dX8_ways_105 ?_
            first | refine g_zald (pc := 107) E (by first | assumption | rfl) (by first | assumption | rfl) dX8_ways_107 (q_ix_n (by omega)) ?_ | refine g_bald (pc := 107) E (by first | assumption | rfl) (by first | assumption | rfl) dX8_ways_107 (q_ix_n (by omega)) ?_
            refine g_if_eq (pc := 108) (tgt := 115) E dX8_ways_108 (by decide) (fun c_108 => ?_) (fun c_108 => ?_)
            · rw [h41 s (by omega)] at c_108
              have k108 := q_b0.mp c_108
              have hLs : Lg s = 0 := by rw [hLg, if_neg k108]
              refine g_iconst (pc := 115) (v := 0) E dX8_ways_115 (by decide) ?_
              refine g_iadd (pc := 116) E dX8_ways_116 ?_
              refine g_istore_4 (pc := 117) E dX8_ways_117 (by decide) rfl ?_
              refine g_iload_5 (pc := 119) E dX8_ways_119 ?_
              refine g_if_ne (pc := 121) (tgt := 128) E dX8_ways_121 (by decide) (fun c_121 => ?_) (fun c_121 => ?_)
              · refine g_iload_5 (pc := 128) E dX8_ways_128 ?_
                refine g_iconst (pc := 130) (v := 1) E dX8_ways_130 (by decide) ?_
                refine g_isub (pc := 131) E dX8_ways_131 ?_
                refine g_iload_3 (pc := 132) E dX8_ways_132 ?_
                refine g_iand (pc := 133) E dX8_ways_133 ?_
                refine g_istore_5 (pc := 134) E dX8_ways_134 (by decide) rfl ?_
                refine g_goto (pc := 136) (tgt := 94) E dX8_ways_136 (by decide) ?_
                rw [show nI acc + 0 = nI (acc + Lg s) by rw [hLs]; first | rfl | exact nI_add acc 1 | exact nI_add acc 0]
                have hs0 : 0 < s := Nat.pos_of_ne_zero (fun q => c_121 (by rw [q]; rfl))
                have hst := w_q_step (L := Lg) (T := i) (s := s) (b := n) (by omega) hsub hs0
                have hle : (s - 1) &&& i ≤ s - 1 := Nat.and_le_left
                rw [show (nI s - 1) &&& nI i = nI ((s - 1) &&& i) by rw [show (1 : Int32) = nI 1 from rfl, pk_sub (by omega), nx_and]]
                exact ih2 _ (by omega) _ F _ hk1 h41 h42 h43 hi2 (by omega) (by rw [Nat.and_assoc, Nat.and_self]) (by omega)
              · refine g_iconst (pc := 124) (v := -1) E dX8_ways_124 (by decide) ?_
                refine g_goto (pc := 125) (tgt := 134) E dX8_ways_125 (by decide) ?_
                refine g_istore_5 (pc := 134) E dX8_ways_134 (by decide) rfl ?_
                refine g_goto (pc := 136) (tgt := 94) E dX8_ways_136 (by decide) ?_
                rw [show nI acc + 0 = nI (acc + Lg s) by rw [hLs]; first | rfl | exact nI_add acc 1 | exact nI_add acc 0]
                have hs0 : s = 0 := (nI_eq (b := 0) (by omega) (by omega)).mp c_121
                subst hs0
                have hq1 : acc + Lg 0 = w_zc Lg n i := by
                  rw [← hacc, w_q, w_q, if_pos (by simp), Nat.zero_add]
                rw [hq1]
                exact K94 _
            · rw [h41 s (by omega)] at c_108
              have k108 := q_b1.mp c_108
              have hLs : Lg s = 1 := by rw [hLg, if_pos k108]
              refine g_iconst (pc := 111) (v := 1) E dX8_ways_111 (by decide) ?_
              refine g_goto (pc := 112) (tgt := 116) E dX8_ways_112 (by decide) ?_
              refine g_iadd (pc := 116) E dX8_ways_116 ?_
              refine g_istore_4 (pc := 117) E dX8_ways_117 (by decide) rfl ?_
              refine g_iload_5 (pc := 119) E dX8_ways_119 ?_
              refine g_if_ne (pc := 121) (tgt := 128) E dX8_ways_121 (by decide) (fun c_121 => ?_) (fun c_121 => ?_)
              · refine g_iload_5 (pc := 128) E dX8_ways_128 ?_
                refine g_iconst (pc := 130) (v := 1) E dX8_ways_130 (by decide) ?_
                refine g_isub (pc := 131) E dX8_ways_131 ?_
                refine g_iload_3 (pc := 132) E dX8_ways_132 ?_
                refine g_iand (pc := 133) E dX8_ways_133 ?_
                refine g_istore_5 (pc := 134) E dX8_ways_134 (by decide) rfl ?_
                refine g_goto (pc := 136) (tgt := 94) E dX8_ways_136 (by decide) ?_
                rw [show nI acc + 1 = nI (acc + Lg s) by rw [hLs]; first | rfl | exact nI_add acc 1 | exact nI_add acc 0]
                have hs0 : 0 < s := Nat.pos_of_ne_zero (fun q => c_121 (by rw [q]; rfl))
                have hst := w_q_step (L := Lg) (T := i) (s := s) (b := n) (by omega) hsub hs0
                have hle : (s - 1) &&& i ≤ s - 1 := Nat.and_le_left
                rw [show (nI s - 1) &&& nI i = nI ((s - 1) &&& i) by rw [show (1 : Int32) = nI 1 from rfl, pk_sub (by omega), nx_and]]
                exact ih2 _ (by omega) _ F _ hk1 h41 h42 h43 hi2 (by omega) (by rw [Nat.and_assoc, Nat.and_self]) (by omega)
              · refine g_iconst (pc := 124) (v := -1) E dX8_ways_124 (by decide) ?_
                refine g_goto (pc := 125) (tgt := 134) E dX8_ways_125 (by decide) ?_
                refine g_istore_5 (pc := 134) E dX8_ways_134 (by decide) rfl ?_
                refine g_goto (pc := 136) (tgt := 94) E dX8_ways_136 (by decide) ?_
                rw [show nI acc + 1 = nI (acc + Lg s) by rw [hLs]; first | rfl | exact nI_add acc 1 | exact nI_add acc 0]
                have hs0 : s = 0 := (nI_eq (b := 0) (by omega) (by omega)).mp c_121
                subst hs0
                have hq1 : acc + Lg 0 = w_zc Lg n i := by
                  rw [← hacc, w_q, w_q, if_pos (by simp), Nat.zero_add]
                rw [hq1]
                exact K94 _
      refine g_iload_3 (pc := 83) E dX8_ways_83 ?_
      refine g_iload_2 (pc := 84) E dX8_ways_84 ?_
      refine g_icmp_gt (pc := 85) (tgt := 273) E dX8_ways_85 (by decide) (fun c_85 => ?_) (fun c_85 => ?_)
      · have e_85 : 2 ^ n - 1 < i := (nI_ltI (by omega) (by omega)).mp c_85
        have ein : i = 2 ^ n := by omega
        subst ein
        refine g_iconst (pc := 273) (v := 0) E dX8_ways_273 (by decide) ?_
        refine g_istore_3 (pc := 274) E dX8_ways_274 (by decide) rfl ?_
        refine g_aload_0 (pc := 275) E dX8_ways_275 ?_
        refine g_iconst (pc := 276) (v := 1) E dX8_ways_276 (by decide) ?_
        refine g_putI (pc := 277) E (by first | assumption | rfl) (by first | assumption | rfl) fw_X8_246 rfl dX8_ways_277 ?_
        refine g_iconst (pc := 280) (v := 0) E dX8_ways_280 (by decide) ?_
        refine g_istore_4 (pc := 281) E dX8_ways_281 (by decide) rfl ?_
        have e4 := L4 0 (Nat.zero_le _) (q_up F 0 46 1) x5 x6 (w_k2_of hk) (fun j hj => by rw [q_up_ne (by decide), ← hPe]; exact h42 j hj) (fun j hj => by rw [q_up_ne (by decide), ← hMe]; exact h43 j hj) (fun j hj => absurd hj (by omega))
        rw [if_neg (by rw [Nat.pow_zero, Nat.mod_one, Nat.mod_one]; decide)] at e4
        exact e4
      · have e_85 : ¬ 2 ^ n - 1 < i := fun q => c_85 ((nI_ltI (by omega) (by omega)).mpr q)
        refine g_iconst (pc := 88) (v := 0) E dX8_ways_88 (by decide) ?_
        refine g_istore_4 (pc := 89) E dX8_ways_89 (by decide) rfl ?_
        refine g_iload_3 (pc := 91) E dX8_ways_91 ?_
        refine g_istore_5 (pc := 92) E dX8_ways_92 (by decide) rfl ?_
        exact L3a i 0 F _ hk h41 h42 h43 (by omega) (Nat.le_refl _) (Nat.and_self i) (by rw [Nat.zero_add, ← w_q_all (show i < 2 ^ n by omega), w_zc_q n _ i (by omega)])
    have L2 : ∀ i, i ≤ 2 ^ n → ∀ (F : Nat → Nat → Int32), w_kM f F → (∀ s, s < i → F 41 s = q_b (z_legM n f s)) → (∀ j, j < 40 → F 42 j = 0) → (∀ j, j < 40 → F 43 j = 0) → gg C tyM 7 0 0 alM ad 59 [some (.ref 0), some (.int (nI e)), some (.int (nI (2 ^ n - 1))), some (.int (nI i)), none, none, none] [] (F, g, rfM) := by
      refine q_loop (2 ^ n) (fun i hi ih => ?_)
      intro F hk h41 h42 h43
      have hn' : F 0 5 = nI n := by rw [hk 0 (by omega)]; exact hn
      have hgt' : ∀ c, c < n → ∃ j : Nat, j ≤ 2 ∧ F 18 c = nI j := by rw [hk 18 (by omega)]; exact hgt
      refine g_iload_3 (pc := 59) E dX8_ways_59 ?_
      refine g_iload_2 (pc := 60) E dX8_ways_60 ?_
      refine g_icmp_gt (pc := 61) (tgt := 81) E dX8_ways_61 (by decide) (fun c_61 => ?_) (fun c_61 => ?_)
      · have e_61 : 2 ^ n - 1 < i := (nI_ltI (by omega) (by omega)).mp c_61
        refine g_iconst (pc := 81) (v := 0) E dX8_ways_81 (by decide) ?_
        refine g_istore_3 (pc := 82) E dX8_ways_82 (by decide) rfl ?_
        exact L3 0 (Nat.zero_le _) F _ _ _ hk (fun s hs => h41 s (by omega)) (fun j hj => by rw [h42 j hj]; show (0 : Int32) = nI (0 / wB ^ j % wB); rw [Nat.zero_div]; rfl) (fun j hj => by rw [h43 j hj]; show (0 : Int32) = nI (0 / wB ^ j % wB); rw [Nat.zero_div]; rfl)
      · have e_61 : ¬ 2 ^ n - 1 < i := fun q => c_61 ((nI_ltI (by omega) (by omega)).mpr q)
        refine g_aload_0 (pc := 64) E dX8_ways_64 ?_
        refine g_getR (pc := 65) E (by first | assumption | rfl) (by first | assumption | rfl) fl_X8_119 rfl (by first | assumption | rfl) dX8_ways_65 ?_
        refine g_iload_3 (pc := 68) E dX8_ways_68 ?_
        refine g_aload_0 (pc := 69) E dX8_ways_69 ?_
        refine g_iload_3 (pc := 70) E dX8_ways_70 ?_
        refine g_cVi1 (pc := 71) E (c_X8_isLegal n hn' h10 hgt' i (by omega)) cw_X8_193 (by decide) (by decide) (by first | assumption | rfl) (by first | assumption | rfl) (Nat.le_of_ble_eq_true rfl) dX8_ways_71 (fun v_71 h_71 hp => ?_)
        obtain ⟨rfl, rfl⟩ := hp
        first | refine g_zast (pc := 74) E (by first | assumption | rfl) (by first | assumption | rfl) dX8_ways_74 (q_ix_n (by omega)) q_bn ?_ | refine g_bast (pc := 74) E (by first | assumption | rfl) (by first | assumption | rfl) dX8_ways_74 (q_ix_n (by omega)) q_bn ?_
        refine g_iinc_3 (pc := 75) (u := 1) E dX8_ways_75 (by decide) (by decide) rfl ?_
        refine g_goto (pc := 78) (tgt := 59) E dX8_ways_78 (by decide) ?_
        rw [nI_1]
        exact ih (by omega) _ (w_kM_up hk (by omega)) (fun s hs => by
          by_cases e0 : s = i
          · subst e0; rw [q_ups]; exact w_qb (w_kM_leg hk)
          · rw [q_upz e0]; exact h41 s (by omega)) (fun j hj => by rw [q_up_ne (by decide)]; exact h42 j hj) (fun j hj => by rw [q_up_ne (by decide)]; exact h43 j hj)
    have L1 : ∀ i, i ≤ 40 → ∀ (F : Nat → Nat → Int32), w_kM f F → (∀ j, j < i → F 42 j = 0) → (∀ j, j < i → F 43 j = 0) → gg C tyM 7 0 0 alM ad 22 [some (.ref 0), some (.int (nI e)), some (.int (nI i)), none, none, none, none] [] (F, g, rfM) := by
      refine q_loop 40 (fun i hi ih => ?_)
      intro F hk h42 h43
      have hn' : F 0 5 = nI n := by rw [hk 0 (by omega)]; exact hn
      have hsh : (1 : Int32) <<< (F 0 5 &&& 31) - 1 = nI (2 ^ n - 1) := by rw [hn', q_shl1 n (by omega), show (1 : Int32) = nI 1 from rfl, pk_sub pp]
      refine g_iload_2 (pc := 22) E dX8_ways_22 ?_
      refine g_bipush (pc := 23) (v := 40) E dX8_ways_23 (by decide) ?_
      refine g_icmp_ge (pc := 25) (tgt := 48) E dX8_ways_25 (by decide) (fun c_25 => ?_) (fun c_25 => ?_)
      · have e_25 := (q_ge (x := 40) (y := i) rfl rfl (by omega) (by omega)).mp c_25
        refine g_iconst (pc := 48) (v := 1) E dX8_ways_48 (by decide) ?_
        refine g_aload_0 (pc := 49) E dX8_ways_49 ?_
        refine g_getI (pc := 50) E (by first | assumption | rfl) (by first | assumption | rfl) fl_X8_154 rfl dX8_ways_50 ?_
        refine g_ishl (pc := 53) E dX8_ways_53 ?_
        refine g_iconst (pc := 54) (v := 1) E dX8_ways_54 (by decide) ?_
        refine g_isub (pc := 55) E dX8_ways_55 ?_
        refine g_istore_2 (pc := 56) E dX8_ways_56 (by decide) rfl ?_
        refine g_iconst (pc := 57) (v := 0) E dX8_ways_57 (by decide) ?_
        refine g_istore_3 (pc := 58) E dX8_ways_58 (by decide) rfl ?_
        rw [hsh]
        exact L2 0 (Nat.zero_le _) F hk (fun s hs => absurd hs (Nat.not_lt_zero s)) (fun j hj => h42 j (by omega)) (fun j hj => h43 j (by omega))
      · have e_25 := (not_congr (q_ge (x := 40) (y := i) rfl rfl (by omega) (by omega))).mp c_25
        refine g_aload_0 (pc := 28) E dX8_ways_28 ?_
        refine g_getR (pc := 29) E (by first | assumption | rfl) (by first | assumption | rfl) fl_X8_122 rfl (by first | assumption | rfl) dX8_ways_29 ?_
        refine g_iload_2 (pc := 32) E dX8_ways_32 ?_
        refine g_iconst (pc := 33) (v := 0) E dX8_ways_33 (by decide) ?_
        refine g_iast (pc := 34) E (by first | assumption | rfl) (by first | assumption | rfl) dX8_ways_34 (q_ix_n (by omega)) ?_
        refine g_aload_0 (pc := 35) E dX8_ways_35 ?_
        refine g_getR (pc := 36) E (by first | assumption | rfl) (by first | assumption | rfl) fl_X8_125 rfl (by first | assumption | rfl) dX8_ways_36 ?_
        refine g_iload_2 (pc := 39) E dX8_ways_39 ?_
        refine g_iconst (pc := 40) (v := 0) E dX8_ways_40 (by decide) ?_
        refine g_iast (pc := 41) E (by first | assumption | rfl) (by first | assumption | rfl) dX8_ways_41 (q_ix_n (by omega)) ?_
        refine g_iinc_2 (pc := 42) (u := 1) E dX8_ways_42 (by decide) (by decide) rfl ?_
        refine g_goto (pc := 45) (tgt := 22) E dX8_ways_45 (by decide) ?_
        rw [nI_1]
        exact ih (by omega) _ (w_kM_up (w_kM_up hk (by omega)) (by omega)) (fun j hj => by
          rw [q_up_ne (by decide)]
          by_cases e0 : j = i
          · subst e0; rw [q_ups]
          · rw [q_upz e0]; exact h42 j (by omega)) (fun j hj => by
          by_cases e0 : j = i
          · subst e0; rw [q_ups]
          · rw [q_upz e0, q_up_ne (by decide)]; exact h43 j (by omega))
    refine g_iconst (pc := 20) (v := 0) E dX8_ways_20 (by decide) ?_
    refine g_istore_2 (pc := 21) E dX8_ways_21 (by decide) rfl ?_
    exact L1 0 (Nat.zero_le _) f (fun a _ => rfl) (fun j hj => absurd hj (Nat.not_lt_zero j)) (fun j hj => absurd hj (Nat.not_lt_zero j))
  refine g_aload_0 (pc := 0) E dX8_ways_0 ?_
  refine g_iconst (pc := 1) (v := 0) E dX8_ways_1 (by decide) ?_
  refine g_putI (pc := 2) E (by first | assumption | rfl) (by first | assumption | rfl) fw_X8_137 rfl dX8_ways_2 ?_
  rw [q_up_same ht]
  refine g_iload_1 (pc := 5) E dX8_ways_5 ?_
  refine g_i2l (pc := 6) E dX8_ways_6 ?_
  refine g_lconst (pc := 7) (v := 0) E dX8_ways_7 (by decide) ?_
  refine g_ldc2 (pc := 8) E kw_X8_236 dX8_ways_8 ?_
  refine g_cSi3 (pc := 11) E (c_X8_in _ _ _) cw_X8_142 (by decide) (by decide) (Nat.le_of_ble_eq_true rfl) dX8_ways_11 (fun v_11 h_11 hp => ?_)
  obtain ⟨rfl, rfl⟩ := hp
  refine g_if_ne (pc := 14) (tgt := 20) E dX8_ways_14 (by decide) (fun c_14 => ?_) (fun c_14 => ?_)
  · have k_14 := q_b1.mp c_14
    have hx : 0 ≤ x.toInt ∧ x.toInt ≤ 24 := by rw [q_32] at k_14; exact k_14
    obtain ⟨e, he, hxe⟩ := nI_of2 (x := x) (M := 24) (n := 24) rfl (by rw [Int32.lt_iff_toInt_lt]; have z : (0 : Int32).toInt = 0 := rfl; omega) (by rw [Int32.le_iff_toInt_le]; exact hx.2)
    have q := K e he hxe
    rw [← hxe] at q
    exact q
  · have k_14 := q_b0.mp c_14
    have hx : ¬ (0 ≤ x.toInt ∧ x.toInt ≤ 24) := by rw [q_32] at k_14; exact k_14
    refine g_bipush (pc := 17) (v := -2) E dX8_ways_17 (by decide) ?_
    exact g_iret (pc := 19) E Z dX8_ways_19 ⟨_, rfl, Or.inl ⟨hx, rfl, rfl⟩⟩
