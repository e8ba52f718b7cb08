/-! the class: Tally -/
theorem w_ceq {a b : Int64} : lg_cmp a b = 0 ↔ a = b := by
  constructor
  · intro h
    have h1 := q_nlt (x := a) (y := b) (by rw [h]; decide)
    have h2 := q_ngt (x := a) (y := b) (by rw [h]; decide)
    exact Int64.toInt_inj.mp (by omega)
  · rintro rfl
    have a1 : ¬ lg_cmp a a < 0 := fun h => by have := q_lt h; omega
    have a2 : ¬ 0 < lg_cmp a a := fun h => by have := q_gt h; omega
    exact Int32.le_antisymm (Int32.not_lt.mp a2) (Int32.not_lt.mp a1)
theorem w_csg {X : Int} (h1 : -1000000000000000000 < X) (h2 : X < 1000000000000000000) : 0 ≤ lg_cmp (lZ X ^^^ 1000000000) 0 ↔ 0 ≤ X := by
  rw [← Int32.not_lt, lg_cmp_lt, w_xs (lZ X) (D := 1000000000) (by decide), Int64.lt_iff_toInt_lt, lZ_I (by omega) (by omega)]
  have : (0 : Int64).toInt = 0 := rfl
  omega
theorem w_fd {X : Int} (h1 : -1000000000000000000 < X) (h2 : X < 1000000000000000000) : lZ X / 1000000000 = lZ (if 0 ≤ X then X / 1000000000 else -((-X) / 1000000000)) := by
  rw [show (1000000000 : Int64) = lZ 1000000000 from rfl, lZ_tdiv (by omega) (by omega) (by decide) (by decide)]
  by_cases e : 0 ≤ X
  · rw [if_pos e, Int.tdiv_eq_ediv_of_nonneg e]
  · rw [if_neg e]
    obtain ⟨Y, rfl⟩ : ∃ Y, X = -Y := ⟨-X, by omega⟩
    rw [Int.neg_tdiv, Int.neg_neg, Int.tdiv_eq_ediv_of_nonneg (by omega)]
theorem w_B64 : (1000000000 : Int64) = lZ 1000000000 := rfl
set_option maxHeartbeats 4000000 in
set_option maxRecDepth 100000 in
theorem c_J9_floorMod_f86c9 {ty : Nat → PT} {al : Nat → Bool} {h : PH} (X : Int) (h1 : -1000000000000000000 < X) (h2 : X < 1000000000000000000) : q_ConL yJ9_floorMod_f86c9 cJ9_floorMod_f86c9 6 (some .long) 0 0 ty al [.long (lZ X), .long 1000000000] h (fun v h' => v = lZ (X % 1000000000) ∧ h' = h) := by
  refine q_Con.of RJ9 [some (.long (lZ X)), none, some (.long 1000000000), none, none, none] (by decide +kernel) rfl rfl (Nat.le_of_ble_eq_true rfl) (fun C ad E Z => ?_)
  refine g_lload_0 (pc := 0) E dJ9_floorMod_f86c9_0 ?_
  refine g_lload_2 (pc := 1) E dJ9_floorMod_f86c9_1 ?_
  refine g_lrem (pc := 2) E dJ9_floorMod_f86c9_2 (by decide) ?_
  refine g_lstore_4 (pc := 3) E dJ9_floorMod_f86c9_3 (by decide) rfl ?_
  refine g_lload_0 (pc := 5) E dJ9_floorMod_f86c9_5 ?_
  refine g_lload_2 (pc := 6) E dJ9_floorMod_f86c9_6 ?_
  refine g_lxor (pc := 7) E dJ9_floorMod_f86c9_7 ?_
  refine g_lconst (pc := 8) (v := 0) E dJ9_floorMod_f86c9_8 (by decide) ?_
  refine g_lcmp (pc := 9) E dJ9_floorMod_f86c9_9 ?_
  refine g_if_ge (pc := 10) (tgt := 25) E dJ9_floorMod_f86c9_10 (by decide) (fun c_10 => ?_) (fun c_10 => ?_)
  · rw [w_csg h1 h2] at c_10
    refine g_lload_4 (pc := 25) E dJ9_floorMod_f86c9_25 ?_
    exact g_lret (pc := 27) E Z dJ9_floorMod_f86c9_27 ⟨_, rfl, ⟨by rw [w_fd h1 h2, w_B64, lZ_mul, lZ_sub]; congr 1; first | (rw [if_pos c_10]; omega) | (rw [if_neg c_10]; omega), rfl⟩⟩
  · rw [w_csg h1 h2] at c_10
    refine g_lload_4 (pc := 13) E dJ9_floorMod_f86c9_13 ?_
    refine g_lconst (pc := 15) (v := 0) E dJ9_floorMod_f86c9_15 (by decide) ?_
    refine g_lcmp (pc := 16) E dJ9_floorMod_f86c9_16 ?_
    refine g_if_eq (pc := 17) (tgt := 25) E dJ9_floorMod_f86c9_17 (by decide) (fun c_17 => ?_) (fun c_17 => ?_)
    · rw [w_ceq, w_fd h1 h2, if_neg c_10, w_B64, lZ_mul, lZ_sub] at c_17
      have k17 := congrArg Int64.toInt c_17
      rw [lZ_I (by omega) (by omega)] at k17
      have z17 : (0 : Int64).toInt = 0 := rfl
      refine g_lload_4 (pc := 25) E dJ9_floorMod_f86c9_25 ?_
      exact g_lret (pc := 27) E Z dJ9_floorMod_f86c9_27 ⟨_, rfl, ⟨by rw [w_fd h1 h2, w_B64, lZ_mul, lZ_sub]; congr 1; first | (rw [if_pos c_10]; omega) | (rw [if_neg c_10]; omega), rfl⟩⟩
    · rw [w_ceq, w_fd h1 h2, if_neg c_10, w_B64, lZ_mul, lZ_sub] at c_17
      have k17 : ¬ X - -((-X) / 1000000000) * 1000000000 = 0 := fun q => c_17 (by rw [q]; rfl)
      refine g_lload_4 (pc := 20) E dJ9_floorMod_f86c9_20 ?_
      refine g_lload_2 (pc := 22) E dJ9_floorMod_f86c9_22 ?_
      refine g_ladd (pc := 23) E dJ9_floorMod_f86c9_23 ?_
      exact g_lret (pc := 24) E Z dJ9_floorMod_f86c9_24 ⟨_, rfl, ⟨by rw [w_fd h1 h2, if_neg c_10, w_B64, lZ_mul, lZ_sub, lZ_add]; congr 1; omega, rfl⟩⟩
set_option maxHeartbeats 4000000 in
set_option maxRecDepth 100000 in
theorem c_J9_floorDiv_f86c9 {ty : Nat → PT} {al : Nat → Bool} {h : PH} (X : Int) (h1 : -1000000000000000000 < X) (h2 : X < 1000000000000000000) : q_ConL yJ9_floorDiv_f86c9 cJ9_floorDiv_f86c9 6 (some .long) 0 0 ty al [.long (lZ X), .long 1000000000] h (fun v h' => v = lZ (X / 1000000000) ∧ h' = h) := by
  refine q_Con.of RJ9 [some (.long (lZ X)), none, some (.long 1000000000), none, none, none] (by decide +kernel) rfl rfl (Nat.le_of_ble_eq_true rfl) (fun C ad E Z => ?_)
  refine g_lload_0 (pc := 0) E dJ9_floorDiv_f86c9_0 ?_
  refine g_lload_2 (pc := 1) E dJ9_floorDiv_f86c9_1 ?_
  refine g_ldiv (pc := 2) E dJ9_floorDiv_f86c9_2 (by decide) ?_
  refine g_lstore_4 (pc := 3) E dJ9_floorDiv_f86c9_3 (by decide) rfl ?_
  refine g_lload_0 (pc := 5) E dJ9_floorDiv_f86c9_5 ?_
  refine g_lload_2 (pc := 6) E dJ9_floorDiv_f86c9_6 ?_
  refine g_lxor (pc := 7) E dJ9_floorDiv_f86c9_7 ?_
  refine g_lconst (pc := 8) (v := 0) E dJ9_floorDiv_f86c9_8 (by decide) ?_
  refine g_lcmp (pc := 9) E dJ9_floorDiv_f86c9_9 ?_
  refine g_if_ge (pc := 10) (tgt := 27) E dJ9_floorDiv_f86c9_10 (by decide) (fun c_10 => ?_) (fun c_10 => ?_)
  · rw [w_csg h1 h2] at c_10
    refine g_lload_4 (pc := 27) E dJ9_floorDiv_f86c9_27 ?_
    exact g_lret (pc := 29) E Z dJ9_floorDiv_f86c9_29 ⟨_, rfl, ⟨by rw [w_fd h1 h2]; congr 1; first | (rw [if_pos c_10]) | (rw [if_neg c_10]; omega), rfl⟩⟩
  · rw [w_csg h1 h2] at c_10
    refine g_lload_4 (pc := 13) E dJ9_floorDiv_f86c9_13 ?_
    refine g_lload_2 (pc := 15) E dJ9_floorDiv_f86c9_15 ?_
    refine g_lmul (pc := 16) E dJ9_floorDiv_f86c9_16 ?_
    refine g_lload_0 (pc := 17) E dJ9_floorDiv_f86c9_17 ?_
    refine g_lcmp (pc := 18) E dJ9_floorDiv_f86c9_18 ?_
    refine g_if_eq (pc := 19) (tgt := 27) E dJ9_floorDiv_f86c9_19 (by decide) (fun c_19 => ?_) (fun c_19 => ?_)
    · rw [w_ceq, w_fd h1 h2, if_neg c_10, w_B64, lZ_mul] at c_19
      have k19 := congrArg Int64.toInt c_19
      rw [lZ_I (by omega) (by omega), lZ_I (by omega) (by omega)] at k19
      refine g_lload_4 (pc := 27) E dJ9_floorDiv_f86c9_27 ?_
      exact g_lret (pc := 29) E Z dJ9_floorDiv_f86c9_29 ⟨_, rfl, ⟨by rw [w_fd h1 h2]; congr 1; first | (rw [if_pos c_10]) | (rw [if_neg c_10]; omega), rfl⟩⟩
    · rw [w_ceq, w_fd h1 h2, if_neg c_10, w_B64, lZ_mul] at c_19
      have k19 : ¬ -((-X) / 1000000000) * 1000000000 = X := fun q => c_19 (by rw [q])
      refine g_lload_4 (pc := 22) E dJ9_floorDiv_f86c9_22 ?_
      refine g_lconst (pc := 24) (v := 1) E dJ9_floorDiv_f86c9_24 (by decide) ?_
      refine g_lsub (pc := 25) E dJ9_floorDiv_f86c9_25 ?_
      exact g_lret (pc := 26) E Z dJ9_floorDiv_f86c9_26 ⟨_, rfl, ⟨by rw [w_fd h1 h2, if_neg c_10, show (1 : Int64) = lZ 1 from rfl, lZ_sub]; congr 1; omega, rfl⟩⟩
set_option maxHeartbeats 4000000 in
set_option maxRecDepth 100000 in
theorem c_X6_raise {n : Nat} {sB : Bool} {f : Nat → Nat → Int32} {g : Nat → Nat → Int64} (b : Nat) (hb : b ≤ 386) (e : Nat) (he : e ≤ 24) : q_ConV yX6_raise cX6_raise 9 none 1 24 tyX (alX n sB true) [.ref 6, .int (nI b), .int (nI e)] (f, g, rfX n sB true) (fun h' => ∃ r : Nat → Int64, (∀ i, i < 8 → r i = lN (w_lb (b ^ e) i)) ∧ h' = (f, va_up g 30 r, rfX n sB true)) := by
  refine q_Con.of RX6 [some (.ref 6), some (.int (nI b)), some (.int (nI e)), none, none, none, none, none, none] (by decide +kernel) rfl rfl (Nat.le_of_ble_eq_true rfl) (fun C ad E Z => ?_)
  have L1 : ∀ k, k ≤ e → ∀ (r : Nat → Int64) (x4 x6 x7 : Option Value), (∀ i, i < 8 → r i = lN (w_lb (b ^ k) i)) → gg C tyX 9 0 0 (alX n sB true) ad 17 [some (.ref 6), some (.int (nI b)), some (.int (nI e)), some (.int (nI k)), x4, none, x6, x7, none] [] (f, va_up g 30 r, rfX n sB true) := by
    refine q_loop e (fun k hk ih => ?_)
    intro r x4 x6 x7 hr
    have L2 : ∀ i, i ≤ 8 → ∀ (s : Nat → Int64) (x7 : Option Value), (∀ j, j < i → s j = lN (w_lb (b ^ k * b) j)) → (∀ j, i ≤ j → j < 8 → s j = lN (w_lb (b ^ k) j)) → k < e → gg C tyX 9 0 0 (alX n sB true) ad 28 [some (.ref 6), some (.int (nI b)), some (.int (nI e)), some (.int (nI k)), some (.long (lN (b ^ k % wB ^ i * b / wB ^ i))), none, some (.int (nI i)), x7, none] [] (f, va_up g 30 s, rfX n sB true) := by
      refine q_loop 8 (fun i hi ih2 => ?_)
      intro s x7 hs1 hs2 hke
      have m1 := w_mul1 (b ^ k) b i
      have m2 := w_mul2 (b ^ k) b i
      have m3 := w_mul3 (b ^ k) b i
      have m4 := w_lb_lt (b ^ k) i
      have m5 : w_lb (b ^ k) i * b ≤ 1000000000 * 386 := Nat.mul_le_mul (Nat.le_of_lt m4) hb
      have ev : i < 8 → s i * (nI b).toInt64 + lN (b ^ k % wB ^ i * b / wB ^ i) = lN (b ^ k % wB ^ (i + 1) * b / wB ^ i) := fun q => by
        rw [hs2 i (Nat.le_refl _) q, nI_l (by omega), lN_mul, lN_add, m1]
      refine g_iload_6 (pc := 28) E dX6_raise_28 ?_
      refine g_bipush (pc := 30) (v := 8) E dX6_raise_30 (by decide) ?_
      refine g_icmp_ge (pc := 32) (tgt := 77) E dX6_raise_32 (by decide) (fun c_32 => ?_) (fun c_32 => ?_)
      · have e_32 := (q_ge (x := 8) (y := i) rfl rfl (by omega) (by omega)).mp c_32
        refine g_iinc_3 (pc := 77) (u := 1) E dX6_raise_77 (by decide) (by decide) rfl ?_
        refine g_goto (pc := 80) (tgt := 17) E dX6_raise_80 (by decide) ?_
        rw [nI_1]
        exact ih (by omega) _ _ _ _ (fun j hj => by rw [Nat.pow_succ]; exact hs1 j (by omega))
      · have e_32 := (not_congr (q_ge (x := 8) (y := i) rfl rfl (by omega) (by omega))).mp c_32
        refine g_aload_0 (pc := 35) E dX6_raise_35 ?_
        refine g_getR (pc := 36) E (by first | assumption | rfl) (by first | assumption | rfl) fl_X6_18 rfl (by first | assumption | rfl) dX6_raise_36 ?_
        refine g_iload_6 (pc := 39) E dX6_raise_39 ?_
        refine g_lald (pc := 41) E (by first | assumption | rfl) (by first | assumption | rfl) dX6_raise_41 (q_ix_n (by omega)) ?_
        refine g_iload_1 (pc := 42) E dX6_raise_42 ?_
        refine g_i2l (pc := 43) E dX6_raise_43 ?_
        refine g_lmul (pc := 44) E dX6_raise_44 ?_
        refine g_lload_4 (pc := 45) E dX6_raise_45 ?_
        refine g_ladd (pc := 47) E dX6_raise_47 ?_
        rw [show va_up g 30 s 30 i * (nI b).toInt64 + lN (b ^ k % wB ^ i * b / wB ^ i) = lN (b ^ k % wB ^ (i + 1) * b / wB ^ i) from ev (by omega)]
        refine g_lstore_7 (pc := 48) E dX6_raise_48 (by decide) rfl ?_
        refine g_aload_0 (pc := 50) E dX6_raise_50 ?_
        refine g_getR (pc := 51) E (by first | assumption | rfl) (by first | assumption | rfl) fl_X6_18 rfl (by first | assumption | rfl) dX6_raise_51 ?_
        refine g_iload_6 (pc := 54) E dX6_raise_54 ?_
        refine g_lload_7 (pc := 56) E dX6_raise_56 ?_
        refine g_ldc2 (pc := 58) E kw_X6_78 dX6_raise_58 ?_
        refine g_lrem (pc := 61) E dX6_raise_61 (by decide) ?_
        refine g_last (pc := 62) E (by first | assumption | rfl) (by first | assumption | rfl) dX6_raise_62 (q_ix_n (by omega)) ?_
        refine g_lload_7 (pc := 63) E dX6_raise_63 ?_
        refine g_ldc2 (pc := 65) E kw_X6_78 dX6_raise_65 ?_
        refine g_ldiv (pc := 68) E dX6_raise_68 (by decide) ?_
        refine g_lstore_4 (pc := 69) E dX6_raise_69 (by decide) rfl ?_
        refine g_iinc_6 (pc := 71) (u := 1) E dX6_raise_71 (by decide) (by decide) rfl ?_
        refine g_goto (pc := 74) (tgt := 28) E dX6_raise_74 (by decide) ?_
        rw [nI_1, q_upr, show (1000000000 : Int64) = lN wB from rfl, wN_rem (by omega) (by decide) (by decide), wN_div (by omega) (by decide) (by decide), w_dd, m2]
        exact ih2 (by omega) _ _ (fun j hj => by
          by_cases e : j = i
          · subst e; exact va_up_s
          · rw [va_up_n e]; exact hs1 j (by omega)) (fun j h1 h2 => by rw [va_up_n (by omega)]; exact hs2 j (by omega) h2) hke
    refine g_iload_3 (pc := 17) E dX6_raise_17 ?_
    refine g_iload_2 (pc := 18) E dX6_raise_18 ?_
    refine g_icmp_ge (pc := 19) (tgt := 83) E dX6_raise_19 (by decide) (fun c_19 => ?_) (fun c_19 => ?_)
    · have e_19 := (q_ge (x := e) (y := k) rfl rfl (by omega) (by omega)).mp c_19
      exact g_vret (pc := 83) E Z dX6_raise_83 ⟨rfl, ⟨r, fun i hi => by rw [show e = k by omega]; exact hr i hi, rfl⟩⟩
    · have e_19 := (not_congr (q_ge (x := e) (y := k) rfl rfl (by omega) (by omega))).mp c_19
      refine g_lconst (pc := 22) (v := 0) E dX6_raise_22 (by decide) ?_
      refine g_lstore_4 (pc := 23) E dX6_raise_23 (by decide) rfl ?_
      refine g_iconst (pc := 25) (v := 0) E dX6_raise_25 (by decide) ?_
      refine g_istore_6 (pc := 26) E dX6_raise_26 (by decide) rfl ?_
      have h0 : lN (b ^ k % wB ^ 0 * b / wB ^ 0) = 0 := by rw [Nat.pow_zero, Nat.mod_one, Nat.zero_mul]; rfl
      rw [← h0]
      exact L2 0 (Nat.zero_le _) r _ (fun j hj => absurd hj (Nat.not_lt_zero j)) (fun j _ hj => hr j hj) (by omega)
  refine g_aload_0 (pc := 0) E dX6_raise_0 ?_
  refine g_getR (pc := 1) E (by first | assumption | rfl) (by first | assumption | rfl) fl_X6_18 rfl (by first | assumption | rfl) dX6_raise_1 ?_
  refine g_lconst (pc := 4) (v := 0) E dX6_raise_4 (by decide) ?_
  refine g_cSv2 (pc := 5) E (c_J7_fill_d0a16 30 8 (by rfl) rfl (by decide) _) cw_X6_51 (by decide) (by decide) (Nat.le_of_ble_eq_true rfl) dX6_raise_5 (fun h_5 hp => ?_)
  subst hp
  refine g_aload_0 (pc := 8) E dX6_raise_8 ?_
  refine g_getR (pc := 9) E (by first | assumption | rfl) (by first | assumption | rfl) fl_X6_18 rfl (by first | assumption | rfl) dX6_raise_9 ?_
  refine g_iconst (pc := 12) (v := 0) E dX6_raise_12 (by decide) ?_
  refine g_lconst (pc := 13) (v := 1) E dX6_raise_13 (by decide) ?_
  refine g_last (pc := 14) E (by first | assumption | rfl) (by first | assumption | rfl) dX6_raise_14 (q_ix_l (j := 0) (by decide)) ?_
  refine g_iconst (pc := 15) (v := 0) E dX6_raise_15 (by decide) ?_
  refine g_istore_3 (pc := 16) E dX6_raise_16 (by decide) rfl ?_
  have ef : q_up (q_fill g 30 0 8 fun _ => 0) 30 0 1 = va_up g 30 (va_up (q_fill g 30 0 8 (fun _ => 0) 30) 0 1) := by
    rw [q_up_va]
    funext x
    by_cases e : x = 30
    · subst e; rw [va_up_s, va_up_s]
    · rw [va_up_n e, va_up_n e, q_fill_ne e]
  rw [ef]
  exact L1 0 (Nat.zero_le _) _ _ _ _ (fun i hi => by
    by_cases e0 : i = 0
    · subst e0; rw [va_up_s, Nat.pow_zero]; rfl
    · rw [va_up_n e0, q_fill_in (Nat.zero_le _) (by omega), Nat.pow_zero, w_lb0 (Nat.one_lt_pow e0 (by decide))]; rfl)
set_option maxHeartbeats 4000000 in
set_option maxRecDepth 100000 in
theorem c_X6_addPower {n : Nat} {sB : Bool} {f : Nat → Nat → Int32} {g : Nat → Nat → Int64} (Zi Pi : Nat → Int) (t : Int) (ht1 : -1024 ≤ t) (ht2 : t ≤ 1024) (hZ : ∀ i, i < 8 → g 31 i = lZ (Zi i)) (hP : ∀ i, i < 8 → g 30 i = lZ (Pi i)) : q_ConV yX6_addPower cX6_addPower 3 none 0 0 tyX (alX n sB true) [.ref 6, .int (iZ t)] (f, g, rfX n sB true) (fun h' => ∃ r : Nat → Int64, (∀ i, i < 8 → r i = lZ (Zi i + Pi i * t)) ∧ h' = (f, va_up g 31 r, rfX n sB true)) := by
  refine q_Con.of RX6 [some (.ref 6), some (.int (iZ t)), none] (by decide +kernel) rfl rfl (Nat.le_of_ble_eq_true rfl) (fun C ad E Z => ?_)
  have L : ∀ i, i ≤ 8 → ∀ (r : Nat → Int64), (∀ j, j < i → r j = lZ (Zi j + Pi j * t)) → (∀ j, i ≤ j → r j = g 31 j) → gg C tyX 3 0 0 (alX n sB true) ad 2 [some (.ref 6), some (.int (iZ t)), some (.int (nI i))] [] (f, va_up g 31 r, rfX n sB true) := by
    refine q_loop 8 (fun i hi ih => ?_)
    intro r h1 h2
    refine g_iload_2 (pc := 2) E dX6_addPower_2 ?_
    refine g_bipush (pc := 3) (v := 8) E dX6_addPower_3 (by decide) ?_
    refine g_icmp_ge (pc := 5) (tgt := 32) E dX6_addPower_5 (by decide) (fun c_5 => ?_) (fun c_5 => ?_)
    · have e_5 := (q_ge (x := 8) (y := i) rfl rfl (by omega) (by omega)).mp c_5
      exact g_vret (pc := 32) E Z dX6_addPower_32 ⟨rfl, ⟨r, fun j hj => h1 j (by omega), rfl⟩⟩
    · have e_5 := (not_congr (q_ge (x := 8) (y := i) rfl rfl (by omega) (by omega))).mp c_5
      refine g_aload_0 (pc := 8) E dX6_addPower_8 ?_
      refine g_getR (pc := 9) E (by first | assumption | rfl) (by first | assumption | rfl) fl_X6_22 rfl (by first | assumption | rfl) dX6_addPower_9 ?_
      refine g_iload_2 (pc := 12) E dX6_addPower_12 ?_
      first | refine g_dupl (pc := 13) E dX6_addPower_13 ?_ | refine g_dup2 (pc := 13) E dX6_addPower_13 ?_
      refine g_lald (pc := 14) E (by first | assumption | rfl) (by first | assumption | rfl) dX6_addPower_14 (q_ix_n (by omega)) ?_
      refine g_aload_0 (pc := 15) E dX6_addPower_15 ?_
      refine g_getR (pc := 16) E (by first | assumption | rfl) (by first | assumption | rfl) fl_X6_18 rfl (by first | assumption | rfl) dX6_addPower_16 ?_
      refine g_iload_2 (pc := 19) E dX6_addPower_19 ?_
      refine g_lald (pc := 20) E (by first | assumption | rfl) (by first | assumption | rfl) dX6_addPower_20 (q_ix_n (by omega)) ?_
      refine g_iload_1 (pc := 21) E dX6_addPower_21 ?_
      refine g_i2l (pc := 22) E dX6_addPower_22 ?_
      refine g_lmul (pc := 23) E dX6_addPower_23 ?_
      refine g_ladd (pc := 24) E dX6_addPower_24 ?_
      refine g_last (pc := 25) E (by first | assumption | rfl) (by first | assumption | rfl) dX6_addPower_25 (q_ix_n (by omega)) ?_
      refine g_iinc_2 (pc := 26) (u := 1) E dX6_addPower_26 (by decide) (by decide) rfl ?_
      refine g_goto (pc := 29) (tgt := 2) E dX6_addPower_29 (by decide) ?_
      rw [nI_1, q_upr]
      exact ih (by omega) _ (fun j hj => by
        by_cases e : j = i
        · subst e
          rw [va_up_s, show va_up g 31 r 31 j = lZ (Zi j) from (h2 j (Nat.le_refl _)).trans (hZ j (by omega)), show va_up g 31 r 30 j = lZ (Pi j) from hP j (by omega), iZ_l (by omega) (by omega), lZ_mul, lZ_add]
        · rw [va_up_n e]; exact h1 j (by omega)) (fun j hj => by rw [va_up_n (by omega)]; exact h2 j (by omega))
  refine g_iconst (pc := 0) (v := 0) E dX6_addPower_0 (by decide) ?_
  refine g_istore_2 (pc := 1) E dX6_addPower_1 (by decide) rfl ?_
  have e := L 0 (Nat.zero_le _) (g 31) (fun j hj => absurd hj (Nat.not_lt_zero j)) (fun j _ => rfl)
  rw [va_up_id] at e
  exact e
set_option maxHeartbeats 4000000 in
set_option maxRecDepth 100000 in
theorem c_X6_carry {n : Nat} {sB : Bool} {f : Nat → Nat → Int32} {g : Nat → Nat → Int64} (Zi : Nat → Int) (hb : ∀ i, -1000000000000000 ≤ Zi i ∧ Zi i ≤ 1000000000000000) (hZ : ∀ i, i < 8 → g 31 i = lZ (Zi i)) : q_ConV yX6_carry cX6_carry 6 none 1 25 tyX (alX n sB true) [.ref 6] (f, g, rfX n sB true) (fun h' => ∃ r : Nat → Int64, (∀ i, i < 8 → r i = lZ (w_Z Zi (i + 1) / (wB ^ i : Nat) % (wB : Nat))) ∧ h' = (f, va_up g 31 r, rfX n sB true)) := by
  refine q_Con.of RX6 [some (.ref 6), none, none, none, none, none] (by decide +kernel) rfl rfl (Nat.le_of_ble_eq_true rfl) (fun C ad E Z => ?_)
  have L : ∀ i, i ≤ 8 → ∀ (r : Nat → Int64) (x4 : Option Value), (∀ j, j < i → r j = lZ (w_Z Zi (j + 1) / (wB ^ j : Nat) % (wB : Nat))) → (∀ j, i ≤ j → r j = g 31 j) → gg C tyX 6 0 0 (alX n sB true) ad 4 [some (.ref 6), some (.long (lZ (w_Z Zi i / (wB ^ i : Nat)))), none, some (.int (nI i)), x4, none] [] (f, va_up g 31 r, rfX n sB true) := by
    refine q_loop 8 (fun i hi ih => ?_)
    intro r x4 h1 h2
    have b1 := w_Zb (b := 1000000000000000) (by decide) hb i
    have b2 := hb i
    have ev : i < 8 → va_up g 31 r 31 i + lZ (w_Z Zi i / (wB ^ i : Nat)) = lZ (w_Z Zi (i + 1) / (wB ^ i : Nat)) := fun q => by
      rw [show va_up g 31 r 31 i = lZ (Zi i) from (h2 i (Nat.le_refl _)).trans (hZ i q), lZ_add, w_Z1]
    have b3 : -1000000000000000000 < w_Z Zi (i + 1) / (wB ^ i : Nat) ∧ w_Z Zi (i + 1) / (wB ^ i : Nat) < 1000000000000000000 := by rw [← w_Z1]; omega
    refine g_iload_3 (pc := 4) E dX6_carry_4 ?_
    refine g_bipush (pc := 5) (v := 8) E dX6_carry_5 (by decide) ?_
    refine g_icmp_ge (pc := 7) (tgt := 49) E dX6_carry_7 (by decide) (fun c_7 => ?_) (fun c_7 => ?_)
    · have e_7 := (q_ge (x := 8) (y := i) rfl rfl (by omega) (by omega)).mp c_7
      exact g_vret (pc := 49) E Z dX6_carry_49 ⟨rfl, ⟨r, fun j hj => h1 j (by omega), rfl⟩⟩
    · have e_7 := (not_congr (q_ge (x := 8) (y := i) rfl rfl (by omega) (by omega))).mp c_7
      refine g_aload_0 (pc := 10) E dX6_carry_10 ?_
      refine g_getR (pc := 11) E (by first | assumption | rfl) (by first | assumption | rfl) fl_X6_22 rfl (by first | assumption | rfl) dX6_carry_11 ?_
      refine g_iload_3 (pc := 14) E dX6_carry_14 ?_
      refine g_lald (pc := 15) E (by first | assumption | rfl) (by first | assumption | rfl) dX6_carry_15 (q_ix_n (by omega)) ?_
      refine g_lload_1 (pc := 16) E dX6_carry_16 ?_
      refine g_ladd (pc := 17) E dX6_carry_17 ?_
      rw [ev (by omega)]
      refine g_lstore_4 (pc := 18) E dX6_carry_18 (by decide) rfl ?_
      refine g_aload_0 (pc := 20) E dX6_carry_20 ?_
      refine g_getR (pc := 21) E (by first | assumption | rfl) (by first | assumption | rfl) fl_X6_22 rfl (by first | assumption | rfl) dX6_carry_21 ?_
      refine g_iload_3 (pc := 24) E dX6_carry_24 ?_
      refine g_lload_4 (pc := 25) E dX6_carry_25 ?_
      refine g_ldc2 (pc := 27) E kw_X6_78 dX6_carry_27 ?_
      refine g_cSl2 (pc := 30) E (c_J9_floorMod_f86c9 _ b3.1 b3.2) cw_X6_80 (by decide) (by decide) (Nat.le_of_ble_eq_true rfl) dX6_carry_30 (fun v_30 h_30 hp => ?_)
      obtain ⟨rfl, rfl⟩ := hp
      refine g_last (pc := 33) E (by first | assumption | rfl) (by first | assumption | rfl) dX6_carry_33 (q_ix_n (by omega)) ?_
      refine g_lload_4 (pc := 34) E dX6_carry_34 ?_
      refine g_ldc2 (pc := 36) E kw_X6_78 dX6_carry_36 ?_
      refine g_cSl2 (pc := 39) E (c_J9_floorDiv_f86c9 _ b3.1 b3.2) cw_X6_84 (by decide) (by decide) (Nat.le_of_ble_eq_true rfl) dX6_carry_39 (fun v_39 h_39 hp => ?_)
      obtain ⟨rfl, rfl⟩ := hp
      refine g_lstore_1 (pc := 42) E dX6_carry_42 (by decide) rfl ?_
      refine g_iinc_3 (pc := 43) (u := 1) E dX6_carry_43 (by decide) (by decide) rfl ?_
      refine g_goto (pc := 46) (tgt := 4) E dX6_carry_46 (by decide) ?_
      rw [nI_1, q_upr, show w_Z Zi (i + 1) / (wB ^ i : Nat) / 1000000000 = w_Z Zi (i + 1) / (wB ^ (i + 1) : Nat) from w_Z2 _ i]
      exact ih (by omega) _ _ (fun j hj => by
        by_cases e : j = i
        · subst e; exact va_up_s
        · rw [va_up_n e]; exact h1 j (by omega)) (fun j hj => by rw [va_up_n (by omega)]; exact h2 j (by omega))
  refine g_lconst (pc := 0) (v := 0) E dX6_carry_0 (by decide) ?_
  refine g_lstore_1 (pc := 1) E dX6_carry_1 (by decide) rfl ?_
  refine g_iconst (pc := 2) (v := 0) E dX6_carry_2 (by decide) ?_
  refine g_istore_3 (pc := 3) E dX6_carry_3 (by decide) rfl ?_
  have e := L 0 (Nat.zero_le _) (g 31) none (fun j hj => absurd hj (Nat.not_lt_zero j)) (fun j _ => rfl)
  rw [va_up_id] at e
  exact e
set_option maxHeartbeats 4000000 in
set_option maxRecDepth 100000 in
theorem c_X6_writeDigits {n : Nat} {sB : Bool} {f : Nat → Nat → Int32} {g : Nat → Nat → Int64} (v : Nat) (hv : ∀ i, i < 8 → g 31 i = lN (w_lb v i)) : q_ConV yX6_writeDigits cX6_writeDigits 5 none 0 0 tyX (alX n sB true) [.ref 6] (f, g, rfX n sB true) (fun h' => ∃ r : Nat → Int32, (∀ j, j < 72 → r j = nI (v / 10 ^ j % 10)) ∧ h' = (va_up f 32 r, g, rfX n sB true)) := by
  refine q_Con.of RX6 [some (.ref 6), none, none, none, none] (by decide +kernel) rfl rfl (Nat.le_of_ble_eq_true rfl) (fun C ad E Z => ?_)
  have L1 : ∀ i, i ≤ 8 → ∀ (r : Nat → Int32) (x2 x4 : Option Value), (∀ j, j < 9 * i → r j = nI (v / 10 ^ j % 10)) → gg C tyX 5 0 0 (alX n sB true) ad 2 [some (.ref 6), some (.int (nI i)), x2, none, x4] [] (va_up f 32 r, g, rfX n sB true) := by
    refine q_loop 8 (fun i hi ih => ?_)
    intro r x2 x4 hr
    have hlb := w_lb_lt v i
    have L2 : ∀ k, k ≤ 9 → ∀ (s : Nat → Int32), (∀ j, j < 9 * i + k → s j = nI (v / 10 ^ j % 10)) → i < 8 → gg C tyX 5 0 0 (alX n sB true) ad 18 [some (.ref 6), some (.int (nI i)), some (.long (lN (w_lb v i / 10 ^ k))), none, some (.int (nI k))] [] (va_up f 32 s, g, rfX n sB true) := by
      refine q_loop 9 (fun k hk ih2 => ?_)
      intro s hs hi8
      have hq : w_lb v i / 10 ^ k ≤ w_lb v i := Nat.div_le_self _ _
      have ed : lN (w_lb v i / 10 ^ k) / 10 = lN (w_lb v i / 10 ^ (k + 1)) := by rw [show (10 : Int64) = lN 10 from rfl, wN_div (by omega) (by decide) (by decide), w_dgs]
      have er : lN (w_lb v i / 10 ^ k) - lN (w_lb v i / 10 ^ k) / 10 * 10 = lN (w_lb v i / 10 ^ k % 10) := by rw [show (10 : Int64) = lN 10 from rfl, wN_rem (by omega) (by decide) (by decide)]
      have e8 : ∀ d, d < 10 → (nI d).toInt8.toInt32 = nI d := by decide
      have hd := Nat.mod_lt (w_lb v i / 10 ^ k) (show 0 < 10 by decide)
      have n8 : ∀ d, d < 10 → narrow .byte (.int (nI d)) = .int (nI d) := by decide
      have exi : k < 9 → nI i * 9 + nI k = nI (9 * i + k) := fun _ => by rw [show (9 : Int32) = nI 9 from rfl, pk_mul, nI_add, Nat.mul_comm]
      refine g_iload_4 (pc := 18) E dX6_writeDigits_18 ?_
      refine g_bipush (pc := 20) (v := 9) E dX6_writeDigits_20 (by decide) ?_
      refine g_icmp_ge (pc := 22) (tgt := 56) E dX6_writeDigits_22 (by decide) (fun c_22 => ?_) (fun c_22 => ?_)
      · have e_22 := (q_ge (x := 9) (y := k) rfl rfl (by omega) (by omega)).mp c_22
        refine g_iinc_1 (pc := 56) (u := 1) E dX6_writeDigits_56 (by decide) (by decide) rfl ?_
        refine g_goto (pc := 59) (tgt := 2) E dX6_writeDigits_59 (by decide) ?_
        rw [nI_1]
        exact ih (by omega) _ _ _ (fun j hj => hs j (by omega))
      · have e_22 := (not_congr (q_ge (x := 9) (y := k) rfl rfl (by omega) (by omega))).mp c_22
        refine g_aload_0 (pc := 25) E dX6_writeDigits_25 ?_
        refine g_getR (pc := 26) E (by first | assumption | rfl) (by first | assumption | rfl) fl_X6_25 rfl (by first | assumption | rfl) dX6_writeDigits_26 ?_
        refine g_iload_1 (pc := 29) E dX6_writeDigits_29 ?_
        refine g_bipush (pc := 30) (v := 9) E dX6_writeDigits_30 (by decide) ?_
        refine g_imul (pc := 32) E dX6_writeDigits_32 ?_
        refine g_iload_4 (pc := 33) E dX6_writeDigits_33 ?_
        refine g_iadd (pc := 35) E dX6_writeDigits_35 ?_
        refine g_lload_2 (pc := 36) E dX6_writeDigits_36 ?_
        refine g_ldc2 (pc := 37) E kw_X6_87 dX6_writeDigits_37 ?_
        refine g_lrem (pc := 40) E dX6_writeDigits_40 (by decide) ?_
        refine g_l2i (pc := 41) E dX6_writeDigits_41 ?_
        refine g_i2b (pc := 42) E dX6_writeDigits_42 ?_
        rw [er, lN_i, e8 _ hd]
        first | refine g_zast (pc := 43) E (by first | assumption | rfl) (by first | assumption | rfl) dX6_writeDigits_43 (q_ix_e (exi (by omega)) (by omega)) (n8 _ hd) ?_ | refine g_bast (pc := 43) E (by first | assumption | rfl) (by first | assumption | rfl) dX6_writeDigits_43 (q_ix_e (exi (by omega)) (by omega)) (n8 _ hd) ?_
        refine g_lload_2 (pc := 44) E dX6_writeDigits_44 ?_
        refine g_ldc2 (pc := 45) E kw_X6_87 dX6_writeDigits_45 ?_
        refine g_ldiv (pc := 48) E dX6_writeDigits_48 (by decide) ?_
        refine g_lstore_2 (pc := 49) E dX6_writeDigits_49 (by decide) rfl ?_
        refine g_iinc_4 (pc := 50) (u := 1) E dX6_writeDigits_50 (by decide) (by decide) rfl ?_
        refine g_goto (pc := 53) (tgt := 18) E dX6_writeDigits_53 (by decide) ?_
        rw [nI_1, q_upr, ed]
        exact ih2 (by omega) _ (fun j hj => by
          by_cases e : j = 9 * i + k
          · subst e; rw [va_up_s, w_dig (by omega)]
          · rw [va_up_n e]; exact hs j (by omega)) hi8
    refine g_iload_1 (pc := 2) E dX6_writeDigits_2 ?_
    refine g_bipush (pc := 3) (v := 8) E dX6_writeDigits_3 (by decide) ?_
    refine g_icmp_ge (pc := 5) (tgt := 62) E dX6_writeDigits_5 (by decide) (fun c_5 => ?_) (fun c_5 => ?_)
    · have e_5 := (q_ge (x := 8) (y := i) rfl rfl (by omega) (by omega)).mp c_5
      exact g_vret (pc := 62) E Z dX6_writeDigits_62 ⟨rfl, ⟨r, fun j hj => hr j (by omega), rfl⟩⟩
    · have e_5 := (not_congr (q_ge (x := 8) (y := i) rfl rfl (by omega) (by omega))).mp c_5
      refine g_aload_0 (pc := 8) E dX6_writeDigits_8 ?_
      refine g_getR (pc := 9) E (by first | assumption | rfl) (by first | assumption | rfl) fl_X6_22 rfl (by first | assumption | rfl) dX6_writeDigits_9 ?_
      refine g_iload_1 (pc := 12) E dX6_writeDigits_12 ?_
      refine g_lald (pc := 13) E (by first | assumption | rfl) (by first | assumption | rfl) dX6_writeDigits_13 (q_ix_n (by omega)) ?_
      refine g_lstore_2 (pc := 14) E dX6_writeDigits_14 (by decide) rfl ?_
      refine g_iconst (pc := 15) (v := 0) E dX6_writeDigits_15 (by decide) ?_
      refine g_istore_4 (pc := 16) E dX6_writeDigits_16 (by decide) rfl ?_
      rw [show g 31 i = lN (w_lb v i / 10 ^ 0) by rw [hv i (by omega), Nat.pow_zero, Nat.div_one]]
      exact L2 0 (Nat.zero_le _) r (fun j hj => hr j (by omega)) (by omega)
  refine g_iconst (pc := 0) (v := 0) E dX6_writeDigits_0 (by decide) ?_
  refine g_istore_1 (pc := 1) E dX6_writeDigits_1 (by decide) rfl ?_
  have e := L1 0 (Nat.zero_le _) (f 32) none none (fun j hj => absurd hj (by omega))
  rw [va_up_id] at e
  exact e
set_option maxHeartbeats 4000000 in
set_option maxRecDepth 100000 in
theorem c_X6_digitsUsed {n : Nat} {sB : Bool} {f : Nat → Nat → Int32} {g : Nat → Nat → Int64} (v : Nat) (hv : ∀ j, j < 72 → f 32 j = nI (v / 10 ^ j % 10)) : q_ConI yX6_digitsUsed cX6_digitsUsed 2 (some .int) 0 0 tyX (alX n sB true) [.ref 6] (f, g, rfX n sB true) (fun r h' => r = nI (w_dm v 72) ∧ h' = (f, g, rfX n sB true)) := by
  refine q_Con.of RX6 [some (.ref 6), none] (by decide +kernel) rfl rfl (Nat.le_of_ble_eq_true rfl) (fun C ad E Z => ?_)
  have L : ∀ k, k < 72 → w_dm v (k + 1) = w_dm v 72 → gg C tyX 2 0 0 (alX n sB true) ad 3 [some (.ref 6), some (.int (nI k))] [] (f, g, rfX n sB true) := by
    intro k
    induction k with
    | zero =>
      intro hk hq
      have hq1 : w_dm v 72 = 1 := by
        rw [← hq, w_dm]
        split <;> rfl
      refine g_iload_1 (pc := 3) E dX6_digitsUsed_3 ?_
      refine g_if_le (pc := 4) (tgt := 26) E dX6_digitsUsed_4 (by decide) (fun c_4 => ?_) (fun c_4 => ?_)
      · refine g_iconst (pc := 26) (v := 1) E dX6_digitsUsed_26 (by decide) ?_
        exact g_iret (pc := 27) E Z dX6_digitsUsed_27 ⟨_, rfl, ⟨by rw [hq1]; rfl, rfl⟩⟩
      · exact absurd (by decide) c_4
    | succ k ih =>
      intro hk hq
      have hd := Nat.mod_lt (v / 10 ^ (k + 1)) (show 0 < 10 by decide)
      rw [w_dm] at hq
      refine g_iload_1 (pc := 3) E dX6_digitsUsed_3 ?_
      refine g_if_le (pc := 4) (tgt := 26) E dX6_digitsUsed_4 (by decide) (fun c_4 => ?_) (fun c_4 => ?_)
      · exact absurd c_4 (nI_nle (by omega) (by omega))
      · refine g_aload_0 (pc := 7) E dX6_digitsUsed_7 ?_
        refine g_getR (pc := 8) E (by first | assumption | rfl) (by first | assumption | rfl) fl_X6_25 rfl (by first | assumption | rfl) dX6_digitsUsed_8 ?_
        refine g_iload_1 (pc := 11) E dX6_digitsUsed_11 ?_
        first | refine g_zald (pc := 12) E (by first | assumption | rfl) (by first | assumption | rfl) dX6_digitsUsed_12 (q_ix_n (by omega)) ?_ | refine g_bald (pc := 12) E (by first | assumption | rfl) (by first | assumption | rfl) dX6_digitsUsed_12 (q_ix_n (by omega)) ?_
        refine g_if_eq (pc := 13) (tgt := 20) E dX6_digitsUsed_13 (by decide) (fun c_13 => ?_) (fun c_13 => ?_)
        · rw [hv (k + 1) hk] at c_13
          have k13 : ¬ 0 < v / 10 ^ (k + 1) % 10 := fun q => nI_ne0 q (by omega) c_13
          rw [if_neg k13] at hq
          refine g_iinc_1 (pc := 20) (u := -1) E dX6_digitsUsed_20 (by decide) (by decide) rfl ?_
          refine g_goto (pc := 23) (tgt := 3) E dX6_digitsUsed_23 (by decide) ?_
          rw [q_dm, q_dn]
          exact ih (by omega) hq
        · rw [hv (k + 1) hk] at c_13
          have k13 : 0 < v / 10 ^ (k + 1) % 10 := Nat.pos_of_ne_zero (fun q => c_13 (by rw [q]; rfl))
          rw [if_pos k13] at hq
          refine g_iload_1 (pc := 16) E dX6_digitsUsed_16 ?_
          refine g_iconst (pc := 17) (v := 1) E dX6_digitsUsed_17 (by decide) ?_
          refine g_iadd (pc := 18) E dX6_digitsUsed_18 ?_
          exact g_iret (pc := 19) E Z dX6_digitsUsed_19 ⟨_, rfl, ⟨by rw [← hq, nI_1], rfl⟩⟩
  refine g_bipush (pc := 0) (v := 71) E dX6_digitsUsed_0 (by decide) ?_
  refine g_istore_1 (pc := 2) E dX6_digitsUsed_2 (by decide) rfl ?_
  exact L 71 (by decide) rfl
