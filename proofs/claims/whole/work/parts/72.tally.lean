/-! the class: countWithin, countRows -/
set_option maxRecDepth 100000 in
theorem w_par : ∀ n, n < 11 → ∀ i, i < 2 ^ n → (q_bc (nI ((2 ^ n - 1) ^^^ i)) - q_bc (nI ((2 ^ n - 1) ^^^ i)) / 2 * 2 = 0 ↔ w_sg n i = 1) := by decide +kernel
abbrev w_kX (f F : Nat → Nat → Int32) (g G : Nat → Nat → Int64) : Prop := (∀ a, a ≠ 28 → a ≠ 29 → a ≠ 32 → F a = f a) ∧ (∀ a, a ≠ 30 → a ≠ 31 → G a = g a)
set_option maxHeartbeats 4000000 in
set_option maxRecDepth 100000 in
theorem c_X6_countWithin {n : Nat} {sB : Bool} {f : Nat → Nat → Int32} {g : Nat → Nat → Int64} (h10 : n ≤ 10) (L : Nat → Nat) (hL : ∀ s, s < 2 ^ n → L s = if f 11 s = 0 then 0 else 1)  : q_ConV yX6_countWithin cX6_countWithin 5 none 1 21 tyX (alX n sB true) [.ref 6, .ref 2, .int (nI (2 ^ n - 1))] (f, g, rfX n sB true) (fun h' => ∃ r : Nat → Int32, (∀ s, s < 2 ^ n → r s = nI (w_zc L 10 s)) ∧ h' = (va_up f 28 r, g, rfX n sB true)) := by
  refine q_Con.of RX6 [some (.ref 6), some (.ref 2), some (.int (nI (2 ^ n - 1))), none, none] (by decide +kernel) rfl rfl (Nat.le_of_ble_eq_true rfl) (fun C ad E Z => ?_)
  have p10 : 2 ^ n ≤ 2 ^ 10 := Nat.pow_le_pow_right (by decide) h10
  have pp : 0 < 2 ^ n := Nat.pow_pos (by decide)
  have LB : ∀ c, c ≤ 10 → ∀ (r : Nat → Int32) (x4 : Option Value), (∀ s, s < 2 ^ n → r s = nI (w_zc L c s)) → gg C tyX 5 0 0 (alX n sB true) ad 41 [some (.ref 6), some (.ref 2), some (.int (nI (2 ^ n - 1))), some (.int (nI c)), x4] [] (va_up f 28 r, g, rfX n sB true) := by
    refine q_loop 10 (fun c hc ih => ?_)
    intro r x4 hr
    have LC : ∀ i, i ≤ 2 ^ n → ∀ (r : Nat → Int32), (∀ s, s < i → r s = nI (w_zc L (c + 1) s)) → (∀ s, i ≤ s → s < 2 ^ n → r s = nI (w_zc L c s)) → c < 10 → gg C tyX 5 0 0 (alX n sB true) ad 50 [some (.ref 6), some (.ref 2), some (.int (nI (2 ^ n - 1))), some (.int (nI c)), some (.int (nI i))] [] (va_up f 28 r, g, rfX n sB true) := by
      refine q_loop (2 ^ n) (fun i hi ih2 => ?_)
      intro r h1 h2 hc10
      have hz : w_zc L (c + 1) i = if i.testBit c = true then w_zc L c i + w_zc L c (i ^^^ 2 ^ c) else w_zc L c i := rfl
      have K100 : ∀ (r : Nat → Int32), (∀ s, s < 2 ^ n → r s = nI (w_zc L (c + 1) s)) → ∀ x4 : Option Value, gg C tyX 5 0 0 (alX n sB true) ad 100 [some (.ref 6), some (.ref 2), some (.int (nI (2 ^ n - 1))), some (.int (nI c)), x4] [] (va_up f 28 r, g, rfX n sB true) := by
        intro r hr x4
        refine g_iinc_3 (pc := 100) (u := 1) E dX6_countWithin_100 (by decide) (by decide) rfl ?_
        refine g_goto (pc := 103) (tgt := 41) E dX6_countWithin_103 (by decide) ?_
        rw [nI_1]
        exact ih (by omega) _ _ hr
      refine g_iload_4 (pc := 50) E dX6_countWithin_50 ?_
      refine g_iload_2 (pc := 52) E dX6_countWithin_52 ?_
      refine g_icmp_gt (pc := 53) (tgt := 100) E dX6_countWithin_53 (by decide) (fun c_53 => ?_) (fun c_53 => ?_)
      · have e_53 : 2 ^ n - 1 < i := (nI_ltI (by omega) (by omega)).mp c_53
        exact K100 r (fun s hs => h1 s (by omega)) _
      · have e_53 : ¬ 2 ^ n - 1 < i := fun q => c_53 ((nI_ltI (by omega) (by omega)).mpr q)
        refine g_iload_4 (pc := 56) E dX6_countWithin_56 ?_
        refine g_sipush (pc := 58) (v := 1024) E dX6_countWithin_58 (by decide) ?_
        refine g_icmp_ge (pc := 61) (tgt := 100) E dX6_countWithin_61 (by decide) (fun c_61 => ?_) (fun c_61 => ?_)
        · exact absurd ((nI_leI (a := 1024) (b := i) (by omega) (by omega)).mp c_61) (by omega)
        · refine g_iload_4 (pc := 64) E dX6_countWithin_64 ?_
          refine g_iload_3 (pc := 66) E dX6_countWithin_66 ?_
          refine g_cSi2 (pc := 67) E (c_X7_contains _ _) cw_X6_74 (by decide) (by decide) (Nat.le_of_ble_eq_true rfl) dX6_countWithin_67 (fun v_67 h_67 hp => ?_)
          obtain ⟨rfl, rfl⟩ := hp
          refine g_if_eq (pc := 70) (tgt := 94) E dX6_countWithin_70 (by decide) (fun c_70 => ?_) (fun c_70 => ?_)
          · have hb : ¬ i.testBit c = true := (q_bit0 (by omega) (by omega)).mp (Classical.not_not.mp (q_b0.mp c_70))
            refine g_iinc_4 (pc := 94) (u := 1) E dX6_countWithin_94 (by decide) (by decide) rfl ?_
            refine g_goto (pc := 97) (tgt := 50) E dX6_countWithin_97 (by decide) ?_
            rw [nI_1]
            exact ih2 (by omega) _ (fun s hs => by
              by_cases e : s = i
              · subst e; rw [h2 s (Nat.le_refl _) (by omega), hz, if_neg hb]
              · exact h1 s (by omega)) (fun s a b => h2 s (by omega) b) hc10
          · have k_70 := q_b1.mp c_70
            have hb : i.testBit c = true := Classical.byContradiction (fun q => k_70 ((q_bit0 (by omega) (by omega)).mpr q))
            have hxl := w_xor_lt hb
            have hx : r (i ^^^ 2 ^ c) = nI (w_zc L c (i ^^^ 2 ^ c)) := by
              rw [h1 _ hxl, w_zc, if_neg (by rw [Nat.testBit_xor, hb, Nat.testBit_two_pow_self]; decide)]
            have exi : nI i ^^^ (1 : Int32) <<< (nI c &&& 31) = nI (i ^^^ 2 ^ c) := by rw [q_shl1 c (by omega), nx_xor]
            refine g_aload_0 (pc := 73) E dX6_countWithin_73 ?_
            refine g_getR (pc := 74) E (by first | assumption | rfl) (by first | assumption | rfl) fl_X6_11 rfl (by first | assumption | rfl) dX6_countWithin_74 ?_
            refine g_iload_4 (pc := 77) E dX6_countWithin_77 ?_
            first | refine g_dupl (pc := 79) E dX6_countWithin_79 ?_ | refine g_dup2 (pc := 79) E dX6_countWithin_79 ?_
            refine g_iald (pc := 80) E (by first | assumption | rfl) (by first | assumption | rfl) dX6_countWithin_80 (q_ix_n (by omega)) ?_
            refine g_aload_0 (pc := 81) E dX6_countWithin_81 ?_
            refine g_getR (pc := 82) E (by first | assumption | rfl) (by first | assumption | rfl) fl_X6_11 rfl (by first | assumption | rfl) dX6_countWithin_82 ?_
            refine g_iload_4 (pc := 85) E dX6_countWithin_85 ?_
            refine g_iconst (pc := 87) (v := 1) E dX6_countWithin_87 (by decide) ?_
            refine g_iload_3 (pc := 88) E dX6_countWithin_88 ?_
            refine g_ishl (pc := 89) E dX6_countWithin_89 ?_
            refine g_ixor (pc := 90) E dX6_countWithin_90 ?_
            refine g_iald (pc := 91) E (by first | assumption | rfl) (by first | assumption | rfl) dX6_countWithin_91 (q_ix_e exi (by omega)) ?_
            refine g_iadd (pc := 92) E dX6_countWithin_92 ?_
            refine g_iast (pc := 93) E (by first | assumption | rfl) (by first | assumption | rfl) dX6_countWithin_93 (q_ix_n (by omega)) ?_
            refine g_iinc_4 (pc := 94) (u := 1) E dX6_countWithin_94 (by decide) (by decide) rfl ?_
            refine g_goto (pc := 97) (tgt := 50) E dX6_countWithin_97 (by decide) ?_
            rw [nI_1, q_upr]
            exact ih2 (by omega) _ (fun s hs => by
              by_cases e : s = i
              · subst e; rw [va_up_s, show va_up f 28 r 28 s = nI (w_zc L c s) from h2 s (Nat.le_refl _) (by omega), show va_up f 28 r 28 (s ^^^ 2 ^ c) = nI (w_zc L c (s ^^^ 2 ^ c)) from hx, nI_add, hz, if_pos hb]
              · rw [va_up_n e]; exact h1 s (by omega)) (fun s a b => by rw [va_up_n (by omega)]; exact h2 s (by omega) b) hc10
    refine g_iload_3 (pc := 41) E dX6_countWithin_41 ?_
    refine g_bipush (pc := 42) (v := 10) E dX6_countWithin_42 (by decide) ?_
    refine g_icmp_ge (pc := 44) (tgt := 106) E dX6_countWithin_44 (by decide) (fun c_44 => ?_) (fun c_44 => ?_)
    · have e_44 := (q_ge (x := 10) (y := c) rfl rfl (by omega) (by omega)).mp c_44
      exact g_vret (pc := 106) E Z dX6_countWithin_106 ⟨rfl, ⟨r, fun s hs => by rw [show (10 : Nat) = c by omega]; exact hr s hs, rfl⟩⟩
    · have e_44 := (not_congr (q_ge (x := 10) (y := c) rfl rfl (by omega) (by omega))).mp c_44
      refine g_iconst (pc := 47) (v := 0) E dX6_countWithin_47 (by decide) ?_
      refine g_istore_4 (pc := 48) E dX6_countWithin_48 (by decide) rfl ?_
      exact LC 0 (Nat.zero_le _) r (fun s hs => absurd hs (Nat.not_lt_zero s)) (fun s _ hs => hr s hs) (by omega)
  have LA : ∀ i, i ≤ 2 ^ n → ∀ (r : Nat → Int32), (∀ s, s < i → r s = nI (L s)) → gg C tyX 5 0 0 (alX n sB true) ad 2 [some (.ref 6), some (.ref 2), some (.int (nI (2 ^ n - 1))), some (.int (nI i)), none] [] (va_up f 28 r, g, rfX n sB true) := by
    refine q_loop (2 ^ n) (fun i hi ih => ?_)
    intro r h1
    have ks : i < 2 ^ n → (nI i).toNatClampNeg = i := fun q => nI_clamp (by omega)
    have ki : i < 2 ^ n → (nI i).toInt = (i : Int) := fun q => nI_toInt (by omega)
    refine g_iload_3 (pc := 2) E dX6_countWithin_2 ?_
    refine g_iload_2 (pc := 3) E dX6_countWithin_3 ?_
    refine g_icmp_gt (pc := 4) (tgt := 39) E dX6_countWithin_4 (by decide) (fun c_4 => ?_) (fun c_4 => ?_)
    · have e_4 : 2 ^ n - 1 < i := (nI_ltI (by omega) (by omega)).mp c_4
      refine g_iconst (pc := 39) (v := 0) E dX6_countWithin_39 (by decide) ?_
      refine g_istore_3 (pc := 40) E dX6_countWithin_40 (by decide) rfl ?_
      exact LB 0 (Nat.zero_le _) r _ (fun s hs => h1 s (by omega))
    · have e_4 : ¬ 2 ^ n - 1 < i := fun q => c_4 ((nI_ltI (by omega) (by omega)).mpr q)
      refine g_iload_3 (pc := 7) E dX6_countWithin_7 ?_
      refine g_sipush (pc := 8) (v := 1024) E dX6_countWithin_8 (by decide) ?_
      refine g_icmp_ge (pc := 11) (tgt := 39) E dX6_countWithin_11 (by decide) (fun c_11 => ?_) (fun c_11 => ?_)
      · exact absurd ((nI_leI (a := 1024) (b := i) (by omega) (by omega)).mp c_11) (by omega)
      · refine g_aload_0 (pc := 14) E dX6_countWithin_14 ?_
        refine g_getR (pc := 15) E (by first | assumption | rfl) (by first | assumption | rfl) fl_X6_11 rfl (by first | assumption | rfl) dX6_countWithin_15 ?_
        refine g_iload_3 (pc := 18) E dX6_countWithin_18 ?_
        refine g_aload_1 (pc := 19) E dX6_countWithin_19 ?_
        refine g_iload_3 (pc := 20) E dX6_countWithin_20 ?_
        refine g_cVi1 (pc := 21) E (c_X3_has _) cw_X6_68 (by decide) (by decide) (by first | assumption | rfl) (by first | assumption | rfl) (Nat.le_of_ble_eq_true rfl) dX6_countWithin_21 (fun v_21 h_21 hp => ?_)
        obtain ⟨rfl, rfl⟩ := hp
        refine g_if_eq (pc := 24) (tgt := 31) E dX6_countWithin_24 (by decide) (fun c_24 => ?_) (fun c_24 => ?_)
        · have k_24 := q_b0.mp c_24
          rw [ks (by omega), ki (by omega)] at k_24
          have hb : f 11 i = 0 := Classical.byContradiction (fun q => k_24 ⟨by omega, by omega, q⟩)
          refine g_iconst (pc := 31) (v := 0) E dX6_countWithin_31 (by decide) ?_
          refine g_iast (pc := 32) E (by first | assumption | rfl) (by first | assumption | rfl) dX6_countWithin_32 (q_ix_n (by omega)) ?_
          refine g_iinc_3 (pc := 33) (u := 1) E dX6_countWithin_33 (by decide) (by decide) rfl ?_
          refine g_goto (pc := 36) (tgt := 2) E dX6_countWithin_36 (by decide) ?_
          rw [nI_1, q_upr]
          exact ih (by omega) _ (fun s hs => by
            by_cases e : s = i
            · subst e; rw [va_up_s, hL s (by omega)]; first | (rw [if_pos hb]; rfl) | (rw [if_neg hb]; rfl)
            · rw [va_up_n e]; exact h1 s (by omega))
        · have k_24 := q_b1.mp c_24
          rw [ks (by omega), ki (by omega)] at k_24
          have hb : ¬ f 11 i = 0 := k_24.2.2
          refine g_iconst (pc := 27) (v := 1) E dX6_countWithin_27 (by decide) ?_
          refine g_goto (pc := 28) (tgt := 32) E dX6_countWithin_28 (by decide) ?_
          refine g_iast (pc := 32) E (by first | assumption | rfl) (by first | assumption | rfl) dX6_countWithin_32 (q_ix_n (by omega)) ?_
          refine g_iinc_3 (pc := 33) (u := 1) E dX6_countWithin_33 (by decide) (by decide) rfl ?_
          refine g_goto (pc := 36) (tgt := 2) E dX6_countWithin_36 (by decide) ?_
          rw [nI_1, q_upr]
          exact ih (by omega) _ (fun s hs => by
            by_cases e : s = i
            · subst e; rw [va_up_s, hL s (by omega)]; first | (rw [if_pos hb]; rfl) | (rw [if_neg hb]; rfl)
            · rw [va_up_n e]; exact h1 s (by omega))
  refine g_iconst (pc := 0) (v := 0) E dX6_countWithin_0 (by decide) ?_
  refine g_istore_3 (pc := 1) E dX6_countWithin_1 (by decide) rfl ?_
  have e := LA 0 (Nat.zero_le _) (f 28) (fun s hs => absurd hs (Nat.not_lt_zero s))
  rw [va_up_id] at e
  exact e
set_option maxHeartbeats 4000000 in
set_option maxRecDepth 100000 in
theorem c_X6_countRows {n : Nat} {sB : Bool} {f : Nat → Nat → Int32} {g : Nat → Nat → Int64} (h10 : n ≤ 10) (L : Nat → Nat) (hL : ∀ s, s < 2 ^ n → L s = if f 11 s = 0 then 0 else 1) (hN : ∀ T, T < 2 ^ n → w_zc L n T ≤ 386) (e : Nat) (he : e ≤ 24) : q_ConV yX6_countRows cX6_countRows 6 none 2 52 tyX (alX n sB true) [.ref 6, .ref 2, .int (nI (2 ^ n - 1)), .int (nI e)] (f, g, rfX n sB true) (fun h' => ∃ (F : Nat → Nat → Int32) (G : Nat → Nat → Int64), w_kX f F g G ∧ (∀ j, j < 72 → F 32 j = nI (w_W n L e / 10 ^ j % 10)) ∧ h' = (F, G, rfX n sB true)) := by
  refine q_Con.of RX6 [some (.ref 6), some (.ref 2), some (.int (nI (2 ^ n - 1))), some (.int (nI e)), none, none] (by decide +kernel) rfl rfl (Nat.le_of_ble_eq_true rfl) (fun C ad E Z => ?_)
  have p10 : 2 ^ n ≤ 2 ^ 10 := Nat.pow_le_pow_right (by decide) h10
  have pp : 0 < 2 ^ n := Nat.pow_pos (by decide)
  have ht : ∀ b, -1024 ≤ w_tm n (w_zc L n) (2 ^ n) b ∧ w_tm n (w_zc L n) (2 ^ n) b ≤ 1024 := fun b => by
    have := w_tm_b n (w_zc L n) b (2 ^ n)
    omega
  have hzb : ∀ i, -1000000000000000 ≤ w_zb (w_tm n (w_zc L n) (2 ^ n)) e 387 i ∧ w_zb (w_tm n (w_zc L n) (2 ^ n)) e 387 i ≤ 1000000000000000 := fun i => by
    have := w_zb_b (e := e) ht i 387
    omega
  have LB : ∀ b, b ≤ 387 → ∀ (F : Nat → Nat → Int32) (G : Nat → Nat → Int64) (x5 : Option Value), w_kX f F g G → (∀ b, b < 387 → F 29 b = iZ (w_tm n (w_zc L n) (2 ^ n) b)) → (∀ i, i < 8 → G 31 i = lZ (w_zb (w_tm n (w_zc L n) (2 ^ n)) e b i)) → gg C tyX 6 0 0 (alX n sB true) ad 90 [some (.ref 6), some (.ref 2), some (.int (nI (2 ^ n - 1))), some (.int (nI e)), some (.int (nI b)), x5] [] (F, G, rfX n sB true) := by
    refine q_loop 387 (fun b hb ih => ?_)
    intro F G x5 hk hT hG
    have htb := ht b
    have hzs : ∀ i, w_zb (w_tm n (w_zc L n) (2 ^ n)) e (b + 1) i = w_zb (w_tm n (w_zc L n) (2 ^ n)) e b i + (w_lb (b ^ e) i : Nat) * w_tm n (w_zc L n) (2 ^ n) b := fun i => rfl
    refine g_iload_4 (pc := 90) E dX6_countRows_90 ?_
    refine g_sipush (pc := 92) (v := 386) E dX6_countRows_92 (by decide) ?_
    refine g_icmp_gt (pc := 95) (tgt := 132) E dX6_countRows_95 (by decide) (fun c_95 => ?_) (fun c_95 => ?_)
    · have e_95 : 386 < b := (nI_ltI (a := 386) (by omega) (by omega)).mp c_95
      have eb : b = 387 := by omega
      subst eb
      refine g_aload_0 (pc := 132) E dX6_countRows_132 ?_
      refine g_cVv0 (pc := 133) E (c_X6_carry _ hzb hG) cw_X6_62 (by decide) (by decide) (by first | assumption | rfl) (by first | assumption | rfl) (Nat.le_of_ble_eq_true rfl) dX6_countRows_133 (fun h_133 hp => ?_)
      obtain ⟨z, hz, rfl⟩ := hp
      have hz8 : ∀ i, i < 8 → va_up G 31 z 31 i = lN (w_lb (w_W n L e) i) := fun i hi => by
        have q := w_Z4 (Z := w_zb (w_tm n (w_zc L n) (2 ^ n)) e 387) (i := i) (m := 8) hi (by rw [w_W_Z he hN]; exact Int.natCast_nonneg _)
        rw [w_W_Z he hN, Int.toNat_natCast] at q
        rw [va_up_s, hz i hi, q]; rfl
      refine g_aload_0 (pc := 136) E dX6_countRows_136 ?_
      refine g_cVv0 (pc := 137) E (c_X6_writeDigits (w_W n L e) hz8) cw_X6_65 (by decide) (by decide) (by first | assumption | rfl) (by first | assumption | rfl) (Nat.le_of_ble_eq_true rfl) dX6_countRows_137 (fun h_137 hp => ?_)
      obtain ⟨d, hd, rfl⟩ := hp
      exact g_vret (pc := 140) E Z dX6_countRows_140 ⟨rfl, ⟨va_up F 32 d, va_up G 31 z, ⟨fun a a0 a1 a2 => by rw [va_up_n a2]; exact hk.1 a a0 a1 a2, fun a a0 a1 => by rw [va_up_n a1]; exact hk.2 a a0 a1⟩, fun j hj => by rw [va_up_s]; exact hd j hj, rfl⟩⟩
    · have e_95 : ¬ 386 < b := fun q => c_95 ((nI_ltI (a := 386) (by omega) (by omega)).mpr q)
      refine g_aload_0 (pc := 98) E dX6_countRows_98 ?_
      refine g_getR (pc := 99) E (by first | assumption | rfl) (by first | assumption | rfl) fl_X6_15 rfl (by first | assumption | rfl) dX6_countRows_99 ?_
      refine g_iload_4 (pc := 102) E dX6_countRows_102 ?_
      refine g_iald (pc := 104) E (by first | assumption | rfl) (by first | assumption | rfl) dX6_countRows_104 (q_ix_n (by omega)) ?_
      refine g_if_eq (pc := 105) (tgt := 126) E dX6_countRows_105 (by decide) (fun c_105 => ?_) (fun c_105 => ?_)
      · rw [hT b (by omega)] at c_105
        have k105 := congrArg Int32.toInt c_105
        rw [iZ_I (by omega) (by omega)] at k105
        have z105 : (0 : Int32).toInt = 0 := rfl
        rw [z105] at k105
        refine g_iinc_4 (pc := 126) (u := 1) E dX6_countRows_126 (by decide) (by decide) rfl ?_
        refine g_goto (pc := 129) (tgt := 90) E dX6_countRows_129 (by decide) ?_
        rw [nI_1]
        first
        | exact ih (by omega) F _ _ ⟨hk.1, fun a a0 a1 => by rw [va_up_n a1, va_up_n a0]; exact hk.2 a a0 a1⟩ hT (fun i hi => by rw [va_up_s, hz i hi, hzs])
        | exact ih (by omega) F G _ hk hT (fun i hi => by rw [hG i hi, hzs, k105, Int.mul_zero, Int.add_zero])
      · refine g_aload_0 (pc := 108) E dX6_countRows_108 ?_
        refine g_iload_4 (pc := 109) E dX6_countRows_109 ?_
        refine g_iload_3 (pc := 111) E dX6_countRows_111 ?_
        refine g_cVv2 (pc := 112) E (c_X6_raise b (by omega) e he) cw_X6_54 (by decide) (by decide) (by first | assumption | rfl) (by first | assumption | rfl) (Nat.le_of_ble_eq_true rfl) dX6_countRows_112 (fun h_112 hp => ?_)
        obtain ⟨r, hr, rfl⟩ := hp
        refine g_aload_0 (pc := 115) E dX6_countRows_115 ?_
        refine g_aload_0 (pc := 116) E dX6_countRows_116 ?_
        refine g_getR (pc := 117) E (by first | assumption | rfl) (by first | assumption | rfl) fl_X6_15 rfl (by first | assumption | rfl) dX6_countRows_117 ?_
        refine g_iload_4 (pc := 120) E dX6_countRows_120 ?_
        refine g_iald (pc := 122) E (by first | assumption | rfl) (by first | assumption | rfl) dX6_countRows_122 (q_ix_n (by omega)) ?_
        rw [hT b (by omega)]
        refine g_cVv1 (pc := 123) E (c_X6_addPower _ (fun i => (w_lb (b ^ e) i : Nat)) (w_tm n (w_zc L n) (2 ^ n) b) htb.1 htb.2 (fun i hi => hG i hi) (fun i hi => hr i hi)) cw_X6_58 (by decide) (by decide) (by first | assumption | rfl) (by first | assumption | rfl) (Nat.le_of_ble_eq_true rfl) dX6_countRows_123 (fun h_123 hp => ?_)
        obtain ⟨z, hz, rfl⟩ := hp
        refine g_iinc_4 (pc := 126) (u := 1) E dX6_countRows_126 (by decide) (by decide) rfl ?_
        refine g_goto (pc := 129) (tgt := 90) E dX6_countRows_129 (by decide) ?_
        rw [nI_1]
        first
        | exact ih (by omega) F _ _ ⟨hk.1, fun a a0 a1 => by rw [va_up_n a1, va_up_n a0]; exact hk.2 a a0 a1⟩ hT (fun i hi => by rw [va_up_s, hz i hi, hzs])
        | exact ih (by omega) F G _ hk hT (fun i hi => by rw [hG i hi, hzs, k105, Int.mul_zero, Int.add_zero])
  have LA : ∀ i, i ≤ 2 ^ n → ∀ (F : Nat → Nat → Int32) (x5 : Option Value), w_kX f F g g → (∀ s, s < 2 ^ n → F 28 s = nI (w_zc L n s)) → (∀ b, b < 387 → F 29 b = iZ (w_tm n (w_zc L n) i b)) → gg C tyX 6 0 0 (alX n sB true) ad 17 [some (.ref 6), some (.ref 2), some (.int (nI (2 ^ n - 1))), some (.int (nI e)), some (.int (nI i)), x5] [] (F, g, rfX n sB true) := by
    refine q_loop (2 ^ n) (fun i hi ih => ?_)
    intro F x5 hk hW hT
    have hNi : i < 2 ^ n → w_zc L n i ≤ 386 := fun q => hN i q
    have hts : ∀ b, w_tm n (w_zc L n) (i + 1) b = w_tm n (w_zc L n) i b + (if w_zc L n i = b then w_sg n i else 0) := fun b => rfl
    have hpar : i < 2 ^ n → (q_bc (nI (2 ^ n - 1) ^^^ nI i) - q_bc (nI (2 ^ n - 1) ^^^ nI i) / 2 * 2 = 0 ↔ w_sg n i = 1) := fun q => by
      rw [nx_xor]; exact w_par n (by omega) i q
    have hmin : i < 2 ^ n → (if (386 : Int32) < nI (w_zc L n i) then (386 : Int32) else nI (w_zc L n i)) = nI (w_zc L n i) := fun q => if_neg (nI_nlt (a := 386) (hNi q) (by omega))
    refine g_iload_4 (pc := 17) E dX6_countRows_17 ?_
    refine g_iload_2 (pc := 19) E dX6_countRows_19 ?_
    refine g_icmp_gt (pc := 20) (tgt := 79) E dX6_countRows_20 (by decide) (fun c_20 => ?_) (fun c_20 => ?_)
    · have e_20 : 2 ^ n - 1 < i := (nI_ltI (by omega) (by omega)).mp c_20
      refine g_aload_0 (pc := 79) E dX6_countRows_79 ?_
      refine g_getR (pc := 80) E (by first | assumption | rfl) (by first | assumption | rfl) fl_X6_22 rfl (by first | assumption | rfl) dX6_countRows_80 ?_
      refine g_lconst (pc := 83) (v := 0) E dX6_countRows_83 (by decide) ?_
      refine g_cSv2 (pc := 84) E (c_J7_fill_d0a16 31 8 (by rfl) rfl (by decide) _) cw_X6_51 (by decide) (by decide) (Nat.le_of_ble_eq_true rfl) dX6_countRows_84 (fun h_84 hp => ?_)
      subst hp
      refine g_iconst (pc := 87) (v := 0) E dX6_countRows_87 (by decide) ?_
      refine g_istore_4 (pc := 88) E dX6_countRows_88 (by decide) rfl ?_
      exact LB 0 (Nat.zero_le _) F _ _ ⟨hk.1, fun a a0 a1 => q_fill_ne a1⟩ (fun b hb => by rw [show 2 ^ n = i by omega]; exact hT b hb) (fun i hi => by rw [q_fill_in (Nat.zero_le _) (by omega)]; rfl)
    · have e_20 : ¬ 2 ^ n - 1 < i := fun q => c_20 ((nI_ltI (by omega) (by omega)).mpr q)
      refine g_iload_4 (pc := 23) E dX6_countRows_23 ?_
      refine g_sipush (pc := 25) (v := 1024) E dX6_countRows_25 (by decide) ?_
      refine g_icmp_ge (pc := 28) (tgt := 79) E dX6_countRows_28 (by decide) (fun c_28 => ?_) (fun c_28 => ?_)
      · exact absurd ((nI_leI (a := 1024) (b := i) (by omega) (by omega)).mp c_28) (by omega)
      · refine g_aload_0 (pc := 31) E dX6_countRows_31 ?_
        refine g_getR (pc := 32) E (by first | assumption | rfl) (by first | assumption | rfl) fl_X6_11 rfl (by first | assumption | rfl) dX6_countRows_32 ?_
        refine g_iload_4 (pc := 35) E dX6_countRows_35 ?_
        refine g_iald (pc := 37) E (by first | assumption | rfl) (by first | assumption | rfl) dX6_countRows_37 (q_ix_n (by omega)) ?_
        rw [hW i (by omega)]
        refine g_sipush (pc := 38) (v := 386) E dX6_countRows_38 (by decide) ?_
        refine g_cSi2 (pc := 41) E (c_J9_min_7cf53 _ _) cw_X6_39 (by decide) (by decide) (Nat.le_of_ble_eq_true rfl) dX6_countRows_41 (fun v_41 h_41 hp => ?_)
        obtain ⟨rfl, rfl⟩ := hp
        rw [hmin (by omega)]
        have hNj := hNi (by omega)
        refine g_istore_5 (pc := 44) E dX6_countRows_44 (by decide) rfl ?_
        refine g_aload_0 (pc := 46) E dX6_countRows_46 ?_
        refine g_getR (pc := 47) E (by first | assumption | rfl) (by first | assumption | rfl) fl_X6_15 rfl (by first | assumption | rfl) dX6_countRows_47 ?_
        refine g_iload_5 (pc := 50) E dX6_countRows_50 ?_
        first | refine g_dupl (pc := 52) E dX6_countRows_52 ?_ | refine g_dup2 (pc := 52) E dX6_countRows_52 ?_
        refine g_iald (pc := 53) E (by first | assumption | rfl) (by first | assumption | rfl) dX6_countRows_53 (q_ix_n (by omega)) ?_
        refine g_iload_2 (pc := 54) E dX6_countRows_54 ?_
        refine g_iload_4 (pc := 55) E dX6_countRows_55 ?_
        refine g_ixor (pc := 57) E dX6_countRows_57 ?_
        refine g_cSi1 (pc := 58) E (c_J6_bitCount_0f7a4 _) cw_X6_45 (by decide) (by decide) (Nat.le_of_ble_eq_true rfl) dX6_countRows_58 (fun v_58 h_58 hp => ?_)
        obtain ⟨rfl, rfl⟩ := hp
        refine g_iconst (pc := 61) (v := 2) E dX6_countRows_61 (by decide) ?_
        refine g_irem (pc := 62) E dX6_countRows_62 (by decide) ?_
        refine g_if_ne (pc := 63) (tgt := 70) E dX6_countRows_63 (by decide) (fun c_63 => ?_) (fun c_63 => ?_)
        · have hsg : w_sg n i = -1 := by
            rcases w_sg1 n i with q | q
            · exact absurd ((hpar (by omega)).mpr q) c_63
            · exact q
          refine g_iconst (pc := 70) (v := -1) E dX6_countRows_70 (by decide) ?_
          refine g_iadd (pc := 71) E dX6_countRows_71 ?_
          refine g_iast (pc := 72) E (by first | assumption | rfl) (by first | assumption | rfl) dX6_countRows_72 (q_ix_n (by omega)) ?_
          refine g_iinc_4 (pc := 73) (u := 1) E dX6_countRows_73 (by decide) (by decide) rfl ?_
          refine g_goto (pc := 76) (tgt := 17) E dX6_countRows_76 (by decide) ?_
          rw [nI_1]
          exact ih (by omega) _ _ ⟨fun a a0 a1 a2 => by rw [q_up_ne a1]; exact hk.1 a a0 a1 a2, hk.2⟩ (fun s hs => by rw [q_up_ne (by decide)]; exact hW s hs) (fun b hb => by
            rw [hts b]
            by_cases e : w_zc L n i = b
            · subst e; rw [if_pos rfl, q_ups, hT _ hb, hsg, ← iZ_add]; rfl
            · rw [if_neg e, Int.add_zero, q_upz (fun q => e q.symm)]; exact hT b hb)
        · have hsg : w_sg n i = 1 := (hpar (by omega)).mp c_63
          refine g_iconst (pc := 66) (v := 1) E dX6_countRows_66 (by decide) ?_
          refine g_goto (pc := 67) (tgt := 71) E dX6_countRows_67 (by decide) ?_
          refine g_iadd (pc := 71) E dX6_countRows_71 ?_
          refine g_iast (pc := 72) E (by first | assumption | rfl) (by first | assumption | rfl) dX6_countRows_72 (q_ix_n (by omega)) ?_
          refine g_iinc_4 (pc := 73) (u := 1) E dX6_countRows_73 (by decide) (by decide) rfl ?_
          refine g_goto (pc := 76) (tgt := 17) E dX6_countRows_76 (by decide) ?_
          rw [nI_1]
          exact ih (by omega) _ _ ⟨fun a a0 a1 a2 => by rw [q_up_ne a1]; exact hk.1 a a0 a1 a2, hk.2⟩ (fun s hs => by rw [q_up_ne (by decide)]; exact hW s hs) (fun b hb => by
            rw [hts b]
            by_cases e : w_zc L n i = b
            · subst e; rw [if_pos rfl, q_ups, hT _ hb, hsg, ← iZ_add]; rfl
            · rw [if_neg e, Int.add_zero, q_upz (fun q => e q.symm)]; exact hT b hb)
  refine g_aload_0 (pc := 0) E dX6_countRows_0 ?_
  refine g_aload_1 (pc := 1) E dX6_countRows_1 ?_
  refine g_iload_2 (pc := 2) E dX6_countRows_2 ?_
  refine g_cVv2 (pc := 3) E (c_X6_countWithin h10 L hL) cw_X6_29 (by decide) (by decide) (by first | assumption | rfl) (by first | assumption | rfl) (Nat.le_of_ble_eq_true rfl) dX6_countRows_3 (fun h_3 hp => ?_)
  obtain ⟨r, hr, rfl⟩ := hp
  refine g_aload_0 (pc := 6) E dX6_countRows_6 ?_
  refine g_getR (pc := 7) E (by first | assumption | rfl) (by first | assumption | rfl) fl_X6_15 rfl (by first | assumption | rfl) dX6_countRows_7 ?_
  refine g_iconst (pc := 10) (v := 0) E dX6_countRows_10 (by decide) ?_
  refine g_cSv2 (pc := 11) E (c_J7_fill_53178 29 387 (by rfl) rfl (by decide) _) cw_X6_33 (by decide) (by decide) (Nat.le_of_ble_eq_true rfl) dX6_countRows_11 (fun h_11 hp => ?_)
  subst hp
  refine g_iconst (pc := 14) (v := 0) E dX6_countRows_14 (by decide) ?_
  refine g_istore_4 (pc := 15) E dX6_countRows_15 (by decide) rfl ?_
  exact LA 0 (Nat.zero_le _) _ _ ⟨fun a a0 a1 a2 => by rw [q_fill_ne a1, va_up_n a0], fun _ _ _ => rfl⟩ (fun s hs => by
    rw [q_fill_ne (by decide), va_up_s, hr s hs]
    obtain ⟨d, hd⟩ : ∃ d, 10 = n + d := ⟨10 - n, by omega⟩
    rw [hd, w_zc_n hs]) (fun b hb => by rw [q_fill_in (Nat.zero_le _) (by omega)]; rfl)
