/-! the reference: the search's small methods -/
theorem q_or2 {t c : Nat} (hc : c < 10) : nI t ||| 1 <<< (nI c &&& 31) = nI (t ||| 2 ^ c) := by rw [q_shl1 c (by omega), nx_or]
theorem q_or_lt {t c n : Nat} (ht : t < 2 ^ n) (hc : c < n) : t ||| 2 ^ c < 2 ^ n := Nat.or_lt_two_pow ht (Nat.pow_lt_pow_right (by decide) hc)
set_option maxHeartbeats 4000000 in
set_option maxRecDepth 100000 in
theorem c_X8_isWhole {f : Nat → Nat → Int32} {g : Nat → Nat → Int64} (n : Nat) (hn : f 0 5 = nI n) (h10 : n ≤ 10) (p : Nat → Bool) (hp : ∀ s, s < 2 ^ n → f 41 s = q_b (p s = true)) (t l : Nat) (htn : t < 2 ^ n) (hln : l < 2 ^ n) : q_ConI yX8_isWhole cX8_isWhole 4 (some .boolean) 0 0 tyM alM [.ref 0, .int (nI t), .int (nI l)] (f, g, rfM) (fun v h' => v = q_b (z_wh n p l t) ∧ h' = (f, g, rfM)) := by
  refine q_Con.of RX8 [some (.ref 0), some (.int (nI t)), some (.int (nI l)), none] (by decide +kernel) rfl rfl (Nat.le_of_ble_eq_true rfl) (fun C ad E Z => ?_)
  have p10 : 2 ^ n ≤ 2 ^ 10 := Nat.pow_le_pow_right (by decide) h10
  have ht24 : t < 1024 := by omega
  have hl24 : l < 1024 := by omega
  have L : ¬ t = 0 → (∀ i, i < 10 → t.testBit i = true → l.testBit i = true) → p t = true → ∀ i, i ≤ n → (∀ c, c < i → l.testBit c = true → ¬ t.testBit c = true → ¬ p (t ||| 2 ^ c) = true) → gg C tyM 4 0 0 alM ad 25 [some (.ref 0), some (.int (nI t)), some (.int (nI l)), some (.int (nI i))] [] (f, g, rfM) := by
    intro h0 h1 h2
    refine q_loop n (fun i hi ih hall => ?_)
    refine g_iload_3 (pc := 25) E dX8_isWhole_25 ?_
    refine g_aload_0 (pc := 26) E dX8_isWhole_26 ?_
    refine g_getI (pc := 27) E (by first | rfl | assumption) (by first | rfl | assumption) fl_X8_154 rfl dX8_isWhole_27 ?_
    refine g_icmp_ge (pc := 30) (tgt := 71) E dX8_isWhole_30 (by decide) (fun c_30 => ?_) (fun c_30 => ?_)
    · have e_30 := (q_ge (x := n) (y := i) hn rfl (by omega) (by omega)).mp c_30
      refine g_iconst (pc := 71) (v := 1) E dX8_isWhole_71 (by decide) ?_
      exact g_zret (pc := 72) E Z dX8_isWhole_72 rfl ⟨_, rfl, ⟨q_bt ⟨h0, h1, h2, fun c hc => hall c (by omega)⟩, rfl⟩⟩
    · have e_30 := (not_congr (q_ge (x := n) (y := i) hn rfl (by omega) (by omega))).mp c_30
      refine g_iload_2 (pc := 33) E dX8_isWhole_33 ?_
      refine g_iload_3 (pc := 34) E dX8_isWhole_34 ?_
      refine g_ishr (pc := 35) E dX8_isWhole_35 ?_
      refine g_iconst (pc := 36) (v := 1) E dX8_isWhole_36 (by decide) ?_
      refine g_iand (pc := 37) E dX8_isWhole_37 ?_
      refine g_iconst (pc := 38) (v := 1) E dX8_isWhole_38 (by decide) ?_
      refine g_icmp_ne (pc := 39) (tgt := 65) E dX8_isWhole_39 (by decide) (fun c_39 => ?_) (fun c_39 => ?_)
      · have hb : ¬ l.testBit i = true := fun q => c_39 ((q_bit1 hl24 (by omega)).mpr q)
        refine g_iinc_3 (pc := 65) (u := 1) E dX8_isWhole_65 (by decide) (by decide) rfl ?_
        refine g_goto (pc := 68) (tgt := 25) E dX8_isWhole_68 (by decide) ?_
        rw [nI_1]
        exact ih (by omega) (fun c hc k1 k2 => by
          by_cases e : c = i
          · subst e
            first
            | exact fun q => absurd k1 hb
            | exact fun q => k2 hb2
            | exact hpo
          · exact hall c (by omega) k1 k2)
      · have hb1 : l.testBit i = true := (q_bit1 hl24 (by omega)).mp c_39
        refine g_iload_1 (pc := 42) E dX8_isWhole_42 ?_
        refine g_iload_3 (pc := 43) E dX8_isWhole_43 ?_
        refine g_ishr (pc := 44) E dX8_isWhole_44 ?_
        refine g_iconst (pc := 45) (v := 1) E dX8_isWhole_45 (by decide) ?_
        refine g_iand (pc := 46) E dX8_isWhole_46 ?_
        refine g_if_ne (pc := 47) (tgt := 65) E dX8_isWhole_47 (by decide) (fun c_47 => ?_) (fun c_47 => ?_)
        · have hb2 : t.testBit i = true := Classical.byContradiction (fun q => c_47 ((q_bit0 ht24 (by omega)).mpr q))
          refine g_iinc_3 (pc := 65) (u := 1) E dX8_isWhole_65 (by decide) (by decide) rfl ?_
          refine g_goto (pc := 68) (tgt := 25) E dX8_isWhole_68 (by decide) ?_
          rw [nI_1]
          exact ih (by omega) (fun c hc k1 k2 => by
            by_cases e : c = i
            · subst e
              first
              | exact fun q => absurd k1 hb
              | exact fun q => k2 hb2
              | exact hpo
            · exact hall c (by omega) k1 k2)
        · have hb3 : ¬ t.testBit i = true := (q_bit0 ht24 (by omega)).mp c_47
          have hol : t ||| 2 ^ i < 2 ^ n := q_or_lt htn (by omega)
          refine g_aload_0 (pc := 50) E dX8_isWhole_50 ?_
          refine g_getR (pc := 51) E (by first | rfl | assumption) (by first | rfl | assumption) fl_X8_119 rfl (by first | rfl | assumption) dX8_isWhole_51 ?_
          refine g_iload_1 (pc := 54) E dX8_isWhole_54 ?_
          refine g_iconst (pc := 55) (v := 1) E dX8_isWhole_55 (by decide) ?_
          refine g_iload_3 (pc := 56) E dX8_isWhole_56 ?_
          refine g_ishl (pc := 57) E dX8_isWhole_57 ?_
          refine g_ior (pc := 58) E dX8_isWhole_58 ?_
          first | refine g_zald (pc := 59) E (by first | rfl | assumption) (by first | rfl | assumption) dX8_isWhole_59 (q_ix_e (j := t ||| 2 ^ i) (q_or2 (by omega)) (by omega)) ?_ | refine g_bald (pc := 59) E (by first | rfl | assumption) (by first | rfl | assumption) dX8_isWhole_59 (q_ix_e (j := t ||| 2 ^ i) (q_or2 (by omega)) (by omega)) ?_
          refine g_if_eq (pc := 60) (tgt := 65) E dX8_isWhole_60 (by decide) (fun c_60 => ?_) (fun c_60 => ?_)
          · have hpo : ¬ p (t ||| 2 ^ i) = true := by
              have q := c_60
              rw [hp _ hol] at q
              exact q_b0.mp q
            refine g_iinc_3 (pc := 65) (u := 1) E dX8_isWhole_65 (by decide) (by decide) rfl ?_
            refine g_goto (pc := 68) (tgt := 25) E dX8_isWhole_68 (by decide) ?_
            rw [nI_1]
            exact ih (by omega) (fun c hc k1 k2 => by
              by_cases e : c = i
              · subst e
                first
                | exact fun q => absurd k1 hb
                | exact fun q => k2 hb2
                | exact hpo
              · exact hall c (by omega) k1 k2)
          · have hpo : p (t ||| 2 ^ i) = true := by
              have q := c_60
              rw [hp _ hol] at q
              exact q_b1.mp q
            refine g_iconst (pc := 63) (v := 0) E dX8_isWhole_63 (by decide) ?_
            exact g_zret (pc := 64) E Z dX8_isWhole_64 rfl ⟨_, rfl, ⟨q_bf (fun q => q.2.2.2 i (by omega) hb1 hb3 hpo), rfl⟩⟩
  refine g_iload_1 (pc := 0) E dX8_isWhole_0 ?_
  refine g_if_eq (pc := 1) (tgt := 21) E dX8_isWhole_1 (by decide) (fun c_1 => ?_) (fun c_1 => ?_)
  · have h0 : t = 0 := (nI_eq (by omega) (by omega)).mp c_1
    refine g_iconst (pc := 21) (v := 0) E dX8_isWhole_21 (by decide) ?_
    exact g_zret (pc := 22) E Z dX8_isWhole_22 rfl ⟨_, rfl, ⟨q_bf (fun q => by first | exact q.1 h0 | exact h1 q.2.1 | exact h2 q.2.2.1), rfl⟩⟩
  · have h0 : ¬ t = 0 := fun q => c_1 (by rw [q]; rfl)
    refine g_iload_1 (pc := 4) E dX8_isWhole_4 ?_
    refine g_iload_2 (pc := 5) E dX8_isWhole_5 ?_
    refine g_iconst (pc := 6) (v := -1) E dX8_isWhole_6 (by decide) ?_
    refine g_ixor (pc := 7) E dX8_isWhole_7 ?_
    refine g_iand (pc := 8) E dX8_isWhole_8 ?_
    refine g_if_ne (pc := 9) (tgt := 21) E dX8_isWhole_9 (by decide) (fun c_9 => ?_) (fun c_9 => ?_)
    · have h1 : ¬ ∀ i, i < 10 → t.testBit i = true → l.testBit i = true := fun q => c_9 ((q_sub0 ht24).mpr q)
      refine g_iconst (pc := 21) (v := 0) E dX8_isWhole_21 (by decide) ?_
      exact g_zret (pc := 22) E Z dX8_isWhole_22 rfl ⟨_, rfl, ⟨q_bf (fun q => by first | exact q.1 h0 | exact h1 q.2.1 | exact h2 q.2.2.1), rfl⟩⟩
    · have h1 := (q_sub0 ht24).mp c_9
      refine g_aload_0 (pc := 12) E dX8_isWhole_12 ?_
      refine g_getR (pc := 13) E (by first | rfl | assumption) (by first | rfl | assumption) fl_X8_119 rfl (by first | rfl | assumption) dX8_isWhole_13 ?_
      refine g_iload_1 (pc := 16) E dX8_isWhole_16 ?_
      first | refine g_zald (pc := 17) E (by first | rfl | assumption) (by first | rfl | assumption) dX8_isWhole_17 (q_ix_n (by omega)) ?_ | refine g_bald (pc := 17) E (by first | rfl | assumption) (by first | rfl | assumption) dX8_isWhole_17 (q_ix_n (by omega)) ?_
      refine g_if_ne (pc := 18) (tgt := 23) E dX8_isWhole_18 (by decide) (fun c_18 => ?_) (fun c_18 => ?_)
      · have h2 : p t = true := by
          have q := c_18
          rw [hp t htn] at q
          exact q_b1.mp q
        refine g_iconst (pc := 23) (v := 0) E dX8_isWhole_23 (by decide) ?_
        refine g_istore_3 (pc := 24) E dX8_isWhole_24 (by decide) rfl ?_
        exact L h0 h1 h2 0 (Nat.zero_le _) (fun c hc => absurd hc (Nat.not_lt_zero c))
      · have h2 : ¬ p t = true := by
          have q := c_18
          rw [hp t htn] at q
          exact q_b0.mp q
        refine g_iconst (pc := 21) (v := 0) E dX8_isWhole_21 (by decide) ?_
        exact g_zret (pc := 22) E Z dX8_isWhole_22 rfl ⟨_, rfl, ⟨q_bf (fun q => by first | exact q.1 h0 | exact h1 q.2.1 | exact h2 q.2.2.1), rfl⟩⟩
def z_hv (r : Nat → Int32) : Nat → Int32
  | 0 => 0
  | k + 1 => 10 * z_hv r k + r k
theorem z_hv_congr {r q : Nat → Int32} : ∀ {k : Nat}, (∀ c, c < k → r c = q c) → z_hv r k = z_hv q k
  | 0, _ => rfl
  | k + 1, h => by rw [z_hv, z_hv, z_hv_congr (fun c hc => h c (by omega)), h k (by omega)]
def z_hs (r : Nat → Int32) (n : Nat) : Int32 := z_hv r n * 31 + ((z_hv r n).toUInt32 >>> (Int32.toUInt32 7 &&& Int32.toUInt32 31)).toInt32
theorem z_hs_congr {r q : Nat → Int32} {k : Nat} (h : ∀ c, c < k → r c = q c) : z_hs r k = z_hs q k := by unfold z_hs; rw [z_hv_congr h]
set_option maxHeartbeats 4000000 in
set_option maxRecDepth 100000 in
theorem c_X8_sumOf {f : Nat → Nat → Int32} {g : Nat → Nat → Int64} (n : Nat) (hn : f 0 5 = nI n) (h10 : n ≤ 10)  : q_ConI yX8_sumOf cX8_sumOf 3 (some .int) 0 0 tyM alM [.ref 0] (f, g, rfM) (fun v h' => v = z_hs (f 38) n ∧ h' = (f, g, rfM)) := by
  refine q_Con.of RX8 [some (.ref 0), none, none] (by decide +kernel) rfl rfl (Nat.le_of_ble_eq_true rfl) (fun C ad E Z => ?_)
  have L : ∀ i, i ≤ n → gg C tyM 3 0 0 alM ad 4 [some (.ref 0), some (.int (z_hv (f 38) i)), some (.int (nI i))] [] (f, g, rfM) := by
    refine q_loop n (fun i hi ih => ?_)
    refine g_iload_2 (pc := 4) E dX8_sumOf_4 ?_
    refine g_aload_0 (pc := 5) E dX8_sumOf_5 ?_
    refine g_getI (pc := 6) E (by first | rfl | assumption) (by first | rfl | assumption) fl_X8_154 rfl dX8_sumOf_6 ?_
    refine g_icmp_ge (pc := 9) (tgt := 30) E dX8_sumOf_9 (by decide) (fun c_9 => ?_) (fun c_9 => ?_)
    · have e_9 := (q_ge (x := n) (y := i) hn rfl (by omega) (by omega)).mp c_9
      refine g_iload_1 (pc := 30) E dX8_sumOf_30 ?_
      refine g_bipush (pc := 31) (v := 31) E dX8_sumOf_31 (by decide) ?_
      refine g_imul (pc := 33) E dX8_sumOf_33 ?_
      refine g_iload_1 (pc := 34) E dX8_sumOf_34 ?_
      refine g_bipush (pc := 35) (v := 7) E dX8_sumOf_35 (by decide) ?_
      refine g_iushr (pc := 37) E dX8_sumOf_37 ?_
      refine g_iadd (pc := 38) E dX8_sumOf_38 ?_
      exact g_iret (pc := 39) E Z dX8_sumOf_39 ⟨_, rfl, ⟨by rw [show i = n by omega]; rfl, rfl⟩⟩
    · have e_9 := (not_congr (q_ge (x := n) (y := i) hn rfl (by omega) (by omega))).mp c_9
      refine g_bipush (pc := 12) (v := 10) E dX8_sumOf_12 (by decide) ?_
      refine g_iload_1 (pc := 14) E dX8_sumOf_14 ?_
      refine g_imul (pc := 15) E dX8_sumOf_15 ?_
      refine g_aload_0 (pc := 16) E dX8_sumOf_16 ?_
      refine g_getR (pc := 17) E (by first | rfl | assumption) (by first | rfl | assumption) fl_X8_110 rfl (by first | rfl | assumption) dX8_sumOf_17 ?_
      refine g_iload_2 (pc := 20) E dX8_sumOf_20 ?_
      refine g_iald (pc := 21) E (by first | rfl | assumption) (by first | rfl | assumption) dX8_sumOf_21 (q_ix_n (by omega)) ?_
      refine g_iadd (pc := 22) E dX8_sumOf_22 ?_
      refine g_istore_1 (pc := 23) E dX8_sumOf_23 (by decide) rfl ?_
      refine g_iinc_2 (pc := 24) (u := 1) E dX8_sumOf_24 (by decide) (by decide) rfl ?_
      refine g_goto (pc := 27) (tgt := 4) E dX8_sumOf_27 (by decide) ?_
      rw [nI_1]
      exact ih (by omega)
  refine g_iconst (pc := 0) (v := 0) E dX8_sumOf_0 (by decide) ?_
  refine g_istore_1 (pc := 1) E dX8_sumOf_1 (by decide) rfl ?_
  refine g_iconst (pc := 2) (v := 0) E dX8_sumOf_2 (by decide) ?_
  refine g_istore_2 (pc := 3) E dX8_sumOf_3 (by decide) rfl ?_
  exact L 0 (Nat.zero_le _)
def z_h13 (x : Int32) : Nat := (x &&& 8191).toNatClampNeg
theorem z_h13_s (x : Int32) : x &&& 8191 = nI (z_h13 x) ∧ z_h13 x < 8192 := by
  obtain ⟨m, -, rfl⟩ := wb_of32 x
  have e : nI m &&& 8191 = nI (m &&& 8191) := nx_and m 8191
  have hl : m &&& 8191 < 8192 := Nat.lt_of_le_of_lt Nat.and_le_right (by decide)
  have e2 : z_h13 (nI m) = m &&& 8191 := by unfold z_h13; rw [e, nI_clamp (by omega)]
  rw [e2]
  exact ⟨e, hl⟩
/-- the last below m of that number -/
def z_nx (hs : Nat → Nat) (h : Nat) : Nat → Int32
  | 0 => -1
  | m + 1 => if hs m = h then nI m else z_nx hs h m
theorem z_nx_congr {a b : Nat → Nat} {h : Nat} : ∀ {m : Nat}, (∀ j, j < m → a j = b j) → z_nx a h m = z_nx b h m
  | 0, _ => rfl
  | m + 1, q => by rw [z_nx, z_nx, z_nx_congr (fun j hj => q j (by omega)), q m (by omega)]
abbrev z_ch (k : Nat) (f : Nat → Nat → Int32) : Prop := (∀ h, h < 8192 → f 39 h = z_nx (fun j => z_h13 (f 35 j)) h k) ∧ (∀ j, j < k → f 40 j = z_nx (fun j => z_h13 (f 35 j)) (z_h13 (f 35 j)) j)
abbrev z_same (n : Nat) (f : Nat → Nat → Int32) (j : Nat) : Prop := ∀ c, c < n → f 34 (10 * j + c) = f 38 c
theorem q_10 (s k : Nat) : (10 : Int32) * nI s + nI k = nI (10 * s + k) := by rw [show (10 : Int32) = nI 10 from rfl, pk_mul, nI_add]
set_option maxHeartbeats 4000000 in
set_option maxRecDepth 100000 in
theorem c_X8_isNew {f : Nat → Nat → Int32} {g : Nat → Nat → Int64} (n : Nat) (hn : f 0 5 = nI n) (h10 : n ≤ 10) (K : Nat) (hK : K ≤ 5000) (hch : z_ch K f) (v : Int32) (hv : ∀ j, j < K → z_same n f j → f 35 j = v) : q_ConI yX8_isNew cX8_isNew 4 (some .boolean) 0 0 tyM alM [.ref 0, .int v] (f, g, rfM) (fun r h' => r = q_b (¬ ∃ j, j < K ∧ z_same n f j) ∧ h' = (f, g, rfM)) := by
  refine q_Con.of RX8 [some (.ref 0), some (.int v), none, none] (by decide +kernel) rfl rfl (Nat.le_of_ble_eq_true rfl) (fun C ad E Z => ?_)
  obtain ⟨eh, hh⟩ := z_h13_s v
  obtain ⟨hc1, hc2⟩ := hch
  have L : ∀ m, m ≤ K → (∀ j, m ≤ j → j < K → ¬ z_same n f j) → ∀ x3 : Option Value, gg C tyM 4 0 0 alM ad 11 [some (.ref 0), some (.int v), some (.int (z_nx (fun j => z_h13 (f 35 j)) (z_h13 v) m)), x3] [] (f, g, rfM) := by
    intro m
    induction m with
    | zero =>
      intro hm hno x3
      refine g_iload_2 (pc := 11) E dX8_isNew_11 ?_
      refine g_if_lt (pc := 12) (tgt := 84) E dX8_isNew_12 (by decide) (fun c_12 => ?_) (fun c_12 => ?_)
      · refine g_iconst (pc := 84) (v := 1) E dX8_isNew_84 (by decide) ?_
        exact g_zret (pc := 85) E Z dX8_isNew_85 rfl ⟨_, rfl, ⟨q_bt (fun ⟨j, hj, q⟩ => hno j (Nat.zero_le _) hj q), rfl⟩⟩
      · exact absurd (show (-1 : Int32) < 0 by decide) c_12
    | succ m ih =>
      intro hm hno x3
      by_cases ehm : z_h13 (f 35 m) = z_h13 v
      · rw [show z_nx (fun j => z_h13 (f 35 j)) (z_h13 v) (m + 1) = nI m from if_pos ehm]
        have K74 : ¬ z_same n f m → ∀ x3 : Option Value, gg C tyM 4 0 0 alM ad 74 [some (.ref 0), some (.int v), some (.int (nI m)), x3] [] (f, g, rfM) := by
          intro hns x3
          refine g_aload_0 (pc := 74) E dX8_isNew_74 ?_
          refine g_getR (pc := 75) E (by first | rfl | assumption) (by first | rfl | assumption) fl_X8_116 rfl (by first | rfl | assumption) dX8_isNew_75 ?_
          refine g_iload_2 (pc := 78) E dX8_isNew_78 ?_
          refine g_iald (pc := 79) E (by first | rfl | assumption) (by first | rfl | assumption) dX8_isNew_79 (q_ix_n (by omega)) ?_
          refine g_istore_2 (pc := 80) E dX8_isNew_80 (by decide) rfl ?_
          refine g_goto (pc := 81) (tgt := 11) E dX8_isNew_81 (by decide) ?_
          rw [hc2 m (by omega), ehm]
          exact ih (by omega) (fun j h1 h2 => by
            by_cases e : j = m
            · subst e; exact hns
            · exact hno j (by omega) h2) _
        have LL : ∀ i, i ≤ n → (∀ c, c < i → f 34 (10 * m + c) = f 38 c) → gg C tyM 4 0 0 alM ad 30 [some (.ref 0), some (.int v), some (.int (nI m)), some (.int (nI i))] [] (f, g, rfM) := by
          refine q_loop n (fun i hi ih2 hall => ?_)
          refine g_iload_3 (pc := 30) E dX8_isNew_30 ?_
          refine g_aload_0 (pc := 31) E dX8_isNew_31 ?_
          refine g_getI (pc := 32) E (by first | rfl | assumption) (by first | rfl | assumption) fl_X8_154 rfl dX8_isNew_32 ?_
          refine g_icmp_ge (pc := 35) (tgt := 64) E dX8_isNew_35 (by decide) (fun c_35 => ?_) (fun c_35 => ?_)
          · have e_35 := (q_ge (x := n) (y := i) hn rfl (by omega) (by omega)).mp c_35
            refine g_iload_3 (pc := 64) E dX8_isNew_64 ?_
            refine g_aload_0 (pc := 65) E dX8_isNew_65 ?_
            refine g_getI (pc := 66) E (by first | rfl | assumption) (by first | rfl | assumption) fl_X8_154 rfl dX8_isNew_66 ?_
            refine g_icmp_ne (pc := 69) (tgt := 74) E dX8_isNew_69 (by decide) (fun c_69 => ?_) (fun c_69 => ?_)
            · skip
              exact K74 (by first | exact fun q => c_55 (q i (by omega)) | exact absurd (by rw [hn, show i = n by omega]) c_69) _
            · skip
              refine g_iconst (pc := 72) (v := 0) E dX8_isNew_72 (by decide) ?_
              exact g_zret (pc := 73) E Z dX8_isNew_73 rfl ⟨_, rfl, ⟨q_bf (fun q => q ⟨m, by omega, (by first | exact absurd ((nI_eq (by omega) (by omega)).mp (c_69.trans hn)) (by omega) | exact fun c hc => hall c (by omega))⟩), rfl⟩⟩
          · have e_35 := (not_congr (q_ge (x := n) (y := i) hn rfl (by omega) (by omega))).mp c_35
            refine g_aload_0 (pc := 38) E dX8_isNew_38 ?_
            refine g_getR (pc := 39) E (by first | rfl | assumption) (by first | rfl | assumption) fl_X8_98 rfl (by first | rfl | assumption) dX8_isNew_39 ?_
            refine g_bipush (pc := 42) (v := 10) E dX8_isNew_42 (by decide) ?_
            refine g_iload_2 (pc := 44) E dX8_isNew_44 ?_
            refine g_imul (pc := 45) E dX8_isNew_45 ?_
            refine g_iload_3 (pc := 46) E dX8_isNew_46 ?_
            refine g_iadd (pc := 47) E dX8_isNew_47 ?_
            refine g_iald (pc := 48) E (by first | rfl | assumption) (by first | rfl | assumption) dX8_isNew_48 (q_ix_e (q_10 _ _) (by omega)) ?_
            refine g_aload_0 (pc := 49) E dX8_isNew_49 ?_
            refine g_getR (pc := 50) E (by first | rfl | assumption) (by first | rfl | assumption) fl_X8_110 rfl (by first | rfl | assumption) dX8_isNew_50 ?_
            refine g_iload_3 (pc := 53) E dX8_isNew_53 ?_
            refine g_iald (pc := 54) E (by first | rfl | assumption) (by first | rfl | assumption) dX8_isNew_54 (q_ix_n (by omega)) ?_
            refine g_icmp_ne (pc := 55) (tgt := 64) E dX8_isNew_55 (by decide) (fun c_55 => ?_) (fun c_55 => ?_)
            · refine g_iload_3 (pc := 64) E dX8_isNew_64 ?_
              refine g_aload_0 (pc := 65) E dX8_isNew_65 ?_
              refine g_getI (pc := 66) E (by first | rfl | assumption) (by first | rfl | assumption) fl_X8_154 rfl dX8_isNew_66 ?_
              refine g_icmp_ne (pc := 69) (tgt := 74) E dX8_isNew_69 (by decide) (fun c_69 => ?_) (fun c_69 => ?_)
              · skip
                exact K74 (by first | exact fun q => c_55 (q i (by omega)) | exact absurd (by rw [hn, show i = n by omega]) c_69) _
              · skip
                refine g_iconst (pc := 72) (v := 0) E dX8_isNew_72 (by decide) ?_
                exact g_zret (pc := 73) E Z dX8_isNew_73 rfl ⟨_, rfl, ⟨q_bf (fun q => q ⟨m, by omega, (by first | exact absurd ((nI_eq (by omega) (by omega)).mp (c_69.trans hn)) (by omega) | exact fun c hc => hall c (by omega))⟩), rfl⟩⟩
            · refine g_iinc_3 (pc := 58) (u := 1) E dX8_isNew_58 (by decide) (by decide) rfl ?_
              refine g_goto (pc := 61) (tgt := 30) E dX8_isNew_61 (by decide) ?_
              rw [nI_1]
              exact ih2 (by omega) (fun c hc => by
                by_cases e : c = i
                · subst e; exact c_55
                · exact hall c (by omega))
        refine g_iload_2 (pc := 11) E dX8_isNew_11 ?_
        refine g_if_lt (pc := 12) (tgt := 84) E dX8_isNew_12 (by decide) (fun c_12 => ?_) (fun c_12 => ?_)
        · exact absurd c_12 (nI_pos (by omega))
        · refine g_aload_0 (pc := 15) E dX8_isNew_15 ?_
          refine g_getR (pc := 16) E (by first | rfl | assumption) (by first | rfl | assumption) fl_X8_101 rfl (by first | rfl | assumption) dX8_isNew_16 ?_
          refine g_iload_2 (pc := 19) E dX8_isNew_19 ?_
          refine g_iald (pc := 20) E (by first | rfl | assumption) (by first | rfl | assumption) dX8_isNew_20 (q_ix_n (by omega)) ?_
          refine g_iload_1 (pc := 21) E dX8_isNew_21 ?_
          refine g_icmp_eq (pc := 22) (tgt := 28) E dX8_isNew_22 (by decide) (fun c_22 => ?_) (fun c_22 => ?_)
          · refine g_iconst (pc := 28) (v := 0) E dX8_isNew_28 (by decide) ?_
            refine g_drop (ls2 := [some (.ref 0), some (.int v), some (.int (nI m)), none]) (by intro i w hw; rcases i with _ | _ | _ | _ | i <;> simp_all) ?_
            refine g_istore_3 (pc := 29) E dX8_isNew_29 (by decide) rfl ?_
            exact LL 0 (Nat.zero_le _) (fun c hc => absurd hc (Nat.not_lt_zero c))
          · refine g_goto (pc := 25) (tgt := 74) E dX8_isNew_25 (by decide) ?_
            exact K74 (fun q => c_22 (hv m (by omega) q)) _
      · rw [show z_nx (fun j => z_h13 (f 35 j)) (z_h13 v) (m + 1) = z_nx (fun j => z_h13 (f 35 j)) (z_h13 v) m from if_neg ehm]
        exact ih (by omega) (fun j h1 h2 => by
          by_cases e : j = m
          · subst e; exact fun q => ehm (by rw [hv j h2 q])
          · exact hno j (by omega) h2) x3
  refine g_aload_0 (pc := 0) E dX8_isNew_0 ?_
  refine g_getR (pc := 1) E (by first | rfl | assumption) (by first | rfl | assumption) fl_X8_113 rfl (by first | rfl | assumption) dX8_isNew_1 ?_
  refine g_iload_1 (pc := 4) E dX8_isNew_4 ?_
  refine g_sipush (pc := 5) (v := 8191) E dX8_isNew_5 (by decide) ?_
  refine g_iand (pc := 8) E dX8_isNew_8 ?_
  refine g_iald (pc := 9) E (by first | rfl | assumption) (by first | rfl | assumption) dX8_isNew_9 (q_ix_e eh (by omega)) ?_
  refine g_istore_2 (pc := 10) E dX8_isNew_10 (by decide) rfl ?_
  rw [hc1 _ hh]
  exact L K (Nat.le_refl _) (fun j h1 h2 => absurd h2 (by omega)) none
set_option maxHeartbeats 4000000 in
set_option maxRecDepth 100000 in
theorem c_X8_lays {f : Nat → Nat → Int32} {g : Nat → Nat → Int64} (n : Nat) (hn : f 0 5 = nI n) (h10 : n ≤ 10) (K : Nat) (hK : f 0 14 = nI K) (hK2 : K < 5000) (v wc st : Int32) : q_ConV yX8_lays cX8_lays 5 none 0 0 tyM alM [.ref 0, .int v, .int wc, .int st] (f, g, rfM) (fun h' => h' = (q_up (q_up (q_up (q_up (q_up (q_up (q_fill f 34 (10 * K) n (f 38)) 35 K v) 36 K wc) 37 K st) 40 K (f 39 (z_h13 v))) 39 (z_h13 v) (nI K)) 0 14 (nI (K + 1)), g, rfM)) := by
  refine q_Con.of RX8 [some (.ref 0), some (.int v), some (.int wc), some (.int st), none] (by decide +kernel) rfl rfl (Nat.le_of_ble_eq_true rfl) (fun C ad E Z => ?_)
  obtain ⟨eh, hh⟩ := z_h13_s v
  have L : ∀ i, i ≤ n → gg C tyM 5 0 0 alM ad 3 [some (.ref 0), some (.int v), some (.int wc), some (.int st), some (.int (nI i))] [] (q_fill f 34 (10 * K) i (f 38), g, rfM) := by
    refine q_loop n (fun i hi ih => ?_)
    have hn1 : q_fill f 34 (10 * K) i (f 38) 0 5 = nI n := by rw [q_fill_ne (by decide)]; exact hn
    have hK1 : q_fill f 34 (10 * K) i (f 38) 0 14 = nI K := by rw [q_fill_ne (by decide)]; exact hK
    have h38 : q_fill f 34 (10 * K) i (f 38) 38 = f 38 := q_fill_ne (by decide)
    have h39 : q_fill f 34 (10 * K) i (f 38) 39 = f 39 := q_fill_ne (by decide)
    refine g_iload_4 (pc := 3) E dX8_lays_3 ?_
    refine g_aload_0 (pc := 5) E dX8_lays_5 ?_
    refine g_getI (pc := 6) E (by first | rfl | assumption) (by first | rfl | assumption) fl_X8_154 rfl dX8_lays_6 ?_
    refine g_icmp_ge (pc := 9) (tgt := 40) E dX8_lays_9 (by decide) (fun c_9 => ?_) (fun c_9 => ?_)
    · have e_9 := (q_ge (x := n) (y := i) hn1 rfl (by omega) (by omega)).mp c_9
      refine g_aload_0 (pc := 40) E dX8_lays_40 ?_
      refine g_getR (pc := 41) E (by first | rfl | assumption) (by first | rfl | assumption) fl_X8_101 rfl (by first | rfl | assumption) dX8_lays_41 ?_
      refine g_aload_0 (pc := 44) E dX8_lays_44 ?_
      refine g_getI (pc := 45) E (by first | rfl | assumption) (by first | rfl | assumption) fl_X8_196 rfl dX8_lays_45 ?_
      refine g_iload_1 (pc := 48) E dX8_lays_48 ?_
      refine g_iast (pc := 49) E (by first | rfl | assumption) (by first | rfl | assumption) dX8_lays_49 (q_ix_e (j := K) (by exact hK1) (by omega)) ?_
      refine g_aload_0 (pc := 50) E dX8_lays_50 ?_
      refine g_getR (pc := 51) E (by first | rfl | assumption) (by first | rfl | assumption) fl_X8_104 rfl (by first | rfl | assumption) dX8_lays_51 ?_
      refine g_aload_0 (pc := 54) E dX8_lays_54 ?_
      refine g_getI (pc := 55) E (by first | rfl | assumption) (by first | rfl | assumption) fl_X8_196 rfl dX8_lays_55 ?_
      refine g_iload_2 (pc := 58) E dX8_lays_58 ?_
      refine g_iast (pc := 59) E (by first | rfl | assumption) (by first | rfl | assumption) dX8_lays_59 (q_ix_e (j := K) (by exact hK1) (by omega)) ?_
      refine g_aload_0 (pc := 60) E dX8_lays_60 ?_
      refine g_getR (pc := 61) E (by first | rfl | assumption) (by first | rfl | assumption) fl_X8_107 rfl (by first | rfl | assumption) dX8_lays_61 ?_
      refine g_aload_0 (pc := 64) E dX8_lays_64 ?_
      refine g_getI (pc := 65) E (by first | rfl | assumption) (by first | rfl | assumption) fl_X8_196 rfl dX8_lays_65 ?_
      refine g_iload_3 (pc := 68) E dX8_lays_68 ?_
      refine g_iast (pc := 69) E (by first | rfl | assumption) (by first | rfl | assumption) dX8_lays_69 (q_ix_e (j := K) (by exact hK1) (by omega)) ?_
      refine g_aload_0 (pc := 70) E dX8_lays_70 ?_
      refine g_getR (pc := 71) E (by first | rfl | assumption) (by first | rfl | assumption) fl_X8_116 rfl (by first | rfl | assumption) dX8_lays_71 ?_
      refine g_aload_0 (pc := 74) E dX8_lays_74 ?_
      refine g_getI (pc := 75) E (by first | rfl | assumption) (by first | rfl | assumption) fl_X8_196 rfl dX8_lays_75 ?_
      refine g_aload_0 (pc := 78) E dX8_lays_78 ?_
      refine g_getR (pc := 79) E (by first | rfl | assumption) (by first | rfl | assumption) fl_X8_113 rfl (by first | rfl | assumption) dX8_lays_79 ?_
      refine g_iload_1 (pc := 82) E dX8_lays_82 ?_
      refine g_sipush (pc := 83) (v := 8191) E dX8_lays_83 (by decide) ?_
      refine g_iand (pc := 86) E dX8_lays_86 ?_
      refine g_iald (pc := 87) E (by first | rfl | assumption) (by first | rfl | assumption) dX8_lays_87 (q_ix_e (j := z_h13 v) eh (by omega)) ?_
      refine g_iast (pc := 88) E (by first | rfl | assumption) (by first | rfl | assumption) dX8_lays_88 (q_ix_e (j := K) (by exact hK1) (by omega)) ?_
      refine g_aload_0 (pc := 89) E dX8_lays_89 ?_
      refine g_getR (pc := 90) E (by first | rfl | assumption) (by first | rfl | assumption) fl_X8_113 rfl (by first | rfl | assumption) dX8_lays_90 ?_
      refine g_iload_1 (pc := 93) E dX8_lays_93 ?_
      refine g_sipush (pc := 94) (v := 8191) E dX8_lays_94 (by decide) ?_
      refine g_iand (pc := 97) E dX8_lays_97 ?_
      refine g_aload_0 (pc := 98) E dX8_lays_98 ?_
      refine g_getI (pc := 99) E (by first | rfl | assumption) (by first | rfl | assumption) fl_X8_196 rfl dX8_lays_99 ?_
      refine g_iast (pc := 102) E (by first | rfl | assumption) (by first | rfl | assumption) dX8_lays_102 (q_ix_e (j := z_h13 v) eh (by omega)) ?_
      refine g_aload_0 (pc := 103) E dX8_lays_103 ?_
      first | refine g_dupi (pc := 104) E dX8_lays_104 ?_ | refine g_dupr (pc := 104) E dX8_lays_104 ?_
      refine g_getI (pc := 105) E (by first | rfl | assumption) (by first | rfl | assumption) fl_X8_196 rfl dX8_lays_105 ?_
      refine g_iconst (pc := 108) (v := 1) E dX8_lays_108 (by decide) ?_
      refine g_iadd (pc := 109) E dX8_lays_109 ?_
      refine g_putI (pc := 110) E (by first | rfl | assumption) (by first | rfl | assumption) fw_X8_196 rfl dX8_lays_110 ?_
      exact g_vret (pc := 113) E Z dX8_lays_113 ⟨rfl, (by have en : i = n := (by omega); subst en; show (q_up (q_up (q_up (q_up (q_up (q_up (q_fill f 34 (10 * K) i (f 38)) 35 K v) 36 K wc) 37 K st) 40 K (f 39 (z_h13 v))) 39 (z_h13 v) (f 0 14)) 0 14 (f 0 14 + 1), g, rfM) = _; rw [hK, nI_1])⟩
    · have e_9 := (not_congr (q_ge (x := n) (y := i) hn1 rfl (by omega) (by omega))).mp c_9
      refine g_aload_0 (pc := 12) E dX8_lays_12 ?_
      refine g_getR (pc := 13) E (by first | rfl | assumption) (by first | rfl | assumption) fl_X8_98 rfl (by first | rfl | assumption) dX8_lays_13 ?_
      refine g_bipush (pc := 16) (v := 10) E dX8_lays_16 (by decide) ?_
      refine g_aload_0 (pc := 18) E dX8_lays_18 ?_
      refine g_getI (pc := 19) E (by first | rfl | assumption) (by first | rfl | assumption) fl_X8_196 rfl dX8_lays_19 ?_
      refine g_imul (pc := 22) E dX8_lays_22 ?_
      refine g_iload_4 (pc := 23) E dX8_lays_23 ?_
      refine g_iadd (pc := 25) E dX8_lays_25 ?_
      refine g_aload_0 (pc := 26) E dX8_lays_26 ?_
      refine g_getR (pc := 27) E (by first | rfl | assumption) (by first | rfl | assumption) fl_X8_110 rfl (by first | rfl | assumption) dX8_lays_27 ?_
      refine g_iload_4 (pc := 30) E dX8_lays_30 ?_
      refine g_iald (pc := 32) E (by first | rfl | assumption) (by first | rfl | assumption) dX8_lays_32 (q_ix_n (by omega)) ?_
      refine g_iast (pc := 33) E (by first | rfl | assumption) (by first | rfl | assumption) dX8_lays_33 (q_ix_e (j := 10 * K + i) (by rw [hK1]; exact q_10 _ _) (by omega)) ?_
      refine g_iinc_4 (pc := 34) (u := 1) E dX8_lays_34 (by decide) (by decide) rfl ?_
      refine g_goto (pc := 37) (tgt := 3) E dX8_lays_37 (by decide) ?_
      rw [nI_1, h38]
      have e := ih (by omega)
      rw [← q_fill_s rfl] at e
      exact e
  refine g_iconst (pc := 0) (v := 0) E dX8_lays_0 (by decide) ?_
  refine g_istore_4 (pc := 1) E dX8_lays_1 (by decide) rfl ?_
  have e := L 0 (Nat.zero_le _)
  rw [q_fill_0] at e
  exact e
set_option maxHeartbeats 4000000 in
set_option maxRecDepth 100000 in
theorem c_X8_told {f : Nat → Nat → Int32} {g : Nat → Nat → Int64} (N : Nat) (hN : N ≤ 5000) (fr by_ : Nat → Nat) (hfr : ∀ j, j < N → f 36 j = if j = 0 then -1 else nI (fr j)) (hby : ∀ j, 0 < j → j < N → f 37 j = nI (by_ j)) (hf : ∀ j, 0 < j → j < N → fr j < j) (a t : Nat) (ha : a < N) (hd : b_d fr a ≤ 90) : q_ConI yX8_told cX8_told 6 (some .int) 0 0 tyM alM [.ref 0, .int (nI a), .int (nI t)] (f, g, rfM) (fun v h' => v = nI (b_d fr a + 1) ∧ h' = (va_up (q_up f 0 13 (nI (b_d fr a + 1))) 29 (b_l fr by_ (va_up (f 29) (b_d fr a) (nI t)) a (b_d fr a)), g, rfM)) := by
  refine q_Con.of RX8 [some (.ref 0), some (.int (nI a)), some (.int (nI t)), none, none, none] (by decide +kernel) rfl rfl (Nat.le_of_ble_eq_true rfl) (fun C ad E Z => ?_)
  have hpos : ∀ k, 0 < k → k < N → b_d fr k = b_d fr (fr k) + 1 := fun k h0 hk => b_d_s hf h0 hk
  have L2 : ∀ q k i (r : Nat → Int32), b_d fr k = q → i = q → k < N → q ≤ 90 → b_l fr by_ r k i = b_l fr by_ (va_up (f 29) (b_d fr a) (nI t)) a (b_d fr a) → gg C tyM 6 0 0 alM ad 52 [some (.ref 0), some (.int (nI a)), some (.int (nI t)), some (.int (nI (b_d fr a + 1))), some (.int (nI i)), some (.int (nI k))] [] (va_up (q_up f 0 13 (nI (b_d fr a + 1))) 29 r, g, rfM) := by
    intro q
    induction q with
    | zero =>
      intro k i r hq hi hk hq9 hr
      have ek : k = 0 := Classical.byContradiction (fun z => by have := hpos k (by omega) hk; omega)
      subst ek
      have e36 : va_up (q_up f 0 13 (nI (b_d fr a + 1))) 29 r 36 0 = -1 := (hfr 0 hk).trans (if_pos rfl)
      refine g_aload_0 (pc := 52) E dX8_told_52 ?_
      refine g_getR (pc := 53) E (by first | rfl | assumption) (by first | rfl | assumption) fl_X8_104 rfl (by first | rfl | assumption) dX8_told_53 ?_
      refine g_iload_5 (pc := 56) E dX8_told_56 ?_
      refine g_iald (pc := 58) E (by first | rfl | assumption) (by first | rfl | assumption) dX8_told_58 (q_ix_n (by omega)) ?_
      refine g_if_lt (pc := 59) (tgt := 91) E dX8_told_59 (by decide) (fun c_59 => ?_) (fun c_59 => ?_)
      · refine g_iload_3 (pc := 91) E dX8_told_91 ?_
        exact g_iret (pc := 92) E Z dX8_told_92 ⟨_, rfl, ⟨rfl, by rw [← hr]; rfl⟩⟩
      · exact absurd (by rw [e36]; decide) c_59
    | succ q ih =>
      intro k i r hq hi hk hq9 hr
      have hk0 : 0 < k := Nat.pos_of_ne_zero (fun z => by subst z; exact absurd hq (by rw [b_d_0]; omega))
      have hs := hpos k hk0 hk
      have hfk := hf k hk0 hk
      subst hi
      have e36 : ∀ r : Nat → Int32, va_up (q_up f 0 13 (nI (b_d fr a + 1))) 29 r 36 k = nI (fr k) := fun r => (hfr k hk).trans (if_neg (by omega))
      have e37 : va_up (q_up f 0 13 (nI (b_d fr a + 1))) 29 r 37 k = nI (by_ k) := hby k hk0 hk
      have ei : nI (q + 1) + -1 = nI q := by rw [q_dm, q_dn]
      refine g_aload_0 (pc := 52) E dX8_told_52 ?_
      refine g_getR (pc := 53) E (by first | rfl | assumption) (by first | rfl | assumption) fl_X8_104 rfl (by first | rfl | assumption) dX8_told_53 ?_
      refine g_iload_5 (pc := 56) E dX8_told_56 ?_
      refine g_iald (pc := 58) E (by first | rfl | assumption) (by first | rfl | assumption) dX8_told_58 (q_ix_n (by omega)) ?_
      refine g_if_lt (pc := 59) (tgt := 91) E dX8_told_59 (by decide) (fun c_59 => ?_) (fun c_59 => ?_)
      · exact absurd c_59 (by rw [e36]; exact nI_pos (by omega))
      · refine g_iinc_4 (pc := 62) (u := -1) E dX8_told_62 (by decide) (by decide) rfl ?_
        refine g_aload_0 (pc := 65) E dX8_told_65 ?_
        refine g_getR (pc := 66) E (by first | rfl | assumption) (by first | rfl | assumption) fl_X8_82 rfl (by first | rfl | assumption) dX8_told_66 ?_
        refine g_iload_4 (pc := 69) E dX8_told_69 ?_
        refine g_aload_0 (pc := 71) E dX8_told_71 ?_
        refine g_getR (pc := 72) E (by first | rfl | assumption) (by first | rfl | assumption) fl_X8_107 rfl (by first | rfl | assumption) dX8_told_72 ?_
        refine g_iload_5 (pc := 75) E dX8_told_75 ?_
        refine g_iald (pc := 77) E (by first | rfl | assumption) (by first | rfl | assumption) dX8_told_77 (q_ix_n (by omega)) ?_
        refine g_iast (pc := 78) E (by first | rfl | assumption) (by first | rfl | assumption) dX8_told_78 (q_ix_e ei (by omega)) ?_
        refine g_aload_0 (pc := 79) E dX8_told_79 ?_
        refine g_getR (pc := 80) E (by first | rfl | assumption) (by first | rfl | assumption) fl_X8_104 rfl (by first | rfl | assumption) dX8_told_80 ?_
        refine g_iload_5 (pc := 83) E dX8_told_83 ?_
        refine g_iald (pc := 85) E (by first | rfl | assumption) (by first | rfl | assumption) dX8_told_85 (q_ix_n (by omega)) ?_
        refine g_istore_5 (pc := 86) E dX8_told_86 (by decide) rfl ?_
        refine g_goto (pc := 88) (tgt := 52) E dX8_told_88 (by decide) ?_
        rw [ei, e37, q_upr, e36]
        exact ih (fr k) q _ (by omega) rfl (by omega) (by omega) (by rw [← hr, b_l_s hf hk0 hk, Nat.add_sub_cancel])
  have L1 : ∀ q k m, b_d fr k = q → k < N → m + q = b_d fr a + 1 → ∀ x5 : Option Value, gg C tyM 6 0 0 alM ad 5 [some (.ref 0), some (.int (nI a)), some (.int (nI t)), some (.int (nI m)), some (.int (nI k)), x5] [] (f, g, rfM) := by
    intro q
    induction q with
    | zero =>
      intro k m hq hk hm x5
      have ek : k = 0 := Classical.byContradiction (fun z => by have := hpos k (by omega) hk; omega)
      subst ek
      have e36 : f 36 0 = -1 := (hfr 0 hk).trans (if_pos rfl)
      have em : m = b_d fr a + 1 := by omega
      subst em
      have en : nI (b_d fr a + 1) - 1 = nI (b_d fr a) := q_dn _
      refine g_aload_0 (pc := 5) E dX8_told_5 ?_
      refine g_getR (pc := 6) E (by first | rfl | assumption) (by first | rfl | assumption) fl_X8_104 rfl (by first | rfl | assumption) dX8_told_6 ?_
      refine g_iload_4 (pc := 9) E dX8_told_9 ?_
      refine g_iald (pc := 11) E (by first | rfl | assumption) (by first | rfl | assumption) dX8_told_11 (q_ix_n (by omega)) ?_
      refine g_if_lt (pc := 12) (tgt := 30) E dX8_told_12 (by decide) (fun c_12 => ?_) (fun c_12 => ?_)
      · refine g_aload_0 (pc := 30) E dX8_told_30 ?_
        refine g_iload_3 (pc := 31) E dX8_told_31 ?_
        refine g_putI (pc := 32) E (by first | rfl | assumption) (by first | rfl | assumption) fw_X8_199 rfl dX8_told_32 ?_
        refine g_aload_0 (pc := 35) E dX8_told_35 ?_
        refine g_getR (pc := 36) E (by first | rfl | assumption) (by first | rfl | assumption) fl_X8_82 rfl (by first | rfl | assumption) dX8_told_36 ?_
        refine g_iload_3 (pc := 39) E dX8_told_39 ?_
        refine g_iconst (pc := 40) (v := 1) E dX8_told_40 (by decide) ?_
        refine g_isub (pc := 41) E dX8_told_41 ?_
        refine g_iload_2 (pc := 42) E dX8_told_42 ?_
        refine g_iast (pc := 43) E (by first | rfl | assumption) (by first | rfl | assumption) dX8_told_43 (q_ix_e en (by omega)) ?_
        refine g_iload_3 (pc := 44) E dX8_told_44 ?_
        refine g_iconst (pc := 45) (v := 1) E dX8_told_45 (by decide) ?_
        refine g_isub (pc := 46) E dX8_told_46 ?_
        refine g_istore_4 (pc := 47) E dX8_told_47 (by decide) rfl ?_
        refine g_iload_1 (pc := 49) E dX8_told_49 ?_
        refine g_drop (ls2 := [some (.ref 0), some (.int (nI a)), some (.int (nI t)), some (.int (nI (b_d fr a + 1))), some (.int (nI (b_d fr a + 1) - 1)), none]) (by intro i w hw; rcases i with _ | _ | _ | _ | _ | _ | i <;> simp_all) ?_
        refine g_istore_5 (pc := 50) E dX8_told_50 (by decide) rfl ?_
        rw [en, q_up_va (a := 29), q_up_ne (show 29 ≠ 0 by decide)]
        exact L2 (b_d fr a) a (b_d fr a) _ rfl rfl ha hd rfl
      · exact absurd (by rw [e36]; decide) c_12
    | succ q ih =>
      intro k m hq hk hm x5
      have hk0 : 0 < k := Nat.pos_of_ne_zero (fun z => by subst z; exact absurd hq (by rw [b_d_0]; omega))
      have hs := hpos k hk0 hk
      have hfk := hf k hk0 hk
      have e36 : f 36 k = nI (fr k) := (hfr k hk).trans (if_neg (by omega))
      refine g_aload_0 (pc := 5) E dX8_told_5 ?_
      refine g_getR (pc := 6) E (by first | rfl | assumption) (by first | rfl | assumption) fl_X8_104 rfl (by first | rfl | assumption) dX8_told_6 ?_
      refine g_iload_4 (pc := 9) E dX8_told_9 ?_
      refine g_iald (pc := 11) E (by first | rfl | assumption) (by first | rfl | assumption) dX8_told_11 (q_ix_n (by omega)) ?_
      refine g_if_lt (pc := 12) (tgt := 30) E dX8_told_12 (by decide) (fun c_12 => ?_) (fun c_12 => ?_)
      · exact absurd c_12 (by rw [e36]; exact nI_pos (by omega))
      · refine g_iinc_3 (pc := 15) (u := 1) E dX8_told_15 (by decide) (by decide) rfl ?_
        refine g_aload_0 (pc := 18) E dX8_told_18 ?_
        refine g_getR (pc := 19) E (by first | rfl | assumption) (by first | rfl | assumption) fl_X8_104 rfl (by first | rfl | assumption) dX8_told_19 ?_
        refine g_iload_4 (pc := 22) E dX8_told_22 ?_
        refine g_iald (pc := 24) E (by first | rfl | assumption) (by first | rfl | assumption) dX8_told_24 (q_ix_n (by omega)) ?_
        refine g_istore_4 (pc := 25) E dX8_told_25 (by decide) rfl ?_
        refine g_goto (pc := 27) (tgt := 5) E dX8_told_27 (by decide) ?_
        rw [nI_1, e36]
        exact ih (fr k) (m + 1) (by omega) (by omega) (by omega) _
  refine g_iconst (pc := 0) (v := 1) E dX8_told_0 (by decide) ?_
  refine g_istore_3 (pc := 1) E dX8_told_1 (by decide) rfl ?_
  refine g_iload_1 (pc := 2) E dX8_told_2 ?_
  refine g_istore_4 (pc := 3) E dX8_told_3 (by decide) rfl ?_
  exact L1 (b_d fr a) a 1 rfl ha (by omega) none
