/-! the class: what the search rests on -/
theorem q_16 (k : Nat) : 2 ^ (4 * k) = 16 ^ k := by rw [Nat.pow_mul]
theorem q_or16 {a v i : Nat} (ha : a < 16 ^ i) : a ||| v * 16 ^ i = a + v * 16 ^ i := by
  rw [← q_16, Nat.or_comm, Nat.mul_comm, ← Nat.two_pow_add_eq_or_of_lt (by rw [q_16]; exact ha), Nat.add_comm]
theorem q_lor {a v i : Nat} (hi : i < 10) (ha : a < 16 ^ i) (hv : v < 16) : lN a ||| lN v <<< ((4 * nI i).toInt64 &&& 63) = lN (a + v * 16 ^ i) := by
  have hp : 16 ^ (i + 1) ≤ 16 ^ 10 := Nat.pow_le_pow_right (by decide) (by omega)
  have hp0 : 0 < 16 ^ i := Nat.pow_pos (by decide)
  rw [Nat.pow_succ] at hp
  have hm : v * 16 ^ i ≤ 15 * 16 ^ i := Nat.mul_le_mul_right _ (by omega)
  rw [show (4 : Int32) * nI i = nI (4 * i) from pk_mul 4 i, wb_shl v (by omega), q_16, wb_or (by omega) (by omega), q_or16 ha]
theorem q_sm64 : ∀ k, k < 64 → (((nI k).toInt64 &&& 63).toBitVec.smod 64).toNat = k := by decide +kernel
theorem q_ldg {e i : Nat} (hi : i < 10) (he : e < 2 ^ 40) : lN e >>> ((4 * nI i).toInt64 &&& 63) &&& 15 = lN (dg e i) := by
  rw [show (4 : Int32) * nI i = nI (4 * i) from pk_mul 4 i, pf_shr (q_sm64 (4 * i) (by omega)) (by omega), q_16]
  have hd : e / 16 ^ i ≤ e := Nat.div_le_self _ _
  exact wb_mask (k := 4) (by omega) (by decide)
theorem q_lN0 {d : Nat} (hd : d < 2 ^ 63) : lg_cmp (lN d) 0 = 0 ↔ d = 0 := by
  rw [q_cmp0]
  constructor
  · intro h
    have := congrArg Int64.toInt h
    rw [pf_lI hd] at this
    have z : (0 : Int64).toInt = 0 := rfl
    omega
  · rintro rfl; rfl
/-- cells that fit beside -/
def z_rb (q : Nat → Bool) (t : Nat) : Nat → Nat
  | 0 => 0
  | k + 1 => if ¬ t.testBit k = true ∧ q (t ||| 2 ^ k) = true then z_rb q t k ||| 2 ^ k else z_rb q t k
theorem z_rb_lt (q : Nat → Bool) (t : Nat) : ∀ k, z_rb q t k < 2 ^ k
  | 0 => Nat.zero_lt_one
  | k + 1 => by
    rw [z_rb]
    have h1 := z_rb_lt q t k
    have h2 : 2 ^ k < 2 ^ (k + 1) := Nat.pow_lt_pow_right (by decide) (by omega)
    split
    · exact Nat.or_lt_two_pow (by omega) h2
    · omega
theorem z_rb_bit (q : Nat → Bool) (t : Nat) : ∀ k c, (z_rb q t k).testBit c = (decide (c < k) && decide (¬ t.testBit c = true ∧ q (t ||| 2 ^ c) = true))
  | 0, c => by rw [z_rb]; simp
  | k + 1, c => by
    rw [z_rb]
    by_cases h : ¬ t.testBit k = true ∧ q (t ||| 2 ^ k) = true
    · rw [if_pos h, Nat.testBit_or, z_rb_bit q t k c, Nat.testBit_two_pow]
      by_cases e1 : c = k
      · subst e1; rw [decide_eq_true h]; simp
      · have : (c < k + 1) = (c < k) := by apply propext; omega
        simp only [this, show (k = c) = False from propext ⟨fun q => e1 q.symm, False.elim⟩]
        simp
    · rw [if_neg h, z_rb_bit q t k c]
      by_cases e1 : c = k
      · subst e1; rw [decide_eq_false h]; simp
      · have : (c < k + 1) = (c < k) := by apply propext; omega
        simp only [this]
theorem z_on_s (t i : Nat) : z_enc (z_bt t) (i + 1) = z_enc (z_bt t) i + z_bt t i * 16 ^ i := rfl
theorem z_bt_lt (t c : Nat) : z_bt t c < 16 := by unfold z_bt; split <;> decide
set_option maxHeartbeats 4000000 in
set_option maxRecDepth 100000 in
theorem c_X2_canMeetNeeds {n : Nat} {sB tB : Bool} {f : Nat → Nat → Int32} {g : Nat → Nat → Int64} (hn : f 1 1 = nI n) (h10 : n ≤ 10) (hgt : ∀ c, c < n → ∃ j : Nat, j ≤ 2 ∧ f (c + 40) 3 = nI j) (hbm : ∃ b : Nat, b ≤ 4 ∧ f 1 4 = nI b)  : q_ConI yX2_canMeetNeeds cX2_canMeetNeeds 2 (some .boolean) 2 47 tyX (alX n sB tB) [.ref 1] (f, g, rfX n sB tB) (fun v h' => ((v = 1 ∧ ∀ c, c < n → 0 < f (c + 40) 5 → z_legX n f (2 ^ c)) ∨ (v = 0 ∧ ∃ c, c < n ∧ 0 < f (c + 40) 5 ∧ ¬ z_legX n f (2 ^ c))) ∧ h' = (f, g, rfX n sB tB)) := by
  refine q_Con.of RX2 [some (.ref 1), none] (by decide +kernel) rfl rfl (Nat.le_of_ble_eq_true rfl) (fun C ad E Z => ?_)
  have L : ∀ i, i ≤ n → (∀ c, c < i → 0 < f (c + 40) 5 → z_legX n f (2 ^ c)) → gg C tyX 2 0 0 (alX n sB tB) ad 2 [some (.ref 1), some (.int (nI i))] [] (f, g, rfX n sB tB) := by
    refine q_loop n (fun i hi ih hall => ?_)
    refine g_iload_1 (pc := 2) E dX2_canMeetNeeds_2 ?_
    refine g_aload_0 (pc := 3) E dX2_canMeetNeeds_3 ?_
    refine g_getI (pc := 4) E (by first | assumption | rfl) (by first | assumption | rfl) fl_X2_38 rfl dX2_canMeetNeeds_4 ?_
    refine g_icmp_ge (pc := 7) (tgt := 40) E dX2_canMeetNeeds_7 (by decide) (fun c_7 => ?_) (fun c_7 => ?_)
    · have e_7 := (q_ge (x := n) (y := i) hn rfl (by omega) (by omega)).mp c_7
      refine g_iconst (pc := 40) (v := 1) E dX2_canMeetNeeds_40 (by decide) ?_
      exact g_zret (pc := 41) E Z dX2_canMeetNeeds_41 rfl ⟨_, rfl, ⟨Or.inl ⟨rfl, fun c hc => hall c (by omega)⟩, rfl⟩⟩
    · have e_7 := (not_congr (q_ge (x := n) (y := i) hn rfl (by omega) (by omega))).mp c_7
      have hac : alX n sB tB (i + 40) = true := alX_c (by omega)
      have htc : tyX (i + 40) = .inr 0 := tyX_c (by omega)
      have hrc : rfX n sB tB 8 i = some (i + 40) := rfX_c (by omega)
      refine g_aload_0 (pc := 10) E dX2_canMeetNeeds_10 ?_
      refine g_getR (pc := 11) E (by first | assumption | rfl) (by first | assumption | rfl) fl_X2_11 rfl (by first | assumption | rfl) dX2_canMeetNeeds_11 ?_
      refine g_iload_1 (pc := 14) E dX2_canMeetNeeds_14 ?_
      first | refine g_aald (pc := 15) E (by first | assumption | rfl) (by first | assumption | rfl) dX2_canMeetNeeds_15 (q_ix_n (by omega)) (by first | assumption | rfl) ?_ | refine g_aaldJ (pc := 15) E (by first | assumption | rfl) (by first | assumption | rfl) dX2_canMeetNeeds_15 (q_ix_n (by omega)) (by first | assumption | rfl) ?_
      refine g_getI (pc := 16) E (by first | assumption | rfl) (by first | assumption | rfl) fl_X2_68 rfl dX2_canMeetNeeds_16 ?_
      refine g_if_le (pc := 19) (tgt := 34) E dX2_canMeetNeeds_19 (by decide) (fun c_19 => ?_) (fun c_19 => ?_)
      · refine g_iinc_1 (pc := 34) (u := 1) E dX2_canMeetNeeds_34 (by decide) (by decide) rfl ?_
        refine g_goto (pc := 37) (tgt := 2) E dX2_canMeetNeeds_37 (by decide) ?_
        rw [nI_1]
        exact ih (by omega) (fun c hc h0 => by
          by_cases e : c = i
          · subst e; first | exact k_29 | exact absurd h0 (Int32.not_lt.mpr c_19)
          · exact hall c (by omega) h0)
      · refine g_aload_0 (pc := 22) E dX2_canMeetNeeds_22 ?_
        refine g_iconst (pc := 23) (v := 1) E dX2_canMeetNeeds_23 (by decide) ?_
        refine g_iload_1 (pc := 24) E dX2_canMeetNeeds_24 ?_
        refine g_ishl (pc := 25) E dX2_canMeetNeeds_25 ?_
        rw [q_shl1 i (by omega)]
        refine g_cVi1 (pc := 26) E (c_X2_allows (by exact hn) h10 (by exact hgt) (by exact hbm) (2 ^ i) (Nat.pow_lt_pow_right (by decide) (by omega))) cw_X2_71 (by decide) (by decide) (by first | assumption | rfl) (by first | assumption | rfl) (Nat.le_of_ble_eq_true rfl) dX2_canMeetNeeds_26 (fun v_26 h_26 hp => ?_)
        obtain ⟨rfl, rfl⟩ := hp
        refine g_if_ne (pc := 29) (tgt := 34) E dX2_canMeetNeeds_29 (by decide) (fun c_29 => ?_) (fun c_29 => ?_)
        · have k_29 := q_b1.mp c_29
          refine g_iinc_1 (pc := 34) (u := 1) E dX2_canMeetNeeds_34 (by decide) (by decide) rfl ?_
          refine g_goto (pc := 37) (tgt := 2) E dX2_canMeetNeeds_37 (by decide) ?_
          rw [nI_1]
          exact ih (by omega) (fun c hc h0 => by
            by_cases e : c = i
            · subst e; first | exact k_29 | exact absurd h0 (Int32.not_lt.mpr c_19)
            · exact hall c (by omega) h0)
        · have k_29 := q_b0.mp c_29
          refine g_iconst (pc := 32) (v := 0) E dX2_canMeetNeeds_32 (by decide) ?_
          exact g_zret (pc := 33) E Z dX2_canMeetNeeds_33 rfl ⟨_, rfl, ⟨Or.inr ⟨rfl, i, by omega, Int32.not_le.mp c_19, k_29⟩, rfl⟩⟩
  refine g_iconst (pc := 0) (v := 0) E dX2_canMeetNeeds_0 (by decide) ?_
  refine g_istore_1 (pc := 1) E dX2_canMeetNeeds_1 (by decide) rfl ?_
  exact L 0 (Nat.zero_le _) (fun c hc => absurd hc (Nat.not_lt_zero c))
set_option maxHeartbeats 4000000 in
set_option maxRecDepth 100000 in
theorem c_X2_lacksAtFirst {n : Nat} {sB tB : Bool} {f : Nat → Nat → Int32} {g : Nat → Nat → Int64} (hn : f 1 1 = nI n) (h10 : n ≤ 10) (nd : Nat → Nat) (hnd : ∀ c, c < n → f (c + 40) 5 = nI (nd c) ∧ nd c ≤ 9) : q_ConL yX2_lacksAtFirst cX2_lacksAtFirst 4 (some .long) 0 0 tyX (alX n sB tB) [.ref 1] (f, g, rfX n sB tB) (fun v h' => v = lN (z_enc nd n) ∧ h' = (f, g, rfX n sB tB)) := by
  refine q_Con.of RX2 [some (.ref 1), none, none, none] (by decide +kernel) rfl rfl (Nat.le_of_ble_eq_true rfl) (fun C ad E Z => ?_)
  have L : ∀ i, i ≤ n → gg C tyX 4 0 0 (alX n sB tB) ad 4 [some (.ref 1), some (.long (lN (z_enc nd i))), none, some (.int (nI i))] [] (f, g, rfX n sB tB) := by
    refine q_loop n (fun i hi ih => ?_)
    have hlt : z_enc nd i < 16 ^ i := z_enc_lt (fun c hc => by have := (hnd c (by omega)).2; omega)
    refine g_iload_3 (pc := 4) E dX2_lacksAtFirst_4 ?_
    refine g_aload_0 (pc := 5) E dX2_lacksAtFirst_5 ?_
    refine g_getI (pc := 6) E (by first | assumption | rfl) (by first | assumption | rfl) fl_X2_38 rfl dX2_lacksAtFirst_6 ?_
    refine g_icmp_ge (pc := 9) (tgt := 35) E dX2_lacksAtFirst_9 (by decide) (fun c_9 => ?_) (fun c_9 => ?_)
    · have e_9 := (q_ge (x := n) (y := i) hn rfl (by omega) (by omega)).mp c_9
      refine g_lload_1 (pc := 35) E dX2_lacksAtFirst_35 ?_
      exact g_lret (pc := 36) E Z dX2_lacksAtFirst_36 ⟨_, rfl, ⟨by rw [show i = n by omega], rfl⟩⟩
    · have e_9 := (not_congr (q_ge (x := n) (y := i) hn rfl (by omega) (by omega))).mp c_9
      have hac : alX n sB tB (i + 40) = true := alX_c (by omega)
      have htc : tyX (i + 40) = .inr 0 := tyX_c (by omega)
      have hrc : rfX n sB tB 8 i = some (i + 40) := rfX_c (by omega)
      refine g_lload_1 (pc := 12) E dX2_lacksAtFirst_12 ?_
      refine g_aload_0 (pc := 13) E dX2_lacksAtFirst_13 ?_
      refine g_getR (pc := 14) E (by first | assumption | rfl) (by first | assumption | rfl) fl_X2_11 rfl (by first | assumption | rfl) dX2_lacksAtFirst_14 ?_
      refine g_iload_3 (pc := 17) E dX2_lacksAtFirst_17 ?_
      first | refine g_aald (pc := 18) E (by first | assumption | rfl) (by first | assumption | rfl) dX2_lacksAtFirst_18 (q_ix_n (by omega)) (by first | assumption | rfl) ?_ | refine g_aaldJ (pc := 18) E (by first | assumption | rfl) (by first | assumption | rfl) dX2_lacksAtFirst_18 (q_ix_n (by omega)) (by first | assumption | rfl) ?_
      refine g_getI (pc := 19) E (by first | assumption | rfl) (by first | assumption | rfl) fl_X2_68 rfl dX2_lacksAtFirst_19 ?_
      refine g_i2l (pc := 22) E dX2_lacksAtFirst_22 ?_
      refine g_iconst (pc := 23) (v := 4) E dX2_lacksAtFirst_23 (by decide) ?_
      refine g_iload_3 (pc := 24) E dX2_lacksAtFirst_24 ?_
      refine g_imul (pc := 25) E dX2_lacksAtFirst_25 ?_
      refine g_lshl (pc := 26) E dX2_lacksAtFirst_26 ?_
      refine g_lor (pc := 27) E dX2_lacksAtFirst_27 ?_
      refine g_lstore_1 (pc := 28) E dX2_lacksAtFirst_28 (by decide) rfl ?_
      refine g_iinc_3 (pc := 29) (u := 1) E dX2_lacksAtFirst_29 (by decide) (by decide) rfl ?_
      refine g_goto (pc := 32) (tgt := 4) E dX2_lacksAtFirst_32 (by decide) ?_
      rw [nI_1, (hnd i (by omega)).1, nI_l (by have := (hnd i (by omega)).2; omega), q_lor (by omega) hlt (by have := (hnd i (by omega)).2; omega)]
      exact ih (by omega)
  refine g_lconst (pc := 0) (v := 0) E dX2_lacksAtFirst_0 (by decide) ?_
  refine g_lstore_1 (pc := 1) E dX2_lacksAtFirst_1 (by decide) rfl ?_
  refine g_iconst (pc := 2) (v := 0) E dX2_lacksAtFirst_2 (by decide) ?_
  refine g_istore_3 (pc := 3) E dX2_lacksAtFirst_3 (by decide) rfl ?_
  exact L 0 (Nat.zero_le _)
set_option maxHeartbeats 4000000 in
set_option maxRecDepth 100000 in
theorem c_X3_roomBeside {n : Nat} {sB tB : Bool} {f : Nat → Nat → Int32} {g : Nat → Nat → Int64} (t : Nat) (ht : t < 1024) : q_ConI yX3_roomBeside cX3_roomBeside 4 (some .int) 1 21 tyX (alX n sB tB) [.ref 2, .int (nI t)] (f, g, rfX n sB tB) (fun v h' => v = nI (z_rb (fun s => decide (¬ f 11 s = 0)) t 10) ∧ h' = (f, g, rfX n sB tB)) := by
  refine q_Con.of RX3 [some (.ref 2), some (.int (nI t)), none, none] (by decide +kernel) rfl rfl (Nat.le_of_ble_eq_true rfl) (fun C ad E Z => ?_)
  have L : ∀ i, i ≤ 10 → gg C tyX 4 0 0 (alX n sB tB) ad 4 [some (.ref 2), some (.int (nI t)), some (.int (nI (z_rb (fun s => decide (¬ f 11 s = 0)) t i))), some (.int (nI i))] [] (f, g, rfX n sB tB) := by
    refine q_loop 10 (fun i hi ih => ?_)
    have hol : i < 10 → t ||| 2 ^ i < 1024 := fun q => q_or_lt (n := 10) ht q
    have ks : i < 10 → (nI (t ||| 2 ^ i)).toNatClampNeg = t ||| 2 ^ i := fun q => nI_clamp (by have := hol q; omega)
    have ki : i < 10 → (nI (t ||| 2 ^ i)).toInt = ((t ||| 2 ^ i : Nat) : Int) := fun q => nI_toInt (by have := hol q; omega)
    refine g_iload_3 (pc := 4) E dX3_roomBeside_4 ?_
    refine g_bipush (pc := 5) (v := 10) E dX3_roomBeside_5 (by decide) ?_
    refine g_icmp_ge (pc := 7) (tgt := 42) E dX3_roomBeside_7 (by decide) (fun c_7 => ?_) (fun c_7 => ?_)
    · have e_7 := (q_ge (x := 10) (y := i) rfl rfl (by omega) (by omega)).mp c_7
      refine g_iload_2 (pc := 42) E dX3_roomBeside_42 ?_
      exact g_iret (pc := 43) E Z dX3_roomBeside_43 ⟨_, rfl, ⟨by rw [show i = 10 by omega], rfl⟩⟩
    · have e_7 := (not_congr (q_ge (x := 10) (y := i) rfl rfl (by omega) (by omega))).mp c_7
      refine g_iload_1 (pc := 10) E dX3_roomBeside_10 ?_
      refine g_iload_3 (pc := 11) E dX3_roomBeside_11 ?_
      refine g_cSi2 (pc := 12) E (c_X7_contains _ _) cw_X3_42 (by decide) (by decide) (Nat.le_of_ble_eq_true rfl) dX3_roomBeside_12 (fun v_12 h_12 hp => ?_)
      obtain ⟨rfl, rfl⟩ := hp
      refine g_if_ne (pc := 15) (tgt := 36) E dX3_roomBeside_15 (by decide) (fun c_15 => ?_) (fun c_15 => ?_)
      · have k_15 := q_b1.mp c_15
        have hb : t.testBit i = true := Classical.byContradiction (fun q => k_15 ((q_bit0 ht (by omega)).mpr q))
        have hcn : ¬ (¬ t.testBit i = true ∧ (fun s => decide (¬ f 11 s = 0)) (t ||| 2 ^ i) = true) := fun q => q.1 hb
        refine g_iinc_3 (pc := 36) (u := 1) E dX3_roomBeside_36 (by decide) (by decide) rfl ?_
        refine g_goto (pc := 39) (tgt := 4) E dX3_roomBeside_39 (by decide) ?_
        rw [nI_1]
        have e := ih (by omega)
        rw [z_rb] at e
        first
        | (rw [if_neg hcn] at e; exact e)
        | (rw [if_pos hcp] at e; rw [q_or2 (by omega)]; exact e)
      · have k_15 := q_b0.mp c_15
        have hb : ¬ t.testBit i = true := (q_bit0 ht (by omega)).mp (Classical.not_not.mp k_15)
        refine g_aload_0 (pc := 18) E dX3_roomBeside_18 ?_
        refine g_iload_1 (pc := 19) E dX3_roomBeside_19 ?_
        refine g_iconst (pc := 20) (v := 1) E dX3_roomBeside_20 (by decide) ?_
        refine g_iload_3 (pc := 21) E dX3_roomBeside_21 ?_
        refine g_ishl (pc := 22) E dX3_roomBeside_22 ?_
        refine g_ior (pc := 23) E dX3_roomBeside_23 ?_
        rw [q_or2 (by omega)]
        refine g_cVi1 (pc := 24) E (c_X3_has _) cw_X3_46 (by decide) (by decide) (by first | assumption | rfl) (by first | assumption | rfl) (Nat.le_of_ble_eq_true rfl) dX3_roomBeside_24 (fun v_24 h_24 hp => ?_)
        obtain ⟨rfl, rfl⟩ := hp
        refine g_if_eq (pc := 27) (tgt := 36) E dX3_roomBeside_27 (by decide) (fun c_27 => ?_) (fun c_27 => ?_)
        · have k_27 := q_b0.mp c_27
          rw [ks (by omega), ki (by omega)] at k_27
          have hol1 := hol (by omega)
          have hcn : ¬ (¬ t.testBit i = true ∧ (fun s => decide (¬ f 11 s = 0)) (t ||| 2 ^ i) = true) := fun q => k_27 ⟨by omega, by omega, of_decide_eq_true q.2⟩
          refine g_iinc_3 (pc := 36) (u := 1) E dX3_roomBeside_36 (by decide) (by decide) rfl ?_
          refine g_goto (pc := 39) (tgt := 4) E dX3_roomBeside_39 (by decide) ?_
          rw [nI_1]
          have e := ih (by omega)
          rw [z_rb] at e
          first
          | (rw [if_neg hcn] at e; exact e)
          | (rw [if_pos hcp] at e; rw [q_or2 (by omega)]; exact e)
        · have k_27 := q_b1.mp c_27
          rw [ks (by omega), ki (by omega)] at k_27
          have hcp : ¬ t.testBit i = true ∧ (fun s => decide (¬ f 11 s = 0)) (t ||| 2 ^ i) = true := ⟨hb, decide_eq_true k_27.2.2⟩
          refine g_iload_2 (pc := 30) E dX3_roomBeside_30 ?_
          refine g_iconst (pc := 31) (v := 1) E dX3_roomBeside_31 (by decide) ?_
          refine g_iload_3 (pc := 32) E dX3_roomBeside_32 ?_
          refine g_ishl (pc := 33) E dX3_roomBeside_33 ?_
          refine g_ior (pc := 34) E dX3_roomBeside_34 ?_
          refine g_istore_2 (pc := 35) E dX3_roomBeside_35 (by decide) rfl ?_
          refine g_iinc_3 (pc := 36) (u := 1) E dX3_roomBeside_36 (by decide) (by decide) rfl ?_
          refine g_goto (pc := 39) (tgt := 4) E dX3_roomBeside_39 (by decide) ?_
          rw [nI_1]
          have e := ih (by omega)
          rw [z_rb] at e
          first
          | (rw [if_neg hcn] at e; exact e)
          | (rw [if_pos hcp] at e; rw [q_or2 (by omega)]; exact e)
  refine g_iconst (pc := 0) (v := 0) E dX3_roomBeside_0 (by decide) ?_
  refine g_istore_2 (pc := 1) E dX3_roomBeside_1 (by decide) rfl ?_
  refine g_iconst (pc := 2) (v := 0) E dX3_roomBeside_2 (by decide) ?_
  refine g_istore_3 (pc := 3) E dX3_roomBeside_3 (by decide) rfl ?_
  exact L 0 (Nat.zero_le _)
set_option maxHeartbeats 4000000 in
set_option maxRecDepth 100000 in
theorem c_X4_onceEach {ty : Nat → PT} {al : Nat → Bool} {h : PH} (t : Nat) (ht : t < 1024) : q_ConL yX4_onceEach cX4_onceEach 4 (some .long) 1 21 ty al [.int (nI t)] h (fun v h' => v = lN (z_on t) ∧ h' = h) := by
  refine q_Con.of RX4 [some (.int (nI t)), none, none, none] (by decide +kernel) rfl rfl (Nat.le_of_ble_eq_true rfl) (fun C ad E Z => ?_)
  have L : ∀ i, i ≤ 10 → gg C ty 4 0 0 al ad 4 [some (.int (nI t)), some (.long (lN (z_enc (z_bt t) i))), none, some (.int (nI i))] [] h := by
    refine q_loop 10 (fun i hi ih => ?_)
    have hlt : z_enc (z_bt t) i < 16 ^ i := z_enc_lt (fun c _ => z_bt_lt t c)
    refine g_iload_3 (pc := 4) E dX4_onceEach_4 ?_
    refine g_bipush (pc := 5) (v := 10) E dX4_onceEach_5 (by decide) ?_
    refine g_icmp_ge (pc := 7) (tgt := 32) E dX4_onceEach_7 (by decide) (fun c_7 => ?_) (fun c_7 => ?_)
    · have e_7 := (q_ge (x := 10) (y := i) rfl rfl (by omega) (by omega)).mp c_7
      refine g_lload_1 (pc := 32) E dX4_onceEach_32 ?_
      exact g_lret (pc := 33) E Z dX4_onceEach_33 ⟨_, rfl, ⟨by rw [show i = 10 by omega]; rfl, rfl⟩⟩
    · have e_7 := (not_congr (q_ge (x := 10) (y := i) rfl rfl (by omega) (by omega))).mp c_7
      refine g_iload_0 (pc := 10) E dX4_onceEach_10 ?_
      refine g_iload_3 (pc := 11) E dX4_onceEach_11 ?_
      refine g_cSi2 (pc := 12) E (c_X7_contains _ _) cw_X4_83 (by decide) (by decide) (Nat.le_of_ble_eq_true rfl) dX4_onceEach_12 (fun v_12 h_12 hp => ?_)
      obtain ⟨rfl, rfl⟩ := hp
      refine g_if_eq (pc := 15) (tgt := 26) E dX4_onceEach_15 (by decide) (fun c_15 => ?_) (fun c_15 => ?_)
      · have k_15 := q_b0.mp c_15
        have hb : ¬ t.testBit i = true := (q_bit0 ht (by omega)).mp (Classical.not_not.mp k_15)
        have hz : z_bt t i = 0 := if_neg hb
        refine g_iinc_3 (pc := 26) (u := 1) E dX4_onceEach_26 (by decide) (by decide) rfl ?_
        refine g_goto (pc := 29) (tgt := 4) E dX4_onceEach_29 (by decide) ?_
        rw [nI_1]
        have e := ih (by omega)
        rw [z_on_s, hz] at e
        first
        | (rw [Nat.zero_mul, Nat.add_zero] at e; exact e)
        | (rw [show (1 : Int64) = lN 1 from rfl, q_lor (by omega) hlt (by decide)]; exact e)
      · have k_15 := q_b1.mp c_15
        have hb : t.testBit i = true := Classical.byContradiction (fun q => k_15 ((q_bit0 ht (by omega)).mpr q))
        have hz : z_bt t i = 1 := if_pos hb
        refine g_lload_1 (pc := 18) E dX4_onceEach_18 ?_
        refine g_lconst (pc := 19) (v := 1) E dX4_onceEach_19 (by decide) ?_
        refine g_iconst (pc := 20) (v := 4) E dX4_onceEach_20 (by decide) ?_
        refine g_iload_3 (pc := 21) E dX4_onceEach_21 ?_
        refine g_imul (pc := 22) E dX4_onceEach_22 ?_
        refine g_lshl (pc := 23) E dX4_onceEach_23 ?_
        refine g_lor (pc := 24) E dX4_onceEach_24 ?_
        refine g_lstore_1 (pc := 25) E dX4_onceEach_25 (by decide) rfl ?_
        refine g_iinc_3 (pc := 26) (u := 1) E dX4_onceEach_26 (by decide) (by decide) rfl ?_
        refine g_goto (pc := 29) (tgt := 4) E dX4_onceEach_29 (by decide) ?_
        rw [nI_1]
        have e := ih (by omega)
        rw [z_on_s, hz] at e
        first
        | (rw [Nat.zero_mul, Nat.add_zero] at e; exact e)
        | (rw [show (1 : Int64) = lN 1 from rfl, q_lor (by omega) hlt (by decide)]; exact e)
  refine g_lconst (pc := 0) (v := 0) E dX4_onceEach_0 (by decide) ?_
  refine g_lstore_1 (pc := 1) E dX4_onceEach_1 (by decide) rfl ?_
  refine g_iconst (pc := 2) (v := 0) E dX4_onceEach_2 (by decide) ?_
  refine g_istore_3 (pc := 3) E dX4_onceEach_3 (by decide) rfl ?_
  exact L 0 (Nat.zero_le _)
set_option maxHeartbeats 4000000 in
set_option maxRecDepth 100000 in
theorem c_X4_lacking {ty : Nat → PT} {al : Nat → Bool} {h : PH} (e : Nat) (he : e < 2 ^ 40) : q_ConI yX4_lacking cX4_lacking 4 (some .int) 0 0 ty al [.long (lN e)] h (fun v h' => v = nI (z_lk e 10) ∧ h' = h) := by
  refine q_Con.of RX4 [some (.long (lN e)), none, none, none] (by decide +kernel) rfl rfl (Nat.le_of_ble_eq_true rfl) (fun C ad E Z => ?_)
  have L : ∀ i, i ≤ 10 → gg C ty 4 0 0 al ad 4 [some (.long (lN e)), none, some (.int (nI (z_lk e i))), some (.int (nI i))] [] h := by
    refine q_loop 10 (fun i hi ih => ?_)
    have hdl := dg_lt e i
    refine g_iload_3 (pc := 4) E dX4_lacking_4 ?_
    refine g_bipush (pc := 5) (v := 10) E dX4_lacking_5 (by decide) ?_
    refine g_icmp_ge (pc := 7) (tgt := 36) E dX4_lacking_7 (by decide) (fun c_7 => ?_) (fun c_7 => ?_)
    · have e_7 := (q_ge (x := 10) (y := i) rfl rfl (by omega) (by omega)).mp c_7
      refine g_iload_2 (pc := 36) E dX4_lacking_36 ?_
      exact g_iret (pc := 37) E Z dX4_lacking_37 ⟨_, rfl, ⟨by rw [show i = 10 by omega], rfl⟩⟩
    · have e_7 := (not_congr (q_ge (x := 10) (y := i) rfl rfl (by omega) (by omega))).mp c_7
      refine g_lload_0 (pc := 10) E dX4_lacking_10 ?_
      refine g_iconst (pc := 11) (v := 4) E dX4_lacking_11 (by decide) ?_
      refine g_iload_3 (pc := 12) E dX4_lacking_12 ?_
      refine g_imul (pc := 13) E dX4_lacking_13 ?_
      refine g_lshr (pc := 14) E dX4_lacking_14 ?_
      refine g_ldc2 (pc := 15) E kw_X4_87 dX4_lacking_15 ?_
      refine g_land (pc := 18) E dX4_lacking_18 ?_
      refine g_lconst (pc := 19) (v := 0) E dX4_lacking_19 (by decide) ?_
      refine g_lcmp (pc := 20) E dX4_lacking_20 ?_
      refine g_if_eq (pc := 21) (tgt := 30) E dX4_lacking_21 (by decide) (fun c_21 => ?_) (fun c_21 => ?_)
      · have hd0 : dg e i = 0 := by
          have q := c_21
          rw [q_ldg (by omega) he] at q
          exact (q_lN0 (by omega)).mp q
        refine g_iinc_3 (pc := 30) (u := 1) E dX4_lacking_30 (by decide) (by decide) rfl ?_
        refine g_goto (pc := 33) (tgt := 4) E dX4_lacking_33 (by decide) ?_
        rw [nI_1]
        have ee := ih (by omega)
        rw [z_lk] at ee
        first
        | (rw [if_pos hd0] at ee; exact ee)
        | (rw [if_neg hd0] at ee; rw [q_or2 (by omega)]; exact ee)
      · have hd0 : ¬ dg e i = 0 := fun q => c_21 (by rw [q_ldg (by omega) he]; exact (q_lN0 (by omega)).mpr q)
        refine g_iload_2 (pc := 24) E dX4_lacking_24 ?_
        refine g_iconst (pc := 25) (v := 1) E dX4_lacking_25 (by decide) ?_
        refine g_iload_3 (pc := 26) E dX4_lacking_26 ?_
        refine g_ishl (pc := 27) E dX4_lacking_27 ?_
        refine g_ior (pc := 28) E dX4_lacking_28 ?_
        refine g_istore_2 (pc := 29) E dX4_lacking_29 (by decide) rfl ?_
        refine g_iinc_3 (pc := 30) (u := 1) E dX4_lacking_30 (by decide) (by decide) rfl ?_
        refine g_goto (pc := 33) (tgt := 4) E dX4_lacking_33 (by decide) ?_
        rw [nI_1]
        have ee := ih (by omega)
        rw [z_lk] at ee
        first
        | (rw [if_pos hd0] at ee; exact ee)
        | (rw [if_neg hd0] at ee; rw [q_or2 (by omega)]; exact ee)
  refine g_iconst (pc := 0) (v := 0) E dX4_lacking_0 (by decide) ?_
  refine g_istore_2 (pc := 1) E dX4_lacking_1 (by decide) rfl ?_
  refine g_iconst (pc := 2) (v := 0) E dX4_lacking_2 (by decide) ?_
  refine g_istore_3 (pc := 3) E dX4_lacking_3 (by decide) rfl ?_
  exact L 0 (Nat.zero_le _)
set_option maxHeartbeats 4000000 in
set_option maxRecDepth 100000 in
theorem c_X4_remember {n : Nat} {tB : Bool} {f : Nat → Nat → Int32} {g : Nat → Nat → Int64} (K : Nat) (hK : f 5 2 = nI K) (hK2 : K < 5000) (x : Int64) (sp : Int32) (r : Nat) (hr : r < 8192) : q_ConV yX4_remember cX4_remember 5 none 0 0 tyX (alX n true tB) [.ref 5, .long x, .int sp, .int (nI r)] (f, g, rfX n true tB) (fun h' => h' = (q_up (q_up (q_up f 23 K sp) 5 2 (nI (K + 1))) 24 r (nI (K + 1)), q_up g 22 K x, rfX n true tB)) := by
  refine q_Con.of RX4 [some (.ref 5), some (.long x), none, some (.int sp), some (.int (nI r))] (by decide +kernel) rfl rfl (Nat.le_of_ble_eq_true rfl) (fun C ad E Z => ?_)
  refine g_aload_0 (pc := 0) E dX4_remember_0 ?_
  refine g_getR (pc := 1) E (by first | assumption | rfl) (by first | assumption | rfl) fl_X4_9 rfl (by first | assumption | rfl) dX4_remember_1 ?_
  refine g_aload_0 (pc := 4) E dX4_remember_4 ?_
  refine g_getI (pc := 5) E (by first | assumption | rfl) (by first | assumption | rfl) fl_X4_43 rfl dX4_remember_5 ?_
  refine g_lload_1 (pc := 8) E dX4_remember_8 ?_
  refine g_last (pc := 9) E (by first | assumption | rfl) (by first | assumption | rfl) dX4_remember_9 (q_ix_e (j := K) (by exact hK) (by omega)) ?_
  refine g_aload_0 (pc := 10) E dX4_remember_10 ?_
  refine g_getR (pc := 11) E (by first | assumption | rfl) (by first | assumption | rfl) fl_X4_15 rfl (by first | assumption | rfl) dX4_remember_11 ?_
  refine g_aload_0 (pc := 14) E dX4_remember_14 ?_
  refine g_getI (pc := 15) E (by first | assumption | rfl) (by first | assumption | rfl) fl_X4_43 rfl dX4_remember_15 ?_
  refine g_iload_3 (pc := 18) E dX4_remember_18 ?_
  refine g_iast (pc := 19) E (by first | assumption | rfl) (by first | assumption | rfl) dX4_remember_19 (q_ix_e (j := K) (by exact hK) (by omega)) ?_
  refine g_aload_0 (pc := 20) E dX4_remember_20 ?_
  first | refine g_dupi (pc := 21) E dX4_remember_21 ?_ | refine g_dupr (pc := 21) E dX4_remember_21 ?_
  refine g_getI (pc := 22) E (by first | assumption | rfl) (by first | assumption | rfl) fl_X4_43 rfl dX4_remember_22 ?_
  refine g_iconst (pc := 25) (v := 1) E dX4_remember_25 (by decide) ?_
  refine g_iadd (pc := 26) E dX4_remember_26 ?_
  refine g_putI (pc := 27) E (by first | assumption | rfl) (by first | assumption | rfl) fw_X4_43 rfl dX4_remember_27 ?_
  refine g_aload_0 (pc := 30) E dX4_remember_30 ?_
  refine g_getR (pc := 31) E (by first | assumption | rfl) (by first | assumption | rfl) fl_X4_19 rfl (by first | assumption | rfl) dX4_remember_31 ?_
  refine g_iload_4 (pc := 34) E dX4_remember_34 ?_
  refine g_aload_0 (pc := 36) E dX4_remember_36 ?_
  refine g_getI (pc := 37) E (by first | assumption | rfl) (by first | assumption | rfl) fl_X4_43 rfl dX4_remember_37 ?_
  refine g_iast (pc := 40) E (by first | assumption | rfl) (by first | assumption | rfl) dX4_remember_40 (q_ix_n (by omega)) ?_
  exact g_vret (pc := 41) E Z dX4_remember_41 ⟨rfl, (by show (q_up (q_up (q_up f 23 K sp) 5 2 (f 5 2 + 1)) 24 r (q_up (q_up f 23 K sp) 5 2 (f 5 2 + 1) 5 2), q_up g 22 K x, rfX n true tB) = _; rw [q_ups, hK, nI_1])⟩
set_option maxHeartbeats 4000000 in
set_option maxRecDepth 100000 in
theorem c_X4_tellRow {n : Nat} {tB : Bool} {f : Nat → Nat → Int32} {g : Nat → Nat → Int64} (N : Nat) (hN : N ≤ 5000) (fr by_ : Nat → Nat) (hst : ∀ j, j < N → f 23 j = nI (fr j * 1024 + by_ j)) (hf : ∀ j, 0 < j → j < N → fr j < j) (hby : ∀ j, j < N → by_ j < 1024) (h00 : fr 0 = 0) (a t : Nat) (ha : a < N) (ht : t < 1024) (hl : f 5 9 = nI (a * 1024 + t)) (hd : b_d fr a ≤ 89) : q_ConV yX4_tellRow cX4_tellRow 6 none 0 0 tyX (alX n true tB) [.ref 5, .ref 4] (f, g, rfX n true tB) (fun h' => h' = (va_up (q_up f 4 1 (nI (b_d fr a + 1))) 21 (b_l fr by_ (va_up (f 21) (b_d fr a) (nI t)) a (b_d fr a)), g, rfX n true tB)) := by
  refine q_Con.of RX4 [some (.ref 5), some (.ref 4), none, none, none, none] (by decide +kernel) rfl rfl (Nat.le_of_ble_eq_true rfl) (fun C ad E Z => ?_)
  have hpos : ∀ k, 0 < k → k < N → b_d fr k = b_d fr (fr k) + 1 := fun k h0 hk => b_d_s hf h0 hk
  have hdiv : ∀ u v, u < 5000 → v < 1024 → nI (u * 1024 + v) / 1024 = nI u := fun u v hu hv => (pk_div (a := u * 1024 + v) (d := 1024) (by omega) (by decide) (by decide)).trans (congrArg nI (by omega))
  have hrem : ∀ u v, u < 5000 → v < 1024 → nI (u * 1024 + v) - nI (u * 1024 + v) / 1024 * 1024 = nI v := fun u v hu hv => (pk_rem (a := u * 1024 + v) (d := 1024) (by omega) (by decide) (by decide)).trans (congrArg nI (by omega))
  have L2 : ∀ q k i (r : Nat → Int32) (S : Int32), b_d fr k = q → i = q → k < N → q ≤ 90 → S = nI (fr k * 1024 + by_ k) → b_l fr by_ r k i = b_l fr by_ (va_up (f 21) (b_d fr a) (nI t)) a (b_d fr a) → gg C tyX 6 0 0 (alX n true tB) ad 66 [some (.ref 5), some (.ref 4), some (.int (nI (b_d fr a + 1))), some (.int 90), some (.int S), some (.int (nI i - 1))] [] (va_up (q_up f 4 1 (nI (b_d fr a + 1))) 21 r, g, rfX n true tB) := by
    intro q
    induction q with
    | zero =>
      intro k i r S hq hi hk hq9 hS hr
      have ek : k = 0 := Classical.byContradiction (fun z => by have := hpos k (by omega) hk; omega)
      subst ek; subst hi
      refine g_iload_5 (pc := 66) E dX4_tellRow_66 ?_
      refine g_if_lt (pc := 68) (tgt := 103) E dX4_tellRow_68 (by decide) (fun c_68 => ?_) (fun c_68 => ?_)
      · exact g_vret (pc := 103) E Z dX4_tellRow_103 ⟨rfl, (by rw [← hr]; rfl)⟩
      · exact absurd q_m1 c_68
    | succ q ih =>
      intro k i r S hq hi hk hq9 hS hr
      have hk0 : 0 < k := Nat.pos_of_ne_zero (fun z => by subst z; exact absurd hq (by rw [b_d_0]; omega))
      have hs := hpos k hk0 hk
      have hfk := hf k hk0 hk
      have hbk := hby k hk
      have hbf := hby (fr k) (by omega)
      subst hi
      rw [q_dn]
      subst hS
      have e23 : ∀ r : Nat → Int32, va_up (q_up f 4 1 (nI (b_d fr a + 1))) 21 r 23 (fr k) = nI (fr (fr k) * 1024 + by_ (fr k)) := fun r => hst (fr k) (by omega)
      refine g_iload_5 (pc := 66) E dX4_tellRow_66 ?_
      refine g_if_lt (pc := 68) (tgt := 103) E dX4_tellRow_68 (by decide) (fun c_68 => ?_) (fun c_68 => ?_)
      · exact absurd c_68 (nI_pos (by omega))
      · refine g_aload_1 (pc := 71) E dX4_tellRow_71 ?_
        refine g_getR (pc := 72) E (by first | assumption | rfl) (by first | assumption | rfl) fl_X4_91 rfl (by first | assumption | rfl) dX4_tellRow_72 ?_
        refine g_iload_5 (pc := 75) E dX4_tellRow_75 ?_
        refine g_iload_4 (pc := 77) E dX4_tellRow_77 ?_
        refine g_sipush (pc := 79) (v := 1024) E dX4_tellRow_79 (by decide) ?_
        refine g_irem (pc := 82) E dX4_tellRow_82 (by decide) ?_
        refine g_iast (pc := 83) E (by first | assumption | rfl) (by first | assumption | rfl) dX4_tellRow_83 (q_ix_n (by omega)) ?_
        refine g_aload_0 (pc := 84) E dX4_tellRow_84 ?_
        refine g_getR (pc := 85) E (by first | assumption | rfl) (by first | assumption | rfl) fl_X4_15 rfl (by first | assumption | rfl) dX4_tellRow_85 ?_
        refine g_iload_4 (pc := 88) E dX4_tellRow_88 ?_
        refine g_sipush (pc := 90) (v := 1024) E dX4_tellRow_90 (by decide) ?_
        refine g_idiv (pc := 93) E dX4_tellRow_93 (by decide) ?_
        refine g_iald (pc := 94) E (by first | assumption | rfl) (by first | assumption | rfl) dX4_tellRow_94 (q_ix_e (hdiv _ _ (by omega) hbk) (by omega)) ?_
        refine g_istore_4 (pc := 95) E dX4_tellRow_95 (by decide) rfl ?_
        refine g_iinc_5 (pc := 97) (u := -1) E dX4_tellRow_97 (by decide) (by decide) rfl ?_
        refine g_goto (pc := 100) (tgt := 66) E dX4_tellRow_100 (by decide) ?_
        rw [hrem _ _ (by omega) hbk, q_dm, q_upr, e23]
        exact ih (fr k) q _ _ (by omega) rfl (by omega) (by omega) rfl (by rw [← hr, b_l_s hf hk0 hk, Nat.add_sub_cancel])
  have L1 : ∀ q k m, b_d fr k = q → k < N → m + q = b_d fr a + 1 → ∀ x5 : Option Value, gg C tyX 6 0 0 (alX n true tB) ad 18 [some (.ref 5), some (.ref 4), some (.int (nI m)), some (.int 90), some (.int (nI k)), x5] [] (f, g, rfX n true tB) := by
    intro q
    induction q with
    | zero =>
      intro k m hq hk hm x5
      have ek : k = 0 := Classical.byContradiction (fun z => by have := hpos k (by omega) hk; omega)
      subst ek
      have em : m = b_d fr a + 1 := by omega
      subst em

      refine g_iload_4 (pc := 18) E dX4_tellRow_18 ?_
      refine g_if_le (pc := 20) (tgt := 47) E dX4_tellRow_20 (by decide) (fun c_20 => ?_) (fun c_20 => ?_)
      · refine g_aload_1 (pc := 47) E dX4_tellRow_47 ?_
        refine g_iload_2 (pc := 48) E dX4_tellRow_48 ?_
        refine g_putI (pc := 49) E (by first | assumption | rfl) (by first | assumption | rfl) fw_X4_96 rfl dX4_tellRow_49 ?_
        refine g_aload_0 (pc := 52) E dX4_tellRow_52 ?_
        refine g_getI (pc := 53) E (by first | assumption | rfl) (by first | assumption | rfl) fl_X4_62 rfl dX4_tellRow_53 ?_
        rw [show q_up f 4 1 (nI (b_d fr a + 1)) 5 9 = nI (a * 1024 + t) from hl]
        refine g_istore_4 (pc := 56) E dX4_tellRow_56 (by decide) rfl ?_
        refine g_aload_1 (pc := 58) E dX4_tellRow_58 ?_
        refine g_getI (pc := 59) E (by first | assumption | rfl) (by first | assumption | rfl) fl_X4_96 rfl dX4_tellRow_59 ?_
        refine g_iconst (pc := 62) (v := 1) E dX4_tellRow_62 (by decide) ?_
        refine g_isub (pc := 63) E dX4_tellRow_63 ?_
        rw [show q_up f 4 1 (nI (b_d fr a + 1)) 4 1 = nI (b_d fr a + 1) from q_ups, q_dn]
        refine g_istore_5 (pc := 64) E dX4_tellRow_64 (by decide) rfl ?_
        have hat : nI (a * 1024 + t) / 1024 = nI a := hdiv a t (by omega) ht
        have e23 : ∀ r : Nat → Int32, va_up (q_up f 4 1 (nI (b_d fr a + 1))) 21 r 23 a = nI (fr a * 1024 + by_ a) := fun r => hst a ha
        refine g_iload_5 (pc := 66) E dX4_tellRow_66 ?_
        refine g_if_lt (pc := 68) (tgt := 103) E dX4_tellRow_68 (by decide) (fun c_68 => ?_) (fun c_68 => ?_)
        · exact absurd c_68 (nI_pos (by omega))
        · refine g_aload_1 (pc := 71) E dX4_tellRow_71 ?_
          refine g_getR (pc := 72) E (by first | assumption | rfl) (by first | assumption | rfl) fl_X4_91 rfl (by first | assumption | rfl) dX4_tellRow_72 ?_
          refine g_iload_5 (pc := 75) E dX4_tellRow_75 ?_
          refine g_iload_4 (pc := 77) E dX4_tellRow_77 ?_
          refine g_sipush (pc := 79) (v := 1024) E dX4_tellRow_79 (by decide) ?_
          refine g_irem (pc := 82) E dX4_tellRow_82 (by decide) ?_
          refine g_iast (pc := 83) E (by first | assumption | rfl) (by first | assumption | rfl) dX4_tellRow_83 (q_ix_n (by omega)) ?_
          refine g_aload_0 (pc := 84) E dX4_tellRow_84 ?_
          refine g_getR (pc := 85) E (by first | assumption | rfl) (by first | assumption | rfl) fl_X4_15 rfl (by first | assumption | rfl) dX4_tellRow_85 ?_
          refine g_iload_4 (pc := 88) E dX4_tellRow_88 ?_
          refine g_sipush (pc := 90) (v := 1024) E dX4_tellRow_90 (by decide) ?_
          refine g_idiv (pc := 93) E dX4_tellRow_93 (by decide) ?_
          refine g_iald (pc := 94) E (by first | assumption | rfl) (by first | assumption | rfl) dX4_tellRow_94 (q_ix_e hat (by omega)) ?_
          refine g_istore_4 (pc := 95) E dX4_tellRow_95 (by decide) rfl ?_
          refine g_iinc_5 (pc := 97) (u := -1) E dX4_tellRow_97 (by decide) (by decide) rfl ?_
          refine g_goto (pc := 100) (tgt := 66) E dX4_tellRow_100 (by decide) ?_
          rw [hrem a t (by omega) ht, q_dm, q_up_va (a := 21), q_up_ne (show 21 ≠ 4 by decide), e23]
          exact L2 (b_d fr a) a (b_d fr a) _ _ rfl rfl ha (by omega) rfl rfl
      · exact absurd (by decide) c_20
    | succ q ih =>
      intro k m hq hk hm x5
      have hk0 : 0 < k := Nat.pos_of_ne_zero (fun z => by subst z; exact absurd hq (by rw [b_d_0]; omega))
      have hs := hpos k hk0 hk
      have hfk := hf k hk0 hk
      have e23 : f 23 k / 1024 = nI (fr k) := by rw [hst k hk]; exact hdiv _ _ (by omega) (hby k hk)
      refine g_iload_4 (pc := 18) E dX4_tellRow_18 ?_
      refine g_if_le (pc := 20) (tgt := 47) E dX4_tellRow_20 (by decide) (fun c_20 => ?_) (fun c_20 => ?_)
      · exact absurd c_20 (nI_nle hk0 (by omega))
      · refine g_iload_2 (pc := 23) E dX4_tellRow_23 ?_
        refine g_iload_3 (pc := 24) E dX4_tellRow_24 ?_
        refine g_icmp_ge (pc := 25) (tgt := 47) E dX4_tellRow_25 (by decide) (fun c_25 => ?_) (fun c_25 => ?_)
        · exact absurd ((nI_leI (a := 90) (b := m) (by omega) (by omega)).mp c_25) (by omega)
        · refine g_iinc_2 (pc := 28) (u := 1) E dX4_tellRow_28 (by decide) (by decide) rfl ?_
          refine g_aload_0 (pc := 31) E dX4_tellRow_31 ?_
          refine g_getR (pc := 32) E (by first | assumption | rfl) (by first | assumption | rfl) fl_X4_15 rfl (by first | assumption | rfl) dX4_tellRow_32 ?_
          refine g_iload_4 (pc := 35) E dX4_tellRow_35 ?_
          refine g_iald (pc := 37) E (by first | assumption | rfl) (by first | assumption | rfl) dX4_tellRow_37 (q_ix_n (by omega)) ?_
          refine g_sipush (pc := 38) (v := 1024) E dX4_tellRow_38 (by decide) ?_
          refine g_idiv (pc := 41) E dX4_tellRow_41 (by decide) ?_
          refine g_istore_4 (pc := 42) E dX4_tellRow_42 (by decide) rfl ?_
          refine g_goto (pc := 44) (tgt := 18) E dX4_tellRow_44 (by decide) ?_
          rw [nI_1, e23]
          exact ih (fr k) (m + 1) (by omega) (by omega) (by omega) _
  refine g_iconst (pc := 0) (v := 1) E dX4_tellRow_0 (by decide) ?_
  refine g_istore_2 (pc := 1) E dX4_tellRow_1 (by decide) rfl ?_
  refine g_aload_1 (pc := 2) E dX4_tellRow_2 ?_
  refine g_getR (pc := 3) E (by first | assumption | rfl) (by first | assumption | rfl) fl_X4_91 rfl (by first | assumption | rfl) dX4_tellRow_3 ?_
  refine g_alen (pc := 6) E (by first | assumption | rfl) (by first | assumption | rfl) (by first | exact Or.inl rfl | exact Or.inr rfl) dX4_tellRow_6 ?_
  refine g_istore_3 (pc := 7) E dX4_tellRow_7 (by decide) rfl ?_
  refine g_aload_0 (pc := 8) E dX4_tellRow_8 ?_
  refine g_getI (pc := 9) E (by first | assumption | rfl) (by first | assumption | rfl) fl_X4_62 rfl dX4_tellRow_9 ?_
  refine g_sipush (pc := 12) (v := 1024) E dX4_tellRow_12 (by decide) ?_
  refine g_idiv (pc := 15) E dX4_tellRow_15 (by decide) ?_
  refine g_istore_4 (pc := 16) E dX4_tellRow_16 (by decide) rfl ?_
  rw [hl, hdiv a t (by omega) ht]
  exact L1 (b_d fr a) a 1 rfl ha (by omega) none
