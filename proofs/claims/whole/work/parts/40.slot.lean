/-! the reference: a slot goes by -/
def q_part {α : Type} (i : Nat) (r r2 : Nat → α) : Nat → α := fun c => if c < i then r2 c else r c
theorem q_part_0 {α : Type} {r r2 : Nat → α} : q_part 0 r r2 = r := funext fun c => if_neg (Nat.not_lt_zero c)
theorem q_part_s {α : Type} {i : Nat} {r r2 : Nat → α} {v : α} (h : v = r2 i) : va_up (q_part i r r2) i v = q_part (i + 1) r r2 := by
  funext c
  by_cases e : c = i
  · subst e; rw [va_up_s, h]; exact (if_pos (by omega)).symm
  · rw [va_up_n e]
    unfold q_part
    by_cases e2 : c < i
    · rw [if_pos e2, if_pos (by omega)]
    · rw [if_neg e2, if_neg (by omega)]
theorem q_part_lt {α : Type} {i c : Nat} {r r2 : Nat → α} (h : c < i) : q_part i r r2 c = r2 c := if_pos h
theorem q_part_ge {α : Type} {i c : Nat} {r r2 : Nat → α} (h : i ≤ c) : q_part i r r2 c = r c := if_neg (by omega)
theorem q_upc {α : Type} {h : Nat → Nat → α} {a b k : Nat} {R : Nat → α} {v : α} (e : a ≠ b) : q_up (va_up h b R) a k v = va_up (q_up h a k v) b R := by
  funext x
  by_cases e1 : x = a
  · subst e1; rw [q_up_eq, va_up_n e, va_up_n e, q_up_eq]
  · rw [q_up_ne e1]
    by_cases e2 : x = b
    · subst e2; rw [va_up_s, va_up_s]
    · rw [va_up_n e2, va_up_n e2, q_up_ne e1]
/-- without its cells of the greatest numbers, till it is legal -/
def z_cut (p : Nat → Bool) : Nat → Nat → Nat
  | 0, s => s
  | k + 1, s => if p s = true then s else z_cut p k (s &&& (1023 - 2 ^ k))
theorem z_cut_lt {p : Nat → Bool} : ∀ (k s : Nat), s < 1024 → z_cut p k s < 1024
  | 0, s, h => h
  | k + 1, s, h => by
    rw [z_cut]
    split
    · exact h
    · exact z_cut_lt k _ (Nat.lt_of_le_of_lt Nat.and_le_left h)
set_option maxRecDepth 100000 in
theorem q_clr : ∀ s, s < 1024 → ∀ k, k < 10 → nI s &&& (1 <<< (nI k &&& 31) ^^^ -1) = nI (s &&& (1023 - 2 ^ k)) := by decide +kernel
def z_frm (m t : Nat) (fr : Nat → Int32) : Nat := if m = 0 then 0 else (fr (t % m)).toNatClampNeg
set_option maxHeartbeats 4000000 in
set_option maxRecDepth 100000 in
theorem c_X8_byFrame {f : Nat → Nat → Int32} {g : Nat → Nat → Int64} (n : Nat) (hn : f 0 5 = nI n) (h10 : n ≤ 10) (hgt : ∀ c, c < n → ∃ j : Nat, j ≤ 2 ∧ f 18 c = nI j) (m : Nat) (hm : f 0 13 = nI m) (hm2 : m ≤ 100) (hfr : ∀ i, i < m → ∃ s : Nat, s < 1024 ∧ f 29 i = nI s) (t : Nat) (ht : f 0 10 = nI t) (ht2 : t ≤ 20000) : q_ConI yX8_byFrame cX8_byFrame 3 (some .int) 2 48 tyM alM [.ref 0] (f, g, rfM) (fun v h' => v = nI (z_cut (fun s => decide (z_legM n f s)) 10 (z_frm m t (f 29))) ∧ h' = (f, g, rfM)) := by
  refine q_Con.of RX8 [some (.ref 0), none, none] (by decide +kernel) rfl rfl (Nat.le_of_ble_eq_true rfl) (fun C ad E Z => ?_)
  have L : ∀ k, k ≤ 10 → ∀ s, s < 1024 → z_cut (fun s => decide (z_legM n f s)) k s = z_cut (fun s => decide (z_legM n f s)) 10 (z_frm m t (f 29)) → gg C tyM 3 0 0 alM ad 29 [some (.ref 0), some (.int (nI s)), some (.int (nI k - 1))] [] (f, g, rfM) := by
    intro k
    induction k with
    | zero =>
      intro hk s hs hq
      refine g_iload_2 E dX8_byFrame_29 ?_
      refine g_if_lt (tgt := 55) E dX8_byFrame_30 (by decide) (fun c_30 => ?_) (fun c_30 => ?_)
      · refine g_iload_1 E dX8_byFrame_55 ?_
        exact g_iret E Z dX8_byFrame_56 ⟨_, rfl, ⟨by rw [← hq]; rfl, rfl⟩⟩
      · exact absurd q_m1 c_30
    | succ k ih =>
      intro hk s hs hq
      rw [q_dn]
      refine g_iload_2 E dX8_byFrame_29 ?_
      refine g_if_lt (tgt := 55) E dX8_byFrame_30 (by decide) (fun c_30 => ?_) (fun c_30 => ?_)
      · exact absurd c_30 (nI_pos (by omega))
      · refine g_aload_0 E dX8_byFrame_33 ?_
        refine g_iload_1 E dX8_byFrame_34 ?_
        refine g_cVi1 E (c_X8_isLegal n (by exact hn) h10 (by exact hgt) s hs) cw_X8_193 (by decide) (by decide) (by first | rfl | assumption) (by first | rfl | assumption) (Nat.le_of_ble_eq_true rfl) dX8_byFrame_35 (fun v_35 h_35 hp => ?_)
        obtain ⟨rfl, rfl⟩ := hp
        refine g_if_ne (tgt := 55) E dX8_byFrame_38 (by decide) (fun c_38 => ?_) (fun c_38 => ?_)
        · have k_38 := q_b1.mp c_38
          refine g_iload_1 E dX8_byFrame_55 ?_
          exact g_iret E Z dX8_byFrame_56 ⟨_, rfl, ⟨by rw [← hq, z_cut, if_pos (decide_eq_true k_38)], rfl⟩⟩
        · have k_38 := q_b0.mp c_38
          refine g_iload_1 E dX8_byFrame_41 ?_
          refine g_iconst (v := 1) E dX8_byFrame_42 (by decide) ?_
          refine g_iload_2 E dX8_byFrame_43 ?_
          refine g_ishl E dX8_byFrame_44 ?_
          refine g_iconst (v := -1) E dX8_byFrame_45 (by decide) ?_
          refine g_ixor E dX8_byFrame_46 ?_
          refine g_iand E dX8_byFrame_47 ?_
          refine g_istore_1 E dX8_byFrame_48 (by decide) rfl ?_
          refine g_iinc_2 (u := -1) E dX8_byFrame_49 (by decide) (by decide) rfl ?_
          refine g_goto (tgt := 29) E dX8_byFrame_52 (by decide) ?_
          rw [q_dm, q_clr s hs k (by omega)]
          exact ih (by omega) _ (Nat.lt_of_le_of_lt Nat.and_le_left hs) (by rw [← hq, z_cut, if_neg (fun q => k_38 (of_decide_eq_true q))])
  refine g_aload_0 E dX8_byFrame_0 ?_
  refine g_getI E (by first | rfl | assumption) (by first | rfl | assumption) fl_X8_199 rfl dX8_byFrame_1 ?_
  refine g_if_ne (tgt := 11) E dX8_byFrame_4 (by decide) (fun c_4 => ?_) (fun c_4 => ?_)
  · have hm0 : 0 < m := by
      rcases Nat.eq_zero_or_pos m with q | q
      · exact absurd (by rw [hm, q]; rfl) c_4
      · exact q
    have hmod : t % m < m := Nat.mod_lt _ hm0
    obtain ⟨s, hs, es⟩ := hfr (t % m) hmod
    have hrem : f 0 10 - f 0 10 / f 0 13 * f 0 13 = nI (t % m) := by rw [ht, hm]; exact pk_rem (by omega) hm0 (by omega)
    have hz : z_frm m t (f 29) = s := by unfold z_frm; rw [if_neg (by omega), es]; exact nI_clamp (by omega)
    refine g_aload_0 E dX8_byFrame_11 ?_
    refine g_getR E (by first | rfl | assumption) (by first | rfl | assumption) fl_X8_82 rfl (by first | rfl | assumption) dX8_byFrame_12 ?_
    refine g_aload_0 E dX8_byFrame_15 ?_
    refine g_getI E (by first | rfl | assumption) (by first | rfl | assumption) fl_X8_253 rfl dX8_byFrame_16 ?_
    refine g_aload_0 E dX8_byFrame_19 ?_
    refine g_getI E (by first | rfl | assumption) (by first | rfl | assumption) fl_X8_199 rfl dX8_byFrame_20 ?_
    refine g_irem E dX8_byFrame_23 c_4 ?_
    refine g_iald E (by first | rfl | assumption) (by first | rfl | assumption) dX8_byFrame_24 (q_ix_e (j := t % m) hrem (by omega)) ?_
    refine g_istore_1 E dX8_byFrame_25 (by decide) rfl ?_
    refine g_bipush (v := 9) E dX8_byFrame_26 (by decide) ?_
    refine g_istore_2 E dX8_byFrame_28 (by decide) rfl ?_
    first | exact L 10 (Nat.le_refl _) 0 (by decide) (by rw [hz]) | (rw [es]; exact L 10 (Nat.le_refl _) s hs (by rw [hz]))
  · have hm0 : m = 0 := (nI_eq (by omega) (by omega)).mp (hm.symm.trans c_4)
    have hz : z_frm m t (f 29) = 0 := by unfold z_frm; rw [if_pos hm0]
    refine g_iconst (v := 0) E dX8_byFrame_7 (by decide) ?_
    refine g_goto (tgt := 25) E dX8_byFrame_8 (by decide) ?_
    refine g_istore_1 E dX8_byFrame_25 (by decide) rfl ?_
    refine g_bipush (v := 9) E dX8_byFrame_26 (by decide) ?_
    refine g_istore_2 E dX8_byFrame_28 (by decide) rfl ?_
    first | exact L 10 (Nat.le_refl _) 0 (by decide) (by rw [hz]) | (rw [es]; exact L 10 (Nat.le_refl _) s hs (by rw [hz]))
def q_sumL (a : Nat → Int64) : Nat → Int64
  | 0 => 0
  | n + 1 => q_sumL a n + a n
theorem q_sumL_congr {a b : Nat → Int64} : ∀ {n : Nat}, (∀ k, k < n → a k = b k) → q_sumL a n = q_sumL b n
  | 0, _ => rfl
  | n + 1, h => by rw [q_sumL, q_sumL, q_sumL_congr (fun k hk => h k (by omega)), h n (by omega)]
/-- the best set below t: its worth, itself -/
def z_bst (p : Nat → Bool) (wt : Nat → Int64) : Nat → Nat × Int64
  | 0 => (0, 0)
  | t + 1 => if t = 0 then (0, 0) else if (z_bst p wt t).2 < wt t ∧ p t = true then (t, wt t) else z_bst p wt t
theorem z_bst_lt {p : Nat → Bool} {wt : Nat → Int64} : ∀ {t : Nat}, 0 < t → (z_bst p wt t).1 < t
  | 0, h => absurd h (Nat.lt_irrefl 0)
  | t + 1, _ => by
    rw [z_bst]
    split
    · exact Nat.succ_pos t
    · split
      · exact Nat.lt_succ_self t
      · exact Nat.lt_succ_of_lt (z_bst_lt (by omega))
def z_wtM (n : Nat) (rk co : Nat → Int32) (s : Nat) : Int64 := q_sumL (fun c => if s.testBit c = true then (rk c).toInt64 * (co c).toInt64 else 0) n
theorem q_bit1 {s c : Nat} (hs : s < 1024) (hc : c < 10) : q_bit (nI s) (nI c) = 1 ↔ s.testBit c = true := by
  rw [q_bitA s hs c hc]; split <;> simp_all
set_option maxHeartbeats 4000000 in
set_option maxRecDepth 100000 in
theorem c_X8_byWeight {f : Nat → Nat → Int32} {g : Nat → Nat → Int64} (n : Nat) (hn : f 0 5 = nI n) (h10 : n ≤ 10) (hgt : ∀ c, c < n → ∃ j : Nat, j ≤ 2 ∧ f 18 c = nI j) : q_ConI yX8_byWeight cX8_byWeight 8 (some .int) 2 48 tyM alM [.ref 0] (f, g, rfM) (fun v h' => v = nI (z_bst (fun s => decide (z_legM n f s)) (z_wtM n (f 17) (f 47)) (2 ^ n)).1 ∧ h' = (f, g, rfM)) := by
  refine q_Con.of RX8 [some (.ref 0), none, none, none, none, none, none, none] (by decide +kernel) rfl rfl (Nat.le_of_ble_eq_true rfl) (fun C ad E Z => ?_)
  have p10 : 2 ^ n ≤ 2 ^ 10 := Nat.pow_le_pow_right (by decide) h10
  have h0 : 0 < 2 ^ n := Nat.pow_pos (by decide)
  have hsh : (1 : Int32) <<< (f 0 5 &&& 31) = nI (2 ^ n) := by rw [hn]; exact q_shl1 n (by omega)
  have L : ∀ t, t ≤ 2 ^ n → 1 ≤ t → ∀ x5 x6 x7 : Option Value, q_nl [some (.ref 0), some (.int (nI (z_bst (fun s => decide (z_legM n f s)) (z_wtM n (f 17) (f 47)) t).1)), some (.long (z_bst (fun s => decide (z_legM n f s)) (z_wtM n (f 17) (f 47)) t).2), none, some (.int (nI t)), x5, x6, x7] 5 = true → gg C tyM 8 0 0 alM ad 7 [some (.ref 0), some (.int (nI (z_bst (fun s => decide (z_legM n f s)) (z_wtM n (f 17) (f 47)) t).1)), some (.long (z_bst (fun s => decide (z_legM n f s)) (z_wtM n (f 17) (f 47)) t).2), none, some (.int (nI t)), x5, x6, x7] [] (f, g, rfM) := by
    refine q_loop (2 ^ n) (fun t hi ih h1 x5 x6 x7 hx => ?_)
    have hcut : z_bst (fun s => decide (z_legM n f s)) (z_wtM n (f 17) (f 47)) (t + 1) = if ((z_bst (fun s => decide (z_legM n f s)) (z_wtM n (f 17) (f 47)) t)).2 < z_wtM n (f 17) (f 47) t ∧ (fun s => decide (z_legM n f s)) t = true then (t, z_wtM n (f 17) (f 47) t) else (z_bst (fun s => decide (z_legM n f s)) (z_wtM n (f 17) (f 47)) t) := by rw [z_bst, if_neg (by omega)]
    have L2 : t < 2 ^ n → ∀ i, i ≤ n → gg C tyM 8 0 0 alM ad 24 [some (.ref 0), some (.int (nI (z_bst (fun s => decide (z_legM n f s)) (z_wtM n (f 17) (f 47)) t).1)), some (.long (z_bst (fun s => decide (z_legM n f s)) (z_wtM n (f 17) (f 47)) t).2), none, some (.int (nI t)), some (.long (q_sumL (fun c => if t.testBit c = true then (f 17 c).toInt64 * (f 47 c).toInt64 else 0) i)), none, some (.int (nI i))] [] (f, g, rfM) := by
      intro htn
      refine q_loop n (fun i hi ih2 => ?_)
      refine g_iload_7 E dX8_byWeight_24 ?_
      refine g_aload_0 E dX8_byWeight_26 ?_
      refine g_getI E (by first | rfl | assumption) (by first | rfl | assumption) fl_X8_154 rfl dX8_byWeight_27 ?_
      refine g_icmp_ge (tgt := 76) E dX8_byWeight_30 (by decide) (fun c_30 => ?_) (fun c_30 => ?_)
      · have e_30 := (q_ge (x := n) (y := i) hn rfl (by omega) (by omega)).mp c_30
        refine g_lload_5 E dX8_byWeight_76 ?_
        refine g_lload_2 E dX8_byWeight_78 ?_
        refine g_lcmp E dX8_byWeight_79 ?_
        refine g_if_le (tgt := 101) E dX8_byWeight_80 (by decide) (fun c_80 => ?_) (fun c_80 => ?_)
        · have k80 : ¬ ((z_bst (fun s => decide (z_legM n f s)) (z_wtM n (f 17) (f 47)) t)).2 < z_wtM n (f 17) (f 47) t := by
            have := (lg_cmp_le _ _).mp c_80
            rw [show i = n by omega] at this
            exact Int64.not_lt.mpr this
          refine g_iinc_4 (u := 1) E dX8_byWeight_101 (by decide) (by decide) rfl ?_
          refine g_goto (tgt := 7) E dX8_byWeight_104 (by decide) ?_
          rw [nI_1]
          have en : i = n := by omega
          subst en
          first
          | (have e := ih htn (by omega) (some (.long (z_wtM i (f 17) (f 47) t))) none (some (.int (nI i))) rfl
             rw [hcut, if_pos ⟨k80, decide_eq_true k_89⟩] at e
             exact e)
          | (have e := ih htn (by omega) (some (.long (z_wtM i (f 17) (f 47) t))) none (some (.int (nI i))) rfl
             rw [hcut, if_neg (fun q => k_89 (of_decide_eq_true q.2))] at e
             exact e)
          | (have e := ih htn (by omega) (some (.long (z_wtM i (f 17) (f 47) t))) none (some (.int (nI i))) rfl
             rw [hcut, if_neg (fun q => k80 q.1)] at e
             exact e)
        · have k80 : ((z_bst (fun s => decide (z_legM n f s)) (z_wtM n (f 17) (f 47)) t)).2 < z_wtM n (f 17) (f 47) t := by
            have := fun q => c_80 ((lg_cmp_le _ _).mpr q)
            rw [show i = n by omega] at this
            exact Int64.not_le.mp this
          refine g_aload_0 E dX8_byWeight_83 ?_
          refine g_iload_4 E dX8_byWeight_84 ?_
          refine g_cVi1 E (c_X8_isLegal n (by exact hn) h10 (by exact hgt) t (by omega)) cw_X8_193 (by decide) (by decide) (by first | rfl | assumption) (by first | rfl | assumption) (Nat.le_of_ble_eq_true rfl) dX8_byWeight_86 (fun v_86 h_86 hp => ?_)
          obtain ⟨rfl, rfl⟩ := hp
          refine g_if_ne (tgt := 95) E dX8_byWeight_89 (by decide) (fun c_89 => ?_) (fun c_89 => ?_)
          · have k_89 := q_b1.mp c_89
            refine g_lload_5 E dX8_byWeight_95 ?_
            refine g_lstore_2 E dX8_byWeight_97 (by decide) rfl ?_
            refine g_iload_4 E dX8_byWeight_98 ?_
            refine g_istore_1 E dX8_byWeight_100 (by decide) rfl ?_
            refine g_iinc_4 (u := 1) E dX8_byWeight_101 (by decide) (by decide) rfl ?_
            refine g_goto (tgt := 7) E dX8_byWeight_104 (by decide) ?_
            rw [nI_1]
            have en : i = n := by omega
            subst en
            first
            | (have e := ih htn (by omega) (some (.long (z_wtM i (f 17) (f 47) t))) none (some (.int (nI i))) rfl
               rw [hcut, if_pos ⟨k80, decide_eq_true k_89⟩] at e
               exact e)
            | (have e := ih htn (by omega) (some (.long (z_wtM i (f 17) (f 47) t))) none (some (.int (nI i))) rfl
               rw [hcut, if_neg (fun q => k_89 (of_decide_eq_true q.2))] at e
               exact e)
            | (have e := ih htn (by omega) (some (.long (z_wtM i (f 17) (f 47) t))) none (some (.int (nI i))) rfl
               rw [hcut, if_neg (fun q => k80 q.1)] at e
               exact e)
          · have k_89 := q_b0.mp c_89
            refine g_goto (tgt := 101) E dX8_byWeight_92 (by decide) ?_
            refine g_iinc_4 (u := 1) E dX8_byWeight_101 (by decide) (by decide) rfl ?_
            refine g_goto (tgt := 7) E dX8_byWeight_104 (by decide) ?_
            rw [nI_1]
            have en : i = n := by omega
            subst en
            first
            | (have e := ih htn (by omega) (some (.long (z_wtM i (f 17) (f 47) t))) none (some (.int (nI i))) rfl
               rw [hcut, if_pos ⟨k80, decide_eq_true k_89⟩] at e
               exact e)
            | (have e := ih htn (by omega) (some (.long (z_wtM i (f 17) (f 47) t))) none (some (.int (nI i))) rfl
               rw [hcut, if_neg (fun q => k_89 (of_decide_eq_true q.2))] at e
               exact e)
            | (have e := ih htn (by omega) (some (.long (z_wtM i (f 17) (f 47) t))) none (some (.int (nI i))) rfl
               rw [hcut, if_neg (fun q => k80 q.1)] at e
               exact e)
      · have e_30 := (not_congr (q_ge (x := n) (y := i) hn rfl (by omega) (by omega))).mp c_30
        refine g_lload_5 E dX8_byWeight_33 ?_
        refine g_iload_4 E dX8_byWeight_35 ?_
        refine g_iload_7 E dX8_byWeight_37 ?_
        refine g_ishr E dX8_byWeight_39 ?_
        refine g_iconst (v := 1) E dX8_byWeight_40 (by decide) ?_
        refine g_iand E dX8_byWeight_41 ?_
        refine g_iconst (v := 1) E dX8_byWeight_42 (by decide) ?_
        refine g_icmp_ne (tgt := 66) E dX8_byWeight_43 (by decide) (fun c_43 => ?_) (fun c_43 => ?_)
        · have hb : ¬ t.testBit i = true := fun q => c_43 ((q_bit1 (by omega) (by omega)).mpr q)
          refine g_lconst (v := 0) E dX8_byWeight_66 (by decide) ?_
          refine g_ladd E dX8_byWeight_67 ?_
          refine g_lstore_5 E dX8_byWeight_68 (by decide) rfl ?_
          refine g_iinc_7 (u := 1) E dX8_byWeight_70 (by decide) (by decide) rfl ?_
          refine g_goto (tgt := 24) E dX8_byWeight_73 (by decide) ?_
          rw [nI_1]
          have e := ih2 (by omega)
          rw [q_sumL] at e
          first | (rw [if_pos hb] at e; exact e) | (rw [if_neg hb] at e; exact e)
        · have hb : t.testBit i = true := (q_bit1 (by omega) (by omega)).mp c_43
          refine g_aload_0 E dX8_byWeight_46 ?_
          refine g_getR E (by first | rfl | assumption) (by first | rfl | assumption) fl_X8_45 rfl (by first | rfl | assumption) dX8_byWeight_47 ?_
          refine g_iload_7 E dX8_byWeight_50 ?_
          refine g_iald E (by first | rfl | assumption) (by first | rfl | assumption) dX8_byWeight_52 (q_ix_n (by omega)) ?_
          refine g_i2l E dX8_byWeight_53 ?_
          refine g_aload_0 E dX8_byWeight_54 ?_
          refine g_getR E (by first | rfl | assumption) (by first | rfl | assumption) fl_X8_134 rfl (by first | rfl | assumption) dX8_byWeight_55 ?_
          refine g_iload_7 E dX8_byWeight_58 ?_
          refine g_iald E (by first | rfl | assumption) (by first | rfl | assumption) dX8_byWeight_60 (q_ix_n (by omega)) ?_
          refine g_i2l E dX8_byWeight_61 ?_
          refine g_lmul E dX8_byWeight_62 ?_
          refine g_goto (tgt := 67) E dX8_byWeight_63 (by decide) ?_
          refine g_ladd E dX8_byWeight_67 ?_
          refine g_lstore_5 E dX8_byWeight_68 (by decide) rfl ?_
          refine g_iinc_7 (u := 1) E dX8_byWeight_70 (by decide) (by decide) rfl ?_
          refine g_goto (tgt := 24) E dX8_byWeight_73 (by decide) ?_
          rw [nI_1]
          have e := ih2 (by omega)
          rw [q_sumL] at e
          first | (rw [if_pos hb] at e; exact e) | (rw [if_neg hb] at e; exact e)
    refine g_iload_4 E dX8_byWeight_7 ?_
    refine g_iconst (v := 1) E dX8_byWeight_9 (by decide) ?_
    refine g_aload_0 E dX8_byWeight_10 ?_
    refine g_getI E (by first | rfl | assumption) (by first | rfl | assumption) fl_X8_154 rfl dX8_byWeight_11 ?_
    refine g_ishl E dX8_byWeight_14 ?_
    refine g_icmp_ge (tgt := 107) E dX8_byWeight_15 (by decide) (fun c_15 => ?_) (fun c_15 => ?_)
    · have e_15 := (q_ge (x := 2 ^ n) (y := t) hsh rfl (by omega) (by omega)).mp c_15
      refine g_iload_1 E dX8_byWeight_107 ?_
      exact g_iret E Z dX8_byWeight_108 ⟨_, rfl, ⟨by rw [show t = 2 ^ n by omega], rfl⟩⟩
    · have e_15 := (not_congr (q_ge (x := 2 ^ n) (y := t) hsh rfl (by omega) (by omega))).mp c_15
      refine g_lconst (v := 0) E dX8_byWeight_18 (by decide) ?_
      refine g_lstore_5 E dX8_byWeight_19 (by decide) hx ?_
      refine g_iconst (v := 0) E dX8_byWeight_21 (by decide) ?_
      refine g_istore_7 E dX8_byWeight_22 (by decide) rfl ?_
      exact L2 (by omega) 0 (Nat.zero_le _)
  refine g_iconst (v := 0) E dX8_byWeight_0 (by decide) ?_
  refine g_istore_1 E dX8_byWeight_1 (by decide) rfl ?_
  refine g_lconst (v := 0) E dX8_byWeight_2 (by decide) ?_
  refine g_lstore_2 E dX8_byWeight_3 (by decide) rfl ?_
  refine g_iconst (v := 1) E dX8_byWeight_4 (by decide) ?_
  refine g_istore_4 E dX8_byWeight_5 (by decide) rfl ?_
  exact L 1 h0 (Nat.le_refl _) none none none rfl
def q_sndM : Nat → Int32 → (Nat → Int32) → Int64 → (Nat → Int32) × Int64
  | 0, _, a, s => (a, s)
  | k + 1, l, a, s => q_sndM k (l - q_mn l (a k)) (va_up a k (a k - q_mn l (a k))) (s + (q_mn l (a k)).toInt64)
def q_blk (r : Nat → Int32) (c : Nat) (b : Nat → Int32) : Nat → Int32 := fun j => if 21 * c ≤ j ∧ j < 21 * c + 21 then b (j - 21 * c) else r j
theorem q_blk_in {r b : Nat → Int32} {c k : Nat} (h : k < 21) : q_blk r c b (21 * c + k) = b k := by
  unfold q_blk; rw [if_pos (by omega), Nat.add_sub_cancel_left]
theorem q_blk_id {r : Nat → Int32} {c : Nat} : q_blk r c (fun k => r (21 * c + k)) = r := by
  funext j
  unfold q_blk
  by_cases e : 21 * c ≤ j ∧ j < 21 * c + 21
  · rw [if_pos e]
    show r (21 * c + (j - 21 * c)) = r j
    rw [show 21 * c + (j - 21 * c) = j by omega]
  · rw [if_neg e]
theorem q_blk_up {r b : Nat → Int32} {c k : Nat} {v : Int32} (h : k < 21) : va_up (q_blk r c b) (21 * c + k) v = q_blk r c (va_up b k v) := by
  funext j
  by_cases e : j = 21 * c + k
  · subst e; rw [va_up_s, q_blk_in h, va_up_s]
  · rw [va_up_n e]
    unfold q_blk
    by_cases e2 : 21 * c ≤ j ∧ j < 21 * c + 21
    · rw [if_pos e2, if_pos e2, va_up_n (by omega)]
    · rw [if_neg e2, if_neg e2]
set_option maxHeartbeats 4000000 in
set_option maxRecDepth 100000 in
theorem c_X8_sends {f : Nat → Nat → Int32} {g : Nat → Nat → Int64} (c : Nat) (hc : c < 10) : q_ConV yX8_sends cX8_sends 5 none 1 21 tyM alM [.ref 0, .int (nI c)] (f, g, rfM) (fun h' => h' = (va_up f 30 (q_blk (f 30) c (q_sndM 21 (f 47 c) (fun k => f 30 (21 * c + k)) (g 32 c)).1), q_up g 32 c (q_sndM 21 (f 47 c) (fun k => f 30 (21 * c + k)) (g 32 c)).2, rfM)) := by
  refine q_Con.of RX8 [some (.ref 0), some (.int (nI c)), none, none, none] (by decide +kernel) rfl rfl (Nat.le_of_ble_eq_true rfl) (fun C ad E Z => ?_)
  have L : ∀ k, k ≤ 21 → ∀ (l : Int32) (a : Nat → Int32) (s : Int64) (x4 : Option Value), q_sndM k l a s = q_sndM 21 (f 47 c) (fun k => f 30 (21 * c + k)) (g 32 c) → gg C tyM 5 0 0 alM ad 10 [some (.ref 0), some (.int (nI c)), some (.int l), some (.int (nI k - 1)), x4] [] (va_up f 30 (q_blk (f 30) c a), q_up g 32 c s, rfM) := by
    intro k
    induction k with
    | zero =>
      intro hk l a s x4 hq
      refine g_iload_3 E dX8_sends_10 ?_
      refine g_if_lt (tgt := 70) E dX8_sends_11 (by decide) (fun c_11 => ?_) (fun c_11 => ?_)
      · exact g_vret E Z dX8_sends_70 ⟨rfl, (by rw [← hq]; rfl)⟩
      · exact absurd q_m1 c_11
    | succ k ih =>
      intro hk l a s x4 hq
      rw [q_dn]
      have e30 : (va_up f 30 (q_blk (f 30) c a)) 30 (21 * c + k) = a k := q_blk_in (by omega)
      refine g_iload_3 E dX8_sends_10 ?_
      refine g_if_lt (tgt := 70) E dX8_sends_11 (by decide) (fun c_11 => ?_) (fun c_11 => ?_)
      · exact absurd c_11 (nI_pos (by omega))
      · refine g_iload_2 E dX8_sends_14 ?_
        refine g_aload_0 E dX8_sends_15 ?_
        refine g_getR E (by first | rfl | assumption) (by first | rfl | assumption) fl_X8_85 rfl (by first | rfl | assumption) dX8_sends_16 ?_
        refine g_bipush (v := 21) E dX8_sends_19 (by decide) ?_
        refine g_iload_1 E dX8_sends_21 ?_
        refine g_imul E dX8_sends_22 ?_
        refine g_iload_3 E dX8_sends_23 ?_
        refine g_iadd E dX8_sends_24 ?_
        refine g_iald E (by first | rfl | assumption) (by first | rfl | assumption) dX8_sends_25 (q_ix_e (q_21 _ _) (by omega)) ?_
        refine g_cSi2 E (c_J9_min_7cf53 _ _) cw_X8_221 (by decide) (by decide) (Nat.le_of_ble_eq_true rfl) dX8_sends_26 (fun v_26 h_26 hp => ?_)
        obtain ⟨rfl, rfl⟩ := hp
        refine g_istore_4 E dX8_sends_29 (by decide) rfl ?_
        refine g_aload_0 E dX8_sends_31 ?_
        refine g_getR E (by first | rfl | assumption) (by first | rfl | assumption) fl_X8_85 rfl (by first | rfl | assumption) dX8_sends_32 ?_
        refine g_bipush (v := 21) E dX8_sends_35 (by decide) ?_
        refine g_iload_1 E dX8_sends_37 ?_
        refine g_imul E dX8_sends_38 ?_
        refine g_iload_3 E dX8_sends_39 ?_
        refine g_iadd E dX8_sends_40 ?_
        first | refine g_dupl E dX8_sends_41 ?_ | refine g_dup2 E dX8_sends_41 ?_
        refine g_iald E (by first | rfl | assumption) (by first | rfl | assumption) dX8_sends_42 (q_ix_e (q_21 _ _) (by omega)) ?_
        refine g_iload_4 E dX8_sends_43 ?_
        refine g_isub E dX8_sends_45 ?_
        refine g_iast E (by first | rfl | assumption) (by first | rfl | assumption) dX8_sends_46 (q_ix_e (q_21 _ _) (by omega)) ?_
        refine g_aload_0 E dX8_sends_47 ?_
        refine g_getR E (by first | rfl | assumption) (by first | rfl | assumption) fl_X8_91 rfl (by first | rfl | assumption) dX8_sends_48 ?_
        refine g_iload_1 E dX8_sends_51 ?_
        first | refine g_dupl E dX8_sends_52 ?_ | refine g_dup2 E dX8_sends_52 ?_
        refine g_lald E (by first | rfl | assumption) (by first | rfl | assumption) dX8_sends_53 (q_ix_n (by omega)) ?_
        refine g_iload_4 E dX8_sends_54 ?_
        refine g_i2l E dX8_sends_56 ?_
        refine g_ladd E dX8_sends_57 ?_
        refine g_last E (by first | rfl | assumption) (by first | rfl | assumption) dX8_sends_58 (q_ix_n (by omega)) ?_
        refine g_iload_2 E dX8_sends_59 ?_
        refine g_iload_4 E dX8_sends_60 ?_
        refine g_isub E dX8_sends_62 ?_
        refine g_istore_2 E dX8_sends_63 (by decide) rfl ?_
        refine g_iinc_3 (u := -1) E dX8_sends_64 (by decide) (by decide) rfl ?_
        refine g_goto (tgt := 10) E dX8_sends_67 (by decide) ?_
        rw [q_dm, q_upr, e30, q_blk_up (by omega), q_up_va (f := q_up g _ _ _), q_up_eq, va_up_u, q_up_va, va_up_u, va_up_s]
        rw [← q_up_va]
        exact ih (by omega) _ _ _ _ (by rw [← hq, q_sndM]; rfl)
  refine g_aload_0 E dX8_sends_0 ?_
  refine g_getR E (by first | rfl | assumption) (by first | rfl | assumption) fl_X8_134 rfl (by first | rfl | assumption) dX8_sends_1 ?_
  refine g_iload_1 E dX8_sends_4 ?_
  refine g_iald E (by first | rfl | assumption) (by first | rfl | assumption) dX8_sends_5 (q_ix_n (by omega)) ?_
  refine g_istore_2 E dX8_sends_6 (by decide) rfl ?_
  refine g_bipush (v := 20) E dX8_sends_7 (by decide) ?_
  refine g_istore_3 E dX8_sends_9 (by decide) rfl ?_
  have e := L 21 (Nat.le_refl _) (f 47 c) (fun k => f 30 (21 * c + k)) (g 32 c) none rfl
  rw [q_blk_id, va_up_id, q_up_same rfl] at e
  exact e
