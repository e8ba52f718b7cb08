/-! the class: the worthiest set, a slot, go -/
set_option maxHeartbeats 4000000 in
set_option maxRecDepth 100000 in
theorem c_X3_worthiest {n : Nat} {sB tB : Bool} {f : Nat → Nat → Int32} {g : Nat → Nat → Int64} (h10 : n ≤ 10) (p : Nat → Bool) (w : Nat → Nat) (hw : ∀ c, c < n → f 7 c = nI (w c) ∧ w c ≤ 1000000) (hls : z_lst1 n p f) (hdn : z_dn n p) (h0 : f 13 0 = 0) : q_ConI yX3_worthiest cX3_worthiest 6 (some .int) 0 0 tyX (alX n sB tB) [.ref 2, .ref 7] (f, g, rfX n sB tB) (fun v h' => v = nI (z_bN p (z_W w) (2 ^ n)) ∧ ∃ r : Nat → Int32, r 0 = 0 ∧ r (z_bN p (z_W w) (2 ^ n)) = nI (z_W w (z_bN p (z_W w) (2 ^ n))) ∧ h' = (va_up f 13 r, g, rfX n sB tB)) := by
  refine q_Con.of RX3 [some (.ref 2), some (.ref 7), none, none, none, none] (by decide +kernel) rfl rfl (Nat.le_of_ble_eq_true rfl) (fun C ad E Z => ?_)
  have p10 : 2 ^ n ≤ 2 ^ 10 := Nat.pow_le_pow_right (by decide) h10
  have hpn : 0 < 2 ^ n := Nat.pow_pos (by decide)
  obtain ⟨hsz, h386, hli⟩ := hls
  obtain ⟨hp0, hdn⟩ := hdn
  have hWb : ∀ s, s < 2 ^ n → z_W w s ≤ 10000000 := by
    intro s hs
    have e1 : z_W w s = z_S w s n := z_S_n hs h10
    rw [e1]
    refine Nat.le_trans (z_S_le (B := 1000000) (fun c hc _ => (hw c hc).2)) ?_
    omega
  have L : ∀ b, b ≤ 2 ^ n → 1 ≤ b → ∀ (k : Nat) (r : Nat → Int32) (x5 : Option Value), k ≤ 9 → 2 ^ k ≤ b ∨ k = 0 → (∀ s, s < b → p s = true → r s = nI (z_W w s)) → q_nl [some (.ref 2), some (.ref 7), some (.int (nI (z_bN p (z_W w) b))), some (.int (nI k)), some (.int (nI (z_ct p b))), x5] 5 = true → gg C tyX 6 0 0 (alX n sB tB) ad 7 [some (.ref 2), some (.ref 7), some (.int (nI (z_bN p (z_W w) b))), some (.int (nI k)), some (.int (nI (z_ct p b))), x5] [] (va_up f 13 r, g, rfX n sB tB) := by
    refine q_loop (2 ^ n) (fun b hb ih hb1 k r x5 hk hkb hr hx => ?_)
    have hbest := z_bN_lt (p := p) (W := z_W w) (t := b) (by omega)
    have hbp := z_bN_p (p := p) (W := z_W w) hp0 (t := b)
    have hrb := hr _ hbest hbp
    have hct : z_ct p b ≤ z_ct p (2 ^ n) := z_ct_mono hb
    by_cases hpb : b < 2 ^ n ∧ p b = true
    · obtain ⟨hbn, hpb⟩ := hpb
      have hb24 : b < 1024 := by omega
      have hct2 : z_ct p b + 1 ≤ z_ct p (2 ^ n) := by rw [← z_ct_t hpb]; exact z_ct_mono hbn
      have eL : va_up f 13 r 12 (z_ct p b) = nI b := hli b hbn hpb
      have L46 : ∀ k, k ≤ 9 → 2 ^ k ≤ b → b < 2 ^ (k + 1) → gg C tyX 6 0 0 (alX n sB tB) ad 46 [some (.ref 2), some (.ref 7), some (.int (nI (z_bN p (z_W w) b))), some (.int (nI k)), some (.int (nI (z_ct p b))), some (.int (nI b))] [] (va_up f 13 r, g, rfX n sB tB) := by
        intro k hk h1 h2
        have hkn : k < n := (Nat.pow_lt_pow_iff_right (by decide : 1 < 2)).mp (Nat.lt_of_le_of_lt h1 hbn)
        have hclr : nI b &&& (1 <<< (nI k &&& 31) ^^^ -1) = nI (b - 2 ^ k) := by rw [q_clr b hb24 k (by omega), q_sub2 b hb24 k (by omega) h1 h2]
        have h2k : 0 < 2 ^ k := Nat.pow_pos (by decide)
        have hv : va_up f 13 r 13 (b - 2 ^ k) + va_up f 13 r 7 k = nI (z_W w b) := by
          show r (b - 2 ^ k) + f 7 k = _
          rw [hr _ (by omega) (hdn b k hbn hpb h1 h2), (hw k hkn).1, nI_add]
          exact congrArg nI (z_S_top h1 h2 (by omega)).symm
        refine g_aload_0 (pc := 46) E dX3_worthiest_46 ?_
        refine g_getR (pc := 47) E (by first | assumption | rfl) (by first | assumption | rfl) fl_X3_19 rfl (by first | assumption | rfl) dX3_worthiest_47 ?_
        refine g_iload_5 (pc := 50) E dX3_worthiest_50 ?_
        refine g_aload_0 (pc := 52) E dX3_worthiest_52 ?_
        refine g_getR (pc := 53) E (by first | assumption | rfl) (by first | assumption | rfl) fl_X3_19 rfl (by first | assumption | rfl) dX3_worthiest_53 ?_
        refine g_iload_5 (pc := 56) E dX3_worthiest_56 ?_
        refine g_iconst (pc := 58) (v := 1) E dX3_worthiest_58 (by decide) ?_
        refine g_iload_3 (pc := 59) E dX3_worthiest_59 ?_
        refine g_ishl (pc := 60) E dX3_worthiest_60 ?_
        refine g_iconst (pc := 61) (v := -1) E dX3_worthiest_61 (by decide) ?_
        refine g_ixor (pc := 62) E dX3_worthiest_62 ?_
        refine g_iand (pc := 63) E dX3_worthiest_63 ?_
        refine g_iald (pc := 64) E (by first | assumption | rfl) (by first | assumption | rfl) dX3_worthiest_64 (q_ix_e (j := b - 2 ^ k) hclr (by omega)) ?_
        refine g_aload_1 (pc := 65) E dX3_worthiest_65 ?_
        refine g_iload_3 (pc := 66) E dX3_worthiest_66 ?_
        refine g_iald (pc := 67) E (by first | assumption | rfl) (by first | assumption | rfl) dX3_worthiest_67 (q_ix_n (by omega)) ?_
        refine g_iadd (pc := 68) E dX3_worthiest_68 ?_
        refine g_iast (pc := 69) E (by first | assumption | rfl) (by first | assumption | rfl) dX3_worthiest_69 (q_ix_n (by omega)) ?_
        refine g_aload_0 (pc := 70) E dX3_worthiest_70 ?_
        refine g_getR (pc := 71) E (by first | assumption | rfl) (by first | assumption | rfl) fl_X3_19 rfl (by first | assumption | rfl) dX3_worthiest_71 ?_
        refine g_iload_5 (pc := 74) E dX3_worthiest_74 ?_
        refine g_iald (pc := 76) E (by first | assumption | rfl) (by first | assumption | rfl) dX3_worthiest_76 (q_ix_n (by omega)) ?_
        refine g_aload_0 (pc := 77) E dX3_worthiest_77 ?_
        refine g_getR (pc := 78) E (by first | assumption | rfl) (by first | assumption | rfl) fl_X3_19 rfl (by first | assumption | rfl) dX3_worthiest_78 ?_
        refine g_iload_2 (pc := 81) E dX3_worthiest_81 ?_
        refine g_iald (pc := 82) E (by first | assumption | rfl) (by first | assumption | rfl) dX3_worthiest_82 (q_ix_n (by omega)) ?_
        refine g_icmp_le (pc := 83) (tgt := 89) E dX3_worthiest_83 (by decide) (fun c_83 => ?_) (fun c_83 => ?_)
        · refine g_iinc_4 (pc := 89) (u := 1) E dX3_worthiest_89 (by decide) (by decide) rfl ?_
          refine g_goto (pc := 92) (tgt := 7) E dX3_worthiest_92 (by decide) ?_
          rw [hv, q_upr] at c_83 ⊢
          rw [nI_1]
          have c83 := c_83
          rw [va_up_s, va_up_s, va_up_n (by omega), hrb] at c83
          have e := ih hbn (by omega) k (va_up r b (nI (z_W w b))) (some (.int (nI b))) (by omega) (Or.inl (by omega)) (fun s hs hps => by
            by_cases es : s = b
            · subst es; rw [va_up_s]
            · rw [va_up_n es]; exact hr s (by omega) hps) rfl
          have kW := hWb _ (show z_bN p (z_W w) b < 2 ^ n by omega)
          have kV := hWb b hbn
          rw [z_ct_t hpb, z_bN] at e
          first
          | (rw [if_neg (fun q => absurd ((nI_leI (by omega) (by omega)).mp c83) (Nat.not_le.mpr q.2))] at e
             exact e)
          | (rw [if_pos ⟨hpb, Nat.not_le.mp (fun q => c83 ((nI_leI (by omega) (by omega)).mpr q))⟩] at e
             exact e)
        · refine g_iload_5 (pc := 86) E dX3_worthiest_86 ?_
          refine g_istore_2 (pc := 88) E dX3_worthiest_88 (by decide) rfl ?_
          refine g_iinc_4 (pc := 89) (u := 1) E dX3_worthiest_89 (by decide) (by decide) rfl ?_
          refine g_goto (pc := 92) (tgt := 7) E dX3_worthiest_92 (by decide) ?_
          rw [hv, q_upr] at c_83 ⊢
          rw [nI_1]
          have c83 := c_83
          rw [va_up_s, va_up_s, va_up_n (by omega), hrb] at c83
          have e := ih hbn (by omega) k (va_up r b (nI (z_W w b))) (some (.int (nI b))) (by omega) (Or.inl (by omega)) (fun s hs hps => by
            by_cases es : s = b
            · subst es; rw [va_up_s]
            · rw [va_up_n es]; exact hr s (by omega) hps) rfl
          have kW := hWb _ (show z_bN p (z_W w) b < 2 ^ n by omega)
          have kV := hWb b hbn
          rw [z_ct_t hpb, z_bN] at e
          first
          | (rw [if_neg (fun q => absurd ((nI_leI (by omega) (by omega)).mp c83) (Nat.not_le.mpr q.2))] at e
             exact e)
          | (rw [if_pos ⟨hpb, Nat.not_le.mp (fun q => c83 ((nI_leI (by omega) (by omega)).mpr q))⟩] at e
             exact e)
      have L25 : ∀ k, k ≤ 9 → 2 ^ k ≤ b → gg C tyX 6 0 0 (alX n sB tB) ad 25 [some (.ref 2), some (.ref 7), some (.int (nI (z_bN p (z_W w) b))), some (.int (nI k)), some (.int (nI (z_ct p b))), some (.int (nI b))] [] (va_up f 13 r, g, rfX n sB tB) := by
        refine q_loop 9 (fun k hk9 ihk h1 => ?_)
        refine g_iload_3 (pc := 25) E dX3_worthiest_25 ?_
        refine g_bipush (pc := 26) (v := 9) E dX3_worthiest_26 (by decide) ?_
        refine g_icmp_ge (pc := 28) (tgt := 46) E dX3_worthiest_28 (by decide) (fun c_28 => ?_) (fun c_28 => ?_)
        · have k28 : 9 ≤ k := (nI_leI (a := 9) (b := k) (by omega) (by omega)).mp c_28
          have h2 : b < 2 ^ (k + 1) := by
            first
            | exact k37
            | (rw [show k = 9 by omega]; exact hb24)
          exact L46 k hk9 h1 h2
        · have k28 : k < 9 := Nat.not_le.mp (fun q => c_28 (nI_le (a := 9) (b := k) q (by omega)))
          refine g_iload_5 (pc := 31) E dX3_worthiest_31 ?_
          refine g_iload_3 (pc := 33) E dX3_worthiest_33 ?_
          refine g_iconst (pc := 34) (v := 1) E dX3_worthiest_34 (by decide) ?_
          refine g_iadd (pc := 35) E dX3_worthiest_35 ?_
          refine g_ishr (pc := 36) E dX3_worthiest_36 ?_
          refine g_if_eq (pc := 37) (tgt := 46) E dX3_worthiest_37 (by decide) (fun c_37 => ?_) (fun c_37 => ?_)
          · have k37 := (q_top b hb24 k (by omega)).mp c_37
            have h2 : b < 2 ^ (k + 1) := by
              first
              | exact k37
              | (rw [show k = 9 by omega]; exact hb24)
            exact L46 k hk9 h1 h2
          · have k37 := fun q => c_37 ((q_top b hb24 k (by omega)).mpr q)
            refine g_iinc_3 (pc := 40) (u := 1) E dX3_worthiest_40 (by decide) (by decide) rfl ?_
            refine g_goto (pc := 43) (tgt := 25) E dX3_worthiest_43 (by decide) ?_
            rw [nI_1]
            exact ihk k28 (Nat.not_lt.mp k37)
      refine g_iload_4 (pc := 7) E dX3_worthiest_7 ?_
      refine g_aload_0 (pc := 9) E dX3_worthiest_9 ?_
      refine g_getI (pc := 10) E (by first | assumption | rfl) (by first | assumption | rfl) fl_X3_22 rfl dX3_worthiest_10 ?_
      refine g_icmp_ge (pc := 13) (tgt := 95) E dX3_worthiest_13 (by decide) (fun c_13 => ?_) (fun c_13 => ?_)
      · exact absurd ((q_ge (x := z_ct p (2 ^ n)) (y := z_ct p b) hsz rfl (by omega) (by omega)).mp c_13) (by omega)
      · refine g_aload_0 (pc := 16) E dX3_worthiest_16 ?_
        refine g_getR (pc := 17) E (by first | assumption | rfl) (by first | assumption | rfl) fl_X3_15 rfl (by first | assumption | rfl) dX3_worthiest_17 ?_
        refine g_iload_4 (pc := 20) E dX3_worthiest_20 ?_
        refine g_iald (pc := 22) E (by first | assumption | rfl) (by first | assumption | rfl) dX3_worthiest_22 (q_ix_n (by omega)) ?_
        rw [eL]
        refine g_istore_5 (pc := 23) E dX3_worthiest_23 (by decide) hx ?_
        have hkb2 : 2 ^ k ≤ b := by
          rcases hkb with q | q
          · exact q
          · subst q; exact hb1
        exact L25 k hk hkb2
    · by_cases hbn : b < 2 ^ n
      · have hpb2 : ¬ p b = true := fun q => hpb ⟨hbn, q⟩
        have e := ih hbn (by omega) k r x5 hk (by omega) (fun s hs hps => hr s (by
          rcases Nat.lt_or_eq_of_le (Nat.lt_succ_iff.mp hs) with q | q
          · exact q
          · subst q; exact absurd hps hpb2) hps)
        rw [z_ct_f hpb2, z_bN, if_neg (fun q => hpb2 q.1)] at e
        exact e hx
      · have eb : b = 2 ^ n := by omega
        subst eb
        refine g_iload_4 (pc := 7) E dX3_worthiest_7 ?_
        refine g_aload_0 (pc := 9) E dX3_worthiest_9 ?_
        refine g_getI (pc := 10) E (by first | assumption | rfl) (by first | assumption | rfl) fl_X3_22 rfl dX3_worthiest_10 ?_
        refine g_icmp_ge (pc := 13) (tgt := 95) E dX3_worthiest_13 (by decide) (fun c_13 => ?_) (fun c_13 => ?_)
        · refine g_iload_2 (pc := 95) E dX3_worthiest_95 ?_
          exact g_iret (pc := 96) E Z dX3_worthiest_96 ⟨_, rfl, ⟨rfl, r, by rw [hr 0 hpn hp0]; exact congrArg nI (z_S_0 10), hrb, rfl⟩⟩
        · exact absurd ((q_ge (x := z_ct p (2 ^ n)) (y := z_ct p (2 ^ n)) hsz rfl (by omega) (by omega)).mpr (Nat.le_refl _)) c_13
  refine g_iconst (pc := 0) (v := 0) E dX3_worthiest_0 (by decide) ?_
  refine g_istore_2 (pc := 1) E dX3_worthiest_1 (by decide) rfl ?_
  refine g_iconst (pc := 2) (v := 0) E dX3_worthiest_2 (by decide) ?_
  refine g_istore_3 (pc := 3) E dX3_worthiest_3 (by decide) rfl ?_
  refine g_iconst (pc := 4) (v := 1) E dX3_worthiest_4 (by decide) ?_
  refine g_istore_4 (pc := 5) E dX3_worthiest_5 (by decide) rfl ?_
  have e := L 1 hpn (Nat.le_refl _) 0 (f 13) none (by omega) (Or.inr rfl) (fun s hs hps => by
    have e0 : s = 0 := by omega
    subst e0
    rw [h0]; exact (congrArg nI (z_S_0 10)).symm) rfl
  rw [va_up_id, show z_ct p 1 = 1 from by rw [z_ct_t hp0]; rfl, show z_bN p (z_W w) 1 = 0 from by rw [z_bN]; split <;> rfl] at e
  exact e
def x_wt (f : Nat → Nat → Int32) (g : Nat → Nat → Int64) (c : Nat) : Int32 := f (c + 40) 2 * q_mn (g (c + 40) 10 - g (c + 40) 11 - g (c + 40) 12).toInt32 (q_rate (f (c + 40) 4) (f (c + 40) 1))
set_option maxHeartbeats 4000000 in
set_option maxRecDepth 100000 in
theorem c_X7_heaviestSet {n : Nat} {sB tB : Bool} {f : Nat → Nat → Int32} {g : Nat → Nat → Int64} (hn : f 1 1 = nI n) (h10 : n ≤ 10) (p : Nat → Bool) (w : Nat → Nat) (hw : ∀ c, c < n → x_wt f g c = nI (w c) ∧ w c ≤ 1000000) (hls : z_lst1 n p f) (hdn : z_dn n p) (h0 : f 13 0 = 0) : q_ConI yX7_heaviestSet cX7_heaviestSet 2 (some .int) 2 41 tyX (alX n sB tB) [.ref 0] (f, g, rfX n sB tB) (fun v h' => v = nI (z_bN p (z_W w) (2 ^ n)) ∧ ∃ r7 r13 : Nat → Int32, r13 0 = 0 ∧ h' = (va_up (va_up f 7 r7) 13 r13, g, rfX n sB tB)) := by
  refine q_Con.of RX7 [some (.ref 0), none] (by decide +kernel) rfl rfl (Nat.le_of_ble_eq_true rfl) (fun C ad E Z => ?_)
  have L : ∀ i, i ≤ n → gg C tyX 2 0 0 (alX n sB tB) ad 2 [some (.ref 0), some (.int (nI i))] [] (va_up f 7 (q_part i (f 7) (x_wt f g)), g, rfX n sB tB) := by
    refine q_loop n (fun i hi ih => ?_)
    have hn1 : va_up f 7 (q_part i (f 7) (x_wt f g)) 1 1 = nI n := hn
    have ev : va_up f 7 (q_part i (f 7) (x_wt f g)) (i + 40) = f (i + 40) := va_up_n (by omega)
    refine g_iload_1 (pc := 2) E dX7_heaviestSet_2 ?_
    refine g_aload_0 (pc := 3) E dX7_heaviestSet_3 ?_
    refine g_getR (pc := 4) E (by first | assumption | rfl) (by first | assumption | rfl) fl_X7_12 rfl (by first | assumption | rfl) dX7_heaviestSet_4 ?_
    refine g_getI (pc := 7) E (by first | assumption | rfl) (by first | assumption | rfl) fl_X7_75 rfl dX7_heaviestSet_7 ?_
    refine g_icmp_ge (pc := 10) (tgt := 37) E dX7_heaviestSet_10 (by decide) (fun c_10 => ?_) (fun c_10 => ?_)
    · have e_10 := (q_ge (x := n) (y := i) hn1 rfl (by omega) (by omega)).mp c_10
      refine g_aload_0 (pc := 37) E dX7_heaviestSet_37 ?_
      refine g_getR (pc := 38) E (by first | assumption | rfl) (by first | assumption | rfl) fl_X7_19 rfl (by first | assumption | rfl) dX7_heaviestSet_38 ?_
      refine g_aload_0 (pc := 41) E dX7_heaviestSet_41 ?_
      refine g_getR (pc := 42) E (by first | assumption | rfl) (by first | assumption | rfl) fl_X7_37 rfl (by first | assumption | rfl) dX7_heaviestSet_42 ?_
      refine g_cVi1 (pc := 45) E (c_X3_worthiest h10 p w (by intro c hc; rw [va_up_s, q_part_lt (by omega)]; exact hw c hc) hls hdn h0) cw_X7_195 (by decide) (by decide) (by first | assumption | rfl) (by first | assumption | rfl) (Nat.le_of_ble_eq_true rfl) dX7_heaviestSet_45 (fun v_45 h_45 hp => ?_)
      obtain ⟨rfl, r, hr0, -, rfl⟩ := hp
      exact g_iret (pc := 48) E Z dX7_heaviestSet_48 ⟨_, rfl, ⟨rfl, _, r, hr0, rfl⟩⟩
    · have e_10 := (not_congr (q_ge (x := n) (y := i) hn1 rfl (by omega) (by omega))).mp c_10
      have hac : alX n sB tB (i + 40) = true := alX_c (by omega)
      have htc : tyX (i + 40) = .inr 0 := tyX_c (by omega)
      have hrc : rfX n sB tB 8 i = some (i + 40) := rfX_c (by omega)
      refine g_aload_0 (pc := 13) E dX7_heaviestSet_13 ?_
      refine g_getR (pc := 14) E (by first | assumption | rfl) (by first | assumption | rfl) fl_X7_37 rfl (by first | assumption | rfl) dX7_heaviestSet_14 ?_
      refine g_iload_1 (pc := 17) E dX7_heaviestSet_17 ?_
      refine g_aload_0 (pc := 18) E dX7_heaviestSet_18 ?_
      refine g_getR (pc := 19) E (by first | assumption | rfl) (by first | assumption | rfl) fl_X7_12 rfl (by first | assumption | rfl) dX7_heaviestSet_19 ?_
      refine g_getR (pc := 22) E (by first | assumption | rfl) (by first | assumption | rfl) fl_X7_78 rfl (by first | assumption | rfl) dX7_heaviestSet_22 ?_
      refine g_iload_1 (pc := 25) E dX7_heaviestSet_25 ?_
      first | refine g_aald (pc := 26) E (by first | assumption | rfl) (by first | assumption | rfl) dX7_heaviestSet_26 (q_ix_n (by omega)) (by first | assumption | rfl) ?_ | refine g_aaldJ (pc := 26) E (by first | assumption | rfl) (by first | assumption | rfl) dX7_heaviestSet_26 (q_ix_n (by omega)) (by first | assumption | rfl) ?_
      refine g_cVi0 (pc := 27) E (c_X0_weightIfLit i (by omega) h10) cw_X7_277 (by decide) (by decide) (by first | assumption | rfl) (by first | assumption | rfl) (Nat.le_of_ble_eq_true rfl) dX7_heaviestSet_27 (fun v_27 h_27 hp => ?_)
      obtain ⟨rfl, rfl⟩ := hp
      refine g_iast (pc := 30) E (by first | assumption | rfl) (by first | assumption | rfl) dX7_heaviestSet_30 (q_ix_n (by omega)) ?_
      refine g_iinc_1 (pc := 31) (u := 1) E dX7_heaviestSet_31 (by decide) (by decide) rfl ?_
      refine g_goto (pc := 34) (tgt := 2) E dX7_heaviestSet_34 (by decide) ?_
      rw [nI_1, ev, q_upr, q_part_s (show f (i + 40) 2 * q_mn (g (i + 40) 10 - g (i + 40) 11 - g (i + 40) 12).toInt32 (q_rate (f (i + 40) 4) (f (i + 40) 1)) = x_wt f g i from rfl)]
      exact ih (by omega)
  refine g_iconst (pc := 0) (v := 0) E dX7_heaviestSet_0 (by decide) ?_
  refine g_istore_1 (pc := 1) E dX7_heaviestSet_1 (by decide) rfl ?_
  have e := L 0 (Nat.zero_le _)
  rw [q_part_0, va_up_id] at e
  exact e
def x_lit (n m t : Nat) (f : Nat → Nat → Int32) (p : Nat → Bool) (w : Nat → Nat) : Nat := if f 0 7 = 1 then z_bN p (z_W w) (2 ^ n) else z_cut (fun s => decide (¬ f 11 s = 0)) 10 (z_frm m t (f 21))
def x_f1 (n : Nat) (f : Nat → Nat → Int32) : Nat → Nat → Int32 := x_cl 60 n f (x_R60 f)
def x_g1 (n : Nat) (f : Nat → Nat → Int32) (g : Nat → Nat → Int64) : Nat → Nat → Int64 := x_cl 40 n g (x_G40 f g)
def x_f2 (n : Nat) (f : Nat → Nat → Int32) (lit : Nat) (r7 r13 : Nat → Int32) : Nat → Nat → Int32 := q_up (va_up (va_up (x_f1 n f) 7 r7) 13 r13) 0 9 (nI lit)
def x_f3 (n : Nat) (f : Nat → Nat → Int32) (g : Nat → Nat → Int64) (lit L : Nat) (r7 r13 : Nat → Int32) : Nat → Nat → Int32 := x_F (x_f2 n f lit r7 r13) (x_g1 n f g) lit L n
def x_psG (n : Nat) (f : Nat → Nat → Int32) (g : Nat → Nat → Int64) (lit L : Nat) (r7 r13 : Nat → Int32) : Nat → Nat → Int64 := x_G (x_f2 n f lit r7 r13) (x_g1 n f g) lit L n
def x_f4 (n : Nat) (f : Nat → Nat → Int32) (g : Nat → Nat → Int64) (lit L : Nat) (r7 r13 : Nat → Int32) : Nat → Nat → Int32 := x_cl 40 n (x_f3 n f g lit L r7 r13) (x_hc (x_f3 n f g lit L r7 r13))
def x_f5 (n : Nat) (f : Nat → Nat → Int32) (g : Nat → Nat → Int64) (lit L : Nat) (r7 r13 : Nat → Int32) : Nat → Nat → Int32 := if x_hv (x_f3 n f g lit L r7 r13) n = 0 then x_f4 n f g lit L r7 r13 else z_fnd n (x_f4 n f g lit L r7 r13) (2 ^ n)
def x_psF (n : Nat) (f : Nat → Nat → Int32) (g : Nat → Nat → Int64) (lit L t : Nat) (r7 r13 : Nat → Int32) : Nat → Nat → Int32 := q_up (x_f5 n f g lit L r7 r13) 0 8 (nI (t + 1))
/-- what a slot wants -/
abbrev x_pre (n m L t : Nat) (f : Nat → Nat → Int32) (g : Nat → Nat → Int64) (p : Nat → Bool) (w : Nat → Nat) : Prop := (f 1 1 = nI n ∧ n ≤ 10) ∧ (∀ c, c < n → ∃ j : Nat, j ≤ 2 ∧ f (c + 40) 3 = nI j) ∧ (∃ b : Nat, b ≤ 4 ∧ f 1 4 = nI b) ∧ (f 1 6 = nI L ∧ 1 ≤ L ∧ L ≤ 20) ∧ (f 4 1 = nI m ∧ m ≤ 90 ∧ ∀ i, i < m → ∃ s : Nat, s < 1024 ∧ f 21 i = nI s) ∧ (f 0 8 = nI t ∧ t ≤ 20000) ∧ ¬ f 11 0 = 0 ∧ (∀ c, c < n → x_wt (x_f1 n f) (x_g1 n f g) c = nI (w c) ∧ w c ≤ 1000000) ∧ z_lst1 n p f ∧ z_dn n p ∧ f 13 0 = 0
theorem z_bN_lt2 {n : Nat} {p : Nat → Bool} {W : Nat → Nat} (h10 : n ≤ 10) : z_bN p W (2 ^ n) < 1024 := by
  have p10 : 2 ^ n ≤ 2 ^ 10 := Nat.pow_le_pow_right (by decide) h10
  have := z_bN_lt (p := p) (W := W) (t := 2 ^ n) (Nat.pow_pos (by decide))
  omega
theorem z_frm_lt {m t : Nat} {r : Nat → Int32} (h : ∀ i, i < m → ∃ s : Nat, s < 1024 ∧ r i = nI s) : z_frm m t r < 1024 := by
  unfold z_frm
  split
  · decide
  · obtain ⟨s, hs, es⟩ := h (t % m) (Nat.mod_lt _ (by omega))
    rw [es, nI_clamp (by omega)]
    exact hs
theorem x_cel_3 {f : Nat → Nat → Int32} {lit c : Nat} : x_cel f lit c 3 = f (c + 40) 3 := by
  unfold x_cel
  split
  · rw [va_up_n (by decide), va_up_n (by decide)]
  · rw [va_up_n (by decide), va_up_n (by decide)]
theorem x_f4_3 {n : Nat} {f : Nat → Nat → Int32} {g : Nat → Nat → Int64} {lit L : Nat} {r7 r13 : Nat → Int32} {c : Nat} (hc : c < n) (h10 : n ≤ 10) : x_f4 n f g lit L r7 r13 (c + 40) 3 = f (c + 40) 3 := by
  have e3 : x_f3 n f g lit L r7 r13 (c + 40) = x_cel (x_f2 n f lit r7 r13) lit c := by
    unfold x_f3 x_F
    rw [x_cl_out (by omega), x_cl_at hc]
  have e2 : x_f2 n f lit r7 r13 (c + 40) = f (c + 40) := by
    unfold x_f2 x_f1
    rw [q_up_ne (by omega), va_up_n (by omega), va_up_n (by omega), x_cl_out (by omega)]
  unfold x_f4
  rw [x_cl_at hc]
  unfold x_hc
  split
  · rw [va_up_n (by decide), e3, x_cel_3, e2]
  · rw [e3, x_cel_3, e2]
set_option maxHeartbeats 4000000 in
set_option maxRecDepth 100000 in
theorem c_X7_passSlot {n : Nat} {sB tB : Bool} {f : Nat → Nat → Int32} {g : Nat → Nat → Int64} (m L t : Nat) (p : Nat → Bool) (w : Nat → Nat) (hpre : x_pre n m L t f g p w) : q_ConV yX7_passSlot cX7_passSlot 1 none 3 70 tyX (alX n sB tB) [.ref 0] (f, g, rfX n sB tB) (fun h' => ∃ r7 r13 : Nat → Int32, r13 0 = 0 ∧ h' = (x_psF n f g (x_lit n m t f p w) L t r7 r13, x_psG n f g (x_lit n m t f p w) L r7 r13, rfX n sB tB)) := by
  refine q_Con.of RX7 [some (.ref 0)] (by decide +kernel) rfl rfl (Nat.le_of_ble_eq_true rfl) (fun C ad E Z => ?_)
  obtain ⟨⟨hn, h10⟩, hgt, hbm, ⟨hL, hL1, hL2⟩, ⟨hm, hm2, hfr⟩, ⟨ht, ht2⟩, hp0, hw, hls, hdn, h13⟩ := hpre
  have hlt : x_lit n m t f p w < 1024 := by
    unfold x_lit
    split
    · exact z_bN_lt2 h10
    · exact z_cut_lt 10 _ (z_frm_lt hfr)
  have K30 : ∀ r7 r13 : Nat → Int32, r13 0 = 0 → gg C tyX 1 0 0 (alX n sB tB) ad 30 [some (.ref 0)] [] (x_f2 n f (x_lit n m t f p w) r7 r13, x_g1 n f g, rfX n sB tB) := by
    intro r7 r13 hr13

    refine g_aload_0 (pc := 30) E dX7_passSlot_30 ?_
    refine g_getR (pc := 31) E (by first | assumption | rfl) (by first | assumption | rfl) fl_X7_12 rfl (by first | assumption | rfl) dX7_passSlot_31 ?_
    refine g_aload_0 (pc := 34) E dX7_passSlot_34 ?_
    refine g_getI (pc := 35) E (by first | assumption | rfl) (by first | assumption | rfl) fl_X7_41 rfl dX7_passSlot_35 ?_
    rw [show x_f2 n f (x_lit n m t f p w) r7 r13 0 9 = nI (x_lit n m t f p w) from q_ups]
    refine g_cVv1 (pc := 38) E (c_X2_serve (by exact hn) h10 L (by exact hL) hL1 hL2 (x_lit n m t f p w) hlt) cw_X7_269 (by decide) (by decide) (by first | assumption | rfl) (by first | assumption | rfl) (Nat.le_of_ble_eq_true rfl) dX7_passSlot_38 (fun h_38 hp => ?_)
    subst hp
    refine g_aload_0 (pc := 41) E dX7_passSlot_41 ?_
    refine g_getR (pc := 42) E (by first | assumption | rfl) (by first | assumption | rfl) fl_X7_12 rfl (by first | assumption | rfl) dX7_passSlot_42 ?_
    refine g_cVi0 (pc := 45) E (c_X2_handOn (by show x_F _ _ _ _ _ 1 1 = nI n; rw [x_F_lo (by omega)]; exact hn) h10) cw_X7_273 (by decide) (by decide) (by first | assumption | rfl) (by first | assumption | rfl) (Nat.le_of_ble_eq_true rfl) dX7_passSlot_45 (fun v_45 h_45 hp => ?_)
    obtain ⟨rfl, rfl⟩ := hp
    have elo : ∀ a, a < 40 → x_f4 n f g (x_lit n m t f p w) L r7 r13 a = x_f2 n f (x_lit n m t f p w) r7 r13 a := fun a ha => by
      show x_cl 40 n (x_f3 n f g (x_lit n m t f p w) L r7 r13) (x_hc (x_f3 n f g (x_lit n m t f p w) L r7 r13)) a = _
      rw [x_cl_out (by omega)]
      exact x_F_lo ha
    have e11 : x_f4 n f g (x_lit n m t f p w) L r7 r13 1 1 = nI n := by rw [elo 1 (by omega)]; exact hn
    have ebm : ∃ b : Nat, b ≤ 4 ∧ x_f4 n f g (x_lit n m t f p w) L r7 r13 1 4 = nI b := by rw [elo 1 (by omega)]; exact hbm
    have egt : ∀ c, c < n → ∃ j : Nat, j ≤ 2 ∧ x_f4 n f g (x_lit n m t f p w) L r7 r13 (c + 40) 3 = nI j := by
      intro c hc
      have e1 : x_f4 n f g (x_lit n m t f p w) L r7 r13 (c + 40) 3 = f (c + 40) 3 := x_f4_3 hc h10
      rw [e1]
      exact hgt c hc
    have e08 : x_f5 n f g (x_lit n m t f p w) L r7 r13 0 8 = nI t := by
      have q : x_f4 n f g (x_lit n m t f p w) L r7 r13 0 8 = nI t := by rw [elo 0 (by omega)]; exact ht
      unfold x_f5
      split
      · exact q
      · exact q
    have K62 : gg C tyX 1 0 0 (alX n sB tB) ad 62 [some (.ref 0)] [] (x_f5 n f g (x_lit n m t f p w) L r7 r13, x_psG n f g (x_lit n m t f p w) L r7 r13, rfX n sB tB) := by
      refine g_aload_0 (pc := 62) E dX7_passSlot_62 ?_
      first | refine g_dupi (pc := 63) E dX7_passSlot_63 ?_ | refine g_dupr (pc := 63) E dX7_passSlot_63 ?_
      refine g_getI (pc := 64) E (by first | assumption | rfl) (by first | assumption | rfl) fl_X7_225 rfl dX7_passSlot_64 ?_
      refine g_iconst (pc := 67) (v := 1) E dX7_passSlot_67 (by decide) ?_
      refine g_iadd (pc := 68) E dX7_passSlot_68 ?_
      refine g_putI (pc := 69) E (by first | assumption | rfl) (by first | assumption | rfl) fw_X7_225 rfl dX7_passSlot_69 ?_
      exact g_vret (pc := 72) E Z dX7_passSlot_72 ⟨rfl, ⟨r7, r13, hr13, by rw [e08, nI_1]; rfl⟩⟩
    show gg C tyX 1 0 0 (alX n sB tB) ad 48 [some (.ref 0)] [.int (x_hv (x_f3 n f g (x_lit n m t f p w) L r7 r13) n)] (x_f4 n f g (x_lit n m t f p w) L r7 r13, x_psG n f g (x_lit n m t f p w) L r7 r13, rfX n sB tB)
    refine g_if_eq (pc := 48) (tgt := 62) E dX7_passSlot_48 (by decide) (fun c_48 => ?_) (fun c_48 => ?_)
    · have K := K62
      rw [show x_f5 n f g (x_lit n m t f p w) L r7 r13 = x_f4 n f g (x_lit n m t f p w) L r7 r13 from if_pos c_48] at K
      exact K
    · have K := K62
      rw [show x_f5 n f g (x_lit n m t f p w) L r7 r13 = z_fnd n (x_f4 n f g (x_lit n m t f p w) L r7 r13) (2 ^ n) from if_neg c_48] at K
      refine g_aload_0 (pc := 51) E dX7_passSlot_51 ?_
      refine g_getR (pc := 52) E (by first | assumption | rfl) (by first | assumption | rfl) fl_X7_19 rfl (by first | assumption | rfl) dX7_passSlot_52 ?_
      refine g_aload_0 (pc := 55) E dX7_passSlot_55 ?_
      refine g_getR (pc := 56) E (by first | assumption | rfl) (by first | assumption | rfl) fl_X7_12 rfl (by first | assumption | rfl) dX7_passSlot_56 ?_
      refine g_cVv1 (pc := 59) E (c_X3_find (by exact e11) h10 (by exact egt) (by exact ebm)) cw_X7_138 (by decide) (by decide) (by first | assumption | rfl) (by first | assumption | rfl) (Nat.le_of_ble_eq_true rfl) dX7_passSlot_59 (fun h_59 hp => ?_)
      subst hp
      exact K
  refine g_aload_0 (pc := 0) E dX7_passSlot_0 ?_
  refine g_getR (pc := 1) E (by first | assumption | rfl) (by first | assumption | rfl) fl_X7_12 rfl (by first | assumption | rfl) dX7_passSlot_1 ?_
  refine g_cVv0 (pc := 4) E (c_X2_takeAsked (by exact hn) h10) cw_X7_260 (by decide) (by decide) (by first | assumption | rfl) (by first | assumption | rfl) (Nat.le_of_ble_eq_true rfl) dX7_passSlot_4 (fun h_4 hp => ?_)
  subst hp
  show gg C tyX 1 0 0 (alX n sB tB) ad 7 [some (.ref 0)] [] (x_f1 n f, x_g1 n f g, rfX n sB tB)
  refine g_aload_0 (pc := 7) E dX7_passSlot_7 ?_
  refine g_aload_0 (pc := 8) E dX7_passSlot_8 ?_
  refine g_getI (pc := 9) E (by first | assumption | rfl) (by first | assumption | rfl) fl_X7_220 rfl dX7_passSlot_9 ?_
  refine g_iconst (pc := 12) (v := 1) E dX7_passSlot_12 (by decide) ?_
  refine g_icmp_ne (pc := 13) (tgt := 23) E dX7_passSlot_13 (by decide) (fun c_13 => ?_) (fun c_13 => ?_)
  · have el : x_lit n m t f p w = z_cut (fun s => decide (¬ f 11 s = 0)) 10 (z_frm m t (f 21)) := if_neg c_13
    refine g_aload_0 (pc := 23) E dX7_passSlot_23 ?_
    refine g_cVi0 (pc := 24) E (c_X7_setOfFrame m (by exact hm) hm2 (by exact hfr) t (by exact ht) ht2 hp0) cw_X7_266 (by decide) (by decide) (by first | assumption | rfl) (by first | assumption | rfl) (Nat.le_of_ble_eq_true rfl) dX7_passSlot_24 (fun v_24 h_24 hp => ?_)
    obtain ⟨rfl, rfl⟩ := hp
    refine g_putI (pc := 27) E (by first | assumption | rfl) (by first | assumption | rfl) fw_X7_41 rfl dX7_passSlot_27 ?_
    first
    | (have e := K30 r7 r13 hr13
       rw [el] at e
       exact e)
    | (have e := K30 (f 7) (f 13) h13
       rw [el] at e
       unfold x_f2 at e
       rw [show va_up (x_f1 n f) 7 (f 7) = x_f1 n f from va_up_id (f := x_f1 n f) (k := 7), show va_up (x_f1 n f) 13 (f 13) = x_f1 n f from va_up_id (f := x_f1 n f) (k := 13)] at e
       exact e)
  · have el : x_lit n m t f p w = z_bN p (z_W w) (2 ^ n) := if_pos c_13
    refine g_aload_0 (pc := 16) E dX7_passSlot_16 ?_
    refine g_cVi0 (pc := 17) E (c_X7_heaviestSet (by exact hn) h10 p w hw hls hdn h13) cw_X7_263 (by decide) (by decide) (by first | assumption | rfl) (by first | assumption | rfl) (Nat.le_of_ble_eq_true rfl) dX7_passSlot_17 (fun v_17 h_17 hp => ?_)
    obtain ⟨rfl, r7, r13, hr13, rfl⟩ := hp
    refine g_goto (pc := 20) (tgt := 27) E dX7_passSlot_20 (by decide) ?_
    refine g_putI (pc := 27) E (by first | assumption | rfl) (by first | assumption | rfl) fw_X7_41 rfl dX7_passSlot_27 ?_
    first
    | (have e := K30 r7 r13 hr13
       rw [el] at e
       exact e)
    | (have e := K30 (f 7) (f 13) h13
       rw [el] at e
       unfold x_f2 at e
       rw [show va_up (x_f1 n f) 7 (f 7) = x_f1 n f from va_up_id (f := x_f1 n f) (k := 7), show va_up (x_f1 n f) 13 (f 13) = x_f1 n f from va_up_id (f := x_f1 n f) (k := 13)] at e
       exact e)
set_option maxHeartbeats 4000000 in
set_option maxRecDepth 100000 in
theorem c_X7_go {n : Nat} {sB tB : Bool} {f : Nat → Nat → Int32} {g : Nat → Nat → Int64} (hn : f 1 1 = nI n) (h10 : n ≤ 10) (hgt : ∀ c, c < n → ∃ j : Nat, j ≤ 2 ∧ f (c + 40) 3 = nI j) (hbm : ∃ b : Nat, b ≤ 4 ∧ f 1 4 = nI b) (m L t : Nat) (ht : f 0 8 = nI t) (ht2 : t ≤ 20000) (x : Int32) (Inv : Nat → (Nat → Nat → Int32) → (Nat → Nat → Int64) → Prop) (hI0 : Inv 0 (z_fnd n f (2 ^ n)) g) (hI : ∀ k F G, t + k < 20000 → k < 200 → Inv k F G → ∃ (p : Nat → Bool) (w : Nat → Nat), x_pre n m L (t + k) F G p w ∧ ∀ r7 r13 : Nat → Int32, r13 0 = 0 → Inv (k + 1) (x_psF n F G (x_lit n m (t + k) F p w) L (t + k) r7 r13) (x_psG n F G (x_lit n m (t + k) F p w) L r7 r13)) (hIt : ∀ k F G, Inv k F G → F 0 8 = nI (t + k)) : q_ConI yX7_go cX7_go 3 (some .int) 4 90 tyX (alX n sB tB) [.ref 0, .int x] (f, g, rfX n sB tB) (fun v h' => (¬ (1 ≤ x.toInt ∧ x.toInt ≤ 200) ∧ v = -2 ∧ h' = (f, g, rfX n sB tB)) ∨ ((1 ≤ x.toInt ∧ x.toInt ≤ 200) ∧ 20000 < t + x.toInt ∧ v = -3 ∧ h' = (f, g, rfX n sB tB)) ∨ (∃ k : Nat, x = nI k ∧ 1 ≤ k ∧ k ≤ 200 ∧ t + k ≤ 20000 ∧ v = nI (t + k) ∧ ∃ F G, Inv k F G ∧ h' = (F, G, rfX n sB tB))) := by
  refine q_Con.of RX7 [some (.ref 0), some (.int x), none] (by decide +kernel) rfl rfl (Nat.le_of_ble_eq_true rfl) (fun C ad E Z => ?_)
  have L0 : ∀ K : Nat, x = nI K → 1 ≤ K → K ≤ 200 → t + K ≤ 20000 → ∀ i, i ≤ K → ∀ (F : Nat → Nat → Int32) (G : Nat → Nat → Int64), Inv i F G → gg C tyX 3 0 0 (alX n sB tB) ad 43 [some (.ref 0), some (.int x), some (.int (nI i))] [] (F, G, rfX n sB tB) := by
    intro K eK hK1 hK2 hK3
    subst eK
    refine q_loop K (fun i hi ih F G hF => ?_)
    refine g_iload_2 (pc := 43) E dX7_go_43 ?_
    refine g_iload_1 (pc := 44) E dX7_go_44 ?_
    refine g_icmp_ge (pc := 45) (tgt := 58) E dX7_go_45 (by decide) (fun c_45 => ?_) (fun c_45 => ?_)
    · have e_45 := (q_ge (x := K) (y := i) rfl rfl (by omega) (by omega)).mp c_45
      refine g_aload_0 (pc := 58) E dX7_go_58 ?_
      refine g_getI (pc := 59) E (by first | assumption | rfl) (by first | assumption | rfl) fl_X7_225 rfl dX7_go_59 ?_
      exact g_iret (pc := 62) E Z dX7_go_62 ⟨_, rfl, Or.inr (Or.inr ⟨K, rfl, hK1, hK2, hK3, (by rw [hIt i F G hF, show i = K by omega]), F, G, (by rw [← show i = K by omega]; exact hF), rfl⟩)⟩
    · have e_45 := (not_congr (q_ge (x := K) (y := i) rfl rfl (by omega) (by omega))).mp c_45
      obtain ⟨p, w, hpre, hnx⟩ := hI i F G (by omega) (by omega) hF
      refine g_aload_0 (pc := 48) E dX7_go_48 ?_
      refine g_cVv0 (pc := 49) E (c_X7_passSlot m L (t + i) p w hpre) cw_X7_228 (by decide) (by decide) (by first | assumption | rfl) (by first | assumption | rfl) (Nat.le_of_ble_eq_true rfl) dX7_go_49 (fun h_49 hp => ?_)
      obtain ⟨r7, r13, hr, rfl⟩ := hp
      refine g_iinc_2 (pc := 52) (u := 1) E dX7_go_52 (by decide) (by decide) rfl ?_
      refine g_goto (pc := 55) (tgt := 43) E dX7_go_55 (by decide) ?_
      rw [nI_1]
      exact ih (by omega) _ _ (hnx r7 r13 hr)
  have hti : (f 0 8).toInt = t := by rw [ht]; exact nI_toInt (by omega)
  refine g_iload_1 (pc := 0) E dX7_go_0 ?_
  refine g_i2l (pc := 1) E dX7_go_1 ?_
  refine g_lconst (pc := 2) (v := 1) E dX7_go_2 (by decide) ?_
  refine g_ldc2 (pc := 3) E kw_X7_223 dX7_go_3 ?_
  refine g_cSi3 (pc := 6) E (c_X7_isWithinI _ _ _ 1 200 (by decide) (by decide)) cw_X7_47 (by decide) (by decide) (Nat.le_of_ble_eq_true rfl) dX7_go_6 (fun v_6 h_6 hp => ?_)
  obtain ⟨rfl, rfl⟩ := hp
  refine g_if_ne (pc := 9) (tgt := 15) E dX7_go_9 (by decide) (fun c_9 => ?_) (fun c_9 => ?_)
  · have k_9 := q_b1.mp c_9
    refine g_iload_1 (pc := 15) E dX7_go_15 ?_
    refine g_sipush (pc := 16) (v := 20000) E dX7_go_16 (by decide) ?_
    refine g_aload_0 (pc := 19) E dX7_go_19 ?_
    refine g_getI (pc := 20) E (by first | assumption | rfl) (by first | assumption | rfl) fl_X7_225 rfl dX7_go_20 ?_
    refine g_isub (pc := 23) E dX7_go_23 ?_
    refine g_icmp_le (pc := 24) (tgt := 30) E dX7_go_24 (by decide) (fun c_24 => ?_) (fun c_24 => ?_)
    · obtain ⟨K, hK, rfl⟩ := q_nat (b := 200) (x := x) (by omega) (by omega)
      have eK : (nI K).toInt = K := nI_toInt (by omega)
      have k24 : t + K ≤ 20000 := by
        have q := c_24
        rw [ht, q_ile, show (20000 : Int32) = nI 20000 from rfl, pk_sub_toInt (by omega) (by omega), nI_toInt (by omega)] at q
        omega
      refine g_aload_0 (pc := 30) E dX7_go_30 ?_
      refine g_getR (pc := 31) E (by first | assumption | rfl) (by first | assumption | rfl) fl_X7_19 rfl (by first | assumption | rfl) dX7_go_31 ?_
      refine g_aload_0 (pc := 34) E dX7_go_34 ?_
      refine g_getR (pc := 35) E (by first | assumption | rfl) (by first | assumption | rfl) fl_X7_12 rfl (by first | assumption | rfl) dX7_go_35 ?_
      refine g_cVv1 (pc := 38) E (c_X3_find (by exact hn) h10 (by exact hgt) (by exact hbm)) cw_X7_138 (by decide) (by decide) (by first | assumption | rfl) (by first | assumption | rfl) (Nat.le_of_ble_eq_true rfl) dX7_go_38 (fun h_38 hp => ?_)
      subst hp
      refine g_iconst (pc := 41) (v := 0) E dX7_go_41 (by decide) ?_
      refine g_istore_2 (pc := 42) E dX7_go_42 (by decide) rfl ?_
      exact L0 K rfl (by omega) hK k24 0 (Nat.zero_le _) _ _ hI0
    · obtain ⟨K, hK, rfl⟩ := q_nat (b := 200) (x := x) (by omega) (by omega)
      have eK : (nI K).toInt = K := nI_toInt (by omega)
      have k24 : 20000 < t + K := by
        have q := c_24
        rw [ht, q_ile, show (20000 : Int32) = nI 20000 from rfl, pk_sub_toInt (by omega) (by omega), nI_toInt (by omega)] at q
        omega
      refine g_bipush (pc := 27) (v := -3) E dX7_go_27 (by decide) ?_
      exact g_iret (pc := 29) E Z dX7_go_29 ⟨_, rfl, Or.inr (Or.inl ⟨k_9, by omega, rfl, rfl⟩)⟩
  · have k_9 := q_b0.mp c_9
    refine g_bipush (pc := 12) (v := -2) E dX7_go_12 (by decide) ?_
    exact g_iret (pc := 14) E Z dX7_go_14 ⟨_, rfl, Or.inl ⟨k_9, rfl, rfl⟩⟩
