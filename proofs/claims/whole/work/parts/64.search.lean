/-! the class: prepare, chooseWidest, spotOf -/
def x_pF (f : Nat → Nat → Int32) : Nat → Nat → Int32 := q_up (q_up (q_up (q_fill f 24 0 8192 (fun _ => 0)) 5 2 0) 5 8 0) 5 7 0
set_option maxHeartbeats 4000000 in
set_option maxRecDepth 100000 in
theorem c_X4_prepare {n : Nat} {tB : Bool} {f : Nat → Nat → Int32} {g : Nat → Nat → Int64} (h10 : n ≤ 10) (p : Nat → Bool) (hls : z_lst1 n p f) : q_ConV yX4_prepare cX4_prepare 3 none 2 44 tyX (alX n true tB) [.ref 5, .ref 2] (f, g, rfX n true tB) (fun h' => ∃ (r25 : Nat → Int32) (r26 : Nat → Int64), (∀ s, s < 2 ^ n → p s = true → r25 (z_ct p s) = nI (z_rb (fun s => decide (¬ f 11 s = 0)) s 10)) ∧ (∀ s, s < 2 ^ n → p s = true → r26 (z_ct p s) = lN (z_on s)) ∧ h' = (va_up (x_pF f) 25 r25, va_up g 26 r26, rfX n true tB)) := by
  refine q_Con.of RX4 [some (.ref 5), some (.ref 2), none] (by decide +kernel) rfl rfl (Nat.le_of_ble_eq_true rfl) (fun C ad E Z => ?_)
  have p10 : 2 ^ n ≤ 2 ^ 10 := Nat.pow_le_pow_right (by decide) h10
  obtain ⟨hsz, h386, hli⟩ := hls
  have L : ∀ b, b ≤ 2 ^ n → ∀ (r25 : Nat → Int32) (r26 : Nat → Int64), (∀ s, s < b → p s = true → r25 (z_ct p s) = nI (z_rb (fun s => decide (¬ f 11 s = 0)) s 10)) → (∀ s, s < b → p s = true → r26 (z_ct p s) = lN (z_on s)) → gg C tyX 3 0 0 (alX n true tB) ad 25 [some (.ref 5), some (.ref 2), some (.int (nI (z_ct p b)))] [] (va_up (x_pF f) 25 r25, va_up g 26 r26, rfX n true tB) := by
    refine q_loop (2 ^ n) (fun b hb ih r25 r26 h25 h26 => ?_)
    have hsz1 : va_up (x_pF f) 25 r25 2 2 = nI (z_ct p (2 ^ n)) := hsz
    have hct : z_ct p b ≤ z_ct p (2 ^ n) := z_ct_mono hb
    by_cases hbn : b < 2 ^ n
    · by_cases hpb : p b = true
      · have hct2 : z_ct p b + 1 ≤ z_ct p (2 ^ n) := by rw [← z_ct_t hpb]; exact z_ct_mono hbn
        have eL : ∀ r : Nat → Int32, va_up (x_pF f) 25 r 12 (z_ct p b) = nI b := fun r => hli b hbn hpb
        refine g_iload_2 (pc := 25) E dX4_prepare_25 ?_
        refine g_aload_1 (pc := 26) E dX4_prepare_26 ?_
        refine g_getI (pc := 27) E (by first | assumption | rfl) (by first | assumption | rfl) fl_X4_74 rfl dX4_prepare_27 ?_
        refine g_icmp_ge (pc := 30) (tgt := 70) E dX4_prepare_30 (by decide) (fun c_30 => ?_) (fun c_30 => ?_)
        · exact absurd ((q_ge (x := z_ct p (2 ^ n)) (y := z_ct p b) hsz1 rfl (by omega) (by omega)).mp c_30) (by omega)
        · refine g_aload_0 (pc := 33) E dX4_prepare_33 ?_
          refine g_getR (pc := 34) E (by first | assumption | rfl) (by first | assumption | rfl) fl_X4_22 rfl (by first | assumption | rfl) dX4_prepare_34 ?_
          refine g_iload_2 (pc := 37) E dX4_prepare_37 ?_
          refine g_aload_1 (pc := 38) E dX4_prepare_38 ?_
          refine g_aload_1 (pc := 39) E dX4_prepare_39 ?_
          refine g_getR (pc := 40) E (by first | assumption | rfl) (by first | assumption | rfl) fl_X4_57 rfl (by first | assumption | rfl) dX4_prepare_40 ?_
          refine g_iload_2 (pc := 43) E dX4_prepare_43 ?_
          refine g_iald (pc := 44) E (by first | assumption | rfl) (by first | assumption | rfl) dX4_prepare_44 (q_ix_n (by omega)) ?_
          rw [eL]
          refine g_cVi1 (pc := 45) E (c_X3_roomBeside b (by omega)) cw_X4_75 (by decide) (by decide) (by first | assumption | rfl) (by first | assumption | rfl) (Nat.le_of_ble_eq_true rfl) dX4_prepare_45 (fun v_45 h_45 hp => ?_)
          obtain ⟨rfl, rfl⟩ := hp
          refine g_iast (pc := 48) E (by first | assumption | rfl) (by first | assumption | rfl) dX4_prepare_48 (q_ix_n (by omega)) ?_
          refine g_aload_0 (pc := 49) E dX4_prepare_49 ?_
          refine g_getR (pc := 50) E (by first | assumption | rfl) (by first | assumption | rfl) fl_X4_25 rfl (by first | assumption | rfl) dX4_prepare_50 ?_
          refine g_iload_2 (pc := 53) E dX4_prepare_53 ?_
          refine g_aload_1 (pc := 54) E dX4_prepare_54 ?_
          refine g_getR (pc := 55) E (by first | assumption | rfl) (by first | assumption | rfl) fl_X4_57 rfl (by first | assumption | rfl) dX4_prepare_55 ?_
          refine g_iload_2 (pc := 58) E dX4_prepare_58 ?_
          refine g_iald (pc := 59) E (by first | assumption | rfl) (by first | assumption | rfl) dX4_prepare_59 (q_ix_n (by omega)) ?_
          rw [q_upr, eL]
          refine g_cSl1 (pc := 60) E (c_X4_onceEach b (by omega)) cw_X4_79 (by decide) (by decide) (Nat.le_of_ble_eq_true rfl) dX4_prepare_60 (fun v_60 h_60 hp => ?_)
          obtain ⟨rfl, rfl⟩ := hp
          refine g_last (pc := 63) E (by first | assumption | rfl) (by first | assumption | rfl) dX4_prepare_63 (q_ix_n (by omega)) ?_
          refine g_iinc_2 (pc := 64) (u := 1) E dX4_prepare_64 (by decide) (by decide) rfl ?_
          refine g_goto (pc := 67) (tgt := 25) E dX4_prepare_67 (by decide) ?_
          rw [nI_1, q_upr]
          have e := ih hbn (va_up r25 (z_ct p b) (nI (z_rb (fun s => decide (¬ f 11 s = 0)) b 10))) (va_up r26 (z_ct p b) (lN (z_on b))) (fun s hs hps => by
            by_cases es : s = b
            · subst es; rw [va_up_s]
            · have := z_ct_mono (p := p) (show s + 1 ≤ b by omega)
              rw [z_ct_t hps] at this
              rw [va_up_n (by omega)]; exact h25 s (by omega) hps) (fun s hs hps => by
            by_cases es : s = b
            · subst es; rw [va_up_s]
            · have := z_ct_mono (p := p) (show s + 1 ≤ b by omega)
              rw [z_ct_t hps] at this
              rw [va_up_n (by omega)]; exact h26 s (by omega) hps)
          rw [z_ct_t hpb] at e
          exact e
      · have e := ih hbn r25 r26 (fun s hs hps => h25 s (by
          rcases Nat.lt_or_eq_of_le (Nat.lt_succ_iff.mp hs) with q | q
          · exact q
          · subst q; exact absurd hps hpb) hps) (fun s hs hps => h26 s (by
          rcases Nat.lt_or_eq_of_le (Nat.lt_succ_iff.mp hs) with q | q
          · exact q
          · subst q; exact absurd hps hpb) hps)
        rw [z_ct_f hpb] at e
        exact e
    · have eb : b = 2 ^ n := by omega
      subst eb
      refine g_iload_2 (pc := 25) E dX4_prepare_25 ?_
      refine g_aload_1 (pc := 26) E dX4_prepare_26 ?_
      refine g_getI (pc := 27) E (by first | assumption | rfl) (by first | assumption | rfl) fl_X4_74 rfl dX4_prepare_27 ?_
      refine g_icmp_ge (pc := 30) (tgt := 70) E dX4_prepare_30 (by decide) (fun c_30 => ?_) (fun c_30 => ?_)
      · exact g_vret (pc := 70) E Z dX4_prepare_70 ⟨rfl, ⟨r25, r26, h25, h26, rfl⟩⟩
      · exact absurd ((q_ge (x := z_ct p (2 ^ n)) (y := z_ct p (2 ^ n)) hsz1 rfl (by omega) (by omega)).mpr (Nat.le_refl _)) c_30
  refine g_aload_0 (pc := 0) E dX4_prepare_0 ?_
  refine g_getR (pc := 1) E (by first | assumption | rfl) (by first | assumption | rfl) fl_X4_19 rfl (by first | assumption | rfl) dX4_prepare_1 ?_
  refine g_iconst (pc := 4) (v := 0) E dX4_prepare_4 (by decide) ?_
  refine g_cSv2 (pc := 5) E (c_J7_fill_53178 24 8192 rfl rfl (by decide) 0) cw_X4_65 (by decide) (by decide) (Nat.le_of_ble_eq_true rfl) dX4_prepare_5 (fun h_5 hp => ?_)
  subst hp
  refine g_aload_0 (pc := 8) E dX4_prepare_8 ?_
  refine g_iconst (pc := 9) (v := 0) E dX4_prepare_9 (by decide) ?_
  refine g_putI (pc := 10) E (by first | assumption | rfl) (by first | assumption | rfl) fw_X4_43 rfl dX4_prepare_10 ?_
  refine g_aload_0 (pc := 13) E dX4_prepare_13 ?_
  refine g_iconst (pc := 14) (v := 0) E dX4_prepare_14 (by decide) ?_
  refine g_putI (pc := 15) E (by first | assumption | rfl) (by first | assumption | rfl) fw_X4_71 rfl dX4_prepare_15 ?_
  refine g_aload_0 (pc := 18) E dX4_prepare_18 ?_
  refine g_iconst (pc := 19) (v := 0) E dX4_prepare_19 (by decide) ?_
  refine g_putI (pc := 20) E (by first | assumption | rfl) (by first | assumption | rfl) fw_X4_54 rfl dX4_prepare_20 ?_
  refine g_iconst (pc := 23) (v := 0) E dX4_prepare_23 (by decide) ?_
  refine g_istore_2 (pc := 24) E dX4_prepare_24 (by decide) rfl ?_
  have e := L 0 (Nat.zero_le _) (f 25) (g 26) (fun s hs => absurd hs (Nat.not_lt_zero s)) (fun s hs => absurd hs (Nat.not_lt_zero s))
  rw [show va_up (x_pF f) 25 (f 25) = x_pF f from va_up_id (f := x_pF f) (k := 25), va_up_id] at e
  exact e
def x_wq (q p : Nat → Bool) (l t : Nat) : Bool := p t && (decide (nI t &&& (nI l ^^^ -1) = 0) && decide (nI (z_rb q t 10) &&& nI l = 0))
theorem x_wq_t {q p : Nat → Bool} {l t : Nat} : x_wq q p l t = true ↔ p t = true ∧ nI t &&& (nI l ^^^ -1) = 0 ∧ nI (z_rb q t 10) &&& nI l = 0 := by
  simp only [x_wq, Bool.and_eq_true, decide_eq_true_eq]
abbrev x_wd (n : Nat) (q p : Nat → Bool) (l : Nat) (f : Nat → Nat → Int32) : Prop := f 5 7 = nI (z_ct (x_wq q p l) (2 ^ n)) ∧ ∀ t, t < 2 ^ n → x_wq q p l t = true → f 27 (z_ct (x_wq q p l) t) = nI (z_ct p t)
set_option maxHeartbeats 4000000 in
set_option maxRecDepth 100000 in
theorem c_X4_chooseWidest {n : Nat} {tB : Bool} {f : Nat → Nat → Int32} {g : Nat → Nat → Int64} (h10 : n ≤ 10) (p : Nat → Bool) (hls : z_lst1 n p f) (h25 : ∀ s, s < 2 ^ n → p s = true → f 25 (z_ct p s) = nI (z_rb (fun s => decide (¬ f 11 s = 0)) s 10)) (l : Nat) (hl : l < 1024) (hwd : f 5 8 = nI l → x_wd n (fun s => decide (¬ f 11 s = 0)) p l f) : q_ConV yX4_chooseWidest cX4_chooseWidest 4 none 0 0 tyX (alX n true tB) [.ref 5, .ref 2, .int (nI l)] (f, g, rfX n true tB) (fun h' => ∃ r5 r27 : Nat → Int32, r5 2 = f 5 2 ∧ r5 8 = nI l ∧ x_wd n (fun s => decide (¬ f 11 s = 0)) p l (va_up (va_up f 5 r5) 27 r27) ∧ h' = (va_up (va_up f 5 r5) 27 r27, g, rfX n true tB)) := by
  refine q_Con.of RX4 [some (.ref 5), some (.ref 2), some (.int (nI l)), none] (by decide +kernel) rfl rfl (Nat.le_of_ble_eq_true rfl) (fun C ad E Z => ?_)
  have p10 : 2 ^ n ≤ 2 ^ 10 := Nat.pow_le_pow_right (by decide) h10
  obtain ⟨hsz, h386, hli⟩ := hls
  have L : ∀ b, b ≤ 2 ^ n → ∀ (r27 : Nat → Int32), (∀ s, s < b → (x_wq (fun s => decide (¬ f 11 s = 0)) p l) s = true → r27 (z_ct (x_wq (fun s => decide (¬ f 11 s = 0)) p l) s) = nI (z_ct p s)) → gg C tyX 4 0 0 (alX n true tB) ad 21 [some (.ref 5), some (.ref 2), some (.int (nI l)), some (.int (nI (z_ct p b)))] [] (va_up (va_up f 5 (va_up (va_up (f 5) 8 (nI l)) 7 (nI (z_ct (x_wq (fun s => decide (¬ f 11 s = 0)) p l) b)))) 27 r27, g, rfX n true tB) := by
    refine q_loop (2 ^ n) (fun b hb ih r27 h27 => ?_)
    have hsz1 : va_up (va_up f 5 (va_up (va_up (f 5) 8 (nI l)) 7 (nI (z_ct (x_wq (fun s => decide (¬ f 11 s = 0)) p l) b)))) 27 r27 2 2 = nI (z_ct p (2 ^ n)) := hsz
    have hct : z_ct p b ≤ z_ct p (2 ^ n) := z_ct_mono hb
    have hsub : z_ct (x_wq (fun s => decide (¬ f 11 s = 0)) p l) b ≤ z_ct p b := z_ct_sub (fun s _ h => (x_wq_t.mp h).1)
    by_cases hbn : b < 2 ^ n
    · by_cases hpb : p b = true
      · have hct2 : z_ct p b + 1 ≤ z_ct p (2 ^ n) := by rw [← z_ct_t hpb]; exact z_ct_mono hbn
        have eL : va_up (va_up f 5 (va_up (va_up (f 5) 8 (nI l)) 7 (nI (z_ct (x_wq (fun s => decide (¬ f 11 s = 0)) p l) b)))) 27 r27 12 (z_ct p b) = nI b := hli b hbn hpb
        have eB : va_up (va_up f 5 (va_up (va_up (f 5) 8 (nI l)) 7 (nI (z_ct (x_wq (fun s => decide (¬ f 11 s = 0)) p l) b)))) 27 r27 25 (z_ct p b) = nI (z_rb (fun s => decide (¬ f 11 s = 0)) b 10) := h25 b hbn hpb
        refine g_iload_3 (pc := 21) E dX4_chooseWidest_21 ?_
        refine g_aload_1 (pc := 22) E dX4_chooseWidest_22 ?_
        refine g_getI (pc := 23) E (by first | assumption | rfl) (by first | assumption | rfl) fl_X4_74 rfl dX4_chooseWidest_23 ?_
        refine g_icmp_ge (pc := 26) (tgt := 79) E dX4_chooseWidest_26 (by decide) (fun c_26 => ?_) (fun c_26 => ?_)
        · exact absurd ((q_ge (x := z_ct p (2 ^ n)) (y := z_ct p b) hsz1 rfl (by omega) (by omega)).mp c_26) (by omega)
        · refine g_aload_1 (pc := 29) E dX4_chooseWidest_29 ?_
          refine g_getR (pc := 30) E (by first | assumption | rfl) (by first | assumption | rfl) fl_X4_57 rfl (by first | assumption | rfl) dX4_chooseWidest_30 ?_
          refine g_iload_3 (pc := 33) E dX4_chooseWidest_33 ?_
          refine g_iald (pc := 34) E (by first | assumption | rfl) (by first | assumption | rfl) dX4_chooseWidest_34 (q_ix_n (by omega)) ?_
          refine g_iload_2 (pc := 35) E dX4_chooseWidest_35 ?_
          refine g_iconst (pc := 36) (v := -1) E dX4_chooseWidest_36 (by decide) ?_
          refine g_ixor (pc := 37) E dX4_chooseWidest_37 ?_
          refine g_iand (pc := 38) E dX4_chooseWidest_38 ?_
          refine g_if_ne (pc := 39) (tgt := 73) E dX4_chooseWidest_39 (by decide) (fun c_39 => ?_) (fun c_39 => ?_)
          · have hno : ¬ (x_wq (fun s => decide (¬ f 11 s = 0)) p l) b = true := fun q => c_39 (by rw [eL]; exact (x_wq_t.mp q).2.1)
            refine g_iinc_3 (pc := 73) (u := 1) E dX4_chooseWidest_73 (by decide) (by decide) rfl ?_
            refine g_goto (pc := 76) (tgt := 21) E dX4_chooseWidest_76 (by decide) ?_
            first
            | (have hno := hno
               rw [nI_1]
               have e := ih hbn r27 (fun s hs hps => h27 s (by
                 rcases Nat.lt_or_eq_of_le (Nat.lt_succ_iff.mp hs) with q | q
                 · exact q
                 · subst q; exact absurd hps hno) hps)
               rw [z_ct_t hpb, z_ct_f hno] at e
               exact e)
            | (rw [nI_1, q_upr, q_upc (by decide), q_upr]
               have e := ih hbn (va_up r27 (z_ct (x_wq (fun s => decide (¬ f 11 s = 0)) p l) b) (nI (z_ct p b))) (fun s hs hps => by
                 by_cases es : s = b
                 · subst es; rw [va_up_s]
                 · have := z_ct_mono (p := (x_wq (fun s => decide (¬ f 11 s = 0)) p l)) (show s + 1 ≤ b by omega)
                   rw [z_ct_t hps] at this
                   rw [va_up_n (by omega)]; exact h27 s (by omega) hps)
               rw [z_ct_t hpb, z_ct_t hyes] at e
               rw [show va_up (va_up f 5 (va_up (va_up (f 5) 8 (nI l)) 7 (nI (z_ct (x_wq (fun s => decide (¬ f 11 s = 0)) p l) b)))) 27 (va_up r27 (z_ct (x_wq (fun s => decide (¬ f 11 s = 0)) p l) b) (nI (z_ct p b))) 5 7 = nI (z_ct (x_wq (fun s => decide (¬ f 11 s = 0)) p l) b) from rfl, nI_1, va_up_u]
               exact e)
          · rw [eL] at c_39
            refine g_aload_0 (pc := 42) E dX4_chooseWidest_42 ?_
            refine g_getR (pc := 43) E (by first | assumption | rfl) (by first | assumption | rfl) fl_X4_22 rfl (by first | assumption | rfl) dX4_chooseWidest_43 ?_
            refine g_iload_3 (pc := 46) E dX4_chooseWidest_46 ?_
            refine g_iald (pc := 47) E (by first | assumption | rfl) (by first | assumption | rfl) dX4_chooseWidest_47 (q_ix_n (by omega)) ?_
            refine g_iload_2 (pc := 48) E dX4_chooseWidest_48 ?_
            refine g_iand (pc := 49) E dX4_chooseWidest_49 ?_
            refine g_if_ne (pc := 50) (tgt := 73) E dX4_chooseWidest_50 (by decide) (fun c_50 => ?_) (fun c_50 => ?_)
            · have hno : ¬ (x_wq (fun s => decide (¬ f 11 s = 0)) p l) b = true := fun q => c_50 (by rw [eB]; exact (x_wq_t.mp q).2.2)
              refine g_iinc_3 (pc := 73) (u := 1) E dX4_chooseWidest_73 (by decide) (by decide) rfl ?_
              refine g_goto (pc := 76) (tgt := 21) E dX4_chooseWidest_76 (by decide) ?_
              first
              | (have hno := hno
                 rw [nI_1]
                 have e := ih hbn r27 (fun s hs hps => h27 s (by
                   rcases Nat.lt_or_eq_of_le (Nat.lt_succ_iff.mp hs) with q | q
                   · exact q
                   · subst q; exact absurd hps hno) hps)
                 rw [z_ct_t hpb, z_ct_f hno] at e
                 exact e)
              | (rw [nI_1, q_upr, q_upc (by decide), q_upr]
                 have e := ih hbn (va_up r27 (z_ct (x_wq (fun s => decide (¬ f 11 s = 0)) p l) b) (nI (z_ct p b))) (fun s hs hps => by
                   by_cases es : s = b
                   · subst es; rw [va_up_s]
                   · have := z_ct_mono (p := (x_wq (fun s => decide (¬ f 11 s = 0)) p l)) (show s + 1 ≤ b by omega)
                     rw [z_ct_t hps] at this
                     rw [va_up_n (by omega)]; exact h27 s (by omega) hps)
                 rw [z_ct_t hpb, z_ct_t hyes] at e
                 rw [show va_up (va_up f 5 (va_up (va_up (f 5) 8 (nI l)) 7 (nI (z_ct (x_wq (fun s => decide (¬ f 11 s = 0)) p l) b)))) 27 (va_up r27 (z_ct (x_wq (fun s => decide (¬ f 11 s = 0)) p l) b) (nI (z_ct p b))) 5 7 = nI (z_ct (x_wq (fun s => decide (¬ f 11 s = 0)) p l) b) from rfl, nI_1, va_up_u]
                 exact e)
            · rw [eB] at c_50
              have hyes : (x_wq (fun s => decide (¬ f 11 s = 0)) p l) b = true := x_wq_t.mpr ⟨hpb, c_39, c_50⟩
              refine g_aload_0 (pc := 53) E dX4_chooseWidest_53 ?_
              refine g_getR (pc := 54) E (by first | assumption | rfl) (by first | assumption | rfl) fl_X4_28 rfl (by first | assumption | rfl) dX4_chooseWidest_54 ?_
              refine g_aload_0 (pc := 57) E dX4_chooseWidest_57 ?_
              refine g_getI (pc := 58) E (by first | assumption | rfl) (by first | assumption | rfl) fl_X4_54 rfl dX4_chooseWidest_58 ?_
              refine g_iload_3 (pc := 61) E dX4_chooseWidest_61 ?_
              refine g_iast (pc := 62) E (by first | assumption | rfl) (by first | assumption | rfl) dX4_chooseWidest_62 (q_ix_e (j := z_ct (x_wq (fun s => decide (¬ f 11 s = 0)) p l) b) rfl (by omega)) ?_
              refine g_aload_0 (pc := 63) E dX4_chooseWidest_63 ?_
              first | refine g_dupi (pc := 64) E dX4_chooseWidest_64 ?_ | refine g_dupr (pc := 64) E dX4_chooseWidest_64 ?_
              refine g_getI (pc := 65) E (by first | assumption | rfl) (by first | assumption | rfl) fl_X4_54 rfl dX4_chooseWidest_65 ?_
              refine g_iconst (pc := 68) (v := 1) E dX4_chooseWidest_68 (by decide) ?_
              refine g_iadd (pc := 69) E dX4_chooseWidest_69 ?_
              refine g_putI (pc := 70) E (by first | assumption | rfl) (by first | assumption | rfl) fw_X4_54 rfl dX4_chooseWidest_70 ?_
              refine g_iinc_3 (pc := 73) (u := 1) E dX4_chooseWidest_73 (by decide) (by decide) rfl ?_
              refine g_goto (pc := 76) (tgt := 21) E dX4_chooseWidest_76 (by decide) ?_
              first
              | (have hno := hno
                 rw [nI_1]
                 have e := ih hbn r27 (fun s hs hps => h27 s (by
                   rcases Nat.lt_or_eq_of_le (Nat.lt_succ_iff.mp hs) with q | q
                   · exact q
                   · subst q; exact absurd hps hno) hps)
                 rw [z_ct_t hpb, z_ct_f hno] at e
                 exact e)
              | (rw [nI_1, q_upr, q_upc (by decide), q_upr]
                 have e := ih hbn (va_up r27 (z_ct (x_wq (fun s => decide (¬ f 11 s = 0)) p l) b) (nI (z_ct p b))) (fun s hs hps => by
                   by_cases es : s = b
                   · subst es; rw [va_up_s]
                   · have := z_ct_mono (p := (x_wq (fun s => decide (¬ f 11 s = 0)) p l)) (show s + 1 ≤ b by omega)
                     rw [z_ct_t hps] at this
                     rw [va_up_n (by omega)]; exact h27 s (by omega) hps)
                 rw [z_ct_t hpb, z_ct_t hyes] at e
                 rw [show va_up (va_up f 5 (va_up (va_up (f 5) 8 (nI l)) 7 (nI (z_ct (x_wq (fun s => decide (¬ f 11 s = 0)) p l) b)))) 27 (va_up r27 (z_ct (x_wq (fun s => decide (¬ f 11 s = 0)) p l) b) (nI (z_ct p b))) 5 7 = nI (z_ct (x_wq (fun s => decide (¬ f 11 s = 0)) p l) b) from rfl, nI_1, va_up_u]
                 exact e)
      · have hno : ¬ (x_wq (fun s => decide (¬ f 11 s = 0)) p l) b = true := fun q => hpb (x_wq_t.mp q).1
        have e := ih hbn r27 (fun s hs hps => h27 s (by
          rcases Nat.lt_or_eq_of_le (Nat.lt_succ_iff.mp hs) with q | q
          · exact q
          · subst q; exact absurd hps hno) hps)
        rw [z_ct_f hpb, z_ct_f hno] at e
        exact e
    · have eb : b = 2 ^ n := by omega
      subst eb
      refine g_iload_3 (pc := 21) E dX4_chooseWidest_21 ?_
      refine g_aload_1 (pc := 22) E dX4_chooseWidest_22 ?_
      refine g_getI (pc := 23) E (by first | assumption | rfl) (by first | assumption | rfl) fl_X4_74 rfl dX4_chooseWidest_23 ?_
      refine g_icmp_ge (pc := 26) (tgt := 79) E dX4_chooseWidest_26 (by decide) (fun c_26 => ?_) (fun c_26 => ?_)
      · exact g_vret (pc := 79) E Z dX4_chooseWidest_79 ⟨rfl, ⟨(va_up (va_up (f 5) 8 (nI l)) 7 (nI (z_ct (x_wq (fun s => decide (¬ f 11 s = 0)) p l) (2 ^ n)))), r27, rfl, rfl, ⟨rfl, h27⟩, rfl⟩⟩
      · exact absurd ((q_ge (x := z_ct p (2 ^ n)) (y := z_ct p (2 ^ n)) hsz1 rfl (by omega) (by omega)).mpr (Nat.le_refl _)) c_26
  refine g_iload_2 (pc := 0) E dX4_chooseWidest_0 ?_
  refine g_aload_0 (pc := 1) E dX4_chooseWidest_1 ?_
  refine g_getI (pc := 2) E (by first | assumption | rfl) (by first | assumption | rfl) fl_X4_71 rfl dX4_chooseWidest_2 ?_
  refine g_icmp_ne (pc := 5) (tgt := 9) E dX4_chooseWidest_5 (by decide) (fun c_5 => ?_) (fun c_5 => ?_)
  · refine g_aload_0 (pc := 9) E dX4_chooseWidest_9 ?_
    refine g_iload_2 (pc := 10) E dX4_chooseWidest_10 ?_
    refine g_putI (pc := 11) E (by first | assumption | rfl) (by first | assumption | rfl) fw_X4_71 rfl dX4_chooseWidest_11 ?_
    refine g_aload_0 (pc := 14) E dX4_chooseWidest_14 ?_
    refine g_iconst (pc := 15) (v := 0) E dX4_chooseWidest_15 (by decide) ?_
    refine g_putI (pc := 16) E (by first | assumption | rfl) (by first | assumption | rfl) fw_X4_54 rfl dX4_chooseWidest_16 ?_
    refine g_iconst (pc := 19) (v := 0) E dX4_chooseWidest_19 (by decide) ?_
    refine g_istore_3 (pc := 20) E dX4_chooseWidest_20 (by decide) rfl ?_
    have e := L 0 (Nat.zero_le _) (f 27) (fun s hs => absurd hs (Nat.not_lt_zero s))
    rw [show va_up (va_up f 5 (va_up (va_up (f 5) 8 (nI l)) 7 (nI (z_ct (x_wq (fun s => decide (¬ f 11 s = 0)) p l) 0)))) 27 (f 27) = va_up f 5 (va_up (va_up (f 5) 8 (nI l)) 7 (nI (z_ct (x_wq (fun s => decide (¬ f 11 s = 0)) p l) 0))) from va_up_id (f := va_up f 5 (va_up (va_up (f 5) 8 (nI l)) 7 (nI (z_ct (x_wq (fun s => decide (¬ f 11 s = 0)) p l) 0)))) (k := 27)] at e
    rw [q_up_va (f := q_up f 5 8 (nI l)), q_up_eq, q_up_va, va_up_u]
    exact e
  · have hx := hwd c_5.symm
    exact g_vret (pc := 8) E Z dX4_chooseWidest_8 ⟨rfl, ⟨f 5, f 27, rfl, c_5.symm, (by rw [va_up_id, va_up_id]; exact hx), (by rw [va_up_id, va_up_id])⟩⟩
def x_hx (e : Nat) : Nat := (lN e * -7046029254386353131).toBitVec.toNat / 2 ^ 51
theorem x_hx_lt (e : Nat) : x_hx e < 8192 := by
  unfold x_hx
  have := (lN e * -7046029254386353131).toBitVec.isLt
  omega
theorem x_hx_s (e : Nat) : ((lN e * -7046029254386353131).toUInt64 >>> ((51 : Int32).toInt64.toUInt64 &&& Int64.toUInt64 63)).toInt64.toInt32 = nI (x_hx e) := by
  obtain ⟨N, hN, eN⟩ := wb_of (lN e * -7046029254386353131)
  have h1 : x_hx e = N / 2 ^ 51 := by unfold x_hx; rw [eN, wb_tn hN]
  have hl := x_hx_lt e
  rw [eN, show (51 : Int32) = nI 51 from rfl, wb_shr hN (by decide), ← h1, q_l2i (by rw [pf_lI (by omega)]; omega) (by rw [pf_lI (by omega)]; omega), pf_lI (by omega), Int.toNat_natCast]
abbrev x_TI (S : BS) (tb : Nat → Nat) : Prop := (∀ i, i < 8192 → tb i ≤ S.1) ∧ (∀ j, j < S.1 → ∃ d, d < 8192 ∧ tb ((x_hx (S.2.1 j) + d) % 8192) = j + 1 ∧ ∀ u, u < d → ¬ tb ((x_hx (S.2.1 j) + u) % 8192) = 0) ∧ z_ct (fun i => decide (¬ tb i = 0)) 8192 ≤ S.1
theorem z_ct_all {p : Nat → Bool} : ∀ {m : Nat}, (∀ i, i < m → p i = true) → z_ct p m = m
  | 0, _ => rfl
  | m + 1, h => by rw [z_ct_t (h m (by omega)), z_ct_all (fun i hi => h i (by omega))]
theorem z_ct_up {tb : Nat → Nat} {r v : Nat} : ∀ {m : Nat}, z_ct (fun i => decide (¬ va_up tb r v i = 0)) m ≤ z_ct (fun i => decide (¬ tb i = 0)) m + (if r < m then 1 else 0)
  | 0 => Nat.zero_le _
  | m + 1 => by
    have ih := z_ct_up (tb := tb) (r := r) (v := v) (m := m)
    rw [z_ct, z_ct]
    by_cases e : m = r
    · subst e
      rw [if_neg (Nat.lt_irrefl m)] at ih
      rw [if_pos (Nat.lt_succ_self m)]
      split <;> split <;> omega
    · rw [show va_up tb r v m = tb m from va_up_n e]
      split at ih
      · rw [if_pos (show r < m + 1 by omega)]; split <;> omega
      · rw [if_neg (show ¬ r < m + 1 by omega)]; split <;> omega
theorem x_TI_psh {S : BS} {tb : Nat → Nat} {x a t r d : Nat} (h : x_TI S tb) (hd : d < 8192) (hr : r = (x_hx x + d) % 8192) (h0 : tb r = 0) (hu : ∀ u, u < d → ¬ tb ((x_hx x + u) % 8192) = 0) : x_TI (b_psh S x a t) (va_up tb r (S.1 + 1)) := by
  have nz : ∀ i, ¬ tb i = 0 → va_up tb r (S.1 + 1) i = tb i := fun i hi => va_up_n (fun q => hi (q ▸ h0))
  have nz2 : ∀ i, ¬ tb i = 0 → ¬ va_up tb r (S.1 + 1) i = 0 := fun i hi => by rw [nz i hi]; exact hi
  refine ⟨fun i hi => ?_, fun j hj => ?_, ?_⟩
  · show va_up tb r (S.1 + 1) i ≤ S.1 + 1
    by_cases e : i = r
    · subst e; rw [va_up_s]; exact Nat.le_refl _
    · rw [va_up_n e]; exact Nat.le_succ_of_le (h.1 i hi)
  · have hj' : j < S.1 + 1 := hj
    show ∃ d, d < 8192 ∧ va_up tb r (S.1 + 1) ((x_hx (va_up S.2.1 S.1 x j) + d) % 8192) = j + 1 ∧ ∀ u, u < d → ¬ va_up tb r (S.1 + 1) ((x_hx (va_up S.2.1 S.1 x j) + u) % 8192) = 0
    by_cases e : j = S.1
    · subst e
      rw [va_up_s]
      exact ⟨d, hd, by rw [← hr, va_up_s], fun u h1 => nz2 _ (hu u h1)⟩
    · rw [va_up_n e]
      obtain ⟨d', h1, h2, h3⟩ := h.2.1 j (by omega)
      exact ⟨d', h1, by rw [nz _ (by omega)]; exact h2, fun u h4 => nz2 _ (h3 u h4)⟩
  · show z_ct (fun i => decide (¬ va_up tb r (S.1 + 1) i = 0)) 8192 ≤ S.1 + 1
    have := z_ct_up (tb := tb) (r := r) (v := S.1 + 1) (m := 8192)
    have := h.2.2
    split at * <;> omega
theorem q_lNe {a b : Nat} (ha : a < 2 ^ 63) (hb : b < 2 ^ 63) : lg_cmp (lN a) (lN b) = 0 ↔ a = b := by
  constructor
  · intro h
    have h1 := q_nlt (x := lN a) (y := lN b) (by rw [h]; decide)
    have h2 := q_ngt (x := lN a) (y := lN b) (by rw [h]; decide)
    rw [pf_lI ha, pf_lI hb] at h1 h2
    omega
  · rintro rfl
    have a1 : ¬ lg_cmp (lN a) (lN a) < 0 := fun h => by have := q_lt h; omega
    have a2 : ¬ 0 < lg_cmp (lN a) (lN a) := fun h => by have := q_gt h; omega
    exact Int32.le_antisymm (Int32.not_lt.mp a2) (Int32.not_lt.mp a1)
set_option maxHeartbeats 4000000 in
set_option maxRecDepth 100000 in
theorem c_X4_spotOf {n : Nat} {tB : Bool} {f : Nat → Nat → Int32} {g : Nat → Nat → Int64} (S : BS) (hS : S.1 ≤ 5000) (tb : Nat → Nat) (hst : ∀ j, j < S.1 → g 22 j = lN (S.2.1 j) ∧ S.2.1 j < 2 ^ 40) (htb : ∀ i, i < 8192 → f 24 i = nI (tb i)) (hTI : x_TI S tb) (e : Nat) (he : e < 2 ^ 40) : q_ConI yX4_spotOf cX4_spotOf 5 (some .int) 0 0 tyX (alX n true tB) [.ref 5, .long (lN e)] (f, g, rfX n true tB) (fun v h' => (∃ r, r < 8192 ∧ v = nI r ∧ ((tb r = 0 ∧ ¬ b_in S e ∧ ∃ d, d < 8192 ∧ r = (x_hx e + d) % 8192 ∧ ∀ u, u < d → ¬ tb ((x_hx e + u) % 8192) = 0) ∨ (¬ tb r = 0 ∧ b_in S e))) ∧ h' = (f, g, rfX n true tB)) := by
  refine q_Con.of RX4 [some (.ref 5), some (.long (lN e)), none, none, none] (by decide +kernel) rfl rfl (Nat.le_of_ble_eq_true rfl) (fun C ad E Z => ?_)
  have hz : ∃ d, d < 8192 ∧ tb ((x_hx e + d) % 8192) = 0 := by
    apply Classical.byContradiction
    intro hno
    have hall : ∀ i, i < 8192 → (fun i => decide (¬ tb i = 0)) i = true := by
      intro i hi
      refine decide_eq_true (fun h0 => hno ⟨(i + 8192 - x_hx e % 8192) % 8192, Nat.mod_lt _ (by decide), ?_⟩)
      rw [show (x_hx e + (i + 8192 - x_hx e % 8192) % 8192) % 8192 = i by omega]
      exact h0
    have := z_ct_all hall
    have := hTI.2.2
    omega
  obtain ⟨d0, hd0, hz0⟩ := hz
  have L : ∀ k, k ≤ 8192 → (∀ u, u < k → ¬ tb ((x_hx e + u) % 8192) = 0 ∧ ¬ S.2.1 (tb ((x_hx e + u) % 8192) - 1) = e) → gg C tyX 5 0 0 (alX n true tB) ad 13 [some (.ref 5), some (.long (lN e)), none, some (.int (nI ((x_hx e + k) % 8192))), some (.int (nI k))] [] (f, g, rfX n true tB) := by
    refine q_loop 8192 (fun k hk ih hinv => ?_)
    have hrl : (x_hx e + k) % 8192 < 8192 := Nat.mod_lt _ (by decide)
    have htr := htb _ hrl
    have htl := hTI.1 _ hrl
    have hnext : nI ((x_hx e + k) % 8192) + 1 &&& 8191 = nI ((x_hx e + (k + 1)) % 8192) := by
      rw [nI_1, show (8191 : Int32) = nI (2 ^ 13 - 1) from rfl, nx_and, Nat.and_two_pow_sub_one_eq_mod]
      exact congrArg nI (by omega)
    refine g_iload_4 (pc := 13) E dX4_spotOf_13 ?_
    refine g_sipush (pc := 15) (v := 8192) E dX4_spotOf_15 (by decide) ?_
    refine g_icmp_ge (pc := 18) (tgt := 64) E dX4_spotOf_18 (by decide) (fun c_18 => ?_) (fun c_18 => ?_)
    · exact absurd hz0 (hinv d0 (by have := (q_ge (x := 8192) (y := k) rfl rfl (by omega) (by omega)).mp c_18; omega)).1
    · have e_18 := (not_congr (q_ge (x := 8192) (y := k) rfl rfl (by omega) (by omega))).mp c_18
      refine g_aload_0 (pc := 21) E dX4_spotOf_21 ?_
      refine g_getR (pc := 22) E (by first | assumption | rfl) (by first | assumption | rfl) fl_X4_19 rfl (by first | assumption | rfl) dX4_spotOf_22 ?_
      refine g_iload_3 (pc := 25) E dX4_spotOf_25 ?_
      refine g_iald (pc := 26) E (by first | assumption | rfl) (by first | assumption | rfl) dX4_spotOf_26 (q_ix_n (by omega)) ?_
      refine g_if_eq (pc := 27) (tgt := 48) E dX4_spotOf_27 (by decide) (fun c_27 => ?_) (fun c_27 => ?_)
      · have k27 : tb ((x_hx e + k) % 8192) = 0 := by
          have q := c_27
          rw [htr] at q
          exact (nI_eq (b := 0) (by omega) (by omega)).mp q
        refine g_iload_3 (pc := 48) E dX4_spotOf_48 ?_
        exact g_iret (pc := 49) E Z dX4_spotOf_49 ⟨_, rfl, ⟨⟨_, hrl, rfl, (by
  first
  | exact Or.inr ⟨k27, _, by omega, k45⟩
  | (refine Or.inl ⟨k27, fun ⟨j, hj, ej⟩ => ?_, k, by omega, rfl, fun u hu => (hinv u hu).1⟩
     obtain ⟨dj, h1, h2, h3⟩ := hTI.2.1 j hj
     rw [ej] at h2 h3
     rcases Nat.lt_trichotomy dj k with q | q | q
     · exact (hinv dj q).2 (by rw [h2]; exact ej)
     · subst q; omega
     · exact h3 k q k27))⟩, rfl⟩⟩
      · have k27 : ¬ tb ((x_hx e + k) % 8192) = 0 := fun q => c_27 (by rw [htr, q]; rfl)
        have hsp : f 24 ((x_hx e + k) % 8192) - 1 = nI (tb ((x_hx e + k) % 8192) - 1) := by
          have q := q_dn (tb ((x_hx e + k) % 8192) - 1)
          rw [show tb ((x_hx e + k) % 8192) - 1 + 1 = tb ((x_hx e + k) % 8192) by omega] at q
          rw [htr]
          exact q
        obtain ⟨hs1, hs2⟩ := hst (tb ((x_hx e + k) % 8192) - 1) (by omega)
        refine g_aload_0 (pc := 30) E dX4_spotOf_30 ?_
        refine g_getR (pc := 31) E (by first | assumption | rfl) (by first | assumption | rfl) fl_X4_9 rfl (by first | assumption | rfl) dX4_spotOf_31 ?_
        refine g_aload_0 (pc := 34) E dX4_spotOf_34 ?_
        refine g_getR (pc := 35) E (by first | assumption | rfl) (by first | assumption | rfl) fl_X4_19 rfl (by first | assumption | rfl) dX4_spotOf_35 ?_
        refine g_iload_3 (pc := 38) E dX4_spotOf_38 ?_
        refine g_iald (pc := 39) E (by first | assumption | rfl) (by first | assumption | rfl) dX4_spotOf_39 (q_ix_n (by omega)) ?_
        refine g_iconst (pc := 40) (v := 1) E dX4_spotOf_40 (by decide) ?_
        refine g_isub (pc := 41) E dX4_spotOf_41 ?_
        refine g_lald (pc := 42) E (by first | assumption | rfl) (by first | assumption | rfl) dX4_spotOf_42 (q_ix_e hsp (by omega)) ?_
        refine g_lload_1 (pc := 43) E dX4_spotOf_43 ?_
        refine g_lcmp (pc := 44) E dX4_spotOf_44 ?_
        refine g_if_ne (pc := 45) (tgt := 50) E dX4_spotOf_45 (by decide) (fun c_45 => ?_) (fun c_45 => ?_)
        · have k45 : ¬ S.2.1 (tb ((x_hx e + k) % 8192) - 1) = e := fun q => c_45 (by rw [hs1]; exact (q_lNe (by omega) (by omega)).mpr q)
          refine g_iload_3 (pc := 50) E dX4_spotOf_50 ?_
          refine g_iconst (pc := 51) (v := 1) E dX4_spotOf_51 (by decide) ?_
          refine g_iadd (pc := 52) E dX4_spotOf_52 ?_
          refine g_sipush (pc := 53) (v := 8191) E dX4_spotOf_53 (by decide) ?_
          refine g_iand (pc := 56) E dX4_spotOf_56 ?_
          refine g_istore_3 (pc := 57) E dX4_spotOf_57 (by decide) rfl ?_
          refine g_iinc_4 (pc := 58) (u := 1) E dX4_spotOf_58 (by decide) (by decide) rfl ?_
          refine g_goto (pc := 61) (tgt := 13) E dX4_spotOf_61 (by decide) ?_
          rw [hnext, nI_1]
          exact ih (by omega) (fun u hu => by
            by_cases eu : u = k
            · subst eu; exact ⟨k27, k45⟩
            · exact hinv u (by omega))
        · have k45 : S.2.1 (tb ((x_hx e + k) % 8192) - 1) = e := by
            have q := c_45
            rw [hs1] at q
            exact (q_lNe (by omega) (by omega)).mp q
          refine g_iload_3 (pc := 48) E dX4_spotOf_48 ?_
          exact g_iret (pc := 49) E Z dX4_spotOf_49 ⟨_, rfl, ⟨⟨_, hrl, rfl, (by
  first
  | exact Or.inr ⟨k27, _, by omega, k45⟩
  | (refine Or.inl ⟨k27, fun ⟨j, hj, ej⟩ => ?_, k, by omega, rfl, fun u hu => (hinv u hu).1⟩
     obtain ⟨dj, h1, h2, h3⟩ := hTI.2.1 j hj
     rw [ej] at h2 h3
     rcases Nat.lt_trichotomy dj k with q | q | q
     · exact (hinv dj q).2 (by rw [h2]; exact ej)
     · subst q; omega
     · exact h3 k q k27))⟩, rfl⟩⟩
  refine g_lload_1 (pc := 0) E dX4_spotOf_0 ?_
  refine g_ldc2 (pc := 1) E kw_X4_89 dX4_spotOf_1 ?_
  refine g_lmul (pc := 4) E dX4_spotOf_4 ?_
  refine g_bipush (pc := 5) (v := 51) E dX4_spotOf_5 (by decide) ?_
  refine g_lushr (pc := 7) E dX4_spotOf_7 ?_
  refine g_l2i (pc := 8) E dX4_spotOf_8 ?_
  refine g_istore_3 (pc := 9) E dX4_spotOf_9 (by decide) rfl ?_
  refine g_iconst (pc := 10) (v := 0) E dX4_spotOf_10 (by decide) ?_
  refine g_istore_4 (pc := 11) E dX4_spotOf_11 (by decide) rfl ?_
  rw [x_hx_s]
  have ee := L 0 (Nat.zero_le _) (fun u hu => absurd hu (Nat.not_lt_zero u))
  rw [Nat.add_zero, Nat.mod_eq_of_lt (x_hx_lt e)] at ee
  exact ee
