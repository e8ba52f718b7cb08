/-! the class: reachesEnd -/
theorem nx_and0 {a b : Nat} (ha : a < 1024) : nI a &&& nI b = 0 ↔ ∀ c, c < 10 → ¬ (a.testBit c = true ∧ b.testBit c = true) := by
  rw [nx_and]
  have hl : a &&& b < 1024 := Nat.lt_of_le_of_lt Nat.and_le_left ha
  rw [show (nI (a &&& b) = 0 ↔ a &&& b = 0) from nI_eq (b := 0) (by omega) (by omega)]
  constructor
  · intro h c hc q
    have : (a &&& b).testBit c = true := by rw [Nat.testBit_and, q.1, q.2]; rfl
    rw [h] at this
    simp at this
  · intro h
    apply Nat.eq_of_testBit_eq
    intro i
    rw [Nat.zero_testBit]
    by_cases hi : i < 10
    · rw [Nat.testBit_and]
      by_cases e1 : a.testBit i = true
      · by_cases e2 : b.testBit i = true
        · exact absurd ⟨e1, e2⟩ (h i hi)
        · rw [show b.testBit i = false from Bool.eq_false_iff.mpr e2, Bool.and_false]
      · rw [show a.testBit i = false from Bool.eq_false_iff.mpr e1, Bool.false_and]
    · exact q_tb10 hl (by omega)
theorem z_lk_ne {e n : Nat} (h10 : n ≤ 10) (he : e < 16 ^ n) (h0 : 0 < e) : ∃ c, c < n ∧ (z_lk e 10).testBit c = true := by
  apply Classical.byContradiction
  intro hno
  have : e = 0 := (dg_all0 h10 he).mpr (fun c hc => Classical.byContradiction (fun q => hno ⟨c, hc, by rw [z_lk_bit, decide_eq_true (show c < 10 by omega), decide_eq_true q]; rfl⟩))
  omega
theorem x_wq_wh {n l t : Nat} {q p : Nat → Bool} (h10 : n ≤ 10) (hq : ∀ s, s < 1024 → (q s = true ↔ s < 2 ^ n ∧ p s = true)) (hl : l < 2 ^ n) (hlc : ∃ c, c < n ∧ l.testBit c = true) (hlg : ∀ c, c < n → l.testBit c = true → p (2 ^ c) = true) (ht : t < 2 ^ n) : x_wq q p l t = true ↔ z_wh n p l t := by
  have p10 : 2 ^ n ≤ 2 ^ 10 := Nat.pow_le_pow_right (by decide) h10
  have hrb := z_rb_lt q t 10
  have ht24 : t < 1024 := by omega
  rw [x_wq_t, q_sub0 ht24, nx_and0 hrb]
  constructor
  · rintro ⟨h1, h2, h3⟩
    have h4 : ∀ c, c < n → l.testBit c = true → ¬ t.testBit c = true → ¬ p (t ||| 2 ^ c) = true := by
      intro c hc hlb htb hpc
      refine h3 c (by omega) ⟨?_, hlb⟩
      have hol := q_or_lt ht hc
      rw [z_rb_bit, decide_eq_true (show c < 10 by omega), decide_eq_true ⟨htb, (hq _ (by omega)).mpr ⟨hol, hpc⟩⟩]
      rfl
    refine ⟨fun h0 => ?_, h2, h1, h4⟩
    obtain ⟨c, hc, hlb⟩ := hlc
    subst h0
    exact h4 c hc hlb (by simp) (by rw [Nat.zero_or]; exact hlg c hc hlb)
  · rintro ⟨h0, h2, h1, h4⟩
    refine ⟨h1, h2, fun c hc hb => ?_⟩
    rw [z_rb_bit] at hb
    simp only [Bool.and_eq_true, decide_eq_true_eq] at hb
    obtain ⟨⟨-, h5, h6⟩, h7⟩ := hb
    have hcn : c < n := by
      rcases Nat.lt_or_ge c n with q | q
      · exact q
      · rw [Nat.testBit_lt_two_pow (Nat.lt_of_lt_of_le hl (Nat.pow_le_pow_right (by decide) q))] at h7
        cases h7
    have hol := q_or_lt ht hcn
    exact h4 c hcn h7 h5 ((hq _ (by omega)).mp h6).2
abbrev x_kp (f F : Nat → Nat → Int32) (g G : Nat → Nat → Int64) : Prop := (∀ a, a ≠ 5 → a < 22 ∨ 27 < a → F a = f a) ∧ (∀ a, a ≠ 22 → a ≠ 26 → G a = g a)
abbrev x_SI (n : Nat) (q p : Nat → Bool) (S : BS) (F : Nat → Nat → Int32) (G : Nat → Nat → Int64) : Prop := F 5 2 = nI S.1 ∧ (∀ j, j < S.1 → G 22 j = lN (S.2.1 j)) ∧ (∀ j, j < S.1 → F 23 j = nI (S.2.2.1 j * 1024 + S.2.2.2 j)) ∧ (∃ tb : Nat → Nat, (∀ i, i < 8192 → F 24 i = nI (tb i)) ∧ x_TI S tb) ∧ (∀ s, s < 2 ^ n → p s = true → F 25 (z_ct p s) = nI (z_rb q s 10)) ∧ (∀ s, s < 2 ^ n → p s = true → G 26 (z_ct p s) = lN (z_on s)) ∧ (∀ l, l < 1024 → ¬ l = 0 → F 5 8 = nI l → x_wd n q p l F)
def x_rmF (F : Nat → Nat → Int32) (K : Nat) (sp : Int32) (r : Nat) : Nat → Nat → Int32 := q_up (q_up (q_up F 23 K sp) 5 2 (nI (K + 1))) 24 r (nI (K + 1))
theorem x_SI_rm {n : Nat} {q p : Nat → Bool} {S : BS} {F : Nat → Nat → Int32} {G : Nat → Nat → Int64} {tb : Nat → Nat} {x a t r d : Nat} (h : x_SI n q p S F G) (htb : ∀ i, i < 8192 → F 24 i = nI (tb i)) (hTI : x_TI S tb) (hd : d < 8192) (hr : r = (x_hx x + d) % 8192) (h0 : tb r = 0) (hu : ∀ u, u < d → ¬ tb ((x_hx x + u) % 8192) = 0) : x_SI n q p (b_psh S x a t) (x_rmF F S.1 (nI (a * 1024 + t)) r) (q_up G 22 S.1 (lN x)) := by
  obtain ⟨h1, h2, h3, -, h5, h6, h7⟩ := h
  have hlt : ∀ j, j < S.1 + 1 → j ≠ S.1 → j < S.1 := fun j h1 h2 => by omega
  refine ⟨rfl, fun j hj => ?_, fun j hj => ?_, ⟨va_up tb r (S.1 + 1), fun i hi => ?_, x_TI_psh hTI hd hr h0 hu⟩, h5, h6, h7⟩
  · show va_up (G 22) S.1 (lN x) j = lN (va_up S.2.1 S.1 x j)
    by_cases e : j = S.1
    · subst e; rw [va_up_s, va_up_s]
    · rw [va_up_n e, va_up_n e]; exact h2 j (hlt j hj e)
  · show va_up (F 23) S.1 (nI (a * 1024 + t)) j = nI (va_up S.2.2.1 S.1 a j * 1024 + va_up S.2.2.2 S.1 t j)
    by_cases e : j = S.1
    · subst e; rw [va_up_s, va_up_s, va_up_s]
    · rw [va_up_n e, va_up_n e, va_up_n e]; exact h3 j (hlt j hj e)
  · show va_up (F 24) r (nI (S.1 + 1)) i = nI (va_up tb r (S.1 + 1) i)
    by_cases e : i = r
    · subst e; rw [va_up_s, va_up_s]
    · rw [va_up_n e, va_up_n e]; exact htb i hi
theorem x_kp_rm {f F : Nat → Nat → Int32} {g G : Nat → Nat → Int64} {K r : Nat} {sp : Int32} {x : Int64} (h : x_kp f F g G) : x_kp f (x_rmF F K sp r) g (q_up G 22 K x) :=
  ⟨fun a h0 h1 => by unfold x_rmF; rw [q_up_ne (by omega), q_up_ne h0, q_up_ne (by omega)]; exact h.1 a h0 h1, fun a h0 h1 => by rw [q_up_ne h0]; exact h.2 a h0 h1⟩
theorem b_one_n {n : Nat} {p : Nat → Bool} {a t : Nat} {S : BS} (h : ¬ z_wh n p (z_lk (S.2.1 a) 10) t) : b_one n p a t S = (0, S) := if_neg h
theorem z_ct_none : ∀ {m : Nat}, z_ct (fun i => decide (¬ (0 : Nat) = 0)) m = 0
  | 0 => rfl
  | m + 1 => by rw [z_ct_f (by simp), z_ct_none]
set_option maxHeartbeats 4000000 in
set_option maxRecDepth 100000 in
theorem c_X4_reachesEnd {n : Nat} {tB : Bool} {f : Nat → Nat → Int32} {g : Nat → Nat → Int64} (h10 : n ≤ 10) (nd : Nat → Nat) (hnd : ∀ c, c < n → nd c ≤ 9) (hnd0 : ∀ c, n ≤ c → nd c = 0) (hne : ¬ z_enc nd 10 = 0) (p : Nat → Bool) (hq : ∀ s, s < 1024 → ((fun s => decide (¬ f 11 s = 0)) s = true ↔ s < 2 ^ n ∧ p s = true)) (hls : z_lst1 n p f) (hlg : ∀ c, c < n → 0 < nd c → p (2 ^ c) = true) (R : Nat × Nat × Nat × BS) (hR : b_all n p 5001 0 (b_S0 (z_enc nd 10)) = R) : q_ConI yX4_reachesEnd cX4_reachesEnd 11 (some .boolean) 3 66 tyX (alX n true tB) [.ref 5, .ref 2, .long (lN (z_enc nd 10))] (f, g, rfX n true tB) (fun v h' => ∃ F G, x_kp f F g G ∧ F 5 2 = nI R.2.2.2.1 ∧ ((R.1 = 1 ∧ v = 1 ∧ F 5 9 = nI (R.2.1 * 1024 + R.2.2.1) ∧ (∀ j, j < R.2.2.2.1 → F 23 j = nI (R.2.2.2.2.2.1 j * 1024 + R.2.2.2.2.2.2 j))) ∨ (¬ R.1 = 1 ∧ v = 0)) ∧ h' = (F, G, rfX n true tB)) := by
  refine q_Con.of RX4 [some (.ref 5), some (.ref 2), some (.long (lN (z_enc nd 10))), none, none, none, none, none, none, none, none] (by decide +kernel) rfl rfl (Nat.le_of_ble_eq_true rfl) (fun C ad E Z => ?_)
  have p10 : 2 ^ n ≤ 2 ^ 10 := Nat.pow_le_pow_right (by decide) h10
  have h2n : 0 < 2 ^ n := Nat.pow_pos (by decide)
  have e16 : 16 ^ n ≤ 16 ^ 10 := Nat.pow_le_pow_right (by decide) h10
  have e40 : (16 : Nat) ^ 10 = 2 ^ 40 := by decide
  obtain ⟨he0, hdg0⟩ := z_e0 h10 hnd hnd0
  have LALL : ∀ (M a : Nat) (S : BS) (F : Nat → Nat → Int32) (G : Nat → Nat → Int64), a + M = 5001 → b_ok n (z_enc nd 10) S → x_kp f F g G → x_SI n (fun s => decide (¬ f 11 s = 0)) p S F G → b_all n p M a S = R → ∀ x5 x6 x7 x8 x9 x10 : Option Value, gg C tyX 11 0 0 (alX n true tB) ad 19 [some (.ref 5), some (.ref 2), some (.long (lN (z_enc nd 10))), none, some (.int (nI a)), x5, x6, x7, x8, x9, x10] [] (F, G, rfX n true tB) := by
    intro M
    induction M with
    | zero =>
      intro a S F G haM hok hkp hSI hRR x5 x6 x7 x8 x9 x10
      have h14 := hSI.1
      have hS5 := hok.1.2
      have hRe : R = (3, a, 0, S) := by rw [← hRR, b_all]
      subst hRe
      refine g_iload_4 (pc := 19) E dX4_reachesEnd_19 ?_
      refine g_aload_0 (pc := 21) E dX4_reachesEnd_21 ?_
      refine g_getI (pc := 22) E (by first | assumption | rfl) (by first | assumption | rfl) fl_X4_43 rfl dX4_reachesEnd_22 ?_
      refine g_icmp_ge (pc := 25) (tgt := 164) E dX4_reachesEnd_25 (by decide) (fun c_25 => ?_) (fun c_25 => ?_)
      · refine g_iconst (pc := 164) (v := 0) E dX4_reachesEnd_164 (by decide) ?_
        exact g_zret (pc := 165) E Z dX4_reachesEnd_165 rfl ⟨_, rfl, ⟨F, G, hkp, h14, Or.inr ⟨(show ¬ (3 : Nat) = 1 by decide), rfl⟩, rfl⟩⟩
      · exact absurd (show F 5 2 ≤ nI a by rw [h14]; exact nI_le (by omega) (by omega)) c_25
    | succ M ihM =>
      intro a S F G haM hok hkp hSI hRR x5 x6 x7 x8 x9 x10
      have h14 := hSI.1
      have hS5 := hok.1.2
      by_cases haS : a < S.1
      · rw [b_all, if_pos haS] at hRR
        have hRR : b_nxt n p M a (b_row n p a (2 ^ n - 1) 1 S) = R := hRR
        obtain ⟨hea, hea0, hdig⟩ := hok.2.1 a haS
        have hl10 := z_lk_10 hea h10
        have hlN : z_lk (S.2.1 a) 10 < 2 ^ n := by rw [hl10]; exact z_lk_lt _ n
        have hlc := z_lk_ne h10 hea hea0
        have hln0 : ¬ z_lk (S.2.1 a) 10 = 0 := fun q => by obtain ⟨c, -, h⟩ := hlc; rw [q] at h; simp at h
        have hlgl : ∀ c, c < n → (z_lk (S.2.1 a) 10).testBit c = true → p (2 ^ c) = true := by
          intro c hc hb
          rw [z_lk_bit] at hb
          simp only [Bool.and_eq_true, decide_eq_true_eq] at hb
          have := hdig c
          rw [hdg0 c] at this
          exact hlg c hc (by omega)
        have hwq : ∀ t, t < 2 ^ n → (x_wq (fun s => decide (¬ f 11 s = 0)) p (z_lk (S.2.1 a) 10) t = true ↔ z_wh n p (z_lk (S.2.1 a) 10) t) := fun t ht => x_wq_wh h10 hq hlN hlc hlgl ht
        have LROW : ∀ (m t : Nat) (S1 : BS) (F : Nat → Nat → Int32) (G : Nat → Nat → Int64), 1 ≤ t → t + m = 2 ^ n → b_ok n (z_enc nd 10) S1 → a < S1.1 → S1.2.1 a = S.2.1 a → x_kp f F g G → x_SI n (fun s => decide (¬ f 11 s = 0)) p S1 F G → x_wd n (fun s => decide (¬ f 11 s = 0)) p (z_lk (S.2.1 a) 10) F → b_nxt n p M a (b_row n p a m t S1) = R → ∀ x6 x7 x8 x9 x10 : Option Value, gg C tyX 11 0 0 (alX n true tB) ad 46 [some (.ref 5), some (.ref 2), some (.long (lN (z_enc nd 10))), none, some (.int (nI a)), some (.int (nI (z_ct (x_wq (fun s => decide (¬ f 11 s = 0)) p (z_lk (S.2.1 a) 10)) t))), x6, x7, x8, x9, x10] [] (F, G, rfX n true tB) := by
          intro m
          induction m with
          | zero =>
            intro t S1 F G ht1 htm hok haS hea1 hkp hSI hwd hRR x6 x7 x8 x9 x10
            have et : t = 2 ^ n := by omega
            subst et
            have hct : z_ct (x_wq (fun s => decide (¬ f 11 s = 0)) p (z_lk (S.2.1 a) 10)) (2 ^ n) ≤ z_ct p (2 ^ n) := z_ct_sub (fun s _ h => (x_wq_t.mp h).1)
            have h386 := hls.2.1
            refine g_iload_5 (pc := 46) E dX4_reachesEnd_46 ?_
            refine g_aload_0 (pc := 48) E dX4_reachesEnd_48 ?_
            refine g_getI (pc := 49) E (by first | assumption | rfl) (by first | assumption | rfl) fl_X4_54 rfl dX4_reachesEnd_49 ?_
            refine g_icmp_ge (pc := 52) (tgt := 158) E dX4_reachesEnd_52 (by decide) (fun c_52 => ?_) (fun c_52 => ?_)
            · refine g_iinc_4 (pc := 158) (u := 1) E dX4_reachesEnd_158 (by decide) (by decide) rfl ?_
              refine g_goto (pc := 161) (tgt := 19) E dX4_reachesEnd_161 (by decide) ?_
              rw [nI_1]
              exact ihM (a + 1) S1 F G (by omega) hok hkp hSI hRR _ _ _ _ _ _
            · exact absurd ((q_ge (x := z_ct (x_wq (fun s => decide (¬ f 11 s = 0)) p (z_lk (S.2.1 a) 10)) (2 ^ n)) (y := z_ct (x_wq (fun s => decide (¬ f 11 s = 0)) p (z_lk (S.2.1 a) 10)) (2 ^ n)) hwd.1 rfl (by omega) (by omega)).mpr (Nat.le_refl _)) c_52
          | succ m ihm =>
            intro t S1 F G ht1 htm hok haS hea1 hkp hSI hwd hRR x6 x7 x8 x9 x10
            have htn : t < 2 ^ n := by omega
            have h386 := hls.2.1
            have hone : b_one n p a t S1 = if z_wh n p (z_lk (S.2.1 a) 10) t then (if S.2.1 a - z_on t = 0 then (1, S1) else if b_in S1 (S.2.1 a - z_on t) then (0, S1) else if S1.1 = 5000 then (2, S1) else (0, b_psh S1 (S.2.1 a - z_on t) a t)) else (0, S1) := by unfold b_one; rw [hea1]
            have hR0 : (b_one n p a t S1).1 = 0 → b_nxt n p M a (b_row n p a m (t + 1) (b_one n p a t S1).2) = R := fun q => by rw [← hRR, b_row, if_pos q]
            by_cases hw : x_wq (fun s => decide (¬ f 11 s = 0)) p (z_lk (S.2.1 a) 10) t = true
            · have hwh := (hwq t htn).mp hw
              obtain ⟨hx1, hx2, hx3, hx4⟩ := z_next h10 hea hwh.2.1
              have hpt : p t = true := hwh.2.2.1
              have hct2 : z_ct (x_wq (fun s => decide (¬ f 11 s = 0)) p (z_lk (S.2.1 a) 10)) t + 1 ≤ z_ct (x_wq (fun s => decide (¬ f 11 s = 0)) p (z_lk (S.2.1 a) 10)) (2 ^ n) := by rw [← z_ct_t hw]; exact z_ct_mono htn
              have hct3 : z_ct (x_wq (fun s => decide (¬ f 11 s = 0)) p (z_lk (S.2.1 a) 10)) (2 ^ n) ≤ z_ct p (2 ^ n) := z_ct_sub (fun s _ h => (x_wq_t.mp h).1)
              have hct4 : z_ct p t + 1 ≤ z_ct p (2 ^ n) := by rw [← z_ct_t hpt]; exact z_ct_mono htn
              have e27 : F 27 (z_ct (x_wq (fun s => decide (¬ f 11 s = 0)) p (z_lk (S.2.1 a) 10)) t) = nI (z_ct p t) := hwd.2 t htn hw
              have e22 : G 22 a = lN (S.2.1 a) := by rw [hSI.2.1 a haS, hea1]
              have e26 : G 26 (z_ct p t) = lN (z_on t) := hSI.2.2.2.2.2.1 t htn hpt
              have e12 : F 12 (z_ct p t) = nI t := by rw [hkp.1 12 (by decide) (by decide)]; exact hls.2.2 t htn hpt
              have hS15 := hok.1.2
              obtain ⟨tb, htb, hTI⟩ := hSI.2.2.2.1
              have hstep : nI a * 1024 + nI t = nI (a * 1024 + t) := by rw [show (1024 : Int32) = nI 1024 from rfl, pk_mul, nI_add]
              refine g_iload_5 (pc := 46) E dX4_reachesEnd_46 ?_
              refine g_aload_0 (pc := 48) E dX4_reachesEnd_48 ?_
              refine g_getI (pc := 49) E (by first | assumption | rfl) (by first | assumption | rfl) fl_X4_54 rfl dX4_reachesEnd_49 ?_
              refine g_icmp_ge (pc := 52) (tgt := 158) E dX4_reachesEnd_52 (by decide) (fun c_52 => ?_) (fun c_52 => ?_)
              · exact absurd ((q_ge (x := z_ct (x_wq (fun s => decide (¬ f 11 s = 0)) p (z_lk (S.2.1 a) 10)) (2 ^ n)) (y := z_ct (x_wq (fun s => decide (¬ f 11 s = 0)) p (z_lk (S.2.1 a) 10)) t) hwd.1 rfl (by omega) (by omega)).mp c_52) (by omega)
              · refine g_aload_0 (pc := 55) E dX4_reachesEnd_55 ?_
                refine g_getR (pc := 56) E (by first | assumption | rfl) (by first | assumption | rfl) fl_X4_28 rfl (by first | assumption | rfl) dX4_reachesEnd_56 ?_
                refine g_iload_5 (pc := 59) E dX4_reachesEnd_59 ?_
                refine g_iald (pc := 61) E (by first | assumption | rfl) (by first | assumption | rfl) dX4_reachesEnd_61 (q_ix_n (by omega)) ?_
                rw [e27]
                refine g_istore_6 (pc := 62) E dX4_reachesEnd_62 (by decide) rfl ?_
                refine g_aload_0 (pc := 64) E dX4_reachesEnd_64 ?_
                refine g_getR (pc := 65) E (by first | assumption | rfl) (by first | assumption | rfl) fl_X4_9 rfl (by first | assumption | rfl) dX4_reachesEnd_65 ?_
                refine g_iload_4 (pc := 68) E dX4_reachesEnd_68 ?_
                refine g_lald (pc := 70) E (by first | assumption | rfl) (by first | assumption | rfl) dX4_reachesEnd_70 (q_ix_n (by omega)) ?_
                refine g_aload_0 (pc := 71) E dX4_reachesEnd_71 ?_
                refine g_getR (pc := 72) E (by first | assumption | rfl) (by first | assumption | rfl) fl_X4_25 rfl (by first | assumption | rfl) dX4_reachesEnd_72 ?_
                refine g_iload_6 (pc := 75) E dX4_reachesEnd_75 ?_
                refine g_lald (pc := 77) E (by first | assumption | rfl) (by first | assumption | rfl) dX4_reachesEnd_77 (q_ix_n (by omega)) ?_
                refine g_lsub (pc := 78) E dX4_reachesEnd_78 ?_
                rw [e22, e26, lN_sub hx3]
                refine g_lstore_7 (pc := 79) E dX4_reachesEnd_79 (by decide) rfl ?_
                refine g_iload_4 (pc := 81) E dX4_reachesEnd_81 ?_
                refine g_sipush (pc := 83) (v := 1024) E dX4_reachesEnd_83 (by decide) ?_
                refine g_imul (pc := 86) E dX4_reachesEnd_86 ?_
                refine g_aload_1 (pc := 87) E dX4_reachesEnd_87 ?_
                refine g_getR (pc := 88) E (by first | assumption | rfl) (by first | assumption | rfl) fl_X4_57 rfl (by first | assumption | rfl) dX4_reachesEnd_88 ?_
                refine g_iload_6 (pc := 91) E dX4_reachesEnd_91 ?_
                refine g_iald (pc := 93) E (by first | assumption | rfl) (by first | assumption | rfl) dX4_reachesEnd_93 (q_ix_n (by omega)) ?_
                refine g_iadd (pc := 94) E dX4_reachesEnd_94 ?_
                rw [e12, hstep]
                refine g_istore_9 (pc := 95) E dX4_reachesEnd_95 (by decide) rfl ?_
                refine g_lload_7 (pc := 97) E dX4_reachesEnd_97 ?_
                refine g_lconst (pc := 99) (v := 0) E dX4_reachesEnd_99 (by decide) ?_
                refine g_lcmp (pc := 100) E dX4_reachesEnd_100 ?_
                refine g_if_ne (pc := 101) (tgt := 112) E dX4_reachesEnd_101 (by decide) (fun c_101 => ?_) (fun c_101 => ?_)
                · have hx0 : ¬ S.2.1 a - z_on t = 0 := fun q => c_101 ((q_lN0 (by omega)).mpr q)
                  refine g_aload_0 (pc := 112) E dX4_reachesEnd_112 ?_
                  refine g_lload_7 (pc := 113) E dX4_reachesEnd_113 ?_
                  refine g_cVi1 (pc := 115) E (c_X4_spotOf S1 hS15 tb (fun j hj => ⟨hSI.2.1 j hj, by have := (hok.2.1 j hj).1; omega⟩) htb hTI _ (by omega)) cw_X4_35 (by decide) (by decide) (by first | assumption | rfl) (by first | assumption | rfl) (Nat.le_of_ble_eq_true rfl) dX4_reachesEnd_115 (fun v_115 h_115 hp => ?_)
                  obtain ⟨⟨rr, hrr, rfl, hsp⟩, rfl⟩ := hp
                  refine g_istore_10 (pc := 118) E dX4_reachesEnd_118 (by decide) rfl ?_
                  refine g_aload_0 (pc := 120) E dX4_reachesEnd_120 ?_
                  refine g_getR (pc := 121) E (by first | assumption | rfl) (by first | assumption | rfl) fl_X4_19 rfl (by first | assumption | rfl) dX4_reachesEnd_121 ?_
                  refine g_iload_10 (pc := 124) E dX4_reachesEnd_124 ?_
                  refine g_iald (pc := 126) E (by first | assumption | rfl) (by first | assumption | rfl) dX4_reachesEnd_126 (q_ix_n (by omega)) ?_
                  refine g_if_ne (pc := 127) (tgt := 152) E dX4_reachesEnd_127 (by decide) (fun c_127 => ?_) (fun c_127 => ?_)
                  · have k127 : ¬ tb rr = 0 := fun q => c_127 (by rw [htb rr hrr, q]; rfl)
                    have hold : b_in S1 (S.2.1 a - z_on t) := (hsp.resolve_left (fun z => k127 z.1)).2
                    have eo : b_one n p a t S1 = (0, S1) := by rw [hone, if_pos hwh, if_neg hx0, if_pos hold]
                    have hR2 := hR0 (by rw [eo])
                    rw [eo] at hR2
                    refine g_iinc_5 (pc := 152) (u := 1) E dX4_reachesEnd_152 (by decide) (by decide) rfl ?_
                    refine g_goto (pc := 155) (tgt := 46) E dX4_reachesEnd_155 (by decide) ?_
                    rw [nI_1, ← z_ct_t hw]
                    first
                    | exact ihm (t + 1) S1 F G (by omega) (by omega) hok haS hea1 hkp hSI hwd hR2 _ _ _ _ _
                    | exact ihm (t + 1) (b_psh S1 (S.2.1 a - z_on t) a t) (x_rmF F S1.1 _ rr) (q_up G 22 S1.1 _) (by omega) (by omega) (b_ok_psh_e h10 hok haS (by omega) hwh.2.1 hx0 h5 hea1) (Nat.lt_succ_of_lt haS) (by show va_up S1.2.1 S1.1 _ a = _; rw [va_up_n (by omega)]; exact hea1) (x_kp_rm hkp) (x_SI_rm hSI htb hTI hd hrd k127 hdu) hwd hR2 _ _ _ _ _
                  · have k127 : tb rr = 0 := by
                      have q := c_127
                      rw [htb rr hrr] at q
                      exact (nI_eq (b := 0) (by have := hTI.1 rr hrr; omega) (by omega)).mp q
                    obtain ⟨-, hnew, d, hd, hrd, hdu⟩ := hsp.resolve_right (fun z => z.1 k127)
                    refine g_aload_0 (pc := 130) E dX4_reachesEnd_130 ?_
                    refine g_getI (pc := 131) E (by first | assumption | rfl) (by first | assumption | rfl) fl_X4_43 rfl dX4_reachesEnd_131 ?_
                    refine g_sipush (pc := 134) (v := 5000) E dX4_reachesEnd_134 (by decide) ?_
                    refine g_icmp_lt (pc := 137) (tgt := 142) E dX4_reachesEnd_137 (by decide) (fun c_137 => ?_) (fun c_137 => ?_)
                    · have h5 : ¬ S1.1 = 5000 := fun q => absurd (show F 5 2 < 5000 from c_137) (by rw [hSI.1, q]; decide)
                      have eo : b_one n p a t S1 = (0, b_psh S1 (S.2.1 a - z_on t) a t) := by rw [hone, if_pos hwh, if_neg hx0, if_neg hnew, if_neg h5]
                      have hR2 := hR0 (by rw [eo])
                      rw [eo] at hR2
                      refine g_aload_0 (pc := 142) E dX4_reachesEnd_142 ?_
                      refine g_lload_7 (pc := 143) E dX4_reachesEnd_143 ?_
                      refine g_iload_9 (pc := 145) E dX4_reachesEnd_145 ?_
                      refine g_iload_10 (pc := 147) E dX4_reachesEnd_147 ?_
                      refine g_cVv3 (pc := 149) E (c_X4_remember S1.1 (by exact hSI.1) (by omega) _ _ rr hrr) cw_X4_39 (by decide) (by decide) (by first | assumption | rfl) (by first | assumption | rfl) (Nat.le_of_ble_eq_true rfl) dX4_reachesEnd_149 (fun h_149 hp => ?_)
                      subst hp
                      refine g_iinc_5 (pc := 152) (u := 1) E dX4_reachesEnd_152 (by decide) (by decide) rfl ?_
                      refine g_goto (pc := 155) (tgt := 46) E dX4_reachesEnd_155 (by decide) ?_
                      rw [nI_1, ← z_ct_t hw]
                      first
                      | exact ihm (t + 1) S1 F G (by omega) (by omega) hok haS hea1 hkp hSI hwd hR2 _ _ _ _ _
                      | exact ihm (t + 1) (b_psh S1 (S.2.1 a - z_on t) a t) (x_rmF F S1.1 _ rr) (q_up G 22 S1.1 _) (by omega) (by omega) (b_ok_psh_e h10 hok haS (by omega) hwh.2.1 hx0 h5 hea1) (Nat.lt_succ_of_lt haS) (by show va_up S1.2.1 S1.1 _ a = _; rw [va_up_n (by omega)]; exact hea1) (x_kp_rm hkp) (x_SI_rm hSI htb hTI hd hrd k127 hdu) hwd hR2 _ _ _ _ _
                    · have h5 : S1.1 = 5000 := by
                        have q : ¬ F 5 2 < 5000 := c_137
                        rw [hSI.1] at q
                        rcases Nat.lt_or_ge S1.1 5000 with z | z
                        · exact absurd (nI_lt (b := 5000) z (by omega)) q
                        · omega
                      have hR1 : R = (2, a, t, S1) := by rw [← hRR, b_row, hone, if_pos hwh, if_neg hx0, if_neg hnew, if_pos h5]; rfl
                      subst hR1
                      refine g_iconst (pc := 140) (v := 0) E dX4_reachesEnd_140 (by decide) ?_
                      exact g_zret (pc := 141) E Z dX4_reachesEnd_141 rfl ⟨_, rfl, ⟨F, G, hkp, hSI.1, Or.inr ⟨(show ¬ (2 : Nat) = 1 by decide), rfl⟩, rfl⟩⟩
                · have hx0 : S.2.1 a - z_on t = 0 := (q_lN0 (by omega)).mp c_101
                  have hR1 : R = (1, a, t, S1) := by rw [← hRR, b_row, hone, if_pos hwh, if_pos hx0]; rfl
                  subst hR1
                  refine g_aload_0 (pc := 104) E dX4_reachesEnd_104 ?_
                  refine g_iload_9 (pc := 105) E dX4_reachesEnd_105 ?_
                  refine g_putI (pc := 107) E (by first | assumption | rfl) (by first | assumption | rfl) fw_X4_62 rfl dX4_reachesEnd_107 ?_
                  refine g_iconst (pc := 110) (v := 1) E dX4_reachesEnd_110 (by decide) ?_
                  exact g_zret (pc := 111) E Z dX4_reachesEnd_111 rfl ⟨_, rfl, ⟨q_up F 5 9 (nI (a * 1024 + t)), G, ⟨fun b h0 h1 => by rw [q_up_ne h0]; exact hkp.1 b h0 h1, hkp.2⟩, hSI.1, Or.inl ⟨rfl, rfl, q_ups, hSI.2.2.1⟩, rfl⟩⟩
            · have eo : b_one n p a t S1 = (0, S1) := by rw [hone, if_neg (fun q => hw ((hwq t htn).mpr q))]
              have hR2 := hR0 (by rw [eo])
              rw [eo] at hR2
              have e := ihm (t + 1) S1 F G (by omega) (by omega) hok haS hea1 hkp hSI hwd hR2 x6 x7 x8 x9 x10
              rw [z_ct_f hw] at e
              exact e
        have e22 : G 22 a = lN (S.2.1 a) := hSI.2.1 a haS
        have f11 : F 11 = f 11 := hkp.1 11 (by decide) (by decide)
        have hls1 : z_lst1 n p F := by
          refine ⟨?_, hls.2.1, fun s h1 h2 => ?_⟩
          · rw [hkp.1 2 (by decide) (by decide)]; exact hls.1
          · rw [hkp.1 12 (by decide) (by decide)]; exact hls.2.2 s h1 h2
        refine g_iload_4 (pc := 19) E dX4_reachesEnd_19 ?_
        refine g_aload_0 (pc := 21) E dX4_reachesEnd_21 ?_
        refine g_getI (pc := 22) E (by first | assumption | rfl) (by first | assumption | rfl) fl_X4_43 rfl dX4_reachesEnd_22 ?_
        refine g_icmp_ge (pc := 25) (tgt := 164) E dX4_reachesEnd_25 (by decide) (fun c_25 => ?_) (fun c_25 => ?_)
        · exact absurd ((q_ge (x := S.1) (y := a) h14 rfl (by omega) (by omega)).mp c_25) (by omega)
        · refine g_aload_0 (pc := 28) E dX4_reachesEnd_28 ?_
          refine g_aload_1 (pc := 29) E dX4_reachesEnd_29 ?_
          refine g_aload_0 (pc := 30) E dX4_reachesEnd_30 ?_
          refine g_getR (pc := 31) E (by first | assumption | rfl) (by first | assumption | rfl) fl_X4_9 rfl (by first | assumption | rfl) dX4_reachesEnd_31 ?_
          refine g_iload_4 (pc := 34) E dX4_reachesEnd_34 ?_
          refine g_lald (pc := 36) E (by first | assumption | rfl) (by first | assumption | rfl) dX4_reachesEnd_36 (q_ix_n (by omega)) ?_
          rw [e22]
          refine g_cSi1 (pc := 37) E (c_X4_lacking (S.2.1 a) (by omega)) cw_X4_47 (by decide) (by decide) (Nat.le_of_ble_eq_true rfl) dX4_reachesEnd_37 (fun v_37 h_37 hp => ?_)
          obtain ⟨rfl, rfl⟩ := hp
          refine g_cVv2 (pc := 40) E (c_X4_chooseWidest h10 p hls1 (by rw [f11]; exact hSI.2.2.2.2.1) _ (by omega) (by rw [f11]; exact hSI.2.2.2.2.2.2 _ (by omega) hln0)) cw_X4_50 (by decide) (by decide) (by first | assumption | rfl) (by first | assumption | rfl) (Nat.le_of_ble_eq_true rfl) dX4_reachesEnd_40 (fun h_40 hp => ?_)
          obtain ⟨r5, r27, h52, h58, hwd, rfl⟩ := hp
          rw [f11] at hwd
          have hkp1 : x_kp f (va_up (va_up F 5 r5) 27 r27) g G := ⟨fun b h0 h1 => by rw [va_up_n (by omega), va_up_n h0]; exact hkp.1 b h0 h1, hkp.2⟩
          have hSI1 : x_SI n (fun s => decide (¬ f 11 s = 0)) p S (va_up (va_up F 5 r5) 27 r27) G := ⟨h52.trans h14, hSI.2.1, hSI.2.2.1, hSI.2.2.2.1, hSI.2.2.2.2.1, hSI.2.2.2.2.2.1, fun l h1 h2 h3 => by
            have el : nI l = nI (z_lk (S.2.1 a) 10) := h3.symm.trans h58
            have el2 : l = z_lk (S.2.1 a) 10 := (nI_eq (by omega) (by omega)).mp el
            rw [el2]; exact hwd⟩
          refine g_iconst (pc := 43) (v := 0) E dX4_reachesEnd_43 (by decide) ?_
          refine g_istore_5 (pc := 44) E dX4_reachesEnd_44 (by decide) rfl ?_
          have e := fun x6 x7 x8 x9 x10 => LROW (2 ^ n - 1) 1 S (va_up (va_up F 5 r5) 27 r27) G (Nat.le_refl _) (by omega) hok haS rfl hkp1 hSI1 hwd hRR x6 x7 x8 x9 x10
          have h01 : ¬ x_wq (fun s => decide (¬ f 11 s = 0)) p (z_lk (S.2.1 a) 10) 0 = true := fun q => ((hwq 0 h2n).mp q).1 rfl
          simp only [show z_ct (x_wq (fun s => decide (¬ f 11 s = 0)) p (z_lk (S.2.1 a) 10)) 1 = 0 from z_ct_f h01] at e
          exact e _ _ _ _ _
      · rw [b_all, if_neg haS] at hRR
        subst hRR
        refine g_iload_4 (pc := 19) E dX4_reachesEnd_19 ?_
        refine g_aload_0 (pc := 21) E dX4_reachesEnd_21 ?_
        refine g_getI (pc := 22) E (by first | assumption | rfl) (by first | assumption | rfl) fl_X4_43 rfl dX4_reachesEnd_22 ?_
        refine g_icmp_ge (pc := 25) (tgt := 164) E dX4_reachesEnd_25 (by decide) (fun c_25 => ?_) (fun c_25 => ?_)
        · refine g_iconst (pc := 164) (v := 0) E dX4_reachesEnd_164 (by decide) ?_
          exact g_zret (pc := 165) E Z dX4_reachesEnd_165 rfl ⟨_, rfl, ⟨F, G, hkp, h14, Or.inr ⟨(show ¬ (3 : Nat) = 1 by decide), rfl⟩, rfl⟩⟩
        · exact absurd (show F 5 2 ≤ nI a by rw [h14]; exact nI_le (by omega) (by omega)) c_25
  refine g_aload_0 (pc := 0) E dX4_reachesEnd_0 ?_
  refine g_aload_1 (pc := 1) E dX4_reachesEnd_1 ?_
  refine g_cVv1 (pc := 2) E (c_X4_prepare h10 p hls) cw_X4_31 (by decide) (by decide) (by first | assumption | rfl) (by first | assumption | rfl) (Nat.le_of_ble_eq_true rfl) dX4_reachesEnd_2 (fun h_2 hp => ?_)
  obtain ⟨r25, r26, h25, h26, rfl⟩ := hp
  have hTI0 : x_TI (0, fun _ => 0, fun _ => 0, fun _ => 0) (fun _ => 0) := ⟨fun i _ => Nat.le_refl _, fun j hj => absurd hj (Nat.not_lt_zero j), by show z_ct (fun i => decide (¬ (0 : Nat) = 0)) 8192 ≤ 0; exact Nat.le_of_eq z_ct_none⟩
  have hSI0 : x_SI n (fun s => decide (¬ f 11 s = 0)) p (0, fun _ => 0, fun _ => 0, fun _ => 0) (va_up (x_pF f) 25 r25) (va_up g 26 r26) := ⟨rfl, fun j hj => absurd hj (Nat.not_lt_zero j), fun j hj => absurd hj (Nat.not_lt_zero j), ⟨fun _ => 0, fun i hi => q_fill_in (a := 24) (lo := 0) (f := f) (v := fun _ => (0 : Int32)) (n := 8192) (by omega) (by omega), hTI0⟩, h25, h26, fun l h1 h2 h3 => absurd ((nI_eq (a := l) (b := 0) (by omega) (by omega)).mp h3.symm) h2⟩
  have hkp0 : x_kp f (va_up (x_pF f) 25 r25) g (va_up g 26 r26) := ⟨fun b h0 h1 => by unfold x_pF; rw [va_up_n (by omega), q_up_ne h0, q_up_ne h0, q_up_ne h0, q_fill_ne (by omega)], fun b h0 h1 => va_up_n h1⟩
  refine g_aload_0 (pc := 5) E dX4_reachesEnd_5 ?_
  refine g_lload_2 (pc := 6) E dX4_reachesEnd_6 ?_
  refine g_iconst (pc := 7) (v := 0) E dX4_reachesEnd_7 (by decide) ?_
  refine g_aload_0 (pc := 8) E dX4_reachesEnd_8 ?_
  refine g_lload_2 (pc := 9) E dX4_reachesEnd_9 ?_
  refine g_cVi1 (pc := 10) E (c_X4_spotOf (0, fun _ => 0, fun _ => 0, fun _ => 0) (by decide) (fun _ => 0) (fun j hj => absurd hj (Nat.not_lt_zero j)) (by intro i hi; exact q_fill_in (a := 24) (lo := 0) (f := f) (v := fun _ => (0 : Int32)) (n := 8192) (by omega) (by omega)) hTI0 _ (by omega)) cw_X4_35 (by decide) (by decide) (by first | assumption | rfl) (by first | assumption | rfl) (Nat.le_of_ble_eq_true rfl) dX4_reachesEnd_10 (fun v_10 h_10 hp => ?_)
  obtain ⟨⟨rr, hrr, rfl, hsp⟩, rfl⟩ := hp
  obtain ⟨ht0, hnew, d, hd, hrd, hdu⟩ := hsp.resolve_right (fun z => z.1 rfl)
  refine g_cVv3 (pc := 13) E (c_X4_remember 0 rfl (by decide) _ _ rr hrr) cw_X4_39 (by decide) (by decide) (by first | assumption | rfl) (by first | assumption | rfl) (Nat.le_of_ble_eq_true rfl) dX4_reachesEnd_13 (fun h_13 hp => ?_)
  subst hp
  refine g_iconst (pc := 16) (v := 0) E dX4_reachesEnd_16 (by decide) ?_
  refine g_istore_4 (pc := 17) E dX4_reachesEnd_17 (by decide) rfl ?_
  exact LALL 5001 0 (b_S0 (z_enc nd 10)) (x_rmF (va_up (x_pF f) 25 r25) 0 _ rr) (q_up (va_up g 26 r26) 22 0 _) rfl (b_ok0 he0 hne) (x_kp_rm hkp0) (x_SI_rm (a := 0) (t := 0) (tb := fun _ => 0) hSI0 (fun i hi => q_fill_in (a := 24) (lo := 0) (f := f) (v := fun _ => (0 : Int32)) (n := 8192) (by omega) (by omega)) hTI0 hd hrd rfl hdu) hR _ _ _ _ _ _
