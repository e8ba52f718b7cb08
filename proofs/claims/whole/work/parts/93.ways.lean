/-! proof, ways, fewest: both sides alike -/
section RP
variable {n t : Nat} {sB tB : Bool} {f : Nat → Nat → Int32} {g : Nat → Nat → Int64} {F : Nat → Nat → Int32} {G : Nat → Nat → Int64}
theorem x_keep (h : x_R n t tB f g F G) {tC : Bool} {f' F' : Nat → Nat → Int32} {g' : Nat → Nat → Int64} (k0 : ∀ k, k ≠ 10 → f' 0 k = f 0 k) (hst : f' 0 10 = F' 0 14) (k1 : f' 1 = f 1) (hfr : r_F n (f' 4 1) (f' 21) (F' 0 13) (F' 29)) (k9 : f' 9 = f 9) (k10 : f' 10 = f 10) (k19 : f' 19 = f 19) (k20 : f' 20 = f 20) (k13 : f' 13 0 = 0) (k40 : ∀ c, c < n → f' (c + 40) = f (c + 40)) (k60 : ∀ c, c < n → f' (c + 60) = f (c + 60)) (g40 : ∀ c, c < n → g' (c + 40) = g (c + 40)) (g15 : ∀ S, S ≤ 3 → g' (S + 15) = g (S + 15)) (m0 : ∀ k, k ≠ 13 → k ≠ 14 → k ≠ 46 → F' 0 k = F 0 k) (mA : ∀ a, a = 1 ∨ a = 2 ∨ (15 ≤ a ∧ a ≤ 28) ∨ a = 30 → F' a = F a) (hdg : r_D tC (f' 32) (F' 0 46) (F' 45)) (h11 : ∀ s, 2 ^ n ≤ s → s < 1024 → f' 11 s = 0) : x_R n t tC f' g' F' G :=
  ⟨h.n10, (by rw [k1]; exact h.cX), (by rw [m0 5 (by decide) (by decide) (by decide)]; exact h.cM), (by rw [m0 0 (by decide) (by decide) (by decide)]; exact h.t0), (by rw [k1, m0 6 (by decide) (by decide) (by decide)]; exact h.bm), (by rw [k1, m0 7 (by decide) (by decide) (by decide)]; exact h.lm), (by rw [k1, m0 8 (by decide) (by decide) (by decide)]; exact h.la), (by rw [k1, m0 9 (by decide) (by decide) (by decide)]; exact h.ha), (by rw [k0 7 (by decide), m0 11 (by decide) (by decide) (by decide)]; exact h.rul), h.t20, (by rw [k0 8 (by decide)]; exact h.sX), (by rw [m0 10 (by decide) (by decide) (by decide)]; exact h.sM), (by rw [k0 9 (by decide), m0 12 (by decide) (by decide) (by decide)]; exact h.lit), hst, hfr, (fun c hc => by
    rw [k40 c hc, k60 c hc, g40 c hc, mA 30 (by omega)]
    have hr := h.cel c hc
    refine ⟨?_, ?_, ?_, ?_, ?_, ?_, ?_, ?_, ?_, ?_, ?_, ?_, ?_⟩
    · dsimp only; rw [mA 15 (by omega)]; exact hr.pw
    · dsimp only; rw [mA 16 (by omega)]; exact hr.rt
    · dsimp only; rw [mA 17 (by omega)]; exact hr.rk
    · dsimp only; rw [mA 18 (by omega)]; exact hr.gt
    · dsimp only; rw [mA 22 (by omega)]; exact hr.rn
    · dsimp only; rw [mA 20 (by omega)]; exact hr.nd
    · dsimp only; rw [mA 21 (by omega)]; exact hr.ak
    · dsimp only; rw [mA 19 (by omega)]; exact hr.hd
    · dsimp only; rw [mA 23 (by omega)]; exact hr.fb
    · dsimp only; rw [mA 24 (by omega)]; exact hr.dk
    · dsimp only; rw [mA 25 (by omega)]; exact hr.ld
    · dsimp only; rw [mA 26 (by omega)]; exact hr.tm
    · exact hr.wt), (fun c h1 h2 => by
    have hr := h.zer c h1 h2
    refine ⟨?_, ?_, ?_⟩
    · have hz := hr.z
      dsimp only at hz ⊢
      rw [mA 19 (by omega), mA 20 (by omega), mA 21 (by omega), mA 22 (by omega), mA 23 (by omega), mA 24 (by omega), mA 25 (by omega), mA 26 (by omega)]
      exact hz
    · rw [mA 30 (by omega)]; exact hr.w
    · exact hr.g), (fun j hj => by rw [k9, k10, mA 27 (by omega), mA 28 (by omega)]; exact h.gat j hj), (fun S hS => by rw [k19, k20, mA 1 (by omega), mA 2 (by omega)]; exact h.shf S hS), (fun S hS i hi => by rw [g15 S hS]; exact h.num S hS i hi), hdg, k13, h11⟩
/-! legal sets: fewer cells stay legal -/
theorem q_sumbN {a : Nat → Nat} {b : Nat → Int32} {s : Nat} : ∀ {k : Nat}, (∀ c, c < k → s.testBit c = true → b c = nI (a c)) → q_sum (fun c => if s.testBit c = true then b c else 0) k = nI (z_S a s k)
  | 0, _ => rfl
  | k + 1, h => by
    rw [q_sum, z_S, q_sumbN (fun c hc => h c (by omega))]
    by_cases e : s.testBit k = true
    · rw [if_pos e, if_pos e, h k (by omega) e, nI_add]
    · rw [if_neg e, if_neg e, Int32.add_zero, Nat.add_zero]
theorem q_sum_le {a : Nat → Nat} {b : Nat → Int32} {s k : Nat} {lim : Int32} {B : Nat} (h10 : n ≤ 10) (hb : ∀ c, c < n → b c = nI (a c)) (ha : ∀ c, a c ≤ B) (hB : B ≤ 1000) (hs : s < 2 ^ n) (h1 : 2 ^ k ≤ s) (h2 : s < 2 ^ (k + 1)) (h : q_sum (fun c => if s.testBit c = true then b c else 0) n ≤ lim) : q_sum (fun c => if (s - 2 ^ k).testBit c = true then b c else 0) n ≤ lim := by
  have hk : k < n := by
    rcases Nat.lt_or_ge k n with q | q
    · exact q
    · have := Nat.pow_le_pow_right (show 0 < 2 by decide) q
      omega
  rw [q_sumbN (a := a) (fun c hc _ => hb c hc)] at h ⊢
  have e := z_S_top (w := a) h1 h2 hk
  have b1 := z_S_le (w := a) (s := s) (B := B) (k := n) (fun c _ _ => ha c)
  have b2 : n * B ≤ 10 * 1000 := Nat.mul_le_mul h10 hB
  refine Int32.le_trans (nI_le (a := z_S a (s - 2 ^ k) n) (b := z_S a s n) (by omega) (by omega)) h
theorem s_top {s k : Nat} (h1 : 2 ^ k ≤ s) (h2 : s < 2 ^ (k + 1)) {c : Nat} (h : (s - 2 ^ k).testBit c = true) : s.testBit c = true := by
  obtain ⟨r, rfl⟩ : ∃ r, s = 2 ^ k + r := ⟨s - 2 ^ k, by omega⟩
  have hr : r < 2 ^ k := by rw [Nat.pow_succ] at h2; omega
  rw [Nat.add_sub_cancel_left] at h
  rcases Nat.lt_trichotomy c k with q | q | q
  · rw [Nat.testBit_two_pow_add_gt q]; exact h
  · subst q
    rw [Nat.testBit_lt_two_pow hr] at h
    cases h
  · rw [Nat.testBit_lt_two_pow (Nat.lt_of_lt_of_le hr (Nat.pow_le_pow_right (by decide) (by omega)))] at h
    cases h
theorem x_R.dn (h : x_R n t tB f g F G) : z_dn n (z_p n f) := by
  have n10 := h.n10
  obtain ⟨bm, bm1, bm2, bm3, -⟩ := h.bm
  obtain ⟨lm, lm1, lm2, lm3, -⟩ := h.lm
  have hrm : ∀ j, j < 3 → ∃ k : Nat, k ≤ 10 ∧ f 9 j = nI k := fun j hj => by obtain ⟨k, -, k2, k3, -⟩ := (h.gat j hj).1; exact ⟨k, k2, k3⟩
  have hz : ∀ b : Nat → Int32, q_sum (fun c => if (0 : Nat).testBit c = true then b c else 0) n = 0 := fun b => by
    rw [q_sumbN (a := fun _ => 0) (fun c _ hb => by rw [Nat.zero_testBit] at hb; cases hb), z_S_0]; rfl
  refine ⟨decide_eq_true ⟨fun c _ hb => (by rw [Nat.zero_testBit] at hb; cases hb), ?_, ?_, ?_, ?_, ?_⟩, fun s k hs hp h1 h2 => ?_⟩
  · unfold z_cnt; rw [hz, bm3]; exact nI_pos' (by omega)
  · unfold z_pow; rw [hz, lm3]; exact nI_pos' (by omega)
  · obtain ⟨r, r1, r2⟩ := hrm 0 (by omega)
    unfold z_use; rw [hz, r2]; exact nI_pos' (by omega)
  · obtain ⟨r, r1, r2⟩ := hrm 1 (by omega)
    unfold z_use; rw [hz, r2]; exact nI_pos' (by omega)
  · obtain ⟨r, r1, r2⟩ := hrm 2 (by omega)
    unfold z_use; rw [hz, r2]; exact nI_pos' (by omega)
  · obtain ⟨q1, q2, q3, q4, q5, q6⟩ : z_legX n f s := of_decide_eq_true hp
    refine decide_eq_true ⟨fun c hc hb => ?_, ?_, ?_, ?_, ?_, ?_⟩
    · obtain ⟨o1, o2, o3⟩ := q1 c hc (s_top h1 h2 hb)
      refine ⟨?_, o2, o3⟩
      obtain ⟨b, -, b2, b3, -⟩ := (h.cel c hc).fb
      have p10 : 2 ^ n ≤ 2 ^ 10 := Nat.pow_le_pow_right (by decide) n10
      have o1' : f (c + 40) 8 &&& nI s = 0 := o1
      show f (c + 40) 8 &&& nI (s - 2 ^ k) = 0
      rw [b3] at o1' ⊢
      rw [nx_and0 (by omega)] at o1' ⊢
      exact fun i hi q => o1' i hi ⟨q.1, s_top h1 h2 q.2⟩
    · exact q_sum_le (a := fun _ => 1) (B := 1) n10 (fun _ _ => rfl) (fun _ => Nat.le_refl _) (by decide) hs h1 h2 q2
    · have hpw : ∀ c, ∃ k : Nat, k ≤ 200 ∧ (c < n → f (c + 40) 0 * (2 + f (c + 40) 4) / 2 = nI k) := fun c => by
        by_cases hc : c < n
        · obtain ⟨a, -, a2, a3, -⟩ := (h.cel c hc).pw
          obtain ⟨b, -, b2, b3, -⟩ := (h.cel c hc).rn
          have hm : a * (2 + b) ≤ 100 * 4 := Nat.mul_le_mul a2 (by omega)
          refine ⟨a * (2 + b) / 2, by omega, fun _ => ?_⟩
          rw [a3, b3, show (2 : Int32) = nI 2 from rfl, nI_add, pk_mul, pk_div (by omega) (by decide) (by decide)]
        · exact ⟨0, by omega, fun q => absurd q hc⟩
      exact q_sum_le (a := fun c => (hpw c).choose) (B := 200) n10 (fun c hc => (hpw c).choose_spec.2 hc) (fun c => (hpw c).choose_spec.1) (by decide) hs h1 h2 q3
    · exact q_sum_le (a := fun c => if f (c + 40) 3 = 0 then 1 else 0) (b := fun c => if f (c + 40) 3 = 0 then 1 else 0) (B := 1) n10 (fun c _ => by show (if f (c + 40) 3 = 0 then (1 : Int32) else 0) = nI (if f (c + 40) 3 = 0 then 1 else 0); split <;> rfl) (fun c => by show (if f (c + 40) 3 = 0 then 1 else 0) ≤ 1; split <;> decide) (by decide) hs h1 h2 q4
    · exact q_sum_le (a := fun c => if f (c + 40) 3 = 1 then 1 else 0) (b := fun c => if f (c + 40) 3 = 1 then 1 else 0) (B := 1) n10 (fun c _ => by show (if f (c + 40) 3 = 1 then (1 : Int32) else 0) = nI (if f (c + 40) 3 = 1 then 1 else 0); split <;> rfl) (fun c => by show (if f (c + 40) 3 = 1 then 1 else 0) ≤ 1; split <;> decide) (by decide) hs h1 h2 q5
    · exact q_sum_le (a := fun c => if f (c + 40) 3 = 2 then 1 else 0) (b := fun c => if f (c + 40) 3 = 2 then 1 else 0) (B := 1) n10 (fun c _ => by show (if f (c + 40) 3 = 2 then (1 : Int32) else 0) = nI (if f (c + 40) 3 = 2 then 1 else 0); split <;> rfl) (fun c => by show (if f (c + 40) 3 = 2 then 1 else 0) ≤ 1; split <;> decide) (by decide) hs h1 h2 q6
/-! proof -/
theorem q_sumL_N {a : Nat → Nat} {b : Nat → Int64} : ∀ {k : Nat} {s : Nat}, (∀ c, c < k → s.testBit c = true → b c = lN (a c)) → q_sumL (fun c => if s.testBit c = true then b c else 0) k = lN (z_S a s k)
  | 0, _, _ => rfl
  | k + 1, s, h => by
    rw [q_sumL, z_S, q_sumL_N (fun c hc => h c (by omega))]
    by_cases e : s.testBit k = true
    · rw [if_pos e, if_pos e, h k (by omega) e, lN_add]
    · rw [if_neg e, if_neg e, Int64.add_zero, Nat.add_zero]
theorem lN_ltI {a b : Nat} (ha : a < 2 ^ 63) (hb : b < 2 ^ 63) : lN a < lN b ↔ a < b := by rw [Int64.lt_iff_toInt_lt, pf_lI ha, pf_lI hb]; omega
theorem z_mst_bN {p : Nat → Bool} {W : Nat → Nat} {wt : Nat → Int64} (h0 : p 0 = true) (hW0 : W 0 = 0) (hW : ∀ s, W s < 2 ^ 62) : ∀ m, (∀ s, s < m → wt s = lN (W s)) → z_mst p wt m = lN (W (z_bN p W m))
  | 0, _ => by rw [z_mst, z_bN, hW0]; rfl
  | m + 1, h => by
    rw [z_mst, z_bN, z_mst_bN h0 hW0 hW m (fun s hs => h s (by omega)), h m (by omega)]
    have b1 := hW m
    have b2 := hW (z_bN p W m)
    by_cases e : p m = true
    · rw [if_pos e]
      by_cases e2 : W (z_bN p W m) < W m
      · rw [if_pos ((lN_ltI (by omega) (by omega)).mpr e2), if_pos ⟨e, e2⟩]
      · rw [if_neg (fun q => e2 ((lN_ltI (by omega) (by omega)).mp q)), if_neg (fun q => e2 q.2)]
    · rw [if_neg e, if_neg (fun q => e q.1)]
theorem r_proof (h : x_R n t tB f g F G) {s : Int32} {vx vm : Int64} {hx hm : PH}
    (px : (¬ q_rfX (f 20) (q_nbX g) n s 1000000 = 0 ∧ vx = (q_rfX (f 20) (q_nbX g) n s 1000000).toInt64 ∧ hx = (f, g, rfX n sB tB)) ∨ (q_rfX (f 20) (q_nbX g) n s 1000000 = 0 ∧ ∃ S : Nat, S ≤ 3 ∧ s = nI S ∧ (∀ c, c < n → 0 ≤ (q_nbX g S c).toInt ∧ (q_nbX g S c).toInt ≤ 1000000) ∧ vx = z_prf (q_sumL (x_nd f g S) n) (nI (z_W (x_pr g S) (z_bN (z_p n f) (z_W (x_pr g S)) (2 ^ n)))).toInt64 ∧ ∃ r7 r13 : Nat → Int32, r13 0 = 0 ∧ hx = (va_up (z_fnd n (va_up f 7 r7) (2 ^ n)) 13 r13, g, rfX n sB tB)))
    (pm : (q_ref (F 1) (F 2) (q_nbM G) n s 1000000 < 0 ∧ vm = (q_ref (F 1) (F 2) (q_nbM G) n s 1000000).toInt64 ∧ hm = (F, G, rfM)) ∨ (¬ q_ref (F 1) (F 2) (q_nbM G) n s 1000000 < 0 ∧ ∃ S : Nat, S ≤ 3 ∧ s = nI S ∧ vm = z_prf (q_sumL (z_nd F G S) n) (z_mstM n F G S (2 ^ n)) ∧ hm = (F, G, rfM))) : vx = vm ∧ x_Q (alX n sB tB) hx hm := by
  have n10 := h.n10
  have p10 : 2 ^ n ≤ 2 ^ 10 := Nat.pow_le_pow_right (by decide) n10
  rw [r_refn, ← r_ref h] at pm
  rcases px with ⟨c, rfl, rfl⟩ | ⟨c, S, hS, eS, hb, rfl, r7, r13, h13, rfl⟩
  · rcases pm with ⟨c2, rfl, rfl⟩ | ⟨c2, -⟩
    · exact ⟨rfl, h.Q⟩
    · exact absurd c c2
  · rcases pm with ⟨c2, -⟩ | ⟨c2, S2, hS2, eS2, rfl, rfl⟩
    · exact absurd c c2
    · have eSS : S2 = S := (nI_eq (by omega) (by omega)).mp (eS2.symm.trans eS)
      subst eSS
      have en : ∀ c, c < n → q_nbX g S2 c = q_nbM G S2 c := fun c hc => h.num S2 hS c (by omega)
      have el : ∀ c, c < n → q_nbX g S2 c = lN (x_pr g S2 c) ∧ x_pr g S2 c ≤ 1000000 := fun c hc => by
        have := hb c hc
        have e : x_pr g S2 c = (q_nbX g S2 c).toInt.toNat := rfl
        refine ⟨Int64.toInt_inj.mp ?_, by rw [e]; omega⟩
        rw [pf_lI (by rw [e]; omega), e]
        exact (Int.toNat_of_nonneg this.1).symm
      have end_ : q_sumL (x_nd f g S2) n = q_sumL (z_nd F G S2) n := q_sumL_congr (fun c hc => by
        unfold x_nd z_nd
        rw [← en c hc, (el c hc).1, lN_i, nI_l (by have := (el c hc).2; omega), r_e_eq (h.cel c hc).nd])
      have hSS : ∀ s, s < 2 ^ n → z_W (x_pr g S2) s = z_S (x_pr g S2) s n := fun s hs => z_S_n hs n10
      have hle : ∀ s, z_S (x_pr g S2) s n ≤ 10 * 1000000 := fun s => by
        have := z_S_le (w := x_pr g S2) (s := s) (B := 1000000) (k := n) (fun c hc _ => (el c hc).2)
        exact Nat.le_trans this (Nat.mul_le_mul_right _ n10)
      have hmst : z_mstM n F G S2 (2 ^ n) = lN (z_S (x_pr g S2) (z_bN (z_p n f) (fun s => z_S (x_pr g S2) s n) (2 ^ n)) n) := by
        unfold z_mstM
        rw [← h.pM]
        refine z_mst_bN (W := fun s => z_S (x_pr g S2) s n) h.dn.1 (z_S_0 n) (fun s => by have := hle s; show z_S (x_pr g S2) s n < 2 ^ 62; omega) (2 ^ n) (fun s hs => ?_)
        unfold z_wp
        exact q_sumL_N (fun c hc _ => by rw [← en c hc]; exact (el c hc).1)
      have hbn : ∀ m, m ≤ 2 ^ n → z_bN (z_p n f) (z_W (x_pr g S2)) m = z_bN (z_p n f) (fun s => z_S (x_pr g S2) s n) m := by
        intro m
        induction m with
        | zero => intro _; rfl
        | succ m ih =>
          intro hm
          rw [z_bN, z_bN, ih (by omega)]
          have hlt : z_bN (z_p n f) (fun s => z_S (x_pr g S2) s n) m < 2 ^ n := by
            rcases Nat.eq_zero_or_pos m with q | q
            · subst q; rw [z_bN]; exact Nat.pow_pos (by decide)
            · exact Nat.lt_of_lt_of_le (z_bN_lt q) (by omega)
          rw [hSS m (by omega), hSS _ hlt]
      refine ⟨?_, ?_⟩
      · have hlt := z_bN_lt (p := z_p n f) (W := fun s => z_S (x_pr g S2) s n) (t := 2 ^ n) (Nat.pow_pos (by decide))
        rw [end_, hmst, hbn _ (Nat.le_refl _), hSS _ hlt, nI_l (by have := hle (z_bN (z_p n f) (fun s => z_S (x_pr g S2) s n) (2 ^ n)); omega)]
      · refine x_R.Q (t := t) (x_keep h (fun k hk => rfl) h.sta rfl h.frm rfl rfl rfl rfl h13 (fun c hc => ?_) (fun c hc => ?_) (fun _ _ => rfl) (fun _ _ => rfl) (fun _ _ _ _ => rfl) (fun _ _ => rfl) h.dig (fun s h1 h2 => ?_))
        · rw [va_up_n (by omega)]
          show (if c + 40 = 2 then _ else if c + 40 = 11 then _ else if c + 40 = 12 then _ else va_up f 7 r7 (c + 40)) = _
          rw [if_neg (by omega), if_neg (by omega), if_neg (by omega), va_up_n (by omega)]
        · rw [va_up_n (by omega)]
          show (if c + 60 = 2 then _ else if c + 60 = 11 then _ else if c + 60 = 12 then _ else va_up f 7 r7 (c + 60)) = _
          rw [if_neg (by omega), if_neg (by omega), if_neg (by omega), va_up_n (by omega)]
        · rw [va_up_n (by decide)]
          show (if s < 2 ^ n then _ else va_up f 7 r7 11 s) = 0
          rw [if_neg (by omega), va_up_n (by decide)]
          exact h.x11 s h1 h2
/-! ways -/
theorem w_dm_hi {v : Nat} : ∀ m j, w_dm v m ≤ j → j < m → v / 10 ^ j % 10 = 0
  | 0, j, _, h => absurd h (Nat.not_lt_zero j)
  | m + 1, j, h1, h2 => by
    rw [w_dm] at h1
    by_cases e : 0 < v / 10 ^ m % 10
    · rw [if_pos e] at h1; omega
    · rw [if_neg e] at h1
      by_cases e2 : j = m
      · subst e2; omega
      · exact w_dm_hi m j h1 (by omega)
theorem w_B8 : wB ^ 8 = 10 ^ 72 := by decide +kernel
theorem r_ways (h : x_R n t tB f g F G) {x vm : Int32} {vx : Option Value} {al2 : Nat → Bool} {hx hm : PH}
    (px : (¬ (0 ≤ x.toInt ∧ x.toInt ≤ 24) ∧ vx = some (.int (-2)) ∧ al2 = alX n sB tB ∧ hx = (f, g, rfX n sB tB)) ∨ (∃ e : Nat, e ≤ 24 ∧ x = nI e ∧ vx = some (.int (nI (w_dm (w_W n (w_LX n f) e) 72))) ∧ al2 = alX n sB true ∧ ∃ (F' : Nat → Nat → Int32) (G' : Nat → Nat → Int64), x_kpW n f F' g G' ∧ (∀ j, j < 72 → F' 32 j = nI (w_W n (w_LX n f) e / 10 ^ j % 10)) ∧ hx = (F', G', rfX n sB true)))
    (pm : (¬ (0 ≤ x.toInt ∧ x.toInt ≤ 24) ∧ vm = -2 ∧ hm = (F, G, rfM)) ∨ (∃ e : Nat, e ≤ 24 ∧ x = nI e ∧ vm = nI (w_dm (w_W n (w_LM n F) e) 360) ∧ ∃ F' : Nat → Nat → Int32, w_k2 F F' vm ∧ (∀ j, j < 360 → F' 45 j = nI (w_W n (w_LM n F) e / 10 ^ j % 10)) ∧ hm = (F', G, rfM))) : vx = some (.int vm) ∧ x_Q al2 hx hm := by
  have n10 := h.n10
  have ke : ∀ e : Nat, e ≤ 24 → x = nI e → 0 ≤ x.toInt ∧ x.toInt ≤ 24 := fun e he q => by rw [q, nI_toInt (by omega)]; omega
  rcases px with ⟨c, rfl, rfl, rfl⟩ | ⟨e, he, ex, rfl, rfl, fX, gX, hkX, hdX, rfl⟩
  · rcases pm with ⟨c2, rfl, rfl⟩ | ⟨e, he, ex, -⟩
    · exact ⟨rfl, h.Q⟩
    · exact absurd (ke e he ex) c
  · rcases pm with ⟨c2, -⟩ | ⟨e2, he2, ex2, hvm, fM, hkM, hdM, rfl⟩
    · exact absurd (ke e he ex) c2
    · have eee : e2 = e := (nI_eq (by omega) (by omega)).mp (ex2.symm.trans ex)
      subst eee
      have eL : w_LX n f = w_LM n F := funext fun s => by
        show (if decide (z_legX n f s) = true then 1 else 0) = if z_legM n F s then 1 else 0
        by_cases q : z_legM n F s
        · rw [if_pos q, if_pos (decide_eq_true ((h.leg s).mpr q))]
        · rw [if_neg q, if_neg (fun z => q ((h.leg s).mp (of_decide_eq_true z)))]
      have hlt := w_W_lt (e := e2) n10 he (fun T hT => w_LX_N n10 h.hbm hT)
      rw [w_B8] at hlt
      rw [eL] at hdX hlt
      have hdm := w_dm_W (b := 360) hlt (by decide)
      rw [hdm] at hvm
      subst hvm
      rw [eL]
      refine ⟨rfl, x_R.Q (t := t) ?_⟩
      generalize w_W n (w_LM n F) e2 = W at *
      have d72 := (w_dm_le (v := W) 72).2.1 (by decide)
      have m0 : ∀ k, k ≠ 46 → fM 0 k = F 0 k := fun k hk => by rw [hkM.2, va_up_n hk]
      have kX : ∀ a, a ≠ 2 → a ≠ 6 → a ≠ 11 → a ≠ 12 → a < 28 ∨ 32 < a → fX a = f a := hkX.1
      refine x_keep h (fun k _ => by rw [kX 0 (by decide) (by decide) (by decide) (by decide) (by omega)]) (by rw [kX 0 (by decide) (by decide) (by decide) (by decide) (by omega), m0 14 (by decide)]; exact h.sta) (kX 1 (by decide) (by decide) (by decide) (by decide) (by omega)) (by rw [kX 4 (by decide) (by decide) (by decide) (by decide) (by omega), kX 21 (by decide) (by decide) (by decide) (by decide) (by omega), m0 13 (by decide), hkM.1 29 (by decide) (by omega)]; exact h.frm) (kX 9 (by decide) (by decide) (by decide) (by decide) (by omega)) (kX 10 (by decide) (by decide) (by decide) (by decide) (by omega)) (kX 19 (by decide) (by decide) (by decide) (by decide) (by omega)) (kX 20 (by decide) (by decide) (by decide) (by decide) (by omega)) (by rw [kX 13 (by decide) (by decide) (by decide) (by decide) (by omega)]; exact h.x13) (fun c _ => kX _ (by omega) (by omega) (by omega) (by omega) (by omega)) (fun c _ => kX _ (by omega) (by omega) (by omega) (by omega) (by omega)) (fun c _ => hkX.2.2 _ (by omega) (by omega)) (fun S hS => hkX.2.2 _ (by omega) (by omega)) (fun k _ _ h46 => m0 k h46) (fun a ha => hkM.1 a (by omega) (by omega)) (Or.inr ⟨rfl, w_dm W 72, d72, by rw [hkM.2, va_up_s], fun j hj => by rw [hdX j (by omega), hdM j (by omega)], fun j h1 h2 => by rw [hdX j h2, w_dm_hi 72 j h1 h2]; rfl⟩) (fun s h1 h2 => by rw [hkX.2.1 s h1]; exact h.x11 s h1 h2)
end RP
