/-! a slot, and go -/
section RG
variable {n t : Nat} {sB tB : Bool} {f : Nat → Nat → Int32} {g : Nat → Nat → Int64} {F : Nat → Nat → Int32} {G : Nat → Nat → Int64}
theorem x_f4_lo {lit L : Nat} {r7 r13 : Nat → Int32} {a : Nat} (ha : a < 40) (h0 : a ≠ 0) (h7 : a ≠ 7) (h13 : a ≠ 13) : x_f4 n f g lit L r7 r13 a = f a := by
  unfold x_f4
  rw [x_cl_out (by omega)]
  unfold x_f3 x_F
  rw [x_cl_out (by omega), x_cl_out (by omega)]
  unfold x_f2
  rw [q_up_ne h0, va_up_n h13, va_up_n h7]
  unfold x_f1
  rw [x_cl_out (by omega)]
theorem x_f4_0 {lit L : Nat} {r7 r13 : Nat → Int32} : x_f4 n f g lit L r7 r13 0 = va_up (f 0) 9 (nI lit) := by
  unfold x_f4
  rw [x_cl_out (by omega)]
  unfold x_f3 x_F
  rw [x_cl_out (by omega), x_cl_out (by omega)]
  unfold x_f2
  rw [q_up_eq, va_up_n (by decide), va_up_n (by decide)]
  unfold x_f1
  rw [x_cl_out (by omega)]
theorem x_f4_13 {lit L : Nat} {r7 r13 : Nat → Int32} : x_f4 n f g lit L r7 r13 13 = r13 := by
  unfold x_f4
  rw [x_cl_out (by omega)]
  unfold x_f3 x_F
  rw [x_cl_out (by omega), x_cl_out (by omega)]
  unfold x_f2
  rw [q_up_ne (by decide), va_up_s]
theorem x_f2_40 {lit : Nat} {r7 r13 : Nat → Int32} {c : Nat} (hc : c < n) (h10 : n ≤ 10) : x_f2 n f lit r7 r13 (c + 40) = f (c + 40) := by
  unfold x_f2
  rw [q_up_ne (by omega), va_up_n (by omega), va_up_n (by omega)]
  unfold x_f1
  rw [x_cl_out (by omega)]
theorem x_f2_60 {lit : Nat} {r7 r13 : Nat → Int32} {c : Nat} (hc : c < n) (h10 : n ≤ 10) : x_f2 n f lit r7 r13 (c + 60) = x_R60 f c := by
  unfold x_f2
  rw [q_up_ne (by omega), va_up_n (by omega), va_up_n (by omega)]
  unfold x_f1
  rw [x_cl_at hc]
theorem x_g1_40 {c : Nat} (hc : c < n) : x_g1 n f g (c + 40) = x_G40 f g c := by
  unfold x_g1
  rw [x_cl_at hc]
theorem x_f3_40 {lit L : Nat} {r7 r13 : Nat → Int32} {c : Nat} (hc : c < n) (h10 : n ≤ 10) : x_f3 n f g lit L r7 r13 (c + 40) = if lit.testBit c = true then va_up (va_up (f (c + 40)) 13 0) 15 (f (c + 40) 15 + 1) else va_up (va_up (f (c + 40)) 13 (f (c + 40) 13 + 1)) 14 (q_mx (f (c + 40) 14) (f (c + 40) 13 + 1)) := by
  unfold x_f3 x_F
  rw [x_cl_out (by omega), x_cl_at hc]
  unfold x_cel
  rw [x_f2_40 hc h10]
theorem x_f3_60 {lit L : Nat} {r7 r13 : Nat → Int32} {c : Nat} (hc : c < n) : x_f3 n f g lit L r7 r13 (c + 60) = x_row (x_f2 n f lit r7 r13) (x_g1 n f g) lit L c := by
  unfold x_f3 x_F
  rw [x_cl_at hc]
theorem x_f4_60 {lit L : Nat} {r7 r13 : Nat → Int32} {c : Nat} (hc : c < n) (h10 : n ≤ 10) : x_f4 n f g lit L r7 r13 (c + 60) = x_row (x_f2 n f lit r7 r13) (x_g1 n f g) lit L c := by
  unfold x_f4
  rw [x_cl_out (by omega), x_f3_60 hc]
theorem x_rs_eq {lit : Nat} {r7 r13 : Nat → Int32} {c r : Nat} (hc : c < n) (h10 : n ≤ 10) (hr : q_rate (f (c + 40) 4) (f (c + 40) 1) = nI r) : x_rs (x_f2 n f lit r7 r13) (x_g1 n f g) lit c = if lit.testBit c = true then q_snd 21 (nI r) (x_R60 f c) (g (c + 40) 11) else (x_R60 f c, g (c + 40) 11) := by
  unfold x_rs
  rw [x_f2_40 hc h10, x_f2_60 hc h10, x_g1_40 hc, hr, show x_G40 f g c 11 = g (c + 40) 11 from va_up_n (by decide)]
theorem x_slot (h : x_R n t tB f g F G) (hl : x_L n f) {L m : Nat} (hL : f 1 6 = nI L) (hL1 : 1 ≤ L) (hL2 : L ≤ 20) (hm : f 4 1 = nI m) (hm9 : m ≤ 90) (ht : t < 20000) : ∃ (p : Nat → Bool) (w : Nat → Nat), x_pre n m L t f g p w ∧ ∀ r7 r13 : Nat → Int32, r13 0 = 0 → x_R n (t + 1) tB (x_psF n f g (x_lit n m t f p w) L t r7 r13) (x_psG n f g (x_lit n m t f p w) L r7 r13) (z_gbF n F G m t L) (z_gbG n F G m t L) ∧ x_L n (x_psF n f g (x_lit n m t f p w) L t r7 r13) ∧ x_psF n f g (x_lit n m t f p w) L t r7 r13 1 6 = nI L ∧ x_psF n f g (x_lit n m t f p w) L t r7 r13 4 1 = nI m := by
  have n10 := h.n10
  have p10 : 2 ^ n ≤ 2 ^ 10 := Nat.pow_le_pow_right (by decide) n10
  have pp : 0 < 2 ^ n := Nat.pow_pos (by decide)
  obtain ⟨vf, hq1⟩ := Classical.axiomOfChoice (fun c => h.wgt (L := L) hL1 hL2 c)
  obtain ⟨rf, hq2⟩ := Classical.axiomOfChoice hq1
  obtain ⟨uf, hK⟩ := Classical.axiomOfChoice hq2
  clear hq1 hq2
  have hwb : ∀ c, c < n → uf c * min (vf c) (rf c) ≤ 9000 := fun c hc => by
    obtain ⟨-, k2, k3, -⟩ := hK c hc
    exact Nat.mul_le_mul k3 (by omega : min (vf c) (rf c) ≤ 1000)
  have hwx : ∀ c, c < n → x_wt (x_f1 n f) (x_g1 n f g) c = nI (uf c * min (vf c) (rf c)) := fun c hc => by
    obtain ⟨k1, k2, k3, k4, k5, k6, k7, k8, k9, -⟩ := hK c hc
    unfold x_wt
    have e1 : x_f1 n f (c + 40) = f (c + 40) := by unfold x_f1; rw [x_cl_out (by omega)]
    rw [e1, x_g1_40 hc, k5, k7]
    unfold x_G40
    rw [va_up_s, va_up_n (show 11 ≠ 10 by decide), va_up_n (show 12 ≠ 10 by decide), k9, q_mn_N (by omega) (by omega), pk_mul]
  have hco : ∀ c, c < n → z_co F c = nI (min (vf c) (rf c)) := fun c hc => by
    obtain ⟨k1, k2, k3, k4, k5, k6, k7, k8, k9, -⟩ := hK c hc
    unfold z_co
    rw [k4, k6, q_mn_N (by omega) (by omega)]
  have hfr : ∀ i, i < m → f 21 i = F 29 i ∧ ∃ s : Nat, s < 2 ^ n ∧ f 21 i = nI s := by
    obtain ⟨k, k1, k2, k3, k4⟩ := h.frm
    have e : m = k := (nI_eq (by omega) (by omega)).mp (hm.symm.trans k2)
    subst e
    exact k4
  have hlt : ∀ c, uf c * min (vf c) (rf c) = (fun c => uf c * min (vf c) (rf c)) c := fun _ => rfl
  generalize hwe : (fun c => uf c * min (vf c) (rf c)) = w at hlt
  have hwb' : ∀ c, c < n → w c ≤ 9000 := fun c hc => by rw [← hlt]; exact hwb c hc
  -- the same sets are lit
  have hlit : z_lit n F m t = x_lit n m t f (z_p n f) w := by
    unfold z_lit x_lit
    obtain ⟨k, -, k2, k3, k4⟩ := h.rul
    by_cases e : k = 0
    · subst e
      rw [k3, k4, if_pos (by decide), if_neg (by decide)]
      have ef : z_frm m t (F 29) = z_frm m t (f 21) ∧ z_frm m t (f 21) < 2 ^ n := by
        unfold z_frm
        by_cases em : m = 0
        · rw [if_pos em, if_pos em]; exact ⟨rfl, pp⟩
        · have hlm := Nat.mod_lt t (Nat.pos_of_ne_zero em)
          obtain ⟨x1, s, x2, x3⟩ := hfr _ hlm
          rw [if_neg em, if_neg em, ← x1, x3, nI_clamp (by omega)]
          exact ⟨rfl, x2⟩
      rw [ef.1]
      refine z_cut_congr 10 _ (fun s hs => ?_)
      have hs2 : s < 2 ^ n := by omega
      rw [hl.2 s hs2]
      exact decide_eq_decide.mpr ((h.leg s).symm.trans q_b1.symm)
    · have e1 : k = 1 := by omega
      subst e1
      rw [k3, k4, if_neg (by decide), if_pos (by decide), ← h.pM]
      have hzW : ∀ s, s < 2 ^ n → z_W w s = z_S w s n := fun s hs => z_S_n hs n10
      have hle : ∀ s, z_S w s n ≤ 10 * 9000 := fun s => Nat.le_trans (z_S_le (w := w) (s := s) (B := 9000) (k := n) (fun c hc _ => hwb' c hc)) (Nat.mul_le_mul_right _ n10)
      obtain ⟨M, hM⟩ : ∃ M, 2 ^ n = M + 1 := ⟨2 ^ n - 1, by omega⟩
      have hb := z_bst_bN (p := z_p n f) (W := fun s => z_S w s n) (wt := z_wtM n (F 17) (z_F1 F n 47)) (z_S_0 n) (fun s => by have := hle s; show z_S w s n < 2 ^ 62; omega) M (fun s hs => by
        unfold z_wtM
        refine q_sumL_N (fun c hc _ => ?_)
        obtain ⟨k1, k2, k3, k4, k5, k6, k7, k8, k9, -⟩ := hK c hc
        rw [show z_F1 F n 47 c = z_co F c from q_part_lt hc, hco c hc, k8, nI_l (by omega), nI_l (by omega), lN_mul, hlt])
      rw [← hM] at hb
      rw [hb, z_bN_congr hzW _ (Nat.le_refl _)]
  refine ⟨z_p n f, w, ⟨⟨h.cX, n10⟩, h.gtX, h.hbm, ⟨hL, hL1, hL2⟩, ⟨hm, hm9, fun i hi => by obtain ⟨-, s, x2, x3⟩ := hfr i hi; exact ⟨s, by omega, x3⟩⟩, ⟨h.sX, h.t20⟩, ?_, fun c hc => ⟨by rw [hwx c hc, hlt], by have := hwb' c hc; omega⟩, hl.1, h.dn, h.x13⟩, fun r7 r13 h13 => ?_⟩
  · rw [hl.2 0 pp]
    exact q_b1.mpr (of_decide_eq_true h.dn.1)
  generalize hle : x_lit n m t f (z_p n f) w = lit at hlit
  -- the cells behind the slot
  have hcl : ∀ c, c < n → r_C (t + 1) (x_f4 n f g lit L r7 r13 (c + 40)) (x_f4 n f g lit L r7 r13 (c + 60)) (x_psG n f g lit L r7 r13 (c + 40)) (fun a => z_gbF n F G m t L a c) (fun k => z_gbF n F G m t L 30 (21 * c + k)) (fun a => z_gbG n F G m t L a c) := by
    intro c hc
    have hr := h.cel c hc
    obtain ⟨k1, k2, k3, k4, k5, k6, k7, k8, k9, k10⟩ := hK c hc
    obtain ⟨nw, cm, sn, ls, q1, q2, ⟨q3, q4⟩, ⟨q5, q6⟩, ⟨q7, q8⟩, q9, qa⟩ := k10 (lit.testBit c) _ _ rfl rfl
    have ers := x_rs_eq (g := g) (lit := lit) (r7 := r7) (r13 := r13) hc n10 k5
    have emr : z_rs F G lit c = if lit.testBit c = true then q_sndM 21 (nI (min (vf c) (rf c))) (fun k => z_r1 F (21 * c + k)) (G 32 c) else ((fun k => z_r1 F (21 * c + k)), G 32 c) := by
      unfold z_rs
      rw [hco c hc]
    rw [← ers] at q1 q5 q7
    rw [← emr] at q1 q6 q8
    have f40 : ∀ k, k ≠ 7 → x_f4 n f g lit L r7 r13 (c + 40) k = x_f3 n f g lit L r7 r13 (c + 40) k := fun k hk => by
      unfold x_f4
      rw [x_cl_at hc]
      unfold x_hc
      split
      · exact va_up_n hk
      · rfl
    have f3k : ∀ k, k ≠ 13 → k ≠ 14 → k ≠ 15 → x_f3 n f g lit L r7 r13 (c + 40) k = f (c + 40) k := fun k a1 a2 a3 => by
      rw [x_f3_40 hc n10]
      split
      · rw [va_up_n a3, va_up_n a1]
      · rw [va_up_n a2, va_up_n a1]
    have hhd : r_e 0 9 (x_f4 n f g lit L r7 r13 (c + 40) 7) (z_gbF n F G m t L 19 c) := by
      obtain ⟨hd, -, hd2, hd3, hd4⟩ := hr.hd
      have em : z_gbF n F G m t L 19 c = F 19 c - (if 0 < F 19 c then 1 else 0) := (q_part_lt hc : q_part n (F 19) (fun c => F 19 c - (if 0 < F 19 c then 1 else 0)) c = _)
      have hd4' : F 19 c = nI hd := hd4
      rw [em, hd4']
      unfold x_f4
      rw [x_cl_at hc]
      unfold x_hc
      rw [f3k 7 (by decide) (by decide) (by decide), hd3]
      by_cases e : 0 < hd
      · have e2 : (0 : Int32) < nI hd := nI_lt (a := 0) e (by omega)
        rw [if_pos e2, va_up_s, if_pos e2, show (1 : Int32) = nI 1 from rfl, pk_sub (by omega)]
        exact ⟨hd - 1, by omega, by omega, rfl, rfl⟩
      · have e0 : hd = 0 := by omega
        subst e0
        rw [if_neg (by decide), if_neg (by decide), f3k 7 (by decide) (by decide) (by decide), hd3]
        exact ⟨0, by omega, by omega, rfl, rfl⟩
    have hk3 : x_f4 n f g lit L r7 r13 (c + 40) 13 = z_gbF n F G m t L 24 c ∧ x_f4 n f g lit L r7 r13 (c + 40) 14 = z_gbF n F G m t L 25 c ∧ x_f4 n f g lit L r7 r13 (c + 40) 15 = z_gbF n F G m t L 26 c := by
      have m24 : z_gbF n F G m t L 24 c = if (z_lit n F m t).testBit c = true then 0 else F 24 c + 1 := (q_part_lt hc : q_part n (F 24) (fun c => if (z_lit n F m t).testBit c = true then 0 else F 24 c + 1) c = _)
      have m25 : z_gbF n F G m t L 25 c = if (z_lit n F m t).testBit c = true then F 25 c else q_mx (F 25 c) (F 24 c + 1) := (q_part_lt hc : q_part n (F 25) (fun c => if (z_lit n F m t).testBit c = true then F 25 c else q_mx (F 25 c) (F 24 c + 1)) c = _)
      have m26 : z_gbF n F G m t L 26 c = if (z_lit n F m t).testBit c = true then F 26 c + 1 else F 26 c := (q_part_lt hc : q_part n (F 26) (fun c => if (z_lit n F m t).testBit c = true then F 26 c + 1 else F 26 c) c = _)
      rw [f40 13 (by decide), f40 14 (by decide), f40 15 (by decide), m24, m25, m26, hlit, x_f3_40 hc n10]
      have d1 : f (c + 40) 13 = F 24 c := hr.dk
      have d2 : f (c + 40) 14 = F 25 c := hr.ld
      have d3 : f (c + 40) 15 = F 26 c := hr.tm
      by_cases e : lit.testBit c = true
      · rw [if_pos e, if_pos e, if_pos e, if_pos e, va_up_n (by decide), va_up_s, va_up_n (by decide), va_up_n (by decide), va_up_s, d2, d3]
        exact ⟨rfl, rfl, rfl⟩
      · rw [if_neg e, if_neg e, if_neg e, if_neg e, va_up_n (by decide), va_up_s, va_up_s, va_up_n (by decide), va_up_n (by decide), d1, d2, d3]
        exact ⟨rfl, rfl, rfl⟩
    have fk : ∀ k, k ≠ 7 → k ≠ 13 → k ≠ 14 → k ≠ 15 → x_f4 n f g lit L r7 r13 (c + 40) k = f (c + 40) k := fun k a0 a1 a2 a3 => by rw [f40 k a0, f3k k a1 a2 a3]
    refine ⟨?_, ?_, ?_, ?_, ?_, ?_, ?_, hhd, ?_, hk3.1, hk3.2.1, hk3.2.2, ?_⟩
    · rw [fk 0 (by decide) (by decide) (by decide) (by decide)]; exact hr.pw
    · rw [fk 1 (by decide) (by decide) (by decide) (by decide)]; exact hr.rt
    · rw [fk 2 (by decide) (by decide) (by decide) (by decide)]; exact hr.rk
    · rw [fk 3 (by decide) (by decide) (by decide) (by decide)]; exact hr.gt
    · rw [fk 4 (by decide) (by decide) (by decide) (by decide)]; exact hr.rn
    · rw [fk 5 (by decide) (by decide) (by decide) (by decide)]; exact hr.nd
    · rw [fk 6 (by decide) (by decide) (by decide) (by decide)]; exact hr.ak
    · rw [fk 8 (by decide) (by decide) (by decide) (by decide)]; exact hr.fb
    · have g40 : x_psG n f g lit L r7 r13 (c + 40) = x_gce (x_f2 n f lit r7 r13) (x_g1 n f g) lit L c := by
        unfold x_psG x_G
        rw [x_cl_at hc]
      refine ⟨nw, cm, sn, ls, fun k hk => ⟨?_, ?_⟩, q2, ⟨?_, ?_⟩, ⟨?_, ?_⟩, ⟨?_, ?_⟩, q9, qa⟩
      · rw [x_f4_60 hc n10]
        exact (q1 k hk).1
      · show q_part (21 * n) (z_F1 F n 30) (z_R3 F G (z_lit n F m t) L) (21 * c + k) = nI (nw k)
        rw [q_part_lt (by omega), hlit]
        unfold z_R3
        rw [show (21 * c + k) / 21 = c by omega, show (21 * c + k) % 21 = k by omega]
        exact (q1 k hk).2
      · rw [g40]
        unfold x_gce
        rw [va_up_n (by decide), va_up_n (by decide), x_g1_40 hc]
        unfold x_G40
        rw [va_up_s]
        exact q3
      · show q_part n (G 31) (fun c => G 31 c + (F 21 c).toInt64) c = lN cm
        rw [q_part_lt hc]
        exact q4
      · rw [g40]
        unfold x_gce
        rw [va_up_n (by decide), va_up_s]
        exact q5
      · show q_part n (G 32) (fun c => (z_rs F G (z_lit n F m t) c).2) c = lN sn
        rw [q_part_lt hc, hlit]
        exact q6
      · rw [g40]
        unfold x_gce
        rw [va_up_s, x_g1_40 hc]
        unfold x_G40
        rw [va_up_n (show 12 ≠ 10 by decide)]
        exact q7
      · show q_part n (G 33) (fun c => q_los (z_rs F G (z_lit n F m t) c).1 (G 33 c) (22 - L)) c = lN ls
        rw [q_part_lt hc, hlit]
        exact q8
  -- what of the heap is as in x_f4
  have e5 : ∀ a, a ≠ 0 → a ≠ 2 → a ≠ 11 → a ≠ 12 → x_psF n f g lit L t r7 r13 a = x_f4 n f g lit L r7 r13 a := fun a a0 a2 a11 a12 => by
    unfold x_psF
    rw [q_up_ne a0]
    unfold x_f5
    split
    · rfl
    · show (if a = 2 then _ else if a = 11 then _ else if a = 12 then _ else x_f4 n f g lit L r7 r13 a) = _
      rw [if_neg a2, if_neg a11, if_neg a12]
  have e50 : ∀ k, x_psF n f g lit L t r7 r13 0 k = va_up (va_up (f 0) 9 (nI lit)) 8 (nI (t + 1)) k := fun k => by
    unfold x_psF
    rw [q_up_eq]
    have e : x_f5 n f g lit L r7 r13 0 = va_up (f 0) 9 (nI lit) := by
      unfold x_f5
      split
      · exact x_f4_0
      · exact (x_f4_0 (g := g) (L := L) : x_f4 n f g lit L r7 r13 0 = _)
    rw [e]
  have lo : ∀ a, a < 40 → a ≠ 0 → a ≠ 2 → a ≠ 7 → a ≠ 11 → a ≠ 12 → a ≠ 13 → x_psF n f g lit L t r7 r13 a = f a := fun a h1 h2 h3 h4 h5 h6 h7 => by rw [e5 a h2 h3 h5 h6, x_f4_lo h1 h2 h4 h7]
  have e11 : ∀ s, 2 ^ n ≤ s → x_psF n f g lit L t r7 r13 11 s = f 11 s := fun s hs => by
    unfold x_psF
    rw [q_up_ne (by decide)]
    unfold x_f5
    split
    · rw [x_f4_lo (by decide) (by decide) (by decide) (by decide)]
    · show (if s < 2 ^ n then _ else x_f4 n f g lit L r7 r13 11 s) = _
      rw [if_neg (by omega), x_f4_lo (by decide) (by decide) (by decide) (by decide)]
  have m0 : ∀ k, k ≠ 10 → k ≠ 12 → z_gbF n F G m t L 0 k = F 0 k := fun k a1 a2 => by
    show va_up (va_up (F 0) 12 (nI (z_lit n F m t))) 10 (nI (t + 1)) k = F 0 k
    rw [va_up_n a1, va_up_n a2]
  have hR : x_R n (t + 1) tB (x_psF n f g lit L t r7 r13) (x_psG n f g lit L r7 r13) (z_gbF n F G m t L) (z_gbG n F G m t L) := ⟨h.n10, (by rw [lo 1 (by decide) (by decide) (by decide) (by decide) (by decide) (by decide) (by decide)]; exact h.cX), (by rw [m0 5 (by decide) (by decide)]; exact h.cM), (by rw [m0 0 (by decide) (by decide)]; exact h.t0), (by rw [lo 1 (by decide) (by decide) (by decide) (by decide) (by decide) (by decide) (by decide), m0 6 (by decide) (by decide)]; exact h.bm), (by rw [lo 1 (by decide) (by decide) (by decide) (by decide) (by decide) (by decide) (by decide), m0 7 (by decide) (by decide)]; exact h.lm), (by rw [lo 1 (by decide) (by decide) (by decide) (by decide) (by decide) (by decide) (by decide), m0 8 (by decide) (by decide)]; exact h.la), (by rw [lo 1 (by decide) (by decide) (by decide) (by decide) (by decide) (by decide) (by decide), m0 9 (by decide) (by decide)]; exact h.ha), (by rw [e50, va_up_n (by decide), va_up_n (by decide), m0 11 (by decide) (by decide)]; exact h.rul), (by omega), (by rw [e50, va_up_s]), (va_up_s : va_up (va_up (F 0) 12 (nI (z_lit n F m t))) 10 (nI (t + 1)) 10 = nI (t + 1)), (by rw [e50, va_up_n (by decide), va_up_s]; exact ((va_up_n (by decide) : va_up (va_up (F 0) 12 (nI (z_lit n F m t))) 10 (nI (t + 1)) 12 = _).trans (va_up_s.trans (by rw [hlit]))).symm), (by rw [e50, va_up_n (by decide), va_up_n (by decide), m0 14 (by decide) (by decide)]; exact h.sta), (by rw [lo 4 (by decide) (by decide) (by decide) (by decide) (by decide) (by decide) (by decide), lo 21 (by decide) (by decide) (by decide) (by decide) (by decide) (by decide) (by decide), m0 13 (by decide) (by decide)]; exact h.frm), (fun c hc => by rw [e5 (c + 40) (by omega) (by omega) (by omega) (by omega), e5 (c + 60) (by omega) (by omega) (by omega) (by omega)]; exact hcl c hc), (fun c h1 h2 => by
    have hr := h.zer c h1 h2
    refine ⟨?_, fun k hk => ?_, ?_⟩
    · have hz := hr.z
      dsimp only at hz ⊢
      have g19 : z_gbF n F G m t L 19 c = F 19 c := (q_part_ge h1 : q_part n (F 19) (fun c => F 19 c - (if 0 < F 19 c then 1 else 0)) c = _)
      have g24 : z_gbF n F G m t L 24 c = F 24 c := (q_part_ge h1 : q_part n (F 24) (fun c => if (z_lit n F m t).testBit c = true then 0 else F 24 c + 1) c = _)
      have g25 : z_gbF n F G m t L 25 c = F 25 c := (q_part_ge h1 : q_part n (F 25) (fun c => if (z_lit n F m t).testBit c = true then F 25 c else q_mx (F 25 c) (F 24 c + 1)) c = _)
      have g26 : z_gbF n F G m t L 26 c = F 26 c := (q_part_ge h1 : q_part n (F 26) (fun c => if (z_lit n F m t).testBit c = true then F 26 c + 1 else F 26 c) c = _)
      rw [g19, g24, g25, g26]
      exact hz
    · show q_part (21 * n) (z_F1 F n 30) _ (21 * c + k) = 0
      rw [q_part_ge (by omega)]
      show q_part (21 * n) (F 30) (z_r1 F) (21 * c + k) = 0
      rw [q_part_ge (by omega)]
      exact hr.w k hk
    · have hz := hr.g
      dsimp only at hz ⊢
      have g31 : z_gbG n F G m t L 31 c = G 31 c := (q_part_ge h1 : q_part n (G 31) (fun c => G 31 c + (F 21 c).toInt64) c = _)
      have g32 : z_gbG n F G m t L 32 c = G 32 c := (q_part_ge h1 : q_part n (G 32) (fun c => (z_rs F G (z_lit n F m t) c).2) c = _)
      have g33 : z_gbG n F G m t L 33 c = G 33 c := (q_part_ge h1 : q_part n (G 33) (fun c => q_los (z_rs F G (z_lit n F m t) c).1 (G 33 c) (22 - L)) c = _)
      rw [g31, g32, g33]
      exact hz), (fun j hj => by rw [lo 9 (by decide) (by decide) (by decide) (by decide) (by decide) (by decide) (by decide), lo 10 (by decide) (by decide) (by decide) (by decide) (by decide) (by decide) (by decide)]; exact h.gat j hj), (fun S hS => by rw [lo 19 (by decide) (by decide) (by decide) (by decide) (by decide) (by decide) (by decide), lo 20 (by decide) (by decide) (by decide) (by decide) (by decide) (by decide) (by decide)]; exact h.shf S hS), (fun S hS i hi => by unfold x_psG x_G; rw [x_cl_out (by omega)]; unfold x_g1; rw [x_cl_out (by omega)]; exact h.num S hS i hi), (by rw [lo 32 (by decide) (by decide) (by decide) (by decide) (by decide) (by decide) (by decide), m0 46 (by decide) (by decide)]; exact h.dig), (by rw [e5 13 (by decide) (by decide) (by decide) (by decide), x_f4_13]; exact h13), (fun s h1 h2 => by rw [e11 s h1]; exact h.x11 s h1 h2)⟩
  refine ⟨hR, ?_, by rw [lo 1 (by decide) (by decide) (by decide) (by decide) (by decide) (by decide) (by decide)]; exact hL, by rw [lo 4 (by decide) (by decide) (by decide) (by decide) (by decide) (by decide) (by decide)]; exact hm⟩
  have hbm4 : ∃ b : Nat, b ≤ 4 ∧ x_f4 n f g lit L r7 r13 1 4 = nI b := by rw [x_f4_lo (by decide) (by decide) (by decide) (by decide)]; exact h.hbm
  have h40 : ∀ c, x_psF n f g lit L t r7 r13 (c + 40) = x_f5 n f g lit L r7 r13 (c + 40) := fun c => by unfold x_psF; rw [q_up_ne (by omega)]
  have eleg : ∀ s, z_legX n (x_psF n f g lit L t r7 r13) s ↔ z_legX n (x_f5 n f g lit L r7 r13) s := fun s => z_legX_congr rfl h40 rfl rfl
  have hx5 : x_L n (x_f5 n f g lit L r7 r13) := by
    unfold x_f5
    split
    · rename_i hv
      have hv0 := x_hv_0 hv
      have el4 : ∀ s, z_legX n (x_f4 n f g lit L r7 r13) s ↔ z_legX n f s := fun s => by
        have a1 : x_f4 n f g lit L r7 r13 1 = f 1 := x_f4_lo (by decide) (by decide) (by decide) (by decide)
        have a9 : x_f4 n f g lit L r7 r13 9 = f 9 := x_f4_lo (by decide) (by decide) (by decide) (by decide)
        have a10 : x_f4 n f g lit L r7 r13 10 = f 10 := x_f4_lo (by decide) (by decide) (by decide) (by decide)
        show z_leg n (x_f4 n f g lit L r7 r13 1 4) (x_f4 n f g lit L r7 r13 1 5) _ _ _ _ (x_f4 n f g lit L r7 r13 10) (x_f4 n f g lit L r7 r13 9) s ↔ _
        rw [a1, a9, a10]
        have fk : ∀ c, c < n → ∀ k, k ≠ 7 → k ≠ 13 → k ≠ 14 → k ≠ 15 → x_f4 n f g lit L r7 r13 (c + 40) k = f (c + 40) k := fun c hc k b0 b1 b2 b3 => by
          unfold x_f4
          rw [x_cl_at hc]
          unfold x_hc
          rw [x_f3_40 hc n10]
          split <;> split <;> first | rw [va_up_n b0, va_up_n b3, va_up_n b1] | rw [va_up_n b0, va_up_n b2, va_up_n b1] | rw [va_up_n b3, va_up_n b1] | rw [va_up_n b2, va_up_n b1]
        have hgt4 : ∀ c, c < n → ∃ j : Nat, j ≤ 2 ∧ x_f4 n f g lit L r7 r13 (c + 40) 3 = nI j := fun c hc => by rw [fk c hc 3 (by decide) (by decide) (by decide) (by decide)]; exact h.gtX c hc
        refine (z_leg_congr (hd' := fun c => x_f4 n f g lit L r7 r13 (c + 40) 7) (fun c hc => fk c hc 8 (by decide) (by decide) (by decide) (by decide)) (fun c hc => fk c hc 3 (by decide) (by decide) (by decide) (by decide)) (fun _ _ => rfl) (fun c hc => by
          show x_f4 n f g lit L r7 r13 (c + 40) 0 * (2 + x_f4 n f g lit L r7 r13 (c + 40) 4) / 2 = (fun c => f (c + 40) 0 * (2 + f (c + 40) 4) / 2) c
          rw [fk c hc 0 (by decide) (by decide) (by decide) (by decide), fk c hc 4 (by decide) (by decide) (by decide) (by decide)]) (fun _ _ => ⟨rfl, rfl⟩) hgt4).trans ?_
        refine z_leg_congr2 (fun c hc => ?_)
        show 0 < x_f4 n f g lit L r7 r13 (c + 40) 7 ↔ 0 < f (c + 40) 7
        have f37 : x_f3 n f g lit L r7 r13 (c + 40) 7 = f (c + 40) 7 := by
          rw [x_f3_40 hc n10]
          split
          · rw [va_up_n (by decide), va_up_n (by decide)]
          · rw [va_up_n (by decide), va_up_n (by decide)]
        obtain ⟨hd, -, hd2, hd3, -⟩ := (h.cel c hc).hd
        have hv1 := hv0 c hc
        rw [f37, hd3] at hv1
        unfold x_f4
        rw [x_cl_at hc]
        unfold x_hc
        rw [f37, hd3]
        by_cases e : 0 < nI hd
        · rw [if_pos e, va_up_s]
          have hp : 0 < hd := (nI_ltI (a := 0) (by omega) (by omega)).mp e
          have h2 := hv1 e
          rw [show (1 : Int32) = nI 1 from rfl, pk_sub (by omega)] at h2 ⊢
          have h3 : hd - 1 ≠ 0 := fun q => h2 (by rw [q]; rfl)
          exact ⟨fun _ => e, fun _ => nI_lt (a := 0) (by omega) (by omega)⟩
        · rw [if_neg e, f37, hd3]
      have ep : z_p n (x_f4 n f g lit L r7 r13) = z_p n f := funext fun s => decide_eq_decide.mpr (el4 s)
      have f11 : x_f4 n f g lit L r7 r13 11 = f 11 := x_f4_lo (by decide) (by decide) (by decide) (by decide)
      have f2 : x_f4 n f g lit L r7 r13 2 = f 2 := x_f4_lo (by decide) (by decide) (by decide) (by decide)
      have f12 : x_f4 n f g lit L r7 r13 12 = f 12 := x_f4_lo (by decide) (by decide) (by decide) (by decide)
      refine ⟨?_, fun s hs => by rw [f11, w_qb (el4 s)]; exact hl.2 s hs⟩
      rw [ep]
      show (x_f4 n f g lit L r7 r13 2 2 = _ ∧ _ ∧ ∀ s, s < 2 ^ n → z_p n f s = true → x_f4 n f g lit L r7 r13 12 (z_ct (z_p n f) s) = nI s)
      rw [f2, f12]
      exact hl.1
    · exact x_L_fnd n10 hbm4
  have epp : z_p n (x_psF n f g lit L t r7 r13) = z_p n (x_f5 n f g lit L r7 r13) := funext fun s => decide_eq_decide.mpr (eleg s)
  exact ⟨by rw [epp]; exact hx5.1, fun s hs => by rw [w_qb (eleg s)]; exact hx5.2 s hs⟩
theorem z_goM_s {m L : Nat} : ∀ (k t : Nat) (h : (Nat → Nat → Int32) × (Nat → Nat → Int64)), z_goM n m L (k + 1) t h = (z_gbF n (z_goM n m L k t h).1 (z_goM n m L k t h).2 m (t + k) L, z_gbG n (z_goM n m L k t h).1 (z_goM n m L k t h).2 m (t + k) L)
  | 0, t, h => rfl
  | k + 1, t, h => by
    rw [z_goM, z_goM_s k (t + 1), show t + 1 + k = t + (k + 1) by omega]
    rfl
/-- what go keeps -/
def x_Inv (n t m L : Nat) (tB : Bool) (F : Nat → Nat → Int32) (G : Nat → Nat → Int64) (k : Nat) (f' : Nat → Nat → Int32) (g' : Nat → Nat → Int64) : Prop := x_R n (t + k) tB f' g' (z_goM n m L k t (F, G)).1 (z_goM n m L k t (F, G)).2 ∧ x_L n f' ∧ f' 1 6 = nI L ∧ f' 4 1 = nI m
theorem x_Inv_0 (h : x_R n t tB f g F G) {L m : Nat} (hL : f 1 6 = nI L) (hm : f 4 1 = nI m) : x_Inv n t m L tB F G 0 (z_fnd n f (2 ^ n)) g := ⟨r_fnd h, x_L_fnd h.n10 h.hbm, hL, hm⟩
theorem x_Inv_s {L m : Nat} (hL1 : 1 ≤ L) (hL2 : L ≤ 20) (hm9 : m ≤ 90) (k : Nat) (f' : Nat → Nat → Int32) (g' : Nat → Nat → Int64) (ht : t + k < 20000) (h : x_Inv n t m L tB F G k f' g') : ∃ (p : Nat → Bool) (w : Nat → Nat), x_pre n m L (t + k) f' g' p w ∧ ∀ r7 r13 : Nat → Int32, r13 0 = 0 → x_Inv n t m L tB F G (k + 1) (x_psF n f' g' (x_lit n m (t + k) f' p w) L (t + k) r7 r13) (x_psG n f' g' (x_lit n m (t + k) f' p w) L r7 r13) := by
  obtain ⟨h1, h2, h3, h4⟩ := h
  obtain ⟨p, w, hp, hn⟩ := x_slot h1 h2 h3 hL1 hL2 h4 hm9 ht
  refine ⟨p, w, hp, fun r7 r13 h13 => ?_⟩
  obtain ⟨a1, a2, a3, a4⟩ := hn r7 r13 h13
  refine ⟨?_, a2, a3, a4⟩
  rw [z_goM_s]
  exact a1
theorem r_go (h : x_R n t tB f g F G) {L m : Nat} {x vx vm : Int32} {hx hm : PH}
    (px : (¬ (1 ≤ x.toInt ∧ x.toInt ≤ 200) ∧ vx = -2 ∧ hx = (f, g, rfX n sB tB)) ∨ ((1 ≤ x.toInt ∧ x.toInt ≤ 200) ∧ 20000 < t + x.toInt ∧ vx = -3 ∧ hx = (f, g, rfX n sB tB)) ∨ (∃ k : Nat, x = nI k ∧ 1 ≤ k ∧ k ≤ 200 ∧ t + k ≤ 20000 ∧ vx = nI (t + k) ∧ ∃ F' G', x_Inv n t m L tB F G k F' G' ∧ hx = (F', G', rfX n sB tB)))
    (pm : (¬ (1 ≤ x.toInt ∧ x.toInt ≤ 200) ∧ vm = -2 ∧ hm = (F, G, rfM)) ∨ ((1 ≤ x.toInt ∧ x.toInt ≤ 200) ∧ 20000 < t + x.toInt ∧ vm = -3 ∧ hm = (F, G, rfM)) ∨ (∃ k : Nat, x = nI k ∧ 1 ≤ k ∧ k ≤ 200 ∧ t + k ≤ 20000 ∧ vm = nI (t + k) ∧ hm = ((z_goM n m L k t (F, G)).1, (z_goM n m L k t (F, G)).2, rfM))) : vx = vm ∧ x_Q (alX n sB tB) hx hm := by
  have ke : ∀ k : Nat, k ≤ 200 → x = nI k → x.toInt = k := fun k hk e => by rw [e, nI_toInt (by omega)]
  rcases px with ⟨c, rfl, rfl⟩ | ⟨c, d, rfl, rfl⟩ | ⟨k, ek, k1, k2, k3, rfl, F', G', hI, rfl⟩
  · rcases pm with ⟨-, rfl, rfl⟩ | ⟨c2, -⟩ | ⟨k, ek, k1, k2, -⟩
    · exact ⟨rfl, h.Q⟩
    · exact absurd c2 c
    · have := ke k k2 ek; omega
  · rcases pm with ⟨c2, -⟩ | ⟨-, -, rfl, rfl⟩ | ⟨k, ek, k1, k2, k3, -⟩
    · exact absurd c c2
    · exact ⟨rfl, h.Q⟩
    · have := ke k k2 ek; omega
  · have e := ke k k2 ek
    rcases pm with ⟨c2, -⟩ | ⟨-, d, -⟩ | ⟨k', ek', j1, j2, j3, rfl, rfl⟩
    · omega
    · omega
    · have ekk : k' = k := (nI_eq (by omega) (by omega)).mp (ek'.symm.trans ek)
      subst ekk
      exact ⟨rfl, hI.1.Q⟩
end RG
