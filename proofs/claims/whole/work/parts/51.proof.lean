/-! proof -/
theorem q_l2i {x : Int64} (h0 : 0 ≤ x.toInt) (h1 : x.toInt ≤ 2147483647) : x.toInt32 = nI x.toInt.toNat := by
  rw [q_ieq, nI_toInt (by omega), Int64.toInt_toInt32]
  rw [Int.bmod_eq_of_le (by omega) (by omega)]
  omega
theorem q_rfX_all {ln : Nat → Int32} {nb : Nat → Nat → Int64} {m S : Nat} {top : Int} (hS : S ≤ 3) (h : q_rfX ln nb m (nI S) top = 0) : ∀ c, c < m → 0 ≤ (nb S c).toInt ∧ (nb S c).toInt ≤ top := by
  have kS : (nI S).toNatClampNeg = S := nI_clamp (by omega)
  unfold q_rfX at h
  rw [if_neg (not_not_intro (by rw [nI_toInt (by omega)]; omega)), kS] at h
  split at h
  · exact absurd h (by decide)
  · split at h
    · exact absurd h (by decide)
    · split at h
      · assumption
      · exact absurd h (by decide)
theorem z_p_congr {n : Nat} {f F : Nat → Nat → Int32} (h1 : F 1 = f 1) (h2 : ∀ c, F (c + 40) = f (c + 40)) (h3 : F 9 = f 9) (h4 : F 10 = f 10) : z_p n F = z_p n f := funext fun _ => decide_eq_decide.mpr (z_legX_congr h1 h2 h3 h4)
theorem z_lst_at {p : Nat → Bool} {r : Nat → Int32} : ∀ {b s : Nat}, s < b → p s = true → z_lst p r b (z_ct p s) = nI s
  | 0, s, h, _ => absurd h (Nat.not_lt_zero s)
  | b + 1, s, h, hp => by
    rw [z_lst]
    by_cases e : s = b
    · subst e; rw [if_pos hp, va_up_s]
    · have hsb : s < b := by omega
      have hc := z_ct_mono (p := p) (show s + 1 ≤ b by omega)
      rw [z_ct_t hp] at hc
      split
      · rw [va_up_n (by omega)]; exact z_lst_at hsb hp
      · exact z_lst_at hsb hp
theorem z_ct386 {n : Nat} {f : Nat → Nat → Int32} (h10 : n ≤ 10) (hbm : ∃ b : Nat, b ≤ 4 ∧ f 1 4 = nI b) : ∀ b, b ≤ 2 ^ n → z_ct (z_p n f) b ≤ 386
  | 0, _ => Nat.zero_le _
  | b + 1, h => by
    by_cases e : z_p n f b = true
    · rw [z_ct_t e]; exact z_p386 h10 hbm (by omega) e
    · rw [z_ct_f e]; exact z_ct386 h10 hbm b (by omega)
theorem z_fnd_lst {n : Nat} {f : Nat → Nat → Int32} (h10 : n ≤ 10) (hbm : ∃ b : Nat, b ≤ 4 ∧ f 1 4 = nI b) : z_lst1 n (z_p n f) (z_fnd n f (2 ^ n)) :=
  ⟨(va_up_s : va_up (f 2) 2 (nI (z_ct (z_p n f) (2 ^ n))) 2 = _), z_ct386 h10 hbm _ (Nat.le_refl _), fun s hs hp => (z_lst_at hs hp : z_lst (z_p n f) (f 12) (2 ^ n) (z_ct (z_p n f) s) = nI s)⟩
def z_prf (nd ms : Int64) : Int64 := if ms = 0 then (if nd = 0 then 0 else -1) else (nd + ms - 1) / ms
theorem q_cmp0 {x : Int64} : lg_cmp x 0 = 0 ↔ x = 0 := by
  constructor
  · intro h
    have h1 := q_nlt (x := x) (y := 0) (by rw [h]; decide)
    have h2 := q_ngt (x := x) (y := 0) (by rw [h]; decide)
    exact Int64.toInt_inj.mp (by omega)
  · rintro rfl; decide
def x_nd (f : Nat → Nat → Int32) (g : Nat → Nat → Int64) (S : Nat) (c : Nat) : Int64 := (f (c + 40) 5).toInt64 * (q_nbX g S c).toInt32.toInt64
def x_pr (g : Nat → Nat → Int64) (S : Nat) (c : Nat) : Nat := (q_nbX g S c).toInt.toNat
set_option maxHeartbeats 4000000 in
set_option maxRecDepth 100000 in
theorem c_X7_proof {n : Nat} {sB tB : Bool} {f : Nat → Nat → Int32} {g : Nat → Nat → Int64} (hn : f 1 1 = nI n) (h10 : n ≤ 10) (hlen : ∀ S, S ≤ 3 → f 20 S = -1 ∨ ∃ z : Nat, z ≤ 60 ∧ f 20 S = nI z) (hgt : ∀ c, c < n → ∃ j : Nat, j ≤ 2 ∧ f (c + 40) 3 = nI j) (hbm : ∃ b : Nat, b ≤ 4 ∧ f 1 4 = nI b) (hdn : z_dn n (z_p n f)) (h13 : f 13 0 = 0) (s : Int32) : q_ConL yX7_proof cX7_proof 7 (some .long) 5 110 tyX (alX n sB tB) [.ref 0, .int s] (f, g, rfX n sB tB) (fun v h' => (¬ q_rfX (f 20) (q_nbX g) n s 1000000 = 0 ∧ v = (q_rfX (f 20) (q_nbX g) n s 1000000).toInt64 ∧ h' = (f, g, rfX n sB tB)) ∨ (q_rfX (f 20) (q_nbX g) n s 1000000 = 0 ∧ ∃ S : Nat, S ≤ 3 ∧ s = nI S ∧ (∀ c, c < n → 0 ≤ (q_nbX g S c).toInt ∧ (q_nbX g S c).toInt ≤ 1000000) ∧ v = z_prf (q_sumL (x_nd f g S) n) (nI (z_W (x_pr g S) (z_bN (z_p n f) (z_W (x_pr g S)) (2 ^ n)))).toInt64 ∧ ∃ r7 r13 : Nat → Int32, r13 0 = 0 ∧ h' = (va_up (z_fnd n (va_up f 7 r7) (2 ^ n)) 13 r13, g, rfX n sB tB))) := by
  refine q_Con.of RX7 [some (.ref 0), some (.int s), none, none, none, none, none] (by decide +kernel) rfl rfl (Nat.le_of_ble_eq_true rfl) (fun C ad E Z => ?_)
  have L : ∀ S z : Nat, S ≤ 3 → s = nI S → z ≤ 60 → f 20 S = nI z → n ≤ z → q_rfX (f 20) (q_nbX g) n s 1000000 = 0 → ∀ i, i ≤ n → ∀ x6 : Option Value, gg C tyX 7 0 0 (alX n sB tB) ad 30 [some (.ref 0), some (.int s), some (.int (q_rfX (f 20) (q_nbX g) n s 1000000)), some (.long (q_sumL (x_nd f g S) i)), none, some (.int (nI i)), x6] [] (va_up f 7 (q_part i (f 7) (fun c => (q_nbX g S c).toInt32)), g, rfX n sB tB) := by
    intro S z hS es hz ez hnz h00
    subst es
    have hall := q_rfX_all hS h00
    refine q_loop n (fun i hi ih x6 => ?_)
    have hn1 : va_up f 7 (q_part i (f 7) (fun c => (q_nbX g S c).toInt32)) 1 1 = nI n := hn
    have ev : ∀ j, va_up f 7 (q_part j (f 7) (fun c => (q_nbX g S c).toInt32)) (i + 40) = f (i + 40) := fun j => va_up_n (by omega)
    have enum : i < n → q_num (va_up f 7 (q_part i (f 7) (fun c => (q_nbX g S c).toInt32)) 20) (q_nbX g) (nI S) (nI i) = q_nbX g S i := fun q => q_num_in hS hz ez (by omega)
    refine g_iload_5 (pc := 30) E dX7_proof_30 ?_
    refine g_aload_0 (pc := 32) E dX7_proof_32 ?_
    refine g_getR (pc := 33) E (by first | assumption | rfl) (by first | assumption | rfl) fl_X7_12 rfl (by first | assumption | rfl) dX7_proof_33 ?_
    refine g_getI (pc := 36) E (by first | assumption | rfl) (by first | assumption | rfl) fl_X7_75 rfl dX7_proof_36 ?_
    refine g_icmp_ge (pc := 39) (tgt := 91) E dX7_proof_39 (by decide) (fun c_39 => ?_) (fun c_39 => ?_)
    · have e_39 := (q_ge (x := n) (y := i) hn1 rfl (by omega) (by omega)).mp c_39
      have en : i = n := by omega
      subst en
      have hp7 : z_p i (va_up f 7 (q_part i (f 7) (fun c => (q_nbX g S c).toInt32))) = z_p i f := z_p_congr rfl (fun c => va_up_n (by omega)) rfl rfl
      have hls := z_fnd_lst (f := va_up f 7 (q_part i (f 7) (fun c => (q_nbX g S c).toInt32))) h10 hbm
      rw [hp7] at hls
      refine g_aload_0 (pc := 91) E dX7_proof_91 ?_
      refine g_getR (pc := 92) E (by first | assumption | rfl) (by first | assumption | rfl) fl_X7_19 rfl (by first | assumption | rfl) dX7_proof_92 ?_
      refine g_aload_0 (pc := 95) E dX7_proof_95 ?_
      refine g_getR (pc := 96) E (by first | assumption | rfl) (by first | assumption | rfl) fl_X7_12 rfl (by first | assumption | rfl) dX7_proof_96 ?_
      refine g_cVv1 (pc := 99) E (c_X3_find (by exact hn) h10 (by intro c hc; rw [va_up_n (by omega)]; exact hgt c hc) (by exact hbm)) cw_X7_138 (by decide) (by decide) (by first | assumption | rfl) (by first | assumption | rfl) (Nat.le_of_ble_eq_true rfl) dX7_proof_99 (fun h_99 hp => ?_)
      subst hp
      refine g_aload_0 (pc := 102) E dX7_proof_102 ?_
      refine g_getR (pc := 103) E (by first | assumption | rfl) (by first | assumption | rfl) fl_X7_19 rfl (by first | assumption | rfl) dX7_proof_103 ?_
      refine g_getR (pc := 106) E (by first | assumption | rfl) (by first | assumption | rfl) fl_X7_192 rfl (by first | assumption | rfl) dX7_proof_106 ?_
      refine g_aload_0 (pc := 109) E dX7_proof_109 ?_
      refine g_getR (pc := 110) E (by first | assumption | rfl) (by first | assumption | rfl) fl_X7_19 rfl (by first | assumption | rfl) dX7_proof_110 ?_
      refine g_aload_0 (pc := 113) E dX7_proof_113 ?_
      refine g_getR (pc := 114) E (by first | assumption | rfl) (by first | assumption | rfl) fl_X7_37 rfl (by first | assumption | rfl) dX7_proof_114 ?_
      refine g_cVi1 (pc := 117) E (c_X3_worthiest h10 (z_p i f) (x_pr g S) (by intro c hc; exact ⟨by show q_part i (f 7) (fun c => (q_nbX g S c).toInt32) c = _; rw [q_part_lt hc]; exact q_l2i (hall c hc).1 (Int.le_trans (hall c hc).2 (by decide)), by have := hall c hc; unfold x_pr; omega⟩) hls hdn (by exact h13)) cw_X7_195 (by decide) (by decide) (by first | assumption | rfl) (by first | assumption | rfl) (Nat.le_of_ble_eq_true rfl) dX7_proof_117 (fun v_117 h_117 hp => ?_)
      obtain ⟨rfl, r, hr0, hrb, rfl⟩ := hp
      have hb24 := z_bN_lt2 (p := z_p i f) (W := z_W (x_pr g S)) h10
      refine g_iald (pc := 120) E (by first | assumption | rfl) (by first | assumption | rfl) dX7_proof_120 (q_ix_n hb24) ?_
      rw [show va_up (z_fnd i (va_up f 7 (q_part i (f 7) (fun c => (q_nbX g S c).toInt32))) (2 ^ i)) 13 r 13 (z_bN (z_p i f) (z_W (x_pr g S)) (2 ^ i)) = nI (z_W (x_pr g S) (z_bN (z_p i f) (z_W (x_pr g S)) (2 ^ i))) from hrb]
      refine g_i2l (pc := 121) E dX7_proof_121 ?_
      refine g_lstore_5 (pc := 122) E dX7_proof_122 (by decide) rfl ?_
      refine g_lload_5 (pc := 124) E dX7_proof_124 ?_
      refine g_lconst (pc := 126) (v := 0) E dX7_proof_126 (by decide) ?_
      refine g_lcmp (pc := 127) E dX7_proof_127 ?_
      refine g_if_ne (pc := 128) (tgt := 145) E dX7_proof_128 (by decide) (fun c_128 => ?_) (fun c_128 => ?_)
      · have k128 : ¬ (nI (z_W (x_pr g S) (z_bN (z_p i f) (z_W (x_pr g S)) (2 ^ i)))).toInt64 = 0 := fun q => c_128 (q_cmp0.mpr q)
        refine g_lload_3 (pc := 145) E dX7_proof_145 ?_
        refine g_lload_5 (pc := 146) E dX7_proof_146 ?_
        refine g_ladd (pc := 148) E dX7_proof_148 ?_
        refine g_lconst (pc := 149) (v := 1) E dX7_proof_149 (by decide) ?_
        refine g_lsub (pc := 150) E dX7_proof_150 ?_
        refine g_lload_5 (pc := 151) E dX7_proof_151 ?_
        refine g_ldiv (pc := 153) E dX7_proof_153 k128 ?_
        exact g_lret (pc := 154) E Z dX7_proof_154 ⟨_, rfl, Or.inr ⟨h00, S, hS, rfl, hall, (by unfold z_prf; rw [if_neg k128]), _, r, hr0, rfl⟩⟩
      · have k128 := q_cmp0.mp c_128
        refine g_lload_3 (pc := 131) E dX7_proof_131 ?_
        refine g_lconst (pc := 132) (v := 0) E dX7_proof_132 (by decide) ?_
        refine g_lcmp (pc := 133) E dX7_proof_133 ?_
        refine g_if_ne (pc := 134) (tgt := 141) E dX7_proof_134 (by decide) (fun c_134 => ?_) (fun c_134 => ?_)
        · have k134 : ¬ q_sumL (x_nd f g S) i = 0 := fun q => c_134 (q_cmp0.mpr q)
          refine g_ldc2 (pc := 141) E kw_X7_199 dX7_proof_141 ?_
          exact g_lret (pc := 144) E Z dX7_proof_144 ⟨_, rfl, Or.inr ⟨h00, S, hS, rfl, hall, (by unfold z_prf; first | rw [if_pos k128, if_pos k134] | rw [if_pos k128, if_neg k134]), _, r, hr0, rfl⟩⟩
        · have k134 := q_cmp0.mp c_134
          refine g_lconst (pc := 137) (v := 0) E dX7_proof_137 (by decide) ?_
          refine g_goto (pc := 138) (tgt := 144) E dX7_proof_138 (by decide) ?_
          exact g_lret (pc := 144) E Z dX7_proof_144 ⟨_, rfl, Or.inr ⟨h00, S, hS, rfl, hall, (by unfold z_prf; first | rw [if_pos k128, if_pos k134] | rw [if_pos k128, if_neg k134]), _, r, hr0, rfl⟩⟩
    · have e_39 := (not_congr (q_ge (x := n) (y := i) hn1 rfl (by omega) (by omega))).mp c_39
      have hac : alX n sB tB (i + 40) = true := alX_c (by omega)
      have htc : tyX (i + 40) = .inr 0 := tyX_c (by omega)
      have hrc : rfX n sB tB 8 i = some (i + 40) := rfX_c (by omega)
      refine g_aload_0 (pc := 42) E dX7_proof_42 ?_
      refine g_getR (pc := 43) E (by first | assumption | rfl) (by first | assumption | rfl) fl_X7_26 rfl (by first | assumption | rfl) dX7_proof_43 ?_
      refine g_iload_1 (pc := 46) E dX7_proof_46 ?_
      refine g_iload_5 (pc := 47) E dX7_proof_47 ?_
      refine g_cVl2 (pc := 49) E (c_X5_number (by exact hlen) _ _) cw_X7_121 (by decide) (by decide) (by first | assumption | rfl) (by first | assumption | rfl) (Nat.le_of_ble_eq_true rfl) dX7_proof_49 (fun v_49 h_49 hp => ?_)
      obtain ⟨rfl, rfl⟩ := hp
      refine g_l2i (pc := 52) E dX7_proof_52 ?_
      refine g_istore_6 (pc := 53) E dX7_proof_53 (by decide) rfl ?_
      refine g_aload_0 (pc := 55) E dX7_proof_55 ?_
      refine g_getR (pc := 56) E (by first | assumption | rfl) (by first | assumption | rfl) fl_X7_37 rfl (by first | assumption | rfl) dX7_proof_56 ?_
      refine g_iload_5 (pc := 59) E dX7_proof_59 ?_
      refine g_iload_6 (pc := 61) E dX7_proof_61 ?_
      refine g_iast (pc := 63) E (by first | assumption | rfl) (by first | assumption | rfl) dX7_proof_63 (q_ix_n (by omega)) ?_
      refine g_lload_3 (pc := 64) E dX7_proof_64 ?_
      refine g_aload_0 (pc := 65) E dX7_proof_65 ?_
      refine g_getR (pc := 66) E (by first | assumption | rfl) (by first | assumption | rfl) fl_X7_12 rfl (by first | assumption | rfl) dX7_proof_66 ?_
      refine g_getR (pc := 69) E (by first | assumption | rfl) (by first | assumption | rfl) fl_X7_78 rfl (by first | assumption | rfl) dX7_proof_69 ?_
      refine g_iload_5 (pc := 72) E dX7_proof_72 ?_
      first | refine g_aald (pc := 74) E (by first | assumption | rfl) (by first | assumption | rfl) dX7_proof_74 (q_ix_n (by omega)) (by first | assumption | rfl) ?_ | refine g_aaldJ (pc := 74) E (by first | assumption | rfl) (by first | assumption | rfl) dX7_proof_74 (q_ix_n (by omega)) (by first | assumption | rfl) ?_
      refine g_getI (pc := 75) E (by first | assumption | rfl) (by first | assumption | rfl) fl_X7_125 rfl dX7_proof_75 ?_
      refine g_i2l (pc := 78) E dX7_proof_78 ?_
      refine g_iload_6 (pc := 79) E dX7_proof_79 ?_
      refine g_i2l (pc := 81) E dX7_proof_81 ?_
      refine g_lmul (pc := 82) E dX7_proof_82 ?_
      refine g_ladd (pc := 83) E dX7_proof_83 ?_
      refine g_lstore_3 (pc := 84) E dX7_proof_84 (by decide) rfl ?_
      refine g_iinc_5 (pc := 85) (u := 1) E dX7_proof_85 (by decide) (by decide) rfl ?_
      refine g_goto (pc := 88) (tgt := 30) E dX7_proof_88 (by decide) ?_
      rw [nI_1, enum (by omega), q_upr, q_part_s (r2 := fun c => (q_nbX g S c).toInt32) rfl, ev]
      exact ih (by omega) _
  refine g_aload_0 (pc := 0) E dX7_proof_0 ?_
  refine g_getR (pc := 1) E (by first | assumption | rfl) (by first | assumption | rfl) fl_X7_26 rfl (by first | assumption | rfl) dX7_proof_1 ?_
  refine g_iload_1 (pc := 4) E dX7_proof_4 ?_
  refine g_aload_0 (pc := 5) E dX7_proof_5 ?_
  refine g_getR (pc := 6) E (by first | assumption | rfl) (by first | assumption | rfl) fl_X7_12 rfl (by first | assumption | rfl) dX7_proof_6 ?_
  refine g_getI (pc := 9) E (by first | assumption | rfl) (by first | assumption | rfl) fl_X7_75 rfl dX7_proof_9 ?_
  refine g_ldc (pc := 12) E kw_X7_191 dX7_proof_12 ?_
  refine g_cVi3 (pc := 14) E (c_X5_refusalE (by exact hlen) s n (by omega) _ _ hn) cw_X7_117 (by decide) (by decide) (by first | assumption | rfl) (by first | assumption | rfl) (Nat.le_of_ble_eq_true rfl) dX7_proof_14 (fun v_14 h_14 hp => ?_)
  obtain ⟨rfl, rfl⟩ := hp
  refine g_istore_2 (pc := 17) E dX7_proof_17 (by decide) rfl ?_
  refine g_iload_2 (pc := 18) E dX7_proof_18 ?_
  refine g_if_eq (pc := 19) (tgt := 25) E dX7_proof_19 (by decide) (fun c_19 => ?_) (fun c_19 => ?_)
  · obtain ⟨S, z, hS, rfl, hz, ez, hnz⟩ := q_rfX_0 hlen (by omega) c_19
    refine g_lconst (pc := 25) (v := 0) E dX7_proof_25 (by decide) ?_
    refine g_lstore_3 (pc := 26) E dX7_proof_26 (by decide) rfl ?_
    refine g_iconst (pc := 27) (v := 0) E dX7_proof_27 (by decide) ?_
    refine g_istore_5 (pc := 28) E dX7_proof_28 (by decide) rfl ?_
    have e := fun x6 => L S z hS rfl hz ez hnz c_19 0 (Nat.zero_le _) x6
    simp only [q_part_0, va_up_id, q_sumL] at e
    exact e none
  · refine g_iload_2 (pc := 22) E dX7_proof_22 ?_
    refine g_i2l (pc := 23) E dX7_proof_23 ?_
    exact g_lret (pc := 24) E Z dX7_proof_24 ⟨_, rfl, Or.inl ⟨c_19, rfl, rfl⟩⟩
def z_mst (p : Nat → Bool) (wt : Nat → Int64) : Nat → Int64
  | 0 => 0
  | t + 1 => if p t = true then (if z_mst p wt t < wt t then wt t else z_mst p wt t) else z_mst p wt t
def z_nd (f : Nat → Nat → Int32) (g : Nat → Nat → Int64) (S : Nat) (c : Nat) : Int64 := (f 20 c).toInt64 * q_nbM g S c
def z_wp (g : Nat → Nat → Int64) (S t : Nat) (c : Nat) : Int64 := if t.testBit c = true then q_nbM g S c else 0
def z_mstM (n : Nat) (f : Nat → Nat → Int32) (g : Nat → Nat → Int64) (S t : Nat) : Int64 := z_mst (fun s => decide (z_legM n f s)) (fun t => q_sumL (z_wp g S t) n) t
set_option maxHeartbeats 4000000 in
set_option maxRecDepth 100000 in
theorem c_X8_proof {f : Nat → Nat → Int32} {g : Nat → Nat → Int64} (ht : f 0 0 = 0) (n : Nat) (hn : f 0 5 = nI n) (h10 : n ≤ 10) (hgt : ∀ c, c < n → ∃ j : Nat, j ≤ 2 ∧ f 18 c = nI j) (s : Int32) : q_ConL yX8_proof cX8_proof 11 (some .long) 3 69 tyM alM [.ref 0, .int s] (f, g, rfM) (fun v h' => (q_ref (f 1) (f 2) (q_nbM g) n s 1000000 < 0 ∧ v = (q_ref (f 1) (f 2) (q_nbM g) n s 1000000).toInt64 ∧ h' = (f, g, rfM)) ∨ (¬ q_ref (f 1) (f 2) (q_nbM g) n s 1000000 < 0 ∧ ∃ S : Nat, S ≤ 3 ∧ s = nI S ∧ v = z_prf (q_sumL (z_nd f g S) n) (z_mstM n f g S (2 ^ n)) ∧ h' = (f, g, rfM))) := by
  refine q_Con.of RX8 [some (.ref 0), some (.int s), none, none, none, none, none, none, none, none, none] (by decide +kernel) rfl rfl (Nat.le_of_ble_eq_true rfl) (fun C ad E Z => ?_)
  have p10 : 2 ^ n ≤ 2 ^ 10 := Nat.pow_le_pow_right (by decide) h10
  have hsh : (1 : Int32) <<< (f 0 5 &&& 31) = nI (2 ^ n) := by rw [hn]; exact q_shl1 n (by omega)
  have L2 : ∀ S : Nat, S ≤ 3 → s = nI S → ¬ q_ref (f 1) (f 2) (q_nbM g) n s 1000000 < 0 → ∀ (x2 : Int32) (A : Int64), A = q_sumL (z_nd f g S) n → ∀ t, t ≤ 2 ^ n → ∀ x8 x9 x10 : Option Value, gg C tyM 11 0 0 alM ad 71 [some (.ref 0), some (.int s), some (.int x2), some (.long A), none, some (.long (z_mstM n f g S t)), none, some (.int (nI t)), x8, x9, x10] [] (f, g, rfM) := by
    intro S hS es h00 x2 A hA
    subst es
    refine q_loop (2 ^ n) (fun t hi ih x8 x9 x10 => ?_)
    have hcut : z_mstM n f g S (t + 1) = if (fun s => decide (z_legM n f s)) t = true then (if (z_mstM n f g S t) < q_sumL (z_wp g S t) n then q_sumL (z_wp g S t) n else (z_mstM n f g S t)) else (z_mstM n f g S t) := rfl
    have L3 : t < 2 ^ n → z_legM n f t → ∀ i, i ≤ n → gg C tyM 11 0 0 alM ad 100 [some (.ref 0), some (.int (nI S)), some (.int x2), some (.long A), none, some (.long (z_mstM n f g S t)), none, some (.int (nI t)), some (.long (q_sumL (z_wp g S t) i)), none, some (.int (nI i))] [] (f, g, rfM) := by
      intro htn hleg
      refine q_loop n (fun i hi ih2 => ?_)
      refine g_iload_10 (pc := 100) E dX8_proof_100 ?_
      refine g_aload_0 (pc := 102) E dX8_proof_102 ?_
      refine g_getI (pc := 103) E (by first | rfl | assumption) (by first | rfl | assumption) fl_X8_154 rfl dX8_proof_103 ?_
      refine g_icmp_ge (pc := 106) (tgt := 147) E dX8_proof_106 (by decide) (fun c_106 => ?_) (fun c_106 => ?_)
      · have e_106 := (q_ge (x := n) (y := i) hn rfl (by omega) (by omega)).mp c_106
        refine g_lload_5 (pc := 147) E dX8_proof_147 ?_
        refine g_lload_8 (pc := 149) E dX8_proof_149 ?_
        refine g_cSl2 (pc := 151) E (c_J9_max_f86c9 _ _) cw_X8_228 (by decide) (by decide) (Nat.le_of_ble_eq_true rfl) dX8_proof_151 (fun v_151 h_151 hp => ?_)
        obtain ⟨rfl, rfl⟩ := hp
        refine g_lstore_5 (pc := 154) E dX8_proof_154 (by decide) rfl ?_
        refine g_iinc_7 (pc := 156) (u := 1) E dX8_proof_156 (by decide) (by decide) rfl ?_
        refine g_goto (pc := 159) (tgt := 71) E dX8_proof_159 (by decide) ?_
        rw [nI_1]
        have en : i = n := by omega
        subst en
        have e := fun x8 x9 x10 => ih htn x8 x9 x10
        simp only [hcut] at e
        rw [if_pos (decide_eq_true hleg)] at e
        exact e _ _ _
      · have e_106 := (not_congr (q_ge (x := n) (y := i) hn rfl (by omega) (by omega))).mp c_106
        refine g_lload_8 (pc := 109) E dX8_proof_109 ?_
        refine g_iload_7 (pc := 111) E dX8_proof_111 ?_
        refine g_iload_10 (pc := 113) E dX8_proof_113 ?_
        refine g_ishr (pc := 115) E dX8_proof_115 ?_
        refine g_iconst (pc := 116) (v := 1) E dX8_proof_116 (by decide) ?_
        refine g_iand (pc := 117) E dX8_proof_117 ?_
        refine g_iconst (pc := 118) (v := 1) E dX8_proof_118 (by decide) ?_
        refine g_icmp_ne (pc := 119) (tgt := 137) E dX8_proof_119 (by decide) (fun c_119 => ?_) (fun c_119 => ?_)
        · have hb : ¬ t.testBit i = true := fun q => c_119 ((q_bit1 (by omega) (by omega)).mpr q)
          refine g_lconst (pc := 137) (v := 0) E dX8_proof_137 (by decide) ?_
          refine g_ladd (pc := 138) E dX8_proof_138 ?_
          refine g_lstore_8 (pc := 139) E dX8_proof_139 (by decide) rfl ?_
          refine g_iinc_10 (pc := 141) (u := 1) E dX8_proof_141 (by decide) (by decide) rfl ?_
          refine g_goto (pc := 144) (tgt := 100) E dX8_proof_144 (by decide) ?_
          rw [nI_1]
          have e := ih2 (by omega)
          rw [q_sumL, show z_wp g S t i = _ from rfl] at e
          unfold z_wp at e ⊢
          first | (rw [if_pos hb] at e; exact e) | (rw [if_neg hb] at e; exact e)
        · have hb : t.testBit i = true := (q_bit1 (by omega) (by omega)).mp c_119
          refine g_aload_0 (pc := 122) E dX8_proof_122 ?_
          refine g_getR (pc := 123) E (by first | rfl | assumption) (by first | rfl | assumption) fl_X8_16 rfl (by first | rfl | assumption) dX8_proof_123 ?_
          refine g_bipush (pc := 126) (v := 60) E dX8_proof_126 (by decide) ?_
          refine g_iload_1 (pc := 128) E dX8_proof_128 ?_
          refine g_imul (pc := 129) E dX8_proof_129 ?_
          refine g_iload_10 (pc := 130) E dX8_proof_130 ?_
          refine g_iadd (pc := 132) E dX8_proof_132 ?_
          refine g_lald (pc := 133) E (by first | rfl | assumption) (by first | rfl | assumption) dX8_proof_133 (q_ix_e (q_60 _ _) (by omega)) ?_
          refine g_goto (pc := 134) (tgt := 138) E dX8_proof_134 (by decide) ?_
          refine g_ladd (pc := 138) E dX8_proof_138 ?_
          refine g_lstore_8 (pc := 139) E dX8_proof_139 (by decide) rfl ?_
          refine g_iinc_10 (pc := 141) (u := 1) E dX8_proof_141 (by decide) (by decide) rfl ?_
          refine g_goto (pc := 144) (tgt := 100) E dX8_proof_144 (by decide) ?_
          rw [nI_1]
          have e := ih2 (by omega)
          rw [q_sumL, show z_wp g S t i = _ from rfl] at e
          unfold z_wp at e ⊢
          first | (rw [if_pos hb] at e; exact e) | (rw [if_neg hb] at e; exact e)
    refine g_iload_7 (pc := 71) E dX8_proof_71 ?_
    refine g_iconst (pc := 73) (v := 1) E dX8_proof_73 (by decide) ?_
    refine g_aload_0 (pc := 74) E dX8_proof_74 ?_
    refine g_getI (pc := 75) E (by first | rfl | assumption) (by first | rfl | assumption) fl_X8_154 rfl dX8_proof_75 ?_
    refine g_ishl (pc := 78) E dX8_proof_78 ?_
    refine g_icmp_ge (pc := 79) (tgt := 162) E dX8_proof_79 (by decide) (fun c_79 => ?_) (fun c_79 => ?_)
    · have e_79 := (q_ge (x := 2 ^ n) (y := t) hsh rfl (by omega) (by omega)).mp c_79
      refine g_lload_5 (pc := 162) E dX8_proof_162 ?_
      refine g_lconst (pc := 164) (v := 0) E dX8_proof_164 (by decide) ?_
      refine g_lcmp (pc := 165) E dX8_proof_165 ?_
      refine g_if_ne (pc := 166) (tgt := 183) E dX8_proof_166 (by decide) (fun c_166 => ?_) (fun c_166 => ?_)
      · have k166 : ¬ (z_mstM n f g S t) = 0 := fun q => c_166 (q_cmp0.mpr q)
        refine g_lload_3 (pc := 183) E dX8_proof_183 ?_
        refine g_lload_5 (pc := 184) E dX8_proof_184 ?_
        refine g_ladd (pc := 186) E dX8_proof_186 ?_
        refine g_lconst (pc := 187) (v := 1) E dX8_proof_187 (by decide) ?_
        refine g_lsub (pc := 188) E dX8_proof_188 ?_
        refine g_lload_5 (pc := 189) E dX8_proof_189 ?_
        refine g_ldiv (pc := 191) E dX8_proof_191 k166 ?_
        exact g_lret (pc := 192) E Z dX8_proof_192 ⟨_, rfl, Or.inr ⟨h00, S, hS, rfl, (by rw [← show t = 2 ^ n by omega, ← hA]; unfold z_prf; rw [if_neg k166]), rfl⟩⟩
      · have k166 := q_cmp0.mp c_166
        refine g_lload_3 (pc := 169) E dX8_proof_169 ?_
        refine g_lconst (pc := 170) (v := 0) E dX8_proof_170 (by decide) ?_
        refine g_lcmp (pc := 171) E dX8_proof_171 ?_
        refine g_if_ne (pc := 172) (tgt := 179) E dX8_proof_172 (by decide) (fun c_172 => ?_) (fun c_172 => ?_)
        · have k172 : ¬ A = 0 := fun q => c_172 (q_cmp0.mpr q)
          refine g_ldc2 (pc := 179) E kw_X8_232 dX8_proof_179 ?_
          exact g_lret (pc := 182) E Z dX8_proof_182 ⟨_, rfl, Or.inr ⟨h00, S, hS, rfl, (by rw [← show t = 2 ^ n by omega, ← hA]; unfold z_prf; first | rw [if_pos k166, if_pos k172] | rw [if_pos k166, if_neg k172]), rfl⟩⟩
        · have k172 := q_cmp0.mp c_172
          refine g_lconst (pc := 175) (v := 0) E dX8_proof_175 (by decide) ?_
          refine g_goto (pc := 176) (tgt := 182) E dX8_proof_176 (by decide) ?_
          exact g_lret (pc := 182) E Z dX8_proof_182 ⟨_, rfl, Or.inr ⟨h00, S, hS, rfl, (by rw [← show t = 2 ^ n by omega, ← hA]; unfold z_prf; first | rw [if_pos k166, if_pos k172] | rw [if_pos k166, if_neg k172]), rfl⟩⟩
    · have e_79 := (not_congr (q_ge (x := 2 ^ n) (y := t) hsh rfl (by omega) (by omega))).mp c_79
      refine g_aload_0 (pc := 82) E dX8_proof_82 ?_
      refine g_iload_7 (pc := 83) E dX8_proof_83 ?_
      refine g_cVi1 (pc := 85) E (c_X8_isLegal n (by exact hn) h10 (by exact hgt) t (by omega)) cw_X8_193 (by decide) (by decide) (by first | rfl | assumption) (by first | rfl | assumption) (Nat.le_of_ble_eq_true rfl) dX8_proof_85 (fun v_85 h_85 hp => ?_)
      obtain ⟨rfl, rfl⟩ := hp
      refine g_if_ne (pc := 88) (tgt := 94) E dX8_proof_88 (by decide) (fun c_88 => ?_) (fun c_88 => ?_)
      · have k_88 := q_b1.mp c_88
        refine g_lconst (pc := 94) (v := 0) E dX8_proof_94 (by decide) ?_
        refine g_lstore_8 (pc := 95) E dX8_proof_95 (by decide) rfl ?_
        refine g_iconst (pc := 97) (v := 0) E dX8_proof_97 (by decide) ?_
        refine g_istore_10 (pc := 98) E dX8_proof_98 (by decide) rfl ?_
        exact L3 (by omega) k_88 0 (Nat.zero_le _)
      · have k_88 := q_b0.mp c_88
        refine g_goto (pc := 91) (tgt := 156) E dX8_proof_91 (by decide) ?_
        refine g_iinc_7 (pc := 156) (u := 1) E dX8_proof_156 (by decide) (by decide) rfl ?_
        refine g_goto (pc := 159) (tgt := 71) E dX8_proof_159 (by decide) ?_
        rw [nI_1]
        have e := fun x8 x9 x10 => ih (by omega) x8 x9 x10
        simp only [hcut] at e
        rw [if_neg (fun q => k_88 (of_decide_eq_true q))] at e
        exact e _ _ _
  have L1 : ∀ S : Nat, S ≤ 3 → s = nI S → ¬ q_ref (f 1) (f 2) (q_nbM g) n s 1000000 < 0 → ∀ (x2 : Int32), ∀ i, i ≤ n → gg C tyM 11 0 0 alM ad 26 [some (.ref 0), some (.int s), some (.int x2), some (.long (q_sumL (z_nd f g S) i)), none, some (.int (nI i)), none, none, none, none, none] [] (f, g, rfM) := by
    intro S hS es h00 x2
    refine q_loop n (fun i hi ih => ?_)
    subst es
    refine g_iload_5 (pc := 26) E dX8_proof_26 ?_
    refine g_aload_0 (pc := 28) E dX8_proof_28 ?_
    refine g_getI (pc := 29) E (by first | rfl | assumption) (by first | rfl | assumption) fl_X8_154 rfl dX8_proof_29 ?_
    refine g_icmp_ge (pc := 32) (tgt := 65) E dX8_proof_32 (by decide) (fun c_32 => ?_) (fun c_32 => ?_)
    · have e_32 := (q_ge (x := n) (y := i) hn rfl (by omega) (by omega)).mp c_32
      refine g_lconst (pc := 65) (v := 0) E dX8_proof_65 (by decide) ?_
      refine g_lstore_5 (pc := 66) E dX8_proof_66 (by decide) rfl ?_
      refine g_iconst (pc := 68) (v := 0) E dX8_proof_68 (by decide) ?_
      refine g_istore_7 (pc := 69) E dX8_proof_69 (by decide) rfl ?_
      exact L2 S hS rfl h00 x2 _ (by rw [show i = n by omega]) 0 (Nat.zero_le _) none none none
    · have e_32 := (not_congr (q_ge (x := n) (y := i) hn rfl (by omega) (by omega))).mp c_32
      refine g_lload_3 (pc := 35) E dX8_proof_35 ?_
      refine g_aload_0 (pc := 36) E dX8_proof_36 ?_
      refine g_getR (pc := 37) E (by first | rfl | assumption) (by first | rfl | assumption) fl_X8_54 rfl (by first | rfl | assumption) dX8_proof_37 ?_
      refine g_iload_5 (pc := 40) E dX8_proof_40 ?_
      refine g_iald (pc := 42) E (by first | rfl | assumption) (by first | rfl | assumption) dX8_proof_42 (q_ix_n (by omega)) ?_
      refine g_i2l (pc := 43) E dX8_proof_43 ?_
      refine g_aload_0 (pc := 44) E dX8_proof_44 ?_
      refine g_getR (pc := 45) E (by first | rfl | assumption) (by first | rfl | assumption) fl_X8_16 rfl (by first | rfl | assumption) dX8_proof_45 ?_
      refine g_bipush (pc := 48) (v := 60) E dX8_proof_48 (by decide) ?_
      refine g_iload_1 (pc := 50) E dX8_proof_50 ?_
      refine g_imul (pc := 51) E dX8_proof_51 ?_
      refine g_iload_5 (pc := 52) E dX8_proof_52 ?_
      refine g_iadd (pc := 54) E dX8_proof_54 ?_
      refine g_lald (pc := 55) E (by first | rfl | assumption) (by first | rfl | assumption) dX8_proof_55 (q_ix_e (q_60 _ _) (by omega)) ?_
      refine g_lmul (pc := 56) E dX8_proof_56 ?_
      refine g_ladd (pc := 57) E dX8_proof_57 ?_
      refine g_lstore_3 (pc := 58) E dX8_proof_58 (by decide) rfl ?_
      refine g_iinc_5 (pc := 59) (u := 1) E dX8_proof_59 (by decide) (by decide) rfl ?_
      refine g_goto (pc := 62) (tgt := 26) E dX8_proof_62 (by decide) ?_
      rw [nI_1]
      exact ih (by omega)
  refine g_aload_0 (pc := 0) E dX8_proof_0 ?_
  refine g_iconst (pc := 1) (v := 0) E dX8_proof_1 (by decide) ?_
  refine g_putI (pc := 2) E (by first | rfl | assumption) (by first | rfl | assumption) fw_X8_137 rfl dX8_proof_2 ?_
  rw [q_up_same ht]
  refine g_aload_0 (pc := 5) E dX8_proof_5 ?_
  refine g_iload_1 (pc := 6) E dX8_proof_6 ?_
  refine g_ldc2 (pc := 7) E kw_X8_226 dX8_proof_7 ?_
  refine g_cVi2 (pc := 10) E (c_X8_refuses n (by exact hn) h10 s _) cw_X8_177 (by decide) (by decide) (by first | rfl | assumption) (by first | rfl | assumption) (Nat.le_of_ble_eq_true rfl) dX8_proof_10 (fun v_10 h_10 hp => ?_)
  obtain ⟨rfl, rfl⟩ := hp
  refine g_istore_2 (pc := 13) E dX8_proof_13 (by decide) rfl ?_
  refine g_iload_2 (pc := 14) E dX8_proof_14 ?_
  refine g_if_ge (pc := 15) (tgt := 21) E dX8_proof_15 (by decide) (fun c_15 => ?_) (fun c_15 => ?_)
  · have k15 : ¬ q_ref (f 1) (f 2) (q_nbM g) n s 1000000 < 0 := Int32.not_lt.mpr c_15
    obtain ⟨-, ⟨u0, u1⟩, -⟩ := q_ref_0 k15
    obtain ⟨S, hS, es⟩ := q_nat (b := 3) u0 u1
    subst es
    refine g_lconst (pc := 21) (v := 0) E dX8_proof_21 (by decide) ?_
    refine g_lstore_3 (pc := 22) E dX8_proof_22 (by decide) rfl ?_
    refine g_iconst (pc := 23) (v := 0) E dX8_proof_23 (by decide) ?_
    refine g_istore_5 (pc := 24) E dX8_proof_24 (by decide) rfl ?_
    exact L1 S hS rfl k15 _ 0 (Nat.zero_le _)
  · have k15 : q_ref (f 1) (f 2) (q_nbM g) n s 1000000 < 0 := Int32.not_le.mp c_15
    refine g_iload_2 (pc := 18) E dX8_proof_18 ?_
    refine g_i2l (pc := 19) E dX8_proof_19 ?_
    exact g_lret (pc := 20) E Z dX8_proof_20 ⟨_, rfl, Or.inl ⟨k15, rfl, rfl⟩⟩
