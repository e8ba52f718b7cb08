/-! ===== Int32 by its bits: bt x i ===== -/
def bt (x : Int32) (i : Nat) : Bool := x.toBitVec.getLsbD i
theorem b_ext {x y : Int32} (h : ∀ i, i < 32 → bt x i = bt y i) : x = y := Int32.toBitVec_inj.mp (BitVec.eq_of_getLsbD_eq (fun i hi => h i hi))
theorem b_or (x y : Int32) (i : Nat) : bt (x ||| y) i = (bt x i || bt y i) := by unfold bt; rw [Int32.toBitVec_or, BitVec.getLsbD_or]
theorem b_and (x y : Int32) (i : Nat) : bt (x &&& y) i = (bt x i && bt y i) := by unfold bt; rw [Int32.toBitVec_and, BitVec.getLsbD_and]
theorem b_xor (x y : Int32) (i : Nat) : bt (x ^^^ y) i = (bt x i ^^ bt y i) := by unfold bt; rw [Int32.toBitVec_xor, BitVec.getLsbD_xor]
theorem b_big {x : Int32} {i : Nat} (h : 32 ≤ i) : bt x i = false := BitVec.getLsbD_of_ge _ _ h
theorem b_255 (i : Nat) : bt 255 i = decide (i < 8) := by
  rcases Nat.lt_or_ge i 32 with h | h
  · exact (by decide +kernel : ∀ i, i < 32 → bt 255 i = decide (i < 8)) i h
  · rw [b_big h, decide_eq_false (by omega)]
theorem b_65535 (i : Nat) : bt 65535 i = decide (i < 16) := by
  rcases Nat.lt_or_ge i 32 with h | h
  · exact (by decide +kernel : ∀ i, i < 32 → bt 65535 i = decide (i < 16)) i h
  · rw [b_big h, decide_eq_false (by omega)]
theorem b_m1 : ∀ i, i < 32 → bt (-1) i = true := by decide +kernel
theorem b_0 (i : Nat) : bt 0 i = false := BitVec.getLsbD_zero
theorem s_l : ∀ n, n < 32 → ((nI n &&& 31).toBitVec.smod 32).toNat = n := by decide +kernel
theorem s_u : ∀ n, n < 32 → (((nI n).toUInt32 &&& Int32.toUInt32 31).toBitVec % 32).toNat = n := by decide +kernel
theorem b_shl (n : Nat) (hn : n < 32) (x : Int32) {i : Nat} (hi : i < 32) : bt (x <<< (nI n &&& 31)) i = (decide (n ≤ i) && bt x (i - n)) := by
  unfold bt
  rw [Int32.toBitVec_shiftLeft]
  show (x.toBitVec <<< ((nI n &&& 31).toBitVec.smod 32).toNat).getLsbD i = _
  rw [s_l n hn, BitVec.getLsbD_shiftLeft]
  rcases Nat.lt_or_ge i n with h | h
  · simp [h, Nat.not_le.mpr h]
  · simp [hi, h, Nat.not_lt.mpr h]
theorem b_ushr (n : Nat) (hn : n < 32) (x : Int32) (i : Nat) : bt ((x.toUInt32 >>> ((nI n).toUInt32 &&& Int32.toUInt32 31)).toInt32) i = bt x (n + i) := by
  show (x.toUInt32 >>> ((nI n).toUInt32 &&& Int32.toUInt32 31)).toBitVec.getLsbD i = x.toUInt32.toBitVec.getLsbD (n + i)
  rw [UInt32.toBitVec_shiftRight]
  show (x.toUInt32.toBitVec >>> (((nI n).toUInt32 &&& Int32.toUInt32 31).toBitVec % 32).toNat).getLsbD i = _
  rw [s_u n hn, BitVec.getLsbD_ushiftRight]
theorem b_sshr (n : Nat) (hn : n < 32) (x : Int32) {i : Nat} (hi : i < 32) : bt (x >>> (nI n &&& 31)) i = if n + i < 32 then bt x (n + i) else bt x 31 := by
  unfold bt
  rw [Int32.toBitVec_shiftRight]
  show (x.toBitVec.sshiftRight ((nI n &&& 31).toBitVec.smod 32).toNat).getLsbD i = _
  rw [s_l n hn, BitVec.getLsbD_sshiftRight, BitVec.msb_eq_getLsbD_last]
  simp [hi]
theorem b_shl8 (x : Int32) {i : Nat} (hi : i < 32) : bt (x <<< ((8 : Int32) &&& 31)) i = (decide (8 ≤ i) && bt x (i - 8)) := b_shl 8 (by omega) x hi
theorem b_shl16 (x : Int32) {i : Nat} (hi : i < 32) : bt (x <<< ((16 : Int32) &&& 31)) i = (decide (16 ≤ i) && bt x (i - 16)) := b_shl 16 (by omega) x hi
theorem b_shl24 (x : Int32) {i : Nat} (hi : i < 32) : bt (x <<< ((24 : Int32) &&& 31)) i = (decide (24 ≤ i) && bt x (i - 24)) := b_shl 24 (by omega) x hi
theorem b_sshr8 (x : Int32) {i : Nat} (hi : i < 32) : bt (x >>> ((8 : Int32) &&& 31)) i = if 8 + i < 32 then bt x (8 + i) else bt x 31 := b_sshr 8 (by omega) x hi
/-! ===== nI under and, xor, >>>, one bit, 65535 ===== -/
theorem nx_and (a b : Nat) : nI a &&& nI b = nI (a &&& b) := by
  apply Int32.toBitVec_inj.1
  show BitVec.ofNat 32 a &&& BitVec.ofNat 32 b = BitVec.ofNat 32 (a &&& b)
  apply BitVec.eq_of_getLsbD_eq
  intro i hi
  simp [hi]
theorem nx_xor (a b : Nat) : nI a ^^^ nI b = nI (a ^^^ b) := by
  apply Int32.toBitVec_inj.1
  show BitVec.ofNat 32 a ^^^ BitVec.ofNat 32 b = BitVec.ofNat 32 (a ^^^ b)
  apply BitVec.eq_of_getLsbD_eq
  intro i hi
  simp [hi]
theorem nx_cnt : ∀ j : Fin 32, (UInt32.ofNat j.val &&& Int32.toUInt32 31).toNat % 32 = j.val := by decide +kernel
theorem nx_ush {k j : Nat} (hk : k < 65536) (hj : j < 32) : ((nI k).toUInt32 >>> ((nI j).toUInt32 &&& Int32.toUInt32 31)).toInt32 = nI (k >>> j) := by
  have hs : k >>> j ≤ k := by
    rw [Nat.shiftRight_eq_div_pow]
    exact Nat.div_le_self _ _
  have e2 : UInt32.ofNat k >>> (UInt32.ofNat j &&& Int32.toUInt32 31) = UInt32.ofNat (k >>> j) := by
    apply UInt32.toNat_inj.1
    have h1 : (UInt32.ofNat k).toNat = k := Nat.mod_eq_of_lt (by omega)
    have h2 : (UInt32.ofNat (k >>> j)).toNat = k >>> j := Nat.mod_eq_of_lt (by omega)
    rw [UInt32.toNat_shiftRight, nx_cnt ⟨j, hj⟩, h1, h2]
  show (UInt32.ofNat k >>> (UInt32.ofNat j &&& Int32.toUInt32 31)).toInt32 = _
  rw [e2]
  rfl
theorem nx_bit {k j : Nat} (hk : k < 65536) (hj : j < 16) : (((nI k).toUInt32 >>> ((nI j).toUInt32 &&& Int32.toUInt32 31)).toInt32 &&& 1) = 0 ↔ k.testBit j = false := by
  rw [nx_ush hk (by omega)]
  show nI (k >>> j) &&& nI 1 = 0 ↔ _
  rw [nx_and, Nat.and_one_is_mod, ← nI_0, nI_eq (by omega) (by omega), Nat.testBit_eq_decide_div_mod_eq, Nat.shiftRight_eq_div_pow, decide_eq_false_iff_not]
  generalize k / 2 ^ j = z
  omega
theorem nx_mod (k : Nat) : nI k &&& 65535 = nI (k % 65536) := by
  show nI k &&& nI 65535 = _
  rw [nx_and, show (65535 : Nat) = 2 ^ 16 - 1 from rfl, Nat.and_two_pow_sub_one_eq_mod]
theorem nx_m16 {k : Nat} (h : k < 65536) : nI k &&& 65535 = nI k := by rw [nx_mod, Nat.mod_eq_of_lt h]
theorem nx_mask (x : Int32) : ∃ k, k < 65536 ∧ x &&& 65535 = nI k := by
  have e : x = nI x.toBitVec.toNat := by
    apply Int32.toBitVec_inj.1
    show x.toBitVec = BitVec.ofNat 32 x.toBitVec.toNat
    simp
  refine ⟨x.toBitVec.toNat % 65536, Nat.mod_lt _ (by omega), ?_⟩
  rw [← nx_mod, ← e]
/-! ===== lN n to 2^64: shifts, and, or, masks, one bit ===== -/
theorem wb_tb (n : Nat) : (lN n).toBitVec = BitVec.ofNat 64 n := rfl
theorem wb_inj {a b : Int64} (h : a.toBitVec = b.toBitVec) : a = b := Int64.toBitVec_inj.mp h
theorem wb_tn {n : Nat} (h : n < 2 ^ 64) : (lN n).toBitVec.toNat = n := by rw [wb_tb, BitVec.toNat_ofNat, Nat.mod_eq_of_lt h]
theorem wb_of (x : Int64) : ∃ n, n < 2 ^ 64 ∧ x = lN n := ⟨x.toBitVec.toNat, x.toBitVec.isLt, wb_inj (by rw [wb_tb]; simp)⟩
theorem wb_of32 (x : Int32) : ∃ n, n < 2 ^ 32 ∧ x = nI n := ⟨x.toBitVec.toNat, x.toBitVec.isLt, Int32.toBitVec_inj.mp (by show _ = BitVec.ofNat 32 _; simp)⟩
theorem wb_c : ∀ k, k < 64 → ((nI k).toInt64 &&& 63) = lN k := by decide +kernel
theorem wb_cu : ∀ k, k < 64 → ((nI k).toInt64.toUInt64 &&& Int64.toUInt64 63) = UInt64.ofNat k := by decide +kernel
theorem wb_sm : ∀ k, k < 64 → (BitVec.ofNat 64 k).smod 64 = BitVec.ofNat 64 k := by decide +kernel
theorem wb_pw {a b : Nat} (h : a ≤ b) : 2 ^ b = 2 ^ a * 2 ^ (b - a) := by rw [← Nat.pow_add]; congr 1; omega
theorem wb_lt2 {a b : Nat} (h : a < b) : 2 ^ a < 2 ^ b := Nat.pow_lt_pow_right (by decide) h
theorem wb_mod (n : Nat) : lN n = lN (n % 2 ^ 64) := wb_inj (by rw [wb_tb, wb_tb]; apply BitVec.eq_of_toNat_eq; rw [BitVec.toNat_ofNat, BitVec.toNat_ofNat, Nat.mod_mod])
theorem wb_shr {n k : Nat} (hn : n < 2 ^ 64) (hk : k < 64) : ((lN n).toUInt64 >>> ((nI k).toInt64.toUInt64 &&& Int64.toUInt64 63)).toInt64 = lN (n / 2 ^ k) := by
  rw [wb_cu k hk]
  apply wb_inj
  apply BitVec.eq_of_toNat_eq
  show ((lN n).toUInt64 >>> UInt64.ofNat k).toNat = (BitVec.ofNat 64 _).toNat
  have h1 : (UInt64.ofNat k).toNat = k := by
    show (BitVec.ofNat 64 k).toNat = k
    rw [BitVec.toNat_ofNat, Nat.mod_eq_of_lt (by omega)]
  have h2 : (lN n).toUInt64.toNat = n := wb_tn hn
  rw [UInt64.toNat_shiftRight, h1, h2, Nat.mod_eq_of_lt hk, Nat.shiftRight_eq_div_pow, BitVec.toNat_ofNat, Nat.mod_eq_of_lt (Nat.lt_of_le_of_lt (Nat.div_le_self _ _) hn)]
theorem wb_shl (n : Nat) {k : Nat} (hk : k < 64) : lN n <<< ((nI k).toInt64 &&& 63) = lN (n * 2 ^ k) := by
  rw [wb_c k hk]
  apply wb_inj
  rw [Int64.toBitVec_shiftLeft, wb_tb, wb_tb, wb_tb, wb_sm k hk]
  apply BitVec.eq_of_toNat_eq
  rw [BitVec.shiftLeft_eq', BitVec.toNat_shiftLeft, BitVec.toNat_ofNat, BitVec.toNat_ofNat, BitVec.toNat_ofNat, Nat.mod_eq_of_lt (show k < 2 ^ 64 by omega), Nat.shiftLeft_eq, Nat.mul_mod, Nat.mod_mod, ← Nat.mul_mod]
theorem wb_and {a b : Nat} (ha : a < 2 ^ 64) (hb : b < 2 ^ 64) : lN a &&& lN b = lN (a &&& b) := by
  apply wb_inj
  rw [Int64.toBitVec_and, wb_tb, wb_tb, wb_tb]
  apply BitVec.eq_of_toNat_eq
  rw [BitVec.toNat_and, BitVec.toNat_ofNat, BitVec.toNat_ofNat, BitVec.toNat_ofNat, Nat.mod_eq_of_lt ha, Nat.mod_eq_of_lt hb, Nat.mod_eq_of_lt (Nat.and_lt_two_pow _ hb)]
theorem wb_or {a b : Nat} (ha : a < 2 ^ 64) (hb : b < 2 ^ 64) : lN a ||| lN b = lN (a ||| b) := by
  apply wb_inj
  rw [Int64.toBitVec_or, wb_tb, wb_tb, wb_tb]
  apply BitVec.eq_of_toNat_eq
  rw [BitVec.toNat_or, BitVec.toNat_ofNat, BitVec.toNat_ofNat, BitVec.toNat_ofNat, Nat.mod_eq_of_lt ha, Nat.mod_eq_of_lt hb, Nat.mod_eq_of_lt (Nat.or_lt_two_pow ha hb)]
theorem wb_mask {n k : Nat} (hn : n < 2 ^ 64) (hk : k < 64) : lN n &&& lN (2 ^ k - 1) = lN (n % 2 ^ k) := by
  rw [wb_and hn (by have := wb_lt2 hk; omega), Nat.and_two_pow_sub_one_eq_mod]
theorem wb_a1 {n : Nat} (hn : n < 2 ^ 64) : lN n &&& 1 = lN (n % 2) := wb_mask (k := 1) hn (by decide)
theorem wb_bit {n k : Nat} (hn : n < 2 ^ 64) (hk : k < 64) : ((lN n).toUInt64 >>> ((nI k).toInt64.toUInt64 &&& Int64.toUInt64 63)).toInt64 &&& 1 = lN (n / 2 ^ k % 2) := by
  rw [wb_shr hn hk, wb_a1 (Nat.lt_of_le_of_lt (Nat.div_le_self _ _) hn)]
theorem wb_xor {q k : Nat} (hk : k < 63) (h : 2 ^ k ≤ q) (h2 : q < 2 ^ (k + 1)) : lN q ^^^ lN (2 ^ k) = lN (q - 2 ^ k) := by
  obtain ⟨r, rfl⟩ : ∃ r, q = 2 ^ k + r := ⟨q - 2 ^ k, by omega⟩
  have hr : r < 2 ^ k := by rw [Nat.pow_succ] at h2; omega
  have hx : (2 ^ k + r) ^^^ 2 ^ k = r := by
    apply Nat.eq_of_testBit_eq
    intro i
    rw [Nat.testBit_xor, Nat.testBit_two_pow]
    rcases Nat.lt_trichotomy i k with h | h | h
    · rw [Nat.testBit_two_pow_add_gt h]
      simp [show ¬ k = i by omega]
    · subst h
      rw [Nat.testBit_two_pow_add_eq]
      simp
    · have a1 : 2 ^ (k + 1) ≤ 2 ^ i := Nat.pow_le_pow_right (by decide) h
      rw [Nat.testBit_lt_two_pow (show 2 ^ k + r < 2 ^ i by omega), Nat.testBit_lt_two_pow (show r < 2 ^ i by omega)]
      simp [show ¬ k = i by omega]
  have b1 := wb_lt2 (show k + 1 < 64 by omega)
  have b2 := wb_lt2 (show k < 64 by omega)
  apply wb_inj
  rw [Int64.toBitVec_xor, wb_tb, wb_tb, wb_tb]
  apply BitVec.eq_of_toNat_eq
  rw [BitVec.toNat_xor, BitVec.toNat_ofNat, BitVec.toNat_ofNat, BitVec.toNat_ofNat, Nat.mod_eq_of_lt (by omega : 2 ^ k + r < 2 ^ 64), Nat.mod_eq_of_lt b2, hx, Nat.add_sub_cancel_left, Nat.mod_eq_of_lt (by omega)]
/-! ===== lN to 2^62 under >> and >>> ===== -/
theorem pf_lI {a : Nat} (h : a < 2 ^ 63) : (lN a).toInt = (a : Int) := lg_ofNat_toInt h
theorem pf_shr {a d : Nat} {D : Int64} (hD : (D.toBitVec.smod 64).toNat = d) (h : a < 2 ^ 62) : lN a >>> D = lN (a / 2 ^ d) := by
  have hd : a / 2 ^ d ≤ a := Nat.div_le_self _ _
  apply Int64.toInt_inj.mp
  have e : (lN a >>> D).toInt = (lN a).toInt >>> d := by
    rw [← hD]
    exact BitVec.toInt_sshiftRight ..
  rw [e, Int.shiftRight_eq_div_pow, pf_lI (by omega), pf_lI (by omega)]
  rfl
theorem pf_ushr {a d : Nat} {D : UInt64} (hD : D.toNat % 64 = d) (h : a < 2 ^ 62) : ((lN a).toUInt64 >>> D).toInt64 = lN (a / 2 ^ d) := by
  have hd : a / 2 ^ d ≤ a := Nat.div_le_self _ _
  have e : (lN a).toUInt64 >>> D = UInt64.ofNat (a / 2 ^ d) := UInt64.toNat_inj.mp (by
    rw [UInt64.toNat_shiftRight, hD, Nat.shiftRight_eq_div_pow, UInt64.toNat_ofNat']
    show (UInt64.ofNat a).toNat / 2 ^ d = _
    rw [UInt64.toNat_ofNat', Nat.mod_eq_of_lt (by omega), Nat.mod_eq_of_lt (by omega)])
  rw [e]
  rfl
theorem pf_andw (x : Int64) : ∃ m, m < 2 ^ 32 ∧ x &&& 4294967295 = lN m := ⟨x.toBitVec.toNat % 2 ^ 32, Nat.mod_lt _ (by decide), Int64.toBitVec_inj.mp (BitVec.eq_of_toNat_eq (by
  show (x.toBitVec &&& 4294967295#64).toNat = (BitVec.ofNat 64 (x.toBitVec.toNat % 2 ^ 32)).toNat
  rw [BitVec.toNat_and, show (4294967295#64).toNat = 2 ^ 32 - 1 from by decide, Nat.and_two_pow_sub_one_eq_mod, BitVec.toNat_ofNat]
  omega))⟩
/-! digits to base 16, sets of bits -/
theorem bt_nI (t i : Nat) : bt (nI t) i = (decide (i < 32) && t.testBit i) := by
  unfold bt
  show (BitVec.ofNat 32 t).getLsbD i = _
  rw [BitVec.getLsbD_ofNat]
theorem nx_or (a b : Nat) : nI a ||| nI b = nI (a ||| b) := by
  apply b_ext
  intro i hi
  rw [b_or, bt_nI, bt_nI, bt_nI, Nat.testBit_or, decide_eq_true hi]
  simp
theorem q_tb10 {t i : Nat} (ht : t < 1024) (hi : 10 ≤ i) : t.testBit i = false :=
  Nat.testBit_lt_two_pow (Nat.lt_of_lt_of_le ht (Nat.pow_le_pow_right (by decide) hi : 2 ^ 10 ≤ 2 ^ i))
theorem q_sub0 {t l : Nat} (ht : t < 1024) : nI t &&& (nI l ^^^ -1) = 0 ↔ ∀ i, i < 10 → t.testBit i = true → l.testBit i = true := by
  constructor
  · intro h i hi hb
    have e : bt (nI t &&& (nI l ^^^ -1)) i = false := by rw [h]; exact b_0 i
    rw [b_and, b_xor, bt_nI, bt_nI, b_m1 i (by omega), decide_eq_true (show i < 32 by omega), hb] at e
    simpa using e
  · intro h
    apply b_ext
    intro i hi
    rw [b_and, b_xor, bt_nI, bt_nI, b_m1 i hi, decide_eq_true hi, b_0]
    by_cases e : i < 10
    · by_cases e2 : t.testBit i = true
      · rw [e2, h i e e2]; rfl
      · rw [show t.testBit i = false from Bool.eq_false_iff.mpr e2]; rfl
    · rw [q_tb10 ht (by omega)]; rfl
def dg (e c : Nat) : Nat := e / 16 ^ c % 16
theorem dg_lt (e c : Nat) : dg e c < 16 := Nat.mod_lt _ (by decide)
def z_enc (v : Nat → Nat) : Nat → Nat
  | 0 => 0
  | k + 1 => z_enc v k + v k * 16 ^ k
theorem z_enc_lt {v : Nat → Nat} : ∀ {k : Nat}, (∀ c, c < k → v c < 16) → z_enc v k < 16 ^ k
  | 0, _ => Nat.zero_lt_one
  | k + 1, h => by
    have h1 := z_enc_lt (v := v) (k := k) (fun c hc => h c (by omega))
    have h2 := h k (by omega)
    rw [z_enc, Nat.pow_succ]
    have h3 : v k * 16 ^ k ≤ 15 * 16 ^ k := Nat.mul_le_mul_right _ (by omega)
    omega
theorem dg_add {a b c k : Nat} (hc : c < k) : dg (a + b * 16 ^ k) c = dg a c := by
  obtain ⟨d, rfl⟩ : ∃ d, k = c + (d + 1) := ⟨k - c - 1, by omega⟩
  unfold dg
  rw [Nat.pow_add, Nat.pow_succ, show b * (16 ^ c * (16 ^ d * 16)) = 16 ^ c * (16 * (b * 16 ^ d)) by
    rw [Nat.mul_left_comm, Nat.mul_comm (16 ^ d) 16, Nat.mul_left_comm b 16], Nat.add_mul_div_left _ _ (Nat.pow_pos (by decide)), Nat.add_mul_mod_self_left]
theorem z_enc_dg {v : Nat → Nat} : ∀ {k c : Nat}, (∀ c, c < k → v c < 16) → c < k → dg (z_enc v k) c = v c
  | 0, c, _, hc => absurd hc (Nat.not_lt_zero c)
  | k + 1, c, h, hc => by
    rw [z_enc]
    by_cases e : c = k
    · subst e
      have h1 := z_enc_lt (v := v) (k := c) (fun c hc => h c (by omega))
      unfold dg
      rw [Nat.add_mul_div_right _ _ (Nat.pow_pos (by decide)), Nat.div_eq_of_lt h1, Nat.zero_add]
      exact Nat.mod_eq_of_lt (h c (by omega))
    · rw [dg_add (by omega)]
      exact z_enc_dg (fun c hc => h c (by omega)) (by omega)
theorem z_dg_enc (e : Nat) : ∀ k, z_enc (dg e) k = e % 16 ^ k
  | 0 => by rw [z_enc, Nat.pow_zero, Nat.mod_one]
  | k + 1 => by
    rw [z_enc, z_dg_enc e k, Nat.mod_pow_succ, Nat.mul_comm]; rfl
theorem z_enc_congr {v u : Nat → Nat} : ∀ {k : Nat}, (∀ c, c < k → v c = u c) → z_enc v k = z_enc u k
  | 0, _ => rfl
  | k + 1, h => by rw [z_enc, z_enc, z_enc_congr (fun c hc => h c (by omega)), h k (by omega)]
theorem z_enc_sub {v b : Nat → Nat} : ∀ {k : Nat}, (∀ c, c < k → b c ≤ v c) → z_enc v k = z_enc (fun c => v c - b c) k + z_enc b k
  | 0, _ => rfl
  | k + 1, h => by
    have h1 := h k (by omega)
    rw [z_enc, z_enc, z_enc, z_enc_sub (fun c hc => h c (by omega))]
    have : v k * 16 ^ k = (v k - b k) * 16 ^ k + b k * 16 ^ k := by rw [← Nat.add_mul]; congr 1; omega
    omega
theorem dg_ext {e d : Nat} {n : Nat} (he : e < 16 ^ n) (hd : d < 16 ^ n) (h : ∀ c, c < n → dg e c = dg d c) : e = d := by
  have h1 := z_dg_enc e n
  have h2 := z_dg_enc d n
  rw [Nat.mod_eq_of_lt he] at h1
  rw [Nat.mod_eq_of_lt hd] at h2
  rw [← h1, ← h2]
  exact z_enc_congr h
theorem dg_0 (c : Nat) : dg 0 c = 0 := by unfold dg; rw [Nat.zero_div]
theorem dg_big {e n c : Nat} (he : e < 16 ^ n) (hc : n ≤ c) : dg e c = 0 := by
  unfold dg
  rw [Nat.div_eq_of_lt (Nat.lt_of_lt_of_le he (Nat.pow_le_pow_right (by decide) hc))]
def z_bt (t c : Nat) : Nat := if t.testBit c = true then 1 else 0
def z_on (t : Nat) : Nat := z_enc (z_bt t) 10
/-- the set of the lacking -/
def z_lk (e : Nat) : Nat → Nat
  | 0 => 0
  | k + 1 => if dg e k = 0 then z_lk e k else z_lk e k ||| 2 ^ k
theorem z_lk_lt (e : Nat) : ∀ k, z_lk e k < 2 ^ k
  | 0 => Nat.zero_lt_one
  | k + 1 => by
    rw [z_lk]
    have h1 := z_lk_lt e k
    have h2 : 2 ^ k < 2 ^ (k + 1) := Nat.pow_lt_pow_right (by decide) (by omega)
    split
    · omega
    · exact Nat.or_lt_two_pow (by omega) h2
theorem z_lk_bit (e : Nat) : ∀ k c, (z_lk e k).testBit c = (decide (c < k) && decide (¬ dg e c = 0))
  | 0, c => by rw [z_lk]; simp
  | k + 1, c => by
    rw [z_lk]
    by_cases h : dg e k = 0
    · rw [if_pos h, z_lk_bit e k c]
      by_cases e1 : c = k
      · subst e1; simp [h]
      · have : (c < k + 1) = (c < k) := by apply propext; omega
        simp only [this]
    · rw [if_neg h, Nat.testBit_or, z_lk_bit e k c, Nat.testBit_two_pow]
      by_cases e1 : c = k
      · subst e1; simp [h]
      · have : (c < k + 1) = (c < k) := by apply propext; omega
        simp only [this, show (k = c) = False from propext ⟨fun q => e1 q.symm, False.elim⟩]
        simp
theorem z_lk_n {e n : Nat} (he : e < 16 ^ n) : ∀ d, z_lk e (n + d) = z_lk e n
  | 0 => rfl
  | d + 1 => by
    rw [show n + (d + 1) = (n + d) + 1 from rfl, z_lk, if_pos (dg_big he (by omega)), z_lk_n he d]
theorem z_lk_10 {e n : Nat} (he : e < 16 ^ n) (h : n ≤ 10) : z_lk e 10 = z_lk e n := by
  obtain ⟨d, hd⟩ : ∃ d, 10 = n + d := ⟨10 - n, by omega⟩
  rw [hd]; exact z_lk_n he d
/-- a set that fits no further -/
abbrev z_wh (n : Nat) (p : Nat → Bool) (l t : Nat) : Prop := ¬ t = 0 ∧ (∀ i, i < 10 → t.testBit i = true → l.testBit i = true) ∧ p t = true ∧ ∀ c, c < n → l.testBit c = true → ¬ t.testBit c = true → ¬ p (t ||| 2 ^ c) = true
theorem z_next {e t : Nat} {n : Nat} (hn : n ≤ 10) (he : e < 16 ^ n) (h : ∀ i, i < 10 → t.testBit i = true → (z_lk e 10).testBit i = true) : (∀ c, c < 10 → dg (e - z_on t) c = dg e c - z_bt t c) ∧ e - z_on t < 16 ^ n ∧ z_on t ≤ e ∧ (∀ c, c < 10 → z_bt t c ≤ dg e c) := by
  have hle : ∀ c, c < 10 → z_bt t c ≤ dg e c := by
    intro c hc
    unfold z_bt
    split
    · rename_i hb
      have := h c hc hb
      rw [z_lk_bit] at this
      simp only [Bool.and_eq_true, decide_eq_true_eq] at this
      omega
    · omega
  have he10 : e < 16 ^ 10 := Nat.lt_of_lt_of_le he (Nat.pow_le_pow_right (by decide) hn)
  have e1 := z_dg_enc e 10
  rw [Nat.mod_eq_of_lt he10] at e1
  have e2 := z_enc_sub (v := dg e) (b := z_bt t) (k := 10) hle
  rw [e1] at e2
  have e3 : e - z_on t = z_enc (fun c => dg e c - z_bt t c) 10 := by unfold z_on; omega
  have hd : ∀ c, c < 10 → dg (e - z_on t) c = dg e c - z_bt t c := by
    intro c hc
    rw [e3]
    exact z_enc_dg (v := fun c => dg e c - z_bt t c) (fun c _ => by have := dg_lt e c; omega) hc
  exact ⟨hd, by omega, by unfold z_on; omega, hle⟩
theorem z_enc_0 {v : Nat → Nat} : ∀ {k : Nat}, z_enc v k = 0 → ∀ c, c < k → v c = 0
  | 0, _, c, hc => absurd hc (Nat.not_lt_zero c)
  | k + 1, h, c, hc => by
    rw [z_enc] at h
    have h1 : z_enc v k = 0 := by omega
    have h2 : v k * 16 ^ k = 0 := by omega
    by_cases e : c = k
    · subst e
      rcases Nat.mul_eq_zero.mp h2 with q | q
      · exact q
      · exact absurd q (Nat.ne_of_gt (Nat.pow_pos (by decide)))
    · exact z_enc_0 h1 c (by omega)
theorem z_on_pos {t : Nat} (ht : t < 1024) (h0 : ¬ t = 0) : 0 < z_on t := by
  rcases Nat.eq_zero_or_pos (z_on t) with q | q
  · exfalso
    apply h0
    apply Nat.eq_of_testBit_eq
    intro i
    rw [Nat.zero_testBit]
    by_cases hi : i < 10
    · have := z_enc_0 q i hi
      unfold z_bt at this
      split at this
      · exact absurd this (by decide)
      · rename_i hb; exact Bool.not_eq_true _ ▸ hb
    · exact q_tb10 ht (by omega)
  · exact q
/-! the search, breadth first -/
abbrev BS : Type := Nat × (Nat → Nat) × (Nat → Nat) × (Nat → Nat)
abbrev b_in (S : BS) (x : Nat) : Prop := ∃ j, j < S.1 ∧ S.2.1 j = x
def b_psh (S : BS) (x a t : Nat) : BS := (S.1 + 1, va_up S.2.1 S.1 x, va_up S.2.2.1 S.1 a, va_up S.2.2.2 S.1 t)
def b_one (n : Nat) (p : Nat → Bool) (a t : Nat) (S : BS) : Nat × BS :=
  if z_wh n p (z_lk (S.2.1 a) 10) t then (if S.2.1 a - z_on t = 0 then (1, S) else if b_in S (S.2.1 a - z_on t) then (0, S) else if S.1 = 5000 then (2, S) else (0, b_psh S (S.2.1 a - z_on t) a t)) else (0, S)
def b_row (n : Nat) (p : Nat → Bool) (a : Nat) : Nat → Nat → BS → Nat × Nat × BS
  | 0, t, S => (0, t, S)
  | m + 1, t, S => if (b_one n p a t S).1 = 0 then b_row n p a m (t + 1) (b_one n p a t S).2 else ((b_one n p a t S).1, t, (b_one n p a t S).2)
def b_all (n : Nat) (p : Nat → Bool) : Nat → Nat → BS → Nat × Nat × Nat × BS
  | 0, a, S => (3, a, 0, S)
  | m + 1, a, S => if a < S.1 then (if (b_row n p a (2 ^ n - 1) 1 S).1 = 0 then b_all n p m (a + 1) (b_row n p a (2 ^ n - 1) 1 S).2.2 else ((b_row n p a (2 ^ n - 1) 1 S).1, a, (b_row n p a (2 ^ n - 1) 1 S).2.1, (b_row n p a (2 ^ n - 1) 1 S).2.2)) else (3, a, 0, S)
/-- what holds of the queue: at most 5000, digits to nine, ways back -/
abbrev b_ok (n e0 : Nat) (S : BS) : Prop := (1 ≤ S.1 ∧ S.1 ≤ 5000) ∧ (∀ j, j < S.1 → S.2.1 j < 16 ^ n ∧ 0 < S.2.1 j ∧ ∀ c, dg (S.2.1 j) c ≤ dg e0 c) ∧ (∀ j, 0 < j → j < S.1 → S.2.2.1 j < j ∧ S.2.2.2 j < 1024)
theorem b_ok_psh {n e0 : Nat} {S : BS} {a t : Nat} (hn : n ≤ 10) (h : b_ok n e0 S) (ha : a < S.1) (ht : t < 1024) (hw : ∀ i, i < 10 → t.testBit i = true → (z_lk (S.2.1 a) 10).testBit i = true) (h0 : ¬ S.2.1 a - z_on t = 0) (h5 : ¬ S.1 = 5000) : b_ok n e0 (b_psh S (S.2.1 a - z_on t) a t) := by
  obtain ⟨⟨h1, h2⟩, h3, h4⟩ := h
  have hx := z_next hn (h3 a ha).1 hw
  refine ⟨⟨by show 1 ≤ S.1 + 1; omega, by show S.1 + 1 ≤ 5000; omega⟩, fun j hj => ?_, fun j hj0 hj => ?_⟩
  · show va_up S.2.1 S.1 _ j < 16 ^ n ∧ 0 < va_up S.2.1 S.1 _ j ∧ ∀ c, dg (va_up S.2.1 S.1 _ j) c ≤ dg e0 c
    by_cases e : j = S.1
    · subst e
      rw [va_up_s]
      refine ⟨hx.2.1, by omega, fun c => ?_⟩
      by_cases hc : c < 10
      · rw [hx.1 c hc]
        have := (h3 a ha).2.2 c
        omega
      · rw [dg_big hx.2.1 (by omega)]; exact Nat.zero_le _
    · rw [va_up_n e]
      have hj' : j < S.1 + 1 := hj
      exact h3 j (by omega)
  · show va_up S.2.2.1 S.1 a j < j ∧ va_up S.2.2.2 S.1 t j < 1024
    by_cases e : j = S.1
    · subst e; rw [va_up_s, va_up_s]; exact ⟨ha, ht⟩
    · rw [va_up_n e, va_up_n e]
      have hj' : j < S.1 + 1 := hj
      exact h4 j hj0 (by omega)
theorem b_one_ok {n e0 : Nat} {p : Nat → Bool} {S : BS} {a t : Nat} (hn : n ≤ 10) (h : b_ok n e0 S) (ha : a < S.1) (ht : t < 1024) : b_ok n e0 (b_one n p a t S).2 ∧ S.1 ≤ (b_one n p a t S).2.1 ∧ (∀ j, j < S.1 → (b_one n p a t S).2.2.1 j = S.2.1 j) := by
  unfold b_one
  split
  · rename_i hw
    split
    · exact ⟨h, Nat.le_refl _, fun _ _ => rfl⟩
    · rename_i h0
      split
      · exact ⟨h, Nat.le_refl _, fun _ _ => rfl⟩
      · split
        · exact ⟨h, Nat.le_refl _, fun _ _ => rfl⟩
        · rename_i h5
          exact ⟨b_ok_psh hn h ha ht hw.2.1 h0 h5, Nat.le_succ _, fun j hj => va_up_n (by omega)⟩
  · exact ⟨h, Nat.le_refl _, fun _ _ => rfl⟩
/-- the way back: how far -/
def b_dep (fr : Nat → Nat) : Nat → Nat → Nat
  | 0, _ => 0
  | m + 1, k => if k = 0 then 0 else b_dep fr m (fr k) + 1
theorem b_dep_m {fr : Nat → Nat} {N : Nat} (hf : ∀ j, 0 < j → j < N → fr j < j) : ∀ (m m' k : Nat), k ≤ m → k ≤ m' → k < N → b_dep fr m k = b_dep fr m' k
  | 0, 0, k, _, _, _ => rfl
  | 0, m' + 1, k, h, _, _ => by rw [b_dep, b_dep, if_pos (by omega)]
  | m + 1, 0, k, _, h, _ => by rw [b_dep, b_dep, if_pos (by omega)]
  | m + 1, m' + 1, k, h1, h2, hN => by
    rw [b_dep, b_dep]
    by_cases e : k = 0
    · rw [if_pos e, if_pos e]
    · rw [if_neg e, if_neg e]
      have := hf k (by omega) hN
      rw [b_dep_m hf m m' (fr k) (by omega) (by omega) (by omega)]
abbrev b_d (fr : Nat → Nat) (k : Nat) : Nat := b_dep fr k k
theorem b_d_s {fr : Nat → Nat} {N k : Nat} (hf : ∀ j, 0 < j → j < N → fr j < j) (h0 : 0 < k) (hk : k < N) : b_d fr k = b_d fr (fr k) + 1 := by
  have h := hf k h0 hk
  obtain ⟨m, rfl⟩ : ∃ m, k = m + 1 := ⟨k - 1, by omega⟩
  show (if m + 1 = 0 then 0 else b_dep fr m (fr (m + 1)) + 1) = _
  rw [if_neg (by omega), b_dep_m hf m (fr (m + 1)) (fr (m + 1)) (by omega) (Nat.le_refl _) (by omega)]
theorem b_d_0 {fr : Nat → Nat} : b_d fr 0 = 0 := rfl
/-- the row of sets on the way to k, laid into a row below place i -/
def b_lay (fr by_ : Nat → Nat) (r : Nat → Int32) : Nat → Nat → Nat → Nat → Int32
  | 0, _, _ => r
  | m + 1, k, i => if k = 0 then r else b_lay fr by_ (va_up r (i - 1) (nI (by_ k))) m (fr k) (i - 1)
theorem b_lay_m {fr by_ : Nat → Nat} {N : Nat} (hf : ∀ j, 0 < j → j < N → fr j < j) : ∀ (m m' k i : Nat) (r : Nat → Int32), k ≤ m → k ≤ m' → k < N → b_lay fr by_ r m k i = b_lay fr by_ r m' k i
  | 0, 0, k, _, _, _, _, _ => rfl
  | 0, m' + 1, k, _, _, h, _, _ => by rw [b_lay, b_lay, if_pos (by omega)]
  | m + 1, 0, k, _, _, _, h, _ => by rw [b_lay, b_lay, if_pos (by omega)]
  | m + 1, m' + 1, k, i, r, h1, h2, hN => by
    rw [b_lay, b_lay]
    by_cases e : k = 0
    · rw [if_pos e, if_pos e]
    · rw [if_neg e, if_neg e]
      have := hf k (by omega) hN
      rw [b_lay_m hf m m' (fr k) _ _ (by omega) (by omega) (by omega)]
abbrev b_l (fr by_ : Nat → Nat) (r : Nat → Int32) (k i : Nat) : Nat → Int32 := b_lay fr by_ r k k i
theorem b_l_s {fr by_ : Nat → Nat} {N k i : Nat} {r : Nat → Int32} (hf : ∀ j, 0 < j → j < N → fr j < j) (h0 : 0 < k) (hk : k < N) : b_l fr by_ r k i = b_l fr by_ (va_up r (i - 1) (nI (by_ k))) (fr k) (i - 1) := by
  have h := hf k h0 hk
  obtain ⟨m, rfl⟩ : ∃ m, k = m + 1 := ⟨k - 1, by omega⟩
  show (if m + 1 = 0 then r else b_lay fr by_ (va_up r (i - 1) (nI (by_ (m + 1)))) m (fr (m + 1)) (i - 1)) = _
  rw [if_neg (by omega), b_lay_m hf m (fr (m + 1)) (fr (m + 1)) _ _ (by omega) (Nat.le_refl _) (by omega)]
theorem b_l_0 {fr by_ : Nat → Nat} {r : Nat → Int32} {i : Nat} : b_l fr by_ r 0 i = r := rfl
