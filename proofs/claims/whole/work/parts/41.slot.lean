/-! the reference: goesBy -/
def z_r1 (f : Nat → Nat → Int32) (j : Nat) : Int32 := if j % 21 = 0 then f 30 j + f 21 (j / 21) else f 30 j
def z_co (f : Nat → Nat → Int32) (c : Nat) : Int32 := q_mn (q_sum (fun k => z_r1 f (21 * c + k)) 21) (q_rate (f 22 c) (f 16 c))
def z_F1 (f : Nat → Nat → Int32) (i : Nat) : Nat → Nat → Int32 := va_up (va_up f 30 (q_part (21 * i) (f 30) (z_r1 f))) 47 (q_part i (f 47) (z_co f))
def z_G1 (f : Nat → Nat → Int32) (g : Nat → Nat → Int64) (i : Nat) : Nat → Nat → Int64 := va_up g 31 (q_part i (g 31) (fun c => g 31 c + (f 21 c).toInt64))
theorem z_F1_0 {f : Nat → Nat → Int32} : z_F1 f 0 = f := by
  show va_up (va_up f 30 (q_part 0 (f 30) (z_r1 f))) 47 (q_part 0 (f 47) (z_co f)) = f
  rw [q_part_0, q_part_0, va_up_id, va_up_id]
theorem z_G1_0 {f : Nat → Nat → Int32} {g : Nat → Nat → Int64} : z_G1 f g 0 = g := by
  unfold z_G1
  rw [q_part_0, va_up_id]
theorem z_r1_s {f : Nat → Nat → Int32} {i : Nat} : va_up (q_part (21 * i) (f 30) (z_r1 f)) (21 * i) (f 30 (21 * i) + f 21 i) = q_part (21 * (i + 1)) (f 30) (z_r1 f) := by
  funext j
  by_cases e : j = 21 * i
  · subst e
    rw [va_up_s, q_part_lt (by omega)]
    unfold z_r1
    rw [if_pos (by omega), show 21 * i / 21 = i by omega]
  · rw [va_up_n e]
    by_cases e2 : j < 21 * i
    · rw [q_part_lt e2, q_part_lt (by omega)]
    · rw [q_part_ge (by omega)]
      by_cases e3 : j < 21 * (i + 1)
      · rw [q_part_lt e3]
        unfold z_r1
        rw [if_neg (by omega)]
      · rw [q_part_ge (by omega)]
theorem z_F1_s {f : Nat → Nat → Int32} {i : Nat} {v : Int32} (hv : v = z_co f i) : q_up (q_up (z_F1 f i) 30 (21 * i) (f 30 (21 * i) + f 21 i)) 47 i v = z_F1 f (i + 1) := by
  unfold z_F1
  rw [q_upc (by decide), q_upr, q_upr, z_r1_s, q_part_s hv]
/-- the units one slot older -/
def z_age (a : Nat → Int32) (L : Nat) : Nat → Int32 := fun j => if j = 0 then 0 else if j < L then a (j - 1) else 0
def z_agk (a : Nat → Int32) (L K : Nat) : Nat → Int32 := fun j => if j < K then a j else if j = K then 0 else z_age a L j
theorem z_agk_0 {a : Nat → Int32} {L : Nat} : z_agk a L 0 = z_age a L := by
  funext j
  unfold z_agk
  rw [if_neg (Nat.not_lt_zero j)]
  by_cases e : j = 0
  · subst e; rw [if_pos rfl]; rfl
  · rw [if_neg e]
theorem q_blk_congr {r a b : Nat → Int32} {c : Nat} (h : ∀ k, k < 21 → a k = b k) : q_blk r c a = q_blk r c b := by
  funext j
  unfold q_blk
  by_cases e : 21 * c ≤ j ∧ j < 21 * c + 21
  · rw [if_pos e, if_pos e]; exact h _ (by omega)
  · rw [if_neg e, if_neg e]
theorem z_agk_21 {r a : Nat → Int32} {c L : Nat} : q_blk r c (z_agk a L 21) = q_blk r c a := q_blk_congr (fun k hk => if_pos hk)
theorem z_agk_l {a : Nat → Int32} {L k : Nat} (h : L ≤ k + 1) : va_up (z_agk a L (k + 1)) k 0 = z_agk a L k := by
  funext j
  by_cases e : j = k
  · subst e; rw [va_up_s]; unfold z_agk; rw [if_neg (by omega), if_pos rfl]
  · rw [va_up_n e]
    unfold z_agk
    by_cases e2 : j < k
    · rw [if_pos e2, if_pos (by omega)]
    · rw [if_neg (by omega), if_neg e2, if_neg e]
      by_cases e3 : j = k + 1
      · rw [if_pos e3]; unfold z_age; rw [if_neg (by omega), if_neg (by omega)]
      · rw [if_neg e3]
theorem z_agk_m {a : Nat → Int32} {L k : Nat} (h : k + 1 < L) : va_up (va_up (z_agk a L (k + 1)) k 0) (k + 1) (a k) = z_agk a L k := by
  funext j
  by_cases e3 : j = k + 1
  · subst e3; rw [va_up_s]; unfold z_agk z_age; rw [if_neg (by omega), if_neg (by omega), if_neg (by omega), if_pos h]; rfl
  · rw [va_up_n e3]
    by_cases e : j = k
    · subst e; rw [va_up_s]; unfold z_agk; rw [if_neg (by omega), if_pos rfl]
    · rw [va_up_n e]
      unfold z_agk
      by_cases e2 : j < k
      · rw [if_pos e2, if_pos (by omega)]
      · rw [if_neg (by omega), if_neg e2, if_neg e, if_neg e3]
def z_lit (n : Nat) (f : Nat → Nat → Int32) (m t : Nat) : Nat := if f 0 11 = 0 then z_cut (fun s => decide (z_legM n f s)) 10 (z_frm m t (f 29)) else (z_bst (fun s => decide (z_legM n f s)) (z_wtM n (f 17) (z_F1 f n 47)) (2 ^ n)).1
/-- a cell's units behind the sending -/
def z_rs (f : Nat → Nat → Int32) (g : Nat → Nat → Int64) (lit c : Nat) : (Nat → Int32) × Int64 := if lit.testBit c = true then q_sndM 21 (z_co f c) (fun k => z_r1 f (21 * c + k)) (g 32 c) else ((fun k => z_r1 f (21 * c + k)), g 32 c)
def z_R3 (f : Nat → Nat → Int32) (g : Nat → Nat → Int64) (lit L : Nat) (j : Nat) : Int32 := z_age (z_rs f g lit (j / 21)).1 L (j % 21)
def z_F3 (n : Nat) (f : Nat → Nat → Int32) (g : Nat → Nat → Int64) (lit L i : Nat) : Nat → Nat → Int32 := fun a =>
  if a = 30 then q_part (21 * i) (z_F1 f n 30) (z_R3 f g lit L)
  else if a = 26 then q_part i (f 26) (fun c => if lit.testBit c = true then f 26 c + 1 else f 26 c)
  else if a = 24 then q_part i (f 24) (fun c => if lit.testBit c = true then 0 else f 24 c + 1)
  else if a = 25 then q_part i (f 25) (fun c => if lit.testBit c = true then f 25 c else q_mx (f 25 c) (f 24 c + 1))
  else if a = 19 then q_part i (f 19) (fun c => f 19 c - (if 0 < f 19 c then 1 else 0))
  else q_up (z_F1 f n) 0 12 (nI lit) a
def z_G3 (n : Nat) (f : Nat → Nat → Int32) (g : Nat → Nat → Int64) (lit L i : Nat) : Nat → Nat → Int64 := fun a =>
  if a = 32 then q_part i (g 32) (fun c => (z_rs f g lit c).2)
  else if a = 33 then q_part i (g 33) (fun c => q_los (z_rs f g lit c).1 (g 33 c) (22 - L))
  else z_G1 f g n a
theorem z_G3_32 {n : Nat} {f : Nat → Nat → Int32} {g : Nat → Nat → Int64} {lit L i : Nat} : z_G3 n f g lit L i 32 = q_part i (g 32) (fun c => (z_rs f g lit c).2) := rfl
theorem z_G3_33 {n : Nat} {f : Nat → Nat → Int32} {g : Nat → Nat → Int64} {lit L i : Nat} : z_G3 n f g lit L i 33 = q_part i (g 33) (fun c => q_los (z_rs f g lit c).1 (g 33 c) (22 - L)) := rfl
theorem z_F3_26 {n : Nat} {f : Nat → Nat → Int32} {g : Nat → Nat → Int64} {lit L i : Nat} : z_F3 n f g lit L i 26 = q_part i (f 26) (fun c => if lit.testBit c = true then f 26 c + 1 else f 26 c) := rfl
theorem z_F3_24 {n : Nat} {f : Nat → Nat → Int32} {g : Nat → Nat → Int64} {lit L i : Nat} : z_F3 n f g lit L i 24 = q_part i (f 24) (fun c => if lit.testBit c = true then 0 else f 24 c + 1) := rfl
theorem z_F3_25 {n : Nat} {f : Nat → Nat → Int32} {g : Nat → Nat → Int64} {lit L i : Nat} : z_F3 n f g lit L i 25 = q_part i (f 25) (fun c => if lit.testBit c = true then f 25 c else q_mx (f 25 c) (f 24 c + 1)) := rfl
theorem z_F3_19 {n : Nat} {f : Nat → Nat → Int32} {g : Nat → Nat → Int64} {lit L i : Nat} : z_F3 n f g lit L i 19 = q_part i (f 19) (fun c => f 19 c - (if 0 < f 19 c then 1 else 0)) := rfl
def z_gbF (n : Nat) (f : Nat → Nat → Int32) (g : Nat → Nat → Int64) (m t L : Nat) : Nat → Nat → Int32 := q_up (z_F3 n f g (z_lit n f m t) L n) 0 10 (nI (t + 1))
def z_gbG (n : Nat) (f : Nat → Nat → Int32) (g : Nat → Nat → Int64) (m t L : Nat) : Nat → Nat → Int64 := z_G3 n f g (z_lit n f m t) L n
theorem q_part_same {α : Type} {i : Nat} {r r2 : Nat → α} (h : r i = r2 i) : q_part i r r2 = q_part (i + 1) r r2 := by
  rw [← q_part_s (i := i) (r := r) (r2 := r2) rfl]
  funext c
  by_cases e : c = i
  · subst e; rw [va_up_s, q_part_ge (Nat.le_refl _), h]
  · rw [va_up_n e]
theorem z_blkp {r R b : Nat → Int32} {i : Nat} (h : ∀ k, k < 21 → b k = R (21 * i + k)) : q_blk (q_part (21 * i) r R) i b = q_part (21 * (i + 1)) r R := by
  funext j
  unfold q_blk
  by_cases e : 21 * i ≤ j ∧ j < 21 * i + 21
  · rw [if_pos e, h _ (by omega), q_part_lt (by omega), show 21 * i + (j - 21 * i) = j by omega]
  · rw [if_neg e]
    by_cases e2 : j < 21 * i
    · rw [q_part_lt e2, q_part_lt (by omega)]
    · rw [q_part_ge (by omega), q_part_ge (by omega)]
theorem q_blk_blk {r a b : Nat → Int32} {c : Nat} : q_blk (q_blk r c a) c b = q_blk r c b := by
  funext j
  unfold q_blk
  by_cases e : 21 * c ≤ j ∧ j < 21 * c + 21
  · rw [if_pos e, if_pos e]
  · rw [if_neg e, if_neg e, if_neg e]
theorem z_ageR {f : Nat → Nat → Int32} {g : Nat → Nat → Int64} {lit L i k : Nat} {a : Nat → Int32} (ha : ∀ k, k < 21 → a k = (z_rs f g lit i).1 k) (hk : k < 21) : z_age a L k = z_R3 f g lit L (21 * i + k) := by
  unfold z_R3
  rw [show (21 * i + k) / 21 = i by omega, show (21 * i + k) % 21 = k by omega]
  unfold z_age
  by_cases e : k = 0
  · rw [if_pos e, if_pos e]
  · rw [if_neg e, if_neg e, ha (k - 1) (by omega)]
theorem z_F3_l {n : Nat} {f : Nat → Nat → Int32} {g : Nat → Nat → Int64} {lit L i : Nat} (hb : lit.testBit i = true) {a : Nat → Int32} (ha : ∀ k, k < 21 → a k = (z_rs f g lit i).1 k) {v : Int32} (hv : v = f 19 i - (if 0 < f 19 i then 1 else 0)) : q_up (va_up (q_up (q_up (z_F3 n f g lit L i) 26 i (f 26 i + 1)) 24 i 0) 30 (q_blk (z_F3 n f g lit L i 30) i (z_age a L))) 19 i v = z_F3 n f g lit L (i + 1) := by
  funext x
  by_cases e30 : x = 30
  · subst e30
    show q_blk (q_part (21 * i) (z_F1 f n 30) (z_R3 f g lit L)) i (z_age a L) = q_part (21 * (i + 1)) (z_F1 f n 30) (z_R3 f g lit L)
    exact z_blkp (fun k hk => z_ageR ha hk)
  by_cases e26 : x = 26
  · subst e26
    exact q_part_s (i := i) (r := f 26) (r2 := fun c => if lit.testBit c = true then f 26 c + 1 else f 26 c) (if_pos hb).symm
  by_cases e24 : x = 24
  · subst e24
    exact q_part_s (i := i) (r := f 24) (r2 := fun c => if lit.testBit c = true then 0 else f 24 c + 1) (if_pos hb).symm
  by_cases e25 : x = 25
  · subst e25
    exact q_part_same (i := i) (r := f 25) (r2 := fun c => if lit.testBit c = true then f 25 c else q_mx (f 25 c) (f 24 c + 1)) (if_pos hb).symm
  by_cases e19 : x = 19
  · subst e19
    exact q_part_s (i := i) (r := f 19) (r2 := fun c => f 19 c - (if 0 < f 19 c then 1 else 0)) hv
  rw [q_up_ne e19, va_up_n e30, q_up_ne e24, q_up_ne e26]
  unfold z_F3
  rw [if_neg e30, if_neg e26, if_neg e24, if_neg e25, if_neg e19, if_neg e30, if_neg e26, if_neg e24, if_neg e25, if_neg e19]
theorem z_F3_d {n : Nat} {f : Nat → Nat → Int32} {g : Nat → Nat → Int64} {lit L i : Nat} (hb : ¬ lit.testBit i = true) {a : Nat → Int32} (ha : ∀ k, k < 21 → a k = (z_rs f g lit i).1 k) {v : Int32} (hv : v = f 19 i - (if 0 < f 19 i then 1 else 0)) : q_up (va_up (q_up (q_up (z_F3 n f g lit L i) 24 i (f 24 i + 1)) 25 i (q_mx (f 25 i) (f 24 i + 1))) 30 (q_blk (z_F3 n f g lit L i 30) i (z_age a L))) 19 i v = z_F3 n f g lit L (i + 1) := by
  funext x
  by_cases e30 : x = 30
  · subst e30
    show q_blk (q_part (21 * i) (z_F1 f n 30) (z_R3 f g lit L)) i (z_age a L) = q_part (21 * (i + 1)) (z_F1 f n 30) (z_R3 f g lit L)
    exact z_blkp (fun k hk => z_ageR ha hk)
  by_cases e26 : x = 26
  · subst e26
    exact q_part_same (i := i) (r := f 26) (r2 := fun c => if lit.testBit c = true then f 26 c + 1 else f 26 c) (if_neg hb).symm
  by_cases e24 : x = 24
  · subst e24
    exact q_part_s (i := i) (r := f 24) (r2 := fun c => if lit.testBit c = true then 0 else f 24 c + 1) (if_neg hb).symm
  by_cases e25 : x = 25
  · subst e25
    exact q_part_s (i := i) (r := f 25) (r2 := fun c => if lit.testBit c = true then f 25 c else q_mx (f 25 c) (f 24 c + 1)) (if_neg hb).symm
  by_cases e19 : x = 19
  · subst e19
    exact q_part_s (i := i) (r := f 19) (r2 := fun c => f 19 c - (if 0 < f 19 c then 1 else 0)) hv
  rw [q_up_ne e19, va_up_n e30, q_up_ne e25, q_up_ne e24]
  unfold z_F3
  rw [if_neg e30, if_neg e26, if_neg e24, if_neg e25, if_neg e19, if_neg e30, if_neg e26, if_neg e24, if_neg e25, if_neg e19]
theorem z_G3_s {n : Nat} {f : Nat → Nat → Int32} {g : Nat → Nat → Int64} {lit L i : Nat} {u v : Int64} (hu : u = (z_rs f g lit i).2) (hv : v = q_los (z_rs f g lit i).1 (g 33 i) (22 - L)) : q_up (q_up (z_G3 n f g lit L i) 32 i u) 33 i v = z_G3 n f g lit L (i + 1) := by
  funext x
  by_cases e32 : x = 32
  · subst e32
    exact q_part_s (i := i) (r := g 32) (r2 := fun c => (z_rs f g lit c).2) hu
  by_cases e33 : x = 33
  · subst e33
    exact q_part_s (i := i) (r := g 33) (r2 := fun c => q_los (z_rs f g lit c).1 (g 33 c) (22 - L)) hv
  rw [q_up_ne e33, q_up_ne e32]
  unfold z_G3
  rw [if_neg e32, if_neg e33, if_neg e32, if_neg e33]
theorem q_los_congr {a b : Nat → Int32} {x : Int64} : ∀ {d : Nat}, (∀ k, k < 21 → a k = b k) → q_los a x d = q_los b x d
  | 0, _ => rfl
  | d + 1, h => by rw [q_los, q_los, q_los_congr h, h (20 - d) (by omega)]
theorem z_snd_congr : ∀ {k : Nat} {l : Int32} {a b : Nat → Int32} {s : Int64}, k ≤ 21 → (∀ j, j < 21 → a j = b j) → (q_sndM k l a s).2 = (q_sndM k l b s).2 ∧ ∀ j, j < 21 → (q_sndM k l a s).1 j = (q_sndM k l b s).1 j
  | 0, _, _, _, _, _, h => ⟨rfl, h⟩
  | k + 1, l, a, b, s, hk, h => by
    rw [q_sndM, q_sndM, h k (by omega)]
    exact z_snd_congr (by omega) (fun j hj => by
      by_cases e : j = k
      · subst e; rw [va_up_s, va_up_s]
      · rw [va_up_n e, va_up_n e, h j hj])
theorem z_F3_0 {n : Nat} {f : Nat → Nat → Int32} {g : Nat → Nat → Int64} {lit L : Nat} : z_F3 n f g lit L 0 = q_up (z_F1 f n) 0 12 (nI lit) := by
  funext a
  unfold z_F3
  by_cases e30 : a = 30
  · subst e30; rw [if_pos rfl]; exact q_part_0
  rw [if_neg e30]
  by_cases e26 : a = 26
  · subst e26; rw [if_pos rfl]; exact q_part_0
  rw [if_neg e26]
  by_cases e24 : a = 24
  · subst e24; rw [if_pos rfl]; exact q_part_0
  rw [if_neg e24]
  by_cases e25 : a = 25
  · subst e25; rw [if_pos rfl]; exact q_part_0
  rw [if_neg e25]
  by_cases e19 : a = 19
  · subst e19; rw [if_pos rfl]; exact q_part_0
  rw [if_neg e19]
theorem z_G3_0 {n : Nat} {f : Nat → Nat → Int32} {g : Nat → Nat → Int64} {lit L : Nat} : z_G3 n f g lit L 0 = z_G1 f g n := by
  funext a
  unfold z_G3
  by_cases e32 : a = 32
  · subst e32; rw [if_pos rfl]; exact q_part_0
  rw [if_neg e32]
  by_cases e33 : a = 33
  · subst e33; rw [if_pos rfl]; exact q_part_0
  rw [if_neg e33]
theorem z_F1_w {f : Nat → Nat → Int32} {i k : Nat} (hk : k < 21) : q_up (z_F1 f i) 30 (21 * i) (f 30 (21 * i) + f 21 i) 30 (21 * i + k) = z_r1 f (21 * i + k) := by
  rw [q_up_eq]
  by_cases e : k = 0
  · subst e
    rw [Nat.add_zero, va_up_s]
    unfold z_r1
    rw [if_pos (by omega), show 21 * i / 21 = i by omega]
  · rw [va_up_n (by omega)]
    show q_part (21 * i) (f 30) (z_r1 f) (21 * i + k) = _
    rw [q_part_ge (by omega)]
    unfold z_r1
    rw [if_neg (by omega)]
set_option maxHeartbeats 4000000 in
set_option maxRecDepth 100000 in
theorem c_X8_goesBy {f : Nat → Nat → Int32} {g : Nat → Nat → Int64} (n : Nat) (hn : f 0 5 = nI n) (h10 : n ≤ 10) (hgt : ∀ c, c < n → ∃ j : Nat, j ≤ 2 ∧ f 18 c = nI j) (m : Nat) (hm : f 0 13 = nI m) (hm2 : m ≤ 100) (hfr : ∀ i, i < m → ∃ s : Nat, s < 1024 ∧ f 29 i = nI s) (t : Nat) (ht : f 0 10 = nI t) (ht2 : t ≤ 20000) (L : Nat) (hL : f 0 8 = nI L) (hL1 : 1 ≤ L) (hL2 : L ≤ 20) : q_ConV yX8_goesBy cX8_goesBy 4 none 3 75 tyM alM [.ref 0] (f, g, rfM) (fun h' => h' = (z_gbF n f g m t L, z_gbG n f g m t L, rfM)) := by
  refine q_Con.of RX8 [some (.ref 0), none, none, none] (by decide +kernel) rfl rfl (Nat.le_of_ble_eq_true rfl) (fun C ad E Z => ?_)
  have LA : ∀ (Fh : Nat → Nat → Int32) (Gh : Nat → Nat → Int64) (c : Nat) (R a : Nat → Int32) (x : Int64), c < 10 → Fh 0 8 = nI L →
      (∀ x2 x3 : Option Value, gg C tyM 4 0 0 alM ad 244 [some (.ref 0), some (.int (nI c)), x2, x3] [] (va_up Fh 30 (q_blk R c (z_age a L)), q_up Gh 33 c (q_los a x (22 - L)), rfM)) →
      ∀ K, K ≤ 21 → ∀ x3 : Option Value, gg C tyM 4 0 0 alM ad 172 [some (.ref 0), some (.int (nI c)), some (.int (nI K - 1)), x3] [] (va_up Fh 30 (q_blk R c (z_agk a L K)), q_up Gh 33 c (q_los a x (min (21 - K) (22 - L))), rfM) := by
    intro Fh Gh c R a x hc hFL hk K
    induction K with
    | zero =>
      intro hK x3
      have e := hk (some (.int (nI 0 - 1))) x3
      refine g_iload_2 (pc := 172) E dX8_goesBy_172 ?_
      refine g_if_lt (pc := 173) (tgt := 244) E dX8_goesBy_173 (by decide) (fun c_173 => ?_) (fun c_173 => ?_)
      · rw [z_agk_0, show min (21 - 0) (22 - L) = 22 - L by omega]
        exact e
      · exact absurd q_m1 c_173
    | succ K ih =>
      intro hK x3
      rw [q_dn]
      have e30 : (va_up Fh 30 (q_blk R c (z_agk a L (K + 1)))) 30 (21 * c + K) = a K := (q_blk_in (by omega)).trans (if_pos (by omega))
      refine g_iload_2 (pc := 172) E dX8_goesBy_172 ?_
      refine g_if_lt (pc := 173) (tgt := 244) E dX8_goesBy_173 (by decide) (fun c_173 => ?_) (fun c_173 => ?_)
      · exact absurd c_173 (nI_pos (by omega))
      · refine g_aload_0 (pc := 176) E dX8_goesBy_176 ?_
        refine g_getR (pc := 177) E (by first | rfl | assumption) (by first | rfl | assumption) fl_X8_85 rfl (by first | rfl | assumption) dX8_goesBy_177 ?_
        refine g_bipush (pc := 180) (v := 21) E dX8_goesBy_180 (by decide) ?_
        refine g_iload_1 (pc := 182) E dX8_goesBy_182 ?_
        refine g_imul (pc := 183) E dX8_goesBy_183 ?_
        refine g_iload_2 (pc := 184) E dX8_goesBy_184 ?_
        refine g_iadd (pc := 185) E dX8_goesBy_185 ?_
        refine g_iald (pc := 186) E (by first | rfl | assumption) (by first | rfl | assumption) dX8_goesBy_186 (q_ix_e (q_21 _ _) (by omega)) ?_
        refine g_istore_3 (pc := 187) E dX8_goesBy_187 (by decide) rfl ?_
        refine g_aload_0 (pc := 188) E dX8_goesBy_188 ?_
        refine g_getR (pc := 189) E (by first | rfl | assumption) (by first | rfl | assumption) fl_X8_85 rfl (by first | rfl | assumption) dX8_goesBy_189 ?_
        refine g_bipush (pc := 192) (v := 21) E dX8_goesBy_192 (by decide) ?_
        refine g_iload_1 (pc := 194) E dX8_goesBy_194 ?_
        refine g_imul (pc := 195) E dX8_goesBy_195 ?_
        refine g_iload_2 (pc := 196) E dX8_goesBy_196 ?_
        refine g_iadd (pc := 197) E dX8_goesBy_197 ?_
        refine g_iconst (pc := 198) (v := 0) E dX8_goesBy_198 (by decide) ?_
        refine g_iast (pc := 199) E (by first | rfl | assumption) (by first | rfl | assumption) dX8_goesBy_199 (q_ix_e (q_21 _ _) (by omega)) ?_
        refine g_iload_2 (pc := 200) E dX8_goesBy_200 ?_
        refine g_iconst (pc := 201) (v := 1) E dX8_goesBy_201 (by decide) ?_
        refine g_iadd (pc := 202) E dX8_goesBy_202 ?_
        refine g_aload_0 (pc := 203) E dX8_goesBy_203 ?_
        refine g_getI (pc := 204) E (by first | rfl | assumption) (by first | rfl | assumption) fl_X8_30 rfl dX8_goesBy_204 ?_
        refine g_icmp_lt (pc := 207) (tgt := 224) E dX8_goesBy_207 (by decide) (fun c_207 => ?_) (fun c_207 => ?_)
        · have k207 : K + 1 < L := by
            have h1 : nI K + 1 < Fh 0 8 := c_207
            rw [hFL, nI_1] at h1
            exact (nI_ltI (by omega) (by omega)).mp h1
          refine g_aload_0 (pc := 224) E dX8_goesBy_224 ?_
          refine g_getR (pc := 225) E (by first | rfl | assumption) (by first | rfl | assumption) fl_X8_85 rfl (by first | rfl | assumption) dX8_goesBy_225 ?_
          refine g_bipush (pc := 228) (v := 21) E dX8_goesBy_228 (by decide) ?_
          refine g_iload_1 (pc := 230) E dX8_goesBy_230 ?_
          refine g_imul (pc := 231) E dX8_goesBy_231 ?_
          refine g_iload_2 (pc := 232) E dX8_goesBy_232 ?_
          refine g_iadd (pc := 233) E dX8_goesBy_233 ?_
          refine g_iconst (pc := 234) (v := 1) E dX8_goesBy_234 (by decide) ?_
          refine g_iadd (pc := 235) E dX8_goesBy_235 ?_
          refine g_iload_3 (pc := 236) E dX8_goesBy_236 ?_
          refine g_iast (pc := 237) E (by first | rfl | assumption) (by first | rfl | assumption) dX8_goesBy_237 (q_ix_e (j := 21 * c + (K + 1)) (by rw [q_21, nI_1]; rfl) (by omega)) ?_
          refine g_iinc_2 (pc := 238) (u := -1) E dX8_goesBy_238 (by decide) (by decide) rfl ?_
          refine g_goto (pc := 241) (tgt := 172) E dX8_goesBy_241 (by decide) ?_
          rw [q_dm]
          first
          | (rw [q_upr, e30, q_blk_up (by omega), z_agk_l k207, q_up_va (f := q_up Gh _ _ _), q_up_eq, va_up_u, q_up_va, va_up_u, va_up_s]
             rw [← q_up_va]
             have e := ih (by omega) (some (.int (a K)))
             rw [show min (21 - K) (22 - L) = min (21 - (K + 1)) (22 - L) + 1 by omega, q_los, show 20 - min (21 - (K + 1)) (22 - L) = K by omega] at e
             exact e)
          | (rw [e30, q_upr, q_upr, q_blk_up (by omega), q_blk_up (by omega), z_agk_m k207]
             have e := ih (by omega) (some (.int (a K)))
             rw [show min (21 - K) (22 - L) = min (21 - (K + 1)) (22 - L) by omega] at e
             exact e)
        · have k207 : L ≤ K + 1 := by
            rcases Nat.lt_or_ge (K + 1) L with q | q
            · exact absurd (show nI K + 1 < Fh 0 8 by rw [hFL, nI_1]; exact nI_lt q (by omega)) c_207
            · exact q
          refine g_aload_0 (pc := 210) E dX8_goesBy_210 ?_
          refine g_getR (pc := 211) E (by first | rfl | assumption) (by first | rfl | assumption) fl_X8_94 rfl (by first | rfl | assumption) dX8_goesBy_211 ?_
          refine g_iload_1 (pc := 214) E dX8_goesBy_214 ?_
          first | refine g_dupl (pc := 215) E dX8_goesBy_215 ?_ | refine g_dup2 (pc := 215) E dX8_goesBy_215 ?_
          refine g_lald (pc := 216) E (by first | rfl | assumption) (by first | rfl | assumption) dX8_goesBy_216 (q_ix_n (by omega)) ?_
          refine g_iload_3 (pc := 217) E dX8_goesBy_217 ?_
          refine g_i2l (pc := 218) E dX8_goesBy_218 ?_
          refine g_ladd (pc := 219) E dX8_goesBy_219 ?_
          refine g_last (pc := 220) E (by first | rfl | assumption) (by first | rfl | assumption) dX8_goesBy_220 (q_ix_n (by omega)) ?_
          refine g_goto (pc := 221) (tgt := 238) E dX8_goesBy_221 (by decide) ?_
          refine g_iinc_2 (pc := 238) (u := -1) E dX8_goesBy_238 (by decide) (by decide) rfl ?_
          refine g_goto (pc := 241) (tgt := 172) E dX8_goesBy_241 (by decide) ?_
          rw [q_dm]
          first
          | (rw [q_upr, e30, q_blk_up (by omega), z_agk_l k207, q_up_va (f := q_up Gh _ _ _), q_up_eq, va_up_u, q_up_va, va_up_u, va_up_s]
             rw [← q_up_va]
             have e := ih (by omega) (some (.int (a K)))
             rw [show min (21 - K) (22 - L) = min (21 - (K + 1)) (22 - L) + 1 by omega, q_los, show 20 - min (21 - (K + 1)) (22 - L) = K by omega] at e
             exact e)
          | (rw [e30, q_upr, q_upr, q_blk_up (by omega), q_blk_up (by omega), z_agk_m k207]
             have e := ih (by omega) (some (.int (a K)))
             rw [show min (21 - K) (22 - L) = min (21 - (K + 1)) (22 - L) by omega] at e
             exact e)
  have hlit1 : z_lit n f m t < 1024 := by
    unfold z_lit
    split
    · refine z_cut_lt 10 _ ?_
      unfold z_frm
      split
      · decide
      · next hm0 =>
        obtain ⟨s, hs, es⟩ := hfr (t % m) (Nat.mod_lt _ (by omega))
        rw [es, nI_clamp (by omega)]; exact hs
    · have p10 : 2 ^ n ≤ 2 ^ 10 := Nat.pow_le_pow_right (by decide) h10
      exact Nat.lt_of_lt_of_le (z_bst_lt (Nat.pow_pos (by decide))) p10
  have hend : ∀ lit, lit = z_lit n f m t → q_up (z_F3 n f g lit L n) 0 10 (z_F3 n f g lit L n 0 10 + 1) = z_gbF n f g m t L := fun lit e => by
    subst e
    rw [show z_F3 n f g (z_lit n f m t) L n 0 10 = nI t from ht, nI_1]; rfl
  have L3 : ∀ lit, lit = z_lit n f m t → ∀ i, i ≤ n → ∀ x2 x3 : Option Value, gg C tyM 4 0 0 alM ad 93 [some (.ref 0), some (.int (nI i)), x2, x3] [] (z_F3 n f g lit L i, z_G3 n f g lit L i, rfM) := by
    intro lit elit
    have hlit1 : lit < 1024 := by rw [elit]; exact hlit1
    refine q_loop n (fun i hi ih x2 x3 => ?_)
    have hni : z_F3 n f g lit L i 0 5 = nI n := hn
    have hLi : z_F3 n f g lit L i 0 8 = nI L := hL
    have h12 : z_F3 n f g lit L i 0 12 = nI lit := by
      show q_up (z_F1 f n) 0 12 (nI lit) 0 12 = _
      exact q_ups
    refine g_iload_1 (pc := 93) E dX8_goesBy_93 ?_
    refine g_aload_0 (pc := 94) E dX8_goesBy_94 ?_
    refine g_getI (pc := 95) E (by first | rfl | assumption) (by first | rfl | assumption) fl_X8_154 rfl dX8_goesBy_95 ?_
    refine g_icmp_ge (pc := 98) (tgt := 273) E dX8_goesBy_98 (by decide) (fun c_98 => ?_) (fun c_98 => ?_)
    · have e_98 := (q_ge (x := n) (y := i) hni rfl (by omega) (by omega)).mp c_98
      have en : i = n := by omega
      refine g_aload_0 (pc := 273) E dX8_goesBy_273 ?_
      first | refine g_dupi (pc := 274) E dX8_goesBy_274 ?_ | refine g_dupr (pc := 274) E dX8_goesBy_274 ?_
      refine g_getI (pc := 275) E (by first | rfl | assumption) (by first | rfl | assumption) fl_X8_253 rfl dX8_goesBy_275 ?_
      refine g_iconst (pc := 278) (v := 1) E dX8_goesBy_278 (by decide) ?_
      refine g_iadd (pc := 279) E dX8_goesBy_279 ?_
      refine g_putI (pc := 280) E (by first | rfl | assumption) (by first | rfl | assumption) fw_X8_253 rfl dX8_goesBy_280 ?_
      exact g_vret (pc := 283) E Z dX8_goesBy_283 ⟨rfl, (by rw [en, hend lit elit, elit]; rfl)⟩
    · have e_98 := (not_congr (q_ge (x := n) (y := i) hni rfl (by omega) (by omega))).mp c_98
      have hblk : ∀ k, k < 21 → z_F3 n f g lit L i 30 (21 * i + k) = z_r1 f (21 * i + k) := fun k hk => by
        show q_part (21 * i) (z_F1 f n 30) (z_R3 f g lit L) (21 * i + k) = _
        rw [q_part_ge (by omega)]
        show q_part (21 * n) (f 30) (z_r1 f) (21 * i + k) = _
        rw [q_part_lt (by omega)]
      have h47 : z_F3 n f g lit L i 47 i = z_co f i := by
        show q_part n (f 47) (z_co f) i = _
        rw [q_part_lt (by omega)]
      have h32 : z_G3 n f g lit L i 32 i = g 32 i := by
        rw [z_G3_32]; exact q_part_ge (Nat.le_refl _)
      have h33 : z_G3 n f g lit L i 33 i = g 33 i := by
        rw [z_G3_33]; exact q_part_ge (Nat.le_refl _)
      have h26 : ∀ B, va_up (z_F3 n f g lit L i) 30 B 26 i = f 26 i := fun B => by
        show z_F3 n f g lit L i 26 i = _
        rw [z_F3_26]; exact q_part_ge (Nat.le_refl _)
      have h24 : z_F3 n f g lit L i 24 i = f 24 i := by
        rw [z_F3_24]; exact q_part_ge (Nat.le_refl _)
      have h25 : ∀ v, q_up (z_F3 n f g lit L i) 24 i v 25 i = f 25 i := fun v => by
        show z_F3 n f g lit L i 25 i = _
        rw [z_F3_25]; exact q_part_ge (Nat.le_refl _)
      have h19 : z_F3 n f g lit L i 19 i = f 19 i := by
        rw [z_F3_19]; exact q_part_ge (Nat.le_refl _)
      refine g_aload_0 (pc := 101) E dX8_goesBy_101 ?_
      refine g_getI (pc := 102) E (by first | rfl | assumption) (by first | rfl | assumption) fl_X8_36 rfl dX8_goesBy_102 ?_
      refine g_iload_1 (pc := 105) E dX8_goesBy_105 ?_
      refine g_ishr (pc := 106) E dX8_goesBy_106 ?_
      refine g_iconst (pc := 107) (v := 1) E dX8_goesBy_107 (by decide) ?_
      refine g_iand (pc := 108) E dX8_goesBy_108 ?_
      refine g_iconst (pc := 109) (v := 1) E dX8_goesBy_109 (by decide) ?_
      refine g_icmp_ne (pc := 110) (tgt := 138) E dX8_goesBy_110 (by decide) (fun c_110 => ?_) (fun c_110 => ?_)
      · have hb : ¬ lit.testBit i = true := fun q => c_110 (by show q_bit (z_F3 n f g lit L i 0 12) (nI i) = 1; rw [h12]; exact (q_bit1 hlit1 (by omega)).mpr q)
        refine g_aload_0 (pc := 138) E dX8_goesBy_138 ?_
        refine g_getR (pc := 139) E (by first | rfl | assumption) (by first | rfl | assumption) fl_X8_66 rfl (by first | rfl | assumption) dX8_goesBy_139 ?_
        refine g_iload_1 (pc := 142) E dX8_goesBy_142 ?_
        first | refine g_dupl (pc := 143) E dX8_goesBy_143 ?_ | refine g_dup2 (pc := 143) E dX8_goesBy_143 ?_
        refine g_iald (pc := 144) E (by first | rfl | assumption) (by first | rfl | assumption) dX8_goesBy_144 (q_ix_n (by omega)) ?_
        refine g_iconst (pc := 145) (v := 1) E dX8_goesBy_145 (by decide) ?_
        refine g_iadd (pc := 146) E dX8_goesBy_146 ?_
        refine g_iast (pc := 147) E (by first | rfl | assumption) (by first | rfl | assumption) dX8_goesBy_147 (q_ix_n (by omega)) ?_
        refine g_aload_0 (pc := 148) E dX8_goesBy_148 ?_
        refine g_getR (pc := 149) E (by first | rfl | assumption) (by first | rfl | assumption) fl_X8_69 rfl (by first | rfl | assumption) dX8_goesBy_149 ?_
        refine g_iload_1 (pc := 152) E dX8_goesBy_152 ?_
        refine g_aload_0 (pc := 153) E dX8_goesBy_153 ?_
        refine g_getR (pc := 154) E (by first | rfl | assumption) (by first | rfl | assumption) fl_X8_69 rfl (by first | rfl | assumption) dX8_goesBy_154 ?_
        refine g_iload_1 (pc := 157) E dX8_goesBy_157 ?_
        refine g_iald (pc := 158) E (by first | rfl | assumption) (by first | rfl | assumption) dX8_goesBy_158 (q_ix_n (by omega)) ?_
        refine g_aload_0 (pc := 159) E dX8_goesBy_159 ?_
        refine g_getR (pc := 160) E (by first | rfl | assumption) (by first | rfl | assumption) fl_X8_66 rfl (by first | rfl | assumption) dX8_goesBy_160 ?_
        refine g_iload_1 (pc := 163) E dX8_goesBy_163 ?_
        refine g_iald (pc := 164) E (by first | rfl | assumption) (by first | rfl | assumption) dX8_goesBy_164 (q_ix_n (by omega)) ?_
        refine g_cSi2 (pc := 165) E (c_J9_max_7cf53 _ _) cw_X8_272 (by decide) (by decide) (Nat.le_of_ble_eq_true rfl) dX8_goesBy_165 (fun v_165 h_165 hp => ?_)
        obtain ⟨rfl, rfl⟩ := hp
        refine g_iast (pc := 168) E (by first | rfl | assumption) (by first | rfl | assumption) dX8_goesBy_168 (q_ix_n (by omega)) ?_
        refine g_bipush (pc := 169) (v := 20) E dX8_goesBy_169 (by decide) ?_
        refine g_istore_2 (pc := 171) E dX8_goesBy_171 (by decide) rfl ?_
        have hA0 : ∀ k, k < 21 → (fun k => z_F3 n f g lit L i 30 (21 * i + k)) k = (z_rs f g lit i).1 k := fun k hk => by unfold z_rs; rw [if_neg hb]; exact hblk k hk
        have hU : g 32 i = (z_rs f g lit i).2 := by unfold z_rs; rw [if_neg hb]
        have hV : q_los (fun k => z_F3 n f g lit L i 30 (21 * i + k)) (g 33 i) (22 - L) = q_los (z_rs f g lit i).1 (g 33 i) (22 - L) := q_los_congr hA0
        have hG32 : q_up (z_G3 n f g lit L i) 32 i (g 32 i) = z_G3 n f g lit L i := q_up_same h32
        have hG33 : q_up (q_up (z_G3 n f g lit L i) 32 i (g 32 i)) 33 i (g 33 i) = z_G3 n f g lit L i := by rw [hG32]; exact q_up_same h33
        have hk : ∀ x2 x3 : Option Value, gg C tyM 4 0 0 alM ad 244 [some (.ref 0), some (.int (nI i)), x2, x3] [] (va_up (q_up (q_up (z_F3 n f g lit L i) 24 i (f 24 i + 1)) 25 i (q_mx (f 25 i) (f 24 i + 1))) 30 (q_blk (z_F3 n f g lit L i 30) i (z_age (fun k => z_F3 n f g lit L i 30 (21 * i + k)) L)), q_up (q_up (z_G3 n f g lit L i) 32 i (g 32 i)) 33 i (q_los (fun k => z_F3 n f g lit L i 30 (21 * i + k)) (g 33 i) (22 - L)), rfM) := by
          intro x2 x3
          refine g_aload_0 (pc := 244) E dX8_goesBy_244 ?_
          refine g_getR (pc := 245) E (by first | rfl | assumption) (by first | rfl | assumption) fl_X8_51 rfl (by first | rfl | assumption) dX8_goesBy_245 ?_
          refine g_iload_1 (pc := 248) E dX8_goesBy_248 ?_
          first | refine g_dupl (pc := 249) E dX8_goesBy_249 ?_ | refine g_dup2 (pc := 249) E dX8_goesBy_249 ?_
          refine g_iald (pc := 250) E (by first | rfl | assumption) (by first | rfl | assumption) dX8_goesBy_250 (q_ix_n (by omega)) ?_
          refine g_aload_0 (pc := 251) E dX8_goesBy_251 ?_
          refine g_getR (pc := 252) E (by first | rfl | assumption) (by first | rfl | assumption) fl_X8_51 rfl (by first | rfl | assumption) dX8_goesBy_252 ?_
          refine g_iload_1 (pc := 255) E dX8_goesBy_255 ?_
          refine g_iald (pc := 256) E (by first | rfl | assumption) (by first | rfl | assumption) dX8_goesBy_256 (q_ix_n (by omega)) ?_
          refine g_if_le (pc := 257) (tgt := 264) E dX8_goesBy_257 (by decide) (fun c_257 => ?_) (fun c_257 => ?_)
          · have k257 : ¬ 0 < f 19 i := fun q => absurd (show f 19 i ≤ 0 by rw [← h19]; exact c_257) (Int32.not_le.mpr q)
            refine g_iconst (pc := 264) (v := 0) E dX8_goesBy_264 (by decide) ?_
            refine g_isub (pc := 265) E dX8_goesBy_265 ?_
            refine g_iast (pc := 266) E (by first | rfl | assumption) (by first | rfl | assumption) dX8_goesBy_266 (q_ix_n (by omega)) ?_
            refine g_iinc_1 (pc := 267) (u := 1) E dX8_goesBy_267 (by decide) (by decide) rfl ?_
            refine g_goto (pc := 270) (tgt := 93) E dX8_goesBy_270 (by decide) ?_
            rw [nI_1]
            rw [z_F3_d hb (a := fun k => z_F3 n f g lit L i 30 (21 * i + k)) hA0 (v := _) (by first | (rw [if_neg k257]; exact congrArg (· - 0) h19) | (rw [if_pos k257]; exact congrArg (· - 1) h19)), z_G3_s hU hV]
            exact ih (by omega) _ _
          · have k257 : 0 < f 19 i := by rw [← h19]; exact Int32.not_le.mp c_257
            refine g_iconst (pc := 260) (v := 1) E dX8_goesBy_260 (by decide) ?_
            refine g_goto (pc := 261) (tgt := 265) E dX8_goesBy_261 (by decide) ?_
            refine g_isub (pc := 265) E dX8_goesBy_265 ?_
            refine g_iast (pc := 266) E (by first | rfl | assumption) (by first | rfl | assumption) dX8_goesBy_266 (q_ix_n (by omega)) ?_
            refine g_iinc_1 (pc := 267) (u := 1) E dX8_goesBy_267 (by decide) (by decide) rfl ?_
            refine g_goto (pc := 270) (tgt := 93) E dX8_goesBy_270 (by decide) ?_
            rw [nI_1]
            rw [z_F3_d hb (a := fun k => z_F3 n f g lit L i 30 (21 * i + k)) hA0 (v := _) (by first | (rw [if_neg k257]; exact congrArg (· - 0) h19) | (rw [if_pos k257]; exact congrArg (· - 1) h19)), z_G3_s hU hV]
            exact ih (by omega) _ _
        have key := LA (q_up (q_up (z_F3 n f g lit L i) 24 i (f 24 i + 1)) 25 i (q_mx (f 25 i) (f 24 i + 1))) (q_up (z_G3 n f g lit L i) 32 i (g 32 i)) i (z_F3 n f g lit L i 30) (fun k => z_F3 n f g lit L i 30 (21 * i + k)) (g 33 i) (by omega) (by exact hL) hk 21 (Nat.le_refl _) x3
        rw [z_agk_21, q_blk_id, show min (21 - 21) (22 - L) = 0 from by omega] at key
        rw [show va_up (q_up (q_up (z_F3 n f g lit L i) 24 i (f 24 i + 1)) 25 i (q_mx (f 25 i) (f 24 i + 1))) 30 (z_F3 n f g lit L i 30) = q_up (q_up (z_F3 n f g lit L i) 24 i (f 24 i + 1)) 25 i (q_mx (f 25 i) (f 24 i + 1)) from va_up_id (f := q_up (q_up (z_F3 n f g lit L i) 24 i (f 24 i + 1)) 25 i (q_mx (f 25 i) (f 24 i + 1))) (k := 30)] at key
        rw [show q_los (fun k => z_F3 n f g lit L i 30 (21 * i + k)) (g 33 i) 0 = g 33 i from rfl, hG33] at key
        rw [show (20 : Int32) = nI 21 - 1 from by decide, h24]
        rw [show q_up (z_F3 n f g lit L i) 24 i (f 24 i + 1) 24 i = f 24 i + 1 from q_ups, h25]
        exact key
      · have hb : lit.testBit i = true := (q_bit1 hlit1 (by omega)).mp (by rw [← h12]; exact c_110)
        refine g_aload_0 (pc := 113) E dX8_goesBy_113 ?_
        refine g_iload_1 (pc := 114) E dX8_goesBy_114 ?_
        refine g_cVv1 (pc := 115) E (c_X8_sends i (by omega)) cw_X8_268 (by decide) (by decide) (by first | rfl | assumption) (by first | rfl | assumption) (Nat.le_of_ble_eq_true rfl) dX8_goesBy_115 (fun h_115 hp => ?_)
        subst hp
        refine g_aload_0 (pc := 118) E dX8_goesBy_118 ?_
        refine g_getR (pc := 119) E (by first | rfl | assumption) (by first | rfl | assumption) fl_X8_72 rfl (by first | rfl | assumption) dX8_goesBy_119 ?_
        refine g_iload_1 (pc := 122) E dX8_goesBy_122 ?_
        first | refine g_dupl (pc := 123) E dX8_goesBy_123 ?_ | refine g_dup2 (pc := 123) E dX8_goesBy_123 ?_
        refine g_iald (pc := 124) E (by first | rfl | assumption) (by first | rfl | assumption) dX8_goesBy_124 (q_ix_n (by omega)) ?_
        refine g_iconst (pc := 125) (v := 1) E dX8_goesBy_125 (by decide) ?_
        refine g_iadd (pc := 126) E dX8_goesBy_126 ?_
        refine g_iast (pc := 127) E (by first | rfl | assumption) (by first | rfl | assumption) dX8_goesBy_127 (q_ix_n (by omega)) ?_
        refine g_aload_0 (pc := 128) E dX8_goesBy_128 ?_
        refine g_getR (pc := 129) E (by first | rfl | assumption) (by first | rfl | assumption) fl_X8_66 rfl (by first | rfl | assumption) dX8_goesBy_129 ?_
        refine g_iload_1 (pc := 132) E dX8_goesBy_132 ?_
        refine g_iconst (pc := 133) (v := 0) E dX8_goesBy_133 (by decide) ?_
        refine g_iast (pc := 134) E (by first | rfl | assumption) (by first | rfl | assumption) dX8_goesBy_134 (q_ix_n (by omega)) ?_
        refine g_goto (pc := 135) (tgt := 169) E dX8_goesBy_135 (by decide) ?_
        refine g_bipush (pc := 169) (v := 20) E dX8_goesBy_169 (by decide) ?_
        refine g_istore_2 (pc := 171) E dX8_goesBy_171 (by decide) rfl ?_
        rw [show (20 : Int32) = nI 21 - 1 from by decide, h26, q_upc (by decide), q_upc (by decide), h47, h32, ← z_agk_21 (L := L), ← q_up_same (f := q_up (z_G3 n f g lit L i) 32 i (q_sndM 21 (z_co f i) (fun k => z_F3 n f g lit L i 30 (21 * i + k)) (g 32 i)).2) (a := 33) (k := i) (v := g 33 i) (by rw [q_up_ne (by decide)]; exact h33)]
        have hsc := z_snd_congr (k := 21) (l := z_co f i) (s := g 32 i) (Nat.le_refl _) (fun j hj => hblk j hj)
        have hrs : z_rs f g lit i = q_sndM 21 (z_co f i) (fun k => z_r1 f (21 * i + k)) (g 32 i) := if_pos hb
        generalize hA0e : (q_sndM 21 (z_co f i) (fun k => z_F3 n f g lit L i 30 (21 * i + k)) (g 32 i)).1 = A0 at *
        generalize hU0e : (q_sndM 21 (z_co f i) (fun k => z_F3 n f g lit L i 30 (21 * i + k)) (g 32 i)).2 = U0 at *
        have hA0 : ∀ k, k < 21 → A0 k = (z_rs f g lit i).1 k := fun k hk => by rw [hrs]; exact hsc.2 k hk
        have hU : U0 = (z_rs f g lit i).2 := by rw [hrs]; exact hsc.1
        have hV : q_los A0 (g 33 i) (22 - L) = q_los (z_rs f g lit i).1 (g 33 i) (22 - L) := q_los_congr hA0
        refine LA (q_up (q_up (z_F3 n f g lit L i) 26 i (f 26 i + 1)) 24 i 0) (q_up (z_G3 n f g lit L i) 32 i U0) i (z_F3 n f g lit L i 30) A0 (g 33 i) (by omega) (by exact hL) (fun x2 x3 => ?_) 21 (Nat.le_refl _) _
        refine g_aload_0 (pc := 244) E dX8_goesBy_244 ?_
        refine g_getR (pc := 245) E (by first | rfl | assumption) (by first | rfl | assumption) fl_X8_51 rfl (by first | rfl | assumption) dX8_goesBy_245 ?_
        refine g_iload_1 (pc := 248) E dX8_goesBy_248 ?_
        first | refine g_dupl (pc := 249) E dX8_goesBy_249 ?_ | refine g_dup2 (pc := 249) E dX8_goesBy_249 ?_
        refine g_iald (pc := 250) E (by first | rfl | assumption) (by first | rfl | assumption) dX8_goesBy_250 (q_ix_n (by omega)) ?_
        refine g_aload_0 (pc := 251) E dX8_goesBy_251 ?_
        refine g_getR (pc := 252) E (by first | rfl | assumption) (by first | rfl | assumption) fl_X8_51 rfl (by first | rfl | assumption) dX8_goesBy_252 ?_
        refine g_iload_1 (pc := 255) E dX8_goesBy_255 ?_
        refine g_iald (pc := 256) E (by first | rfl | assumption) (by first | rfl | assumption) dX8_goesBy_256 (q_ix_n (by omega)) ?_
        refine g_if_le (pc := 257) (tgt := 264) E dX8_goesBy_257 (by decide) (fun c_257 => ?_) (fun c_257 => ?_)
        · have k257 : ¬ 0 < f 19 i := fun q => absurd (show f 19 i ≤ 0 by rw [← h19]; exact c_257) (Int32.not_le.mpr q)
          refine g_iconst (pc := 264) (v := 0) E dX8_goesBy_264 (by decide) ?_
          refine g_isub (pc := 265) E dX8_goesBy_265 ?_
          refine g_iast (pc := 266) E (by first | rfl | assumption) (by first | rfl | assumption) dX8_goesBy_266 (q_ix_n (by omega)) ?_
          refine g_iinc_1 (pc := 267) (u := 1) E dX8_goesBy_267 (by decide) (by decide) rfl ?_
          refine g_goto (pc := 270) (tgt := 93) E dX8_goesBy_270 (by decide) ?_
          rw [nI_1]
          rw [z_F3_l hb (a := A0) hA0 (v := _) (by first | (rw [if_neg k257]; exact congrArg (· - 0) h19) | (rw [if_pos k257]; exact congrArg (· - 1) h19)), z_G3_s hU hV]
          exact ih (by omega) _ _
        · have k257 : 0 < f 19 i := by rw [← h19]; exact Int32.not_le.mp c_257
          refine g_iconst (pc := 260) (v := 1) E dX8_goesBy_260 (by decide) ?_
          refine g_goto (pc := 261) (tgt := 265) E dX8_goesBy_261 (by decide) ?_
          refine g_isub (pc := 265) E dX8_goesBy_265 ?_
          refine g_iast (pc := 266) E (by first | rfl | assumption) (by first | rfl | assumption) dX8_goesBy_266 (q_ix_n (by omega)) ?_
          refine g_iinc_1 (pc := 267) (u := 1) E dX8_goesBy_267 (by decide) (by decide) rfl ?_
          refine g_goto (pc := 270) (tgt := 93) E dX8_goesBy_270 (by decide) ?_
          rw [nI_1]
          rw [z_F3_l hb (a := A0) hA0 (v := _) (by first | (rw [if_neg k257]; exact congrArg (· - 0) h19) | (rw [if_pos k257]; exact congrArg (· - 1) h19)), z_G3_s hU hV]
          exact ih (by omega) _ _
  have L1 : ∀ i, i ≤ n → gg C tyM 4 0 0 alM ad 2 [some (.ref 0), some (.int (nI i)), none, none] [] (z_F1 f i, z_G1 f g i, rfM) := by
    refine q_loop n (fun i hi ih => ?_)
    have hni : z_F1 f i 0 5 = nI n := hn
    have h30 : z_F1 f i 30 (21 * i) = f 30 (21 * i) := by
      show q_part (21 * i) (f 30) _ (21 * i) = _
      exact q_part_ge (Nat.le_refl _)
    have h31 : z_G1 f g i 31 i = g 31 i := by
      unfold z_G1
      rw [va_up_s]; exact q_part_ge (Nat.le_refl _)
    refine g_iload_1 (pc := 2) E dX8_goesBy_2 ?_
    refine g_aload_0 (pc := 3) E dX8_goesBy_3 ?_
    refine g_getI (pc := 4) E (by first | rfl | assumption) (by first | rfl | assumption) fl_X8_154 rfl dX8_goesBy_4 ?_
    refine g_icmp_ge (pc := 7) (tgt := 69) E dX8_goesBy_7 (by decide) (fun c_7 => ?_) (fun c_7 => ?_)
    · have e_7 := (q_ge (x := n) (y := i) hni rfl (by omega) (by omega)).mp c_7
      refine g_aload_0 (pc := 69) E dX8_goesBy_69 ?_
      refine g_aload_0 (pc := 70) E dX8_goesBy_70 ?_
      refine g_getI (pc := 71) E (by first | rfl | assumption) (by first | rfl | assumption) fl_X8_250 rfl dX8_goesBy_71 ?_
      refine g_if_ne (pc := 74) (tgt := 84) E dX8_goesBy_74 (by decide) (fun c_74 => ?_) (fun c_74 => ?_)
      · refine g_aload_0 (pc := 84) E dX8_goesBy_84 ?_
        refine g_cVi0 (pc := 85) E (c_X8_byWeight n (by exact hn) h10 (by exact hgt)) cw_X8_265 (by decide) (by decide) (by first | rfl | assumption) (by first | rfl | assumption) (Nat.le_of_ble_eq_true rfl) dX8_goesBy_85 (fun v_85 h_85 hp => ?_)
        obtain ⟨rfl, rfl⟩ := hp
        refine g_putI (pc := 88) E (by first | rfl | assumption) (by first | rfl | assumption) fw_X8_36 rfl dX8_goesBy_88 ?_
        refine g_iconst (pc := 91) (v := 0) E dX8_goesBy_91 (by decide) ?_
        refine g_istore_1 (pc := 92) E dX8_goesBy_92 (by decide) rfl ?_
        rw [show i = n by omega]
        have e := L3 (z_lit n f m t) rfl 0 (Nat.zero_le _) none none
        rw [z_F3_0, z_G3_0] at e
        first
        | (rw [show z_lit n f m t = z_cut (fun s => decide (z_legM n f s)) 10 (z_frm m t (f 29)) from if_pos c_74] at e; exact e)
        | (rw [show z_lit n f m t = (z_bst (fun s => decide (z_legM n f s)) (z_wtM n (f 17) (z_F1 f n 47)) (2 ^ n)).1 from if_neg c_74] at e; exact e)
      · refine g_aload_0 (pc := 77) E dX8_goesBy_77 ?_
        refine g_cVi0 (pc := 78) E (c_X8_byFrame n (by exact hn) h10 (by exact hgt) m (by exact hm) hm2 (by exact hfr) t (by exact ht) ht2) cw_X8_262 (by decide) (by decide) (by first | rfl | assumption) (by first | rfl | assumption) (Nat.le_of_ble_eq_true rfl) dX8_goesBy_78 (fun v_78 h_78 hp => ?_)
        obtain ⟨rfl, rfl⟩ := hp
        refine g_goto (pc := 81) (tgt := 88) E dX8_goesBy_81 (by decide) ?_
        refine g_putI (pc := 88) E (by first | rfl | assumption) (by first | rfl | assumption) fw_X8_36 rfl dX8_goesBy_88 ?_
        refine g_iconst (pc := 91) (v := 0) E dX8_goesBy_91 (by decide) ?_
        refine g_istore_1 (pc := 92) E dX8_goesBy_92 (by decide) rfl ?_
        rw [show i = n by omega]
        have e := L3 (z_lit n f m t) rfl 0 (Nat.zero_le _) none none
        rw [z_F3_0, z_G3_0] at e
        first
        | (rw [show z_lit n f m t = z_cut (fun s => decide (z_legM n f s)) 10 (z_frm m t (f 29)) from if_pos c_74] at e; exact e)
        | (rw [show z_lit n f m t = (z_bst (fun s => decide (z_legM n f s)) (z_wtM n (f 17) (z_F1 f n 47)) (2 ^ n)).1 from if_neg c_74] at e; exact e)
    · have e_7 := (not_congr (q_ge (x := n) (y := i) hni rfl (by omega) (by omega))).mp c_7
      refine g_aload_0 (pc := 10) E dX8_goesBy_10 ?_
      refine g_getR (pc := 11) E (by first | rfl | assumption) (by first | rfl | assumption) fl_X8_85 rfl (by first | rfl | assumption) dX8_goesBy_11 ?_
      refine g_bipush (pc := 14) (v := 21) E dX8_goesBy_14 (by decide) ?_
      refine g_iload_1 (pc := 16) E dX8_goesBy_16 ?_
      refine g_imul (pc := 17) E dX8_goesBy_17 ?_
      first | refine g_dupl (pc := 18) E dX8_goesBy_18 ?_ | refine g_dup2 (pc := 18) E dX8_goesBy_18 ?_
      refine g_iald (pc := 19) E (by first | rfl | assumption) (by first | rfl | assumption) dX8_goesBy_19 (q_ix_e (j := 21 * i) (pk_mul 21 i) (by omega)) ?_
      refine g_aload_0 (pc := 20) E dX8_goesBy_20 ?_
      refine g_getR (pc := 21) E (by first | rfl | assumption) (by first | rfl | assumption) fl_X8_57 rfl (by first | rfl | assumption) dX8_goesBy_21 ?_
      refine g_iload_1 (pc := 24) E dX8_goesBy_24 ?_
      refine g_iald (pc := 25) E (by first | rfl | assumption) (by first | rfl | assumption) dX8_goesBy_25 (q_ix_n (by omega)) ?_
      refine g_iadd (pc := 26) E dX8_goesBy_26 ?_
      refine g_iast (pc := 27) E (by first | rfl | assumption) (by first | rfl | assumption) dX8_goesBy_27 (q_ix_e (j := 21 * i) (pk_mul 21 i) (by omega)) ?_
      refine g_aload_0 (pc := 28) E dX8_goesBy_28 ?_
      refine g_getR (pc := 29) E (by first | rfl | assumption) (by first | rfl | assumption) fl_X8_88 rfl (by first | rfl | assumption) dX8_goesBy_29 ?_
      refine g_iload_1 (pc := 32) E dX8_goesBy_32 ?_
      first | refine g_dupl (pc := 33) E dX8_goesBy_33 ?_ | refine g_dup2 (pc := 33) E dX8_goesBy_33 ?_
      refine g_lald (pc := 34) E (by first | rfl | assumption) (by first | rfl | assumption) dX8_goesBy_34 (q_ix_n (by omega)) ?_
      refine g_aload_0 (pc := 35) E dX8_goesBy_35 ?_
      refine g_getR (pc := 36) E (by first | rfl | assumption) (by first | rfl | assumption) fl_X8_57 rfl (by first | rfl | assumption) dX8_goesBy_36 ?_
      refine g_iload_1 (pc := 39) E dX8_goesBy_39 ?_
      refine g_iald (pc := 40) E (by first | rfl | assumption) (by first | rfl | assumption) dX8_goesBy_40 (q_ix_n (by omega)) ?_
      refine g_i2l (pc := 41) E dX8_goesBy_41 ?_
      refine g_ladd (pc := 42) E dX8_goesBy_42 ?_
      refine g_last (pc := 43) E (by first | rfl | assumption) (by first | rfl | assumption) dX8_goesBy_43 (q_ix_n (by omega)) ?_
      refine g_aload_0 (pc := 44) E dX8_goesBy_44 ?_
      refine g_getR (pc := 45) E (by first | rfl | assumption) (by first | rfl | assumption) fl_X8_134 rfl (by first | rfl | assumption) dX8_goesBy_45 ?_
      refine g_iload_1 (pc := 48) E dX8_goesBy_48 ?_
      refine g_aload_0 (pc := 49) E dX8_goesBy_49 ?_
      refine g_iload_1 (pc := 50) E dX8_goesBy_50 ?_
      refine g_cVi1 (pc := 51) E (c_X8_waiting i (by omega)) cw_X8_256 (by decide) (by decide) (by first | rfl | assumption) (by first | rfl | assumption) (Nat.le_of_ble_eq_true rfl) dX8_goesBy_51 (fun v_51 h_51 hp => ?_)
      obtain ⟨rfl, rfl⟩ := hp
      refine g_aload_0 (pc := 54) E dX8_goesBy_54 ?_
      refine g_iload_1 (pc := 55) E dX8_goesBy_55 ?_
      refine g_cVi1 (pc := 56) E (c_X8_rateNow i (by omega)) cw_X8_259 (by decide) (by decide) (by first | rfl | assumption) (by first | rfl | assumption) (Nat.le_of_ble_eq_true rfl) dX8_goesBy_56 (fun v_56 h_56 hp => ?_)
      obtain ⟨rfl, rfl⟩ := hp
      refine g_cSi2 (pc := 59) E (c_J9_min_7cf53 _ _) cw_X8_221 (by decide) (by decide) (Nat.le_of_ble_eq_true rfl) dX8_goesBy_59 (fun v_59 h_59 hp => ?_)
      obtain ⟨rfl, rfl⟩ := hp
      refine g_iast (pc := 62) E (by first | rfl | assumption) (by first | rfl | assumption) dX8_goesBy_62 (q_ix_n (by omega)) ?_
      refine g_iinc_1 (pc := 63) (u := 1) E dX8_goesBy_63 (by decide) (by decide) rfl ?_
      refine g_goto (pc := 66) (tgt := 2) E dX8_goesBy_66 (by decide) ?_
      rw [nI_1, h30]
      rw [show z_F1 f i 21 i = f 21 i from rfl, h31]
      rw [z_F1_s (by unfold z_co q_mn; rw [q_sum_congr (fun k hk => z_F1_w (i := i) hk)]; rfl)]
      rw [show q_up (z_F1 f i) 30 (21 * i) (f 30 (21 * i) + f 21 i) 21 i = f 21 i from rfl]
      rw [show q_up (z_G1 f g i) 31 i (g 31 i + (f 21 i).toInt64) = z_G1 f g (i + 1) from by unfold z_G1; rw [q_upr, q_part_s rfl]]
      exact ih (by omega)
  refine g_iconst (pc := 0) (v := 0) E dX8_goesBy_0 (by decide) ?_
  refine g_istore_1 (pc := 1) E dX8_goesBy_1 (by decide) rfl ?_
  have e := L1 0 (Nat.zero_le _)
  rw [z_F1_0, z_G1_0] at e
  exact e
/-- so many slots -/
def z_goM (n m L : Nat) : Nat → Nat → (Nat → Nat → Int32) × (Nat → Nat → Int64) → (Nat → Nat → Int32) × (Nat → Nat → Int64)
  | 0, _, h => h
  | k + 1, t, h => z_goM n m L k (t + 1) (z_gbF n h.1 h.2 m t L, z_gbG n h.1 h.2 m t L)
theorem z_gb_keep {n m t L : Nat} {f : Nat → Nat → Int32} {g : Nat → Nat → Int64} : (z_gbF n f g m t L 0 0 = f 0 0 ∧ z_gbF n f g m t L 0 5 = f 0 5 ∧ z_gbF n f g m t L 0 13 = f 0 13 ∧ z_gbF n f g m t L 0 8 = f 0 8) ∧ z_gbF n f g m t L 18 = f 18 ∧ z_gbF n f g m t L 29 = f 29 ∧ z_gbF n f g m t L 0 10 = nI (t + 1) :=
  ⟨⟨rfl, rfl, rfl, rfl⟩, rfl, rfl, q_ups⟩
set_option maxHeartbeats 4000000 in
set_option maxRecDepth 100000 in
theorem c_X8_go {f : Nat → Nat → Int32} {g : Nat → Nat → Int64} (ht0 : f 0 0 = 0) (n : Nat) (hn : f 0 5 = nI n) (h10 : n ≤ 10) (hgt : ∀ c, c < n → ∃ j : Nat, j ≤ 2 ∧ f 18 c = nI j) (m : Nat) (hm : f 0 13 = nI m) (hm2 : m ≤ 100) (hfr : ∀ i, i < m → ∃ s : Nat, s < 1024 ∧ f 29 i = nI s) (t : Nat) (ht : f 0 10 = nI t) (ht2 : t ≤ 20000) (L : Nat) (hL : f 0 8 = nI L) (hL1 : 1 ≤ L) (hL2 : L ≤ 20) (x : Int32) : q_ConI yX8_go cX8_go 3 (some .int) 4 98 tyM alM [.ref 0, .int x] (f, g, rfM) (fun v h' => (¬ (1 ≤ x.toInt ∧ x.toInt ≤ 200) ∧ v = -2 ∧ h' = (f, g, rfM)) ∨ ((1 ≤ x.toInt ∧ x.toInt ≤ 200) ∧ 20000 < t + x.toInt ∧ v = -3 ∧ h' = (f, g, rfM)) ∨ (∃ k : Nat, x = nI k ∧ 1 ≤ k ∧ k ≤ 200 ∧ t + k ≤ 20000 ∧ v = nI (t + k) ∧ h' = ((z_goM n m L k t (f, g)).1, (z_goM n m L k t (f, g)).2, rfM))) := by
  refine q_Con.of RX8 [some (.ref 0), some (.int x), none] (by decide +kernel) rfl rfl (Nat.le_of_ble_eq_true rfl) (fun C ad E Z => ?_)
  have L0 : ∀ K : Nat, x = nI K → 1 ≤ K → K ≤ 200 → t + K ≤ 20000 → ∀ i, i ≤ K → ∀ (F : Nat → Nat → Int32) (G : Nat → Nat → Int64), F 0 0 = 0 → F 0 5 = nI n → (∀ c, c < n → ∃ j : Nat, j ≤ 2 ∧ F 18 c = nI j) → F 0 13 = nI m → (∀ i, i < m → ∃ s : Nat, s < 1024 ∧ F 29 i = nI s) → F 0 10 = nI (t + i) → F 0 8 = nI L → z_goM n m L (K - i) (t + i) (F, G) = z_goM n m L K t (f, g) → gg C tyM 3 0 0 alM ad 37 [some (.ref 0), some (.int x), some (.int (nI i))] [] (F, G, rfM) := by
    intro K eK hK1 hK2 hK3
    subst eK
    refine q_loop K (fun i hi ih F G u0 u1 u2 u3 u4 u5 u6 u7 => ?_)
    refine g_iload_2 (pc := 37) E dX8_go_37 ?_
    refine g_iload_1 (pc := 38) E dX8_go_38 ?_
    refine g_icmp_ge (pc := 39) (tgt := 52) E dX8_go_39 (by decide) (fun c_39 => ?_) (fun c_39 => ?_)
    · have e_39 := (q_ge (x := K) (y := i) rfl rfl (by omega) (by omega)).mp c_39
      refine g_aload_0 (pc := 52) E dX8_go_52 ?_
      refine g_getI (pc := 53) E (by first | rfl | assumption) (by first | rfl | assumption) fl_X8_253 rfl dX8_go_53 ?_
      exact g_iret (pc := 56) E Z dX8_go_56 ⟨_, rfl, Or.inr (Or.inr ⟨K, rfl, hK1, hK2, hK3, (by rw [u5, show i = K by omega]), (by rw [← u7, show K - i = 0 by omega]; rfl)⟩)⟩
    · have e_39 := (not_congr (q_ge (x := K) (y := i) rfl rfl (by omega) (by omega))).mp c_39
      refine g_aload_0 (pc := 42) E dX8_go_42 ?_
      refine g_cVv0 (pc := 43) E (c_X8_goesBy n (by exact u1) h10 (by exact u2) m (by exact u3) hm2 (by exact u4) (t + i) (by exact u5) (by omega) L (by exact u6) hL1 hL2) cw_X8_276 (by decide) (by decide) (by first | rfl | assumption) (by first | rfl | assumption) (Nat.le_of_ble_eq_true rfl) dX8_go_43 (fun h_43 hp => ?_)
      subst hp
      refine g_iinc_2 (pc := 46) (u := 1) E dX8_go_46 (by decide) (by decide) rfl ?_
      refine g_goto (pc := 49) (tgt := 37) E dX8_go_49 (by decide) ?_
      rw [nI_1]
      obtain ⟨⟨k0, k1, k2, k3⟩, k4, k5, k6⟩ := z_gb_keep (n := n) (m := m) (t := t + i) (L := L) (f := F) (g := G)
      exact ih (by omega) _ _ (k0.trans u0) (k1.trans u1) (by rw [k4]; exact u2) (k2.trans u3) (by rw [k5]; exact u4) k6 (k3.trans u6) (by rw [← u7, show K - i = (K - (i + 1)) + 1 by omega, z_goM]; rfl)
  have hti : (f 0 10).toInt = t := by rw [ht]; exact nI_toInt (by omega)
  refine g_aload_0 (pc := 0) E dX8_go_0 ?_
  refine g_iconst (pc := 1) (v := 0) E dX8_go_1 (by decide) ?_
  refine g_putI (pc := 2) E (by rfl) (by rfl) fw_X8_137 rfl dX8_go_2 ?_
  rw [q_up_same ht0]
  refine g_iload_1 (pc := 5) E dX8_go_5 ?_
  refine g_i2l (pc := 6) E dX8_go_6 ?_
  refine g_lconst (pc := 7) (v := 1) E dX8_go_7 (by decide) ?_
  refine g_ldc2 (pc := 8) E kw_X8_274 dX8_go_8 ?_
  refine g_cSi3 (pc := 11) E (c_X8_inI _ _ _ 1 200 (by decide) (by decide)) cw_X8_142 (by decide) (by decide) (Nat.le_of_ble_eq_true rfl) dX8_go_11 (fun v_11 h_11 hp => ?_)
  obtain ⟨rfl, rfl⟩ := hp
  refine g_if_ne (pc := 14) (tgt := 20) E dX8_go_14 (by decide) (fun c_14 => ?_) (fun c_14 => ?_)
  · have k_14 := q_b1.mp c_14
    refine g_aload_0 (pc := 20) E dX8_go_20 ?_
    refine g_getI (pc := 21) E (by first | rfl | assumption) (by first | rfl | assumption) fl_X8_253 rfl dX8_go_21 ?_
    refine g_iload_1 (pc := 24) E dX8_go_24 ?_
    refine g_iadd (pc := 25) E dX8_go_25 ?_
    refine g_sipush (pc := 26) (v := 20000) E dX8_go_26 (by decide) ?_
    refine g_icmp_le (pc := 29) (tgt := 35) E dX8_go_29 (by decide) (fun c_29 => ?_) (fun c_29 => ?_)
    · obtain ⟨K, hK, rfl⟩ := q_nat (b := 200) (x := x) (by omega) (by omega)
      have eK : (nI K).toInt = K := nI_toInt (by omega)
      have k29 : t + K ≤ 20000 := by
        have q := c_29
        rw [ht, nI_add] at q
        exact (nI_leI (a := t + K) (b := 20000) (by omega) (by omega)).mp q
      refine g_iconst (pc := 35) (v := 0) E dX8_go_35 (by decide) ?_
      refine g_istore_2 (pc := 36) E dX8_go_36 (by decide) rfl ?_
      exact L0 K rfl (by omega) hK k29 0 (Nat.zero_le _) f g ht0 hn hgt hm hfr ht hL rfl
    · obtain ⟨K, hK, rfl⟩ := q_nat (b := 200) (x := x) (by omega) (by omega)
      have eK : (nI K).toInt = K := nI_toInt (by omega)
      have k29 : 20000 < t + K := by
        rcases Nat.lt_or_ge 20000 (t + K) with q | q
        · exact q
        · exact absurd (show f 0 10 + nI K ≤ 20000 by rw [ht, nI_add]; exact nI_le (a := t + K) (b := 20000) q (by omega)) c_29
      refine g_bipush (pc := 32) (v := -3) E dX8_go_32 (by decide) ?_
      exact g_iret (pc := 34) E Z dX8_go_34 ⟨_, rfl, Or.inr (Or.inl ⟨k_14, by omega, rfl, rfl⟩)⟩
  · have k_14 := q_b0.mp c_14
    refine g_bipush (pc := 17) (v := -2) E dX8_go_17 (by decide) ?_
    exact g_iret (pc := 19) E Z dX8_go_19 ⟨_, rfl, Or.inl ⟨k_14, rfl, rfl⟩⟩
