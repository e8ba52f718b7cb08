/-! THE RELATION between the class's heap (f, g) and the reference's (F, G) -/
abbrev r_e (lo hi : Nat) (x y : Int32) : Prop := ∃ k : Nat, lo ≤ k ∧ k ≤ hi ∧ x = nI k ∧ y = nI k
theorem r_e_of {lo hi : Nat} {x : Int32} (h : (lo : Int) ≤ x.toInt ∧ x.toInt ≤ hi) : r_e lo hi x x := by
  obtain ⟨k, hk, e⟩ := nI_of (x := x) (by rw [Int32.lt_iff_toInt_lt]; have z : (0 : Int32).toInt = 0 := rfl; omega)
  have e2 : x.toInt = k := by rw [e]; exact nI_toInt hk
  exact ⟨k, by omega, by omega, e, e⟩
theorem r_e_eq {lo hi : Nat} {x y : Int32} (h : r_e lo hi x y) : x = y := by obtain ⟨k, -, -, h1, h2⟩ := h; rw [h1, h2]
abbrev r_W (t : Nat) (w : Nat → Int32) (gx : Nat → Int64) (mw : Nat → Int32) (gm : Nat → Int64) : Prop := ∃ (v : Nat → Nat) (cm sn ls : Nat), (∀ k, k < 21 → w k = nI (v k) ∧ mw k = nI (v k)) ∧ v 20 = 0 ∧ (gx 10 = lN cm ∧ gm 31 = lN cm) ∧ (gx 11 = lN sn ∧ gm 32 = lN sn) ∧ (gx 12 = lN ls ∧ gm 33 = lN ls) ∧ z_sm v 21 + sn + ls = cm ∧ cm ≤ 1000 * t
abbrev r_C (t : Nat) (x w : Nat → Int32) (gx : Nat → Int64) (m mw : Nat → Int32) (gm : Nat → Int64) : Prop := (r_e 1 100 (x 0) (m 15)) ∧ (r_e 1 1000 (x 1) (m 16)) ∧ (r_e 1 9 (x 2) (m 17)) ∧ (r_e 0 2 (x 3) (m 18)) ∧ (r_e 0 2 (x 4) (m 22)) ∧ (r_e 0 9 (x 5) (m 20)) ∧ (r_e 0 1000 (x 6) (m 21)) ∧ (r_e 0 9 (x 7) (m 19)) ∧ (r_e 0 1023 (x 8) (m 23)) ∧ (x 13 = m 24) ∧ (x 14 = m 25) ∧ (x 15 = m 26) ∧ (r_W t w gx mw gm)
theorem r_C.pw {t : Nat} {x w : Nat → Int32} {gx : Nat → Int64} {m mw : Nat → Int32} {gm : Nat → Int64} (h : r_C t x w gx m mw gm) : r_e 1 100 (x 0) (m 15) := h.1
theorem r_C.rt {t : Nat} {x w : Nat → Int32} {gx : Nat → Int64} {m mw : Nat → Int32} {gm : Nat → Int64} (h : r_C t x w gx m mw gm) : r_e 1 1000 (x 1) (m 16) := h.2.1
theorem r_C.rk {t : Nat} {x w : Nat → Int32} {gx : Nat → Int64} {m mw : Nat → Int32} {gm : Nat → Int64} (h : r_C t x w gx m mw gm) : r_e 1 9 (x 2) (m 17) := h.2.2.1
theorem r_C.gt {t : Nat} {x w : Nat → Int32} {gx : Nat → Int64} {m mw : Nat → Int32} {gm : Nat → Int64} (h : r_C t x w gx m mw gm) : r_e 0 2 (x 3) (m 18) := h.2.2.2.1
theorem r_C.rn {t : Nat} {x w : Nat → Int32} {gx : Nat → Int64} {m mw : Nat → Int32} {gm : Nat → Int64} (h : r_C t x w gx m mw gm) : r_e 0 2 (x 4) (m 22) := h.2.2.2.2.1
theorem r_C.nd {t : Nat} {x w : Nat → Int32} {gx : Nat → Int64} {m mw : Nat → Int32} {gm : Nat → Int64} (h : r_C t x w gx m mw gm) : r_e 0 9 (x 5) (m 20) := h.2.2.2.2.2.1
theorem r_C.ak {t : Nat} {x w : Nat → Int32} {gx : Nat → Int64} {m mw : Nat → Int32} {gm : Nat → Int64} (h : r_C t x w gx m mw gm) : r_e 0 1000 (x 6) (m 21) := h.2.2.2.2.2.2.1
theorem r_C.hd {t : Nat} {x w : Nat → Int32} {gx : Nat → Int64} {m mw : Nat → Int32} {gm : Nat → Int64} (h : r_C t x w gx m mw gm) : r_e 0 9 (x 7) (m 19) := h.2.2.2.2.2.2.2.1
theorem r_C.fb {t : Nat} {x w : Nat → Int32} {gx : Nat → Int64} {m mw : Nat → Int32} {gm : Nat → Int64} (h : r_C t x w gx m mw gm) : r_e 0 1023 (x 8) (m 23) := h.2.2.2.2.2.2.2.2.1
theorem r_C.dk {t : Nat} {x w : Nat → Int32} {gx : Nat → Int64} {m mw : Nat → Int32} {gm : Nat → Int64} (h : r_C t x w gx m mw gm) : x 13 = m 24 := h.2.2.2.2.2.2.2.2.2.1
theorem r_C.ld {t : Nat} {x w : Nat → Int32} {gx : Nat → Int64} {m mw : Nat → Int32} {gm : Nat → Int64} (h : r_C t x w gx m mw gm) : x 14 = m 25 := h.2.2.2.2.2.2.2.2.2.2.1
theorem r_C.tm {t : Nat} {x w : Nat → Int32} {gx : Nat → Int64} {m mw : Nat → Int32} {gm : Nat → Int64} (h : r_C t x w gx m mw gm) : x 15 = m 26 := h.2.2.2.2.2.2.2.2.2.2.2.1
theorem r_C.wt {t : Nat} {x w : Nat → Int32} {gx : Nat → Int64} {m mw : Nat → Int32} {gm : Nat → Int64} (h : r_C t x w gx m mw gm) : r_W t w gx mw gm := h.2.2.2.2.2.2.2.2.2.2.2.2
abbrev r_Z (m mw : Nat → Int32) (gm : Nat → Int64) : Prop := (m 19 = 0 ∧ m 20 = 0 ∧ m 21 = 0 ∧ m 22 = 0 ∧ m 23 = 0 ∧ m 24 = 0 ∧ m 25 = 0 ∧ m 26 = 0) ∧ (∀ k, k < 21 → mw k = 0) ∧ (gm 31 = 0 ∧ gm 32 = 0 ∧ gm 33 = 0)
theorem r_Z.z {m mw : Nat → Int32} {gm : Nat → Int64} (h : r_Z m mw gm) : m 19 = 0 ∧ m 20 = 0 ∧ m 21 = 0 ∧ m 22 = 0 ∧ m 23 = 0 ∧ m 24 = 0 ∧ m 25 = 0 ∧ m 26 = 0 := h.1
theorem r_Z.w {m mw : Nat → Int32} {gm : Nat → Int64} (h : r_Z m mw gm) : ∀ k, k < 21 → mw k = 0 := h.2.1
theorem r_Z.g {m mw : Nat → Int32} {gm : Nat → Int64} (h : r_Z m mw gm) : gm 31 = 0 ∧ gm 32 = 0 ∧ gm 33 = 0 := h.2.2
abbrev r_S (wx lx wm sm : Int32) : Prop := (wm = -1 ∧ lx = -1 ∧ ∃ z : Nat, z ≤ 60 ∧ sm = nI z) ∨ (∃ u z : Nat, u ≤ 3 ∧ z ≤ 60 ∧ wm = nI u ∧ wx = nI u ∧ sm = nI z ∧ lx = nI z)
abbrev r_F (n : Nat) (mx : Int32) (rx : Nat → Int32) (mm : Int32) (rm : Nat → Int32) : Prop := ∃ m : Nat, m ≤ 90 ∧ mx = nI m ∧ mm = nI m ∧ ∀ i, i < m → rx i = rm i ∧ ∃ s : Nat, s < 2 ^ n ∧ rx i = nI s
abbrev r_D (tB : Bool) (dx : Nat → Int32) (many : Int32) (dm : Nat → Int32) : Prop := (tB = false ∧ many = 0) ∨ (tB = true ∧ ∃ d : Nat, d ≤ 72 ∧ many = nI d ∧ (∀ j, j < d → dx j = dm j) ∧ ∀ j, d ≤ j → j < 72 → dx j = 0)
abbrev x_R (n t : Nat) (tB : Bool) (f : Nat → Nat → Int32) (g : Nat → Nat → Int64) (F : Nat → Nat → Int32) (G : Nat → Nat → Int64) : Prop := (n ≤ 10) ∧ (f 1 1 = nI n) ∧ (F 0 5 = nI n) ∧ (F 0 0 = 0) ∧ (r_e 1 4 (f 1 4) (F 0 6)) ∧ (r_e 1 1000 (f 1 5) (F 0 7)) ∧ (r_e 1 20 (f 1 6) (F 0 8)) ∧ (r_e 0 9 (f 1 7) (F 0 9)) ∧ (r_e 0 1 (f 0 7) (F 0 11)) ∧ (t ≤ 20000) ∧ (f 0 8 = nI t) ∧ (F 0 10 = nI t) ∧ (f 0 9 = F 0 12) ∧ (f 0 10 = F 0 14) ∧ (r_F n (f 4 1) (f 21) (F 0 13) (F 29)) ∧ (∀ c, c < n → r_C t (f (c + 40)) (f (c + 60)) (g (c + 40)) (fun a => F a c) (fun k => F 30 (21 * c + k)) (fun a => G a c)) ∧ (∀ c, n ≤ c → c < 10 → r_Z (fun a => F a c) (fun k => F 30 (21 * c + k)) (fun a => G a c)) ∧ (∀ j, j < 3 → r_e 0 10 (f 9 j) (F 27 j) ∧ f 10 j = F 28 j) ∧ (∀ S, S ≤ 3 → r_S (f 19 S) (f 20 S) (F 1 S) (F 2 S)) ∧ (∀ S, S ≤ 3 → ∀ i, i < 60 → g (S + 15) i = G 3 (60 * S + i)) ∧ (r_D tB (f 32) (F 0 46) (F 45)) ∧ (f 13 0 = 0) ∧ (∀ s, 2 ^ n ≤ s → s < 1024 → f 11 s = 0)
theorem x_R.n10 {n t : Nat} {tB : Bool} {f : Nat → Nat → Int32} {g : Nat → Nat → Int64} {F : Nat → Nat → Int32} {G : Nat → Nat → Int64} (h : x_R n t tB f g F G) : n ≤ 10 := h.1
theorem x_R.cX {n t : Nat} {tB : Bool} {f : Nat → Nat → Int32} {g : Nat → Nat → Int64} {F : Nat → Nat → Int32} {G : Nat → Nat → Int64} (h : x_R n t tB f g F G) : f 1 1 = nI n := h.2.1
theorem x_R.cM {n t : Nat} {tB : Bool} {f : Nat → Nat → Int32} {g : Nat → Nat → Int64} {F : Nat → Nat → Int32} {G : Nat → Nat → Int64} (h : x_R n t tB f g F G) : F 0 5 = nI n := h.2.2.1
theorem x_R.t0 {n t : Nat} {tB : Bool} {f : Nat → Nat → Int32} {g : Nat → Nat → Int64} {F : Nat → Nat → Int32} {G : Nat → Nat → Int64} (h : x_R n t tB f g F G) : F 0 0 = 0 := h.2.2.2.1
theorem x_R.bm {n t : Nat} {tB : Bool} {f : Nat → Nat → Int32} {g : Nat → Nat → Int64} {F : Nat → Nat → Int32} {G : Nat → Nat → Int64} (h : x_R n t tB f g F G) : r_e 1 4 (f 1 4) (F 0 6) := h.2.2.2.2.1
theorem x_R.lm {n t : Nat} {tB : Bool} {f : Nat → Nat → Int32} {g : Nat → Nat → Int64} {F : Nat → Nat → Int32} {G : Nat → Nat → Int64} (h : x_R n t tB f g F G) : r_e 1 1000 (f 1 5) (F 0 7) := h.2.2.2.2.2.1
theorem x_R.la {n t : Nat} {tB : Bool} {f : Nat → Nat → Int32} {g : Nat → Nat → Int64} {F : Nat → Nat → Int32} {G : Nat → Nat → Int64} (h : x_R n t tB f g F G) : r_e 1 20 (f 1 6) (F 0 8) := h.2.2.2.2.2.2.1
theorem x_R.ha {n t : Nat} {tB : Bool} {f : Nat → Nat → Int32} {g : Nat → Nat → Int64} {F : Nat → Nat → Int32} {G : Nat → Nat → Int64} (h : x_R n t tB f g F G) : r_e 0 9 (f 1 7) (F 0 9) := h.2.2.2.2.2.2.2.1
theorem x_R.rul {n t : Nat} {tB : Bool} {f : Nat → Nat → Int32} {g : Nat → Nat → Int64} {F : Nat → Nat → Int32} {G : Nat → Nat → Int64} (h : x_R n t tB f g F G) : r_e 0 1 (f 0 7) (F 0 11) := h.2.2.2.2.2.2.2.2.1
theorem x_R.t20 {n t : Nat} {tB : Bool} {f : Nat → Nat → Int32} {g : Nat → Nat → Int64} {F : Nat → Nat → Int32} {G : Nat → Nat → Int64} (h : x_R n t tB f g F G) : t ≤ 20000 := h.2.2.2.2.2.2.2.2.2.1
theorem x_R.sX {n t : Nat} {tB : Bool} {f : Nat → Nat → Int32} {g : Nat → Nat → Int64} {F : Nat → Nat → Int32} {G : Nat → Nat → Int64} (h : x_R n t tB f g F G) : f 0 8 = nI t := h.2.2.2.2.2.2.2.2.2.2.1
theorem x_R.sM {n t : Nat} {tB : Bool} {f : Nat → Nat → Int32} {g : Nat → Nat → Int64} {F : Nat → Nat → Int32} {G : Nat → Nat → Int64} (h : x_R n t tB f g F G) : F 0 10 = nI t := h.2.2.2.2.2.2.2.2.2.2.2.1
theorem x_R.lit {n t : Nat} {tB : Bool} {f : Nat → Nat → Int32} {g : Nat → Nat → Int64} {F : Nat → Nat → Int32} {G : Nat → Nat → Int64} (h : x_R n t tB f g F G) : f 0 9 = F 0 12 := h.2.2.2.2.2.2.2.2.2.2.2.2.1
theorem x_R.sta {n t : Nat} {tB : Bool} {f : Nat → Nat → Int32} {g : Nat → Nat → Int64} {F : Nat → Nat → Int32} {G : Nat → Nat → Int64} (h : x_R n t tB f g F G) : f 0 10 = F 0 14 := h.2.2.2.2.2.2.2.2.2.2.2.2.2.1
theorem x_R.frm {n t : Nat} {tB : Bool} {f : Nat → Nat → Int32} {g : Nat → Nat → Int64} {F : Nat → Nat → Int32} {G : Nat → Nat → Int64} (h : x_R n t tB f g F G) : r_F n (f 4 1) (f 21) (F 0 13) (F 29) := h.2.2.2.2.2.2.2.2.2.2.2.2.2.2.1
theorem x_R.cel {n t : Nat} {tB : Bool} {f : Nat → Nat → Int32} {g : Nat → Nat → Int64} {F : Nat → Nat → Int32} {G : Nat → Nat → Int64} (h : x_R n t tB f g F G) : ∀ c, c < n → r_C t (f (c + 40)) (f (c + 60)) (g (c + 40)) (fun a => F a c) (fun k => F 30 (21 * c + k)) (fun a => G a c) := h.2.2.2.2.2.2.2.2.2.2.2.2.2.2.2.1
theorem x_R.zer {n t : Nat} {tB : Bool} {f : Nat → Nat → Int32} {g : Nat → Nat → Int64} {F : Nat → Nat → Int32} {G : Nat → Nat → Int64} (h : x_R n t tB f g F G) : ∀ c, n ≤ c → c < 10 → r_Z (fun a => F a c) (fun k => F 30 (21 * c + k)) (fun a => G a c) := h.2.2.2.2.2.2.2.2.2.2.2.2.2.2.2.2.1
theorem x_R.gat {n t : Nat} {tB : Bool} {f : Nat → Nat → Int32} {g : Nat → Nat → Int64} {F : Nat → Nat → Int32} {G : Nat → Nat → Int64} (h : x_R n t tB f g F G) : ∀ j, j < 3 → r_e 0 10 (f 9 j) (F 27 j) ∧ f 10 j = F 28 j := h.2.2.2.2.2.2.2.2.2.2.2.2.2.2.2.2.2.1
theorem x_R.shf {n t : Nat} {tB : Bool} {f : Nat → Nat → Int32} {g : Nat → Nat → Int64} {F : Nat → Nat → Int32} {G : Nat → Nat → Int64} (h : x_R n t tB f g F G) : ∀ S, S ≤ 3 → r_S (f 19 S) (f 20 S) (F 1 S) (F 2 S) := h.2.2.2.2.2.2.2.2.2.2.2.2.2.2.2.2.2.2.1
theorem x_R.num {n t : Nat} {tB : Bool} {f : Nat → Nat → Int32} {g : Nat → Nat → Int64} {F : Nat → Nat → Int32} {G : Nat → Nat → Int64} (h : x_R n t tB f g F G) : ∀ S, S ≤ 3 → ∀ i, i < 60 → g (S + 15) i = G 3 (60 * S + i) := h.2.2.2.2.2.2.2.2.2.2.2.2.2.2.2.2.2.2.2.1
theorem x_R.dig {n t : Nat} {tB : Bool} {f : Nat → Nat → Int32} {g : Nat → Nat → Int64} {F : Nat → Nat → Int32} {G : Nat → Nat → Int64} (h : x_R n t tB f g F G) : r_D tB (f 32) (F 0 46) (F 45) := h.2.2.2.2.2.2.2.2.2.2.2.2.2.2.2.2.2.2.2.2.1
theorem x_R.x13 {n t : Nat} {tB : Bool} {f : Nat → Nat → Int32} {g : Nat → Nat → Int64} {F : Nat → Nat → Int32} {G : Nat → Nat → Int64} (h : x_R n t tB f g F G) : f 13 0 = 0 := h.2.2.2.2.2.2.2.2.2.2.2.2.2.2.2.2.2.2.2.2.2.1
theorem x_R.x11 {n t : Nat} {tB : Bool} {f : Nat → Nat → Int32} {g : Nat → Nat → Int64} {F : Nat → Nat → Int32} {G : Nat → Nat → Int64} (h : x_R n t tB f g F G) : ∀ s, 2 ^ n ≤ s → s < 1024 → f 11 s = 0 := h.2.2.2.2.2.2.2.2.2.2.2.2.2.2.2.2.2.2.2.2.2.2
def x_Q (al2 : Nat → Bool) (hx hm : PH) : Prop := ∃ (n t : Nat) (sB tB : Bool) (f : Nat → Nat → Int32) (g : Nat → Nat → Int64) (F : Nat → Nat → Int32) (G : Nat → Nat → Int64), al2 = alX n sB tB ∧ hx = (f, g, rfX n sB tB) ∧ hm = (F, G, rfM) ∧ x_R n t tB f g F G
section RL
variable {n t : Nat} {sB tB : Bool} {f : Nat → Nat → Int32} {g : Nat → Nat → Int64} {F : Nat → Nat → Int32} {G : Nat → Nat → Int64}
theorem x_R.Q (h : x_R n t tB f g F G) : x_Q (alX n sB tB) (f, g, rfX n sB tB) (F, G, rfM) := ⟨n, t, sB, tB, f, g, F, G, rfl, rfl, rfl, h⟩
theorem x_R.gtX (h : x_R n t tB f g F G) : ∀ c, c < n → ∃ j : Nat, j ≤ 2 ∧ f (c + 40) 3 = nI j := fun c hc => by obtain ⟨k, -, h2, h3, -⟩ := (h.cel c hc).gt; exact ⟨k, h2, h3⟩
theorem x_R.gtM (h : x_R n t tB f g F G) : ∀ c, c < n → ∃ j : Nat, j ≤ 2 ∧ F 18 c = nI j := fun c hc => by obtain ⟨k, -, h2, -, h3⟩ := (h.cel c hc).gt; exact ⟨k, h2, h3⟩
theorem x_R.hbm (h : x_R n t tB f g F G) : ∃ b : Nat, b ≤ 4 ∧ f 1 4 = nI b := by obtain ⟨k, -, h2, h3, -⟩ := h.bm; exact ⟨k, h2, h3⟩
theorem x_R.hlen (h : x_R n t tB f g F G) : ∀ S, S ≤ 3 → f 20 S = -1 ∨ ∃ z : Nat, z ≤ 60 ∧ f 20 S = nI z := fun S hS => by
  rcases h.shf S hS with ⟨-, q, -⟩ | ⟨u, z, -, hz, -, -, -, e⟩
  · exact Or.inl q
  · exact Or.inr ⟨z, hz, e⟩
theorem x_R.hsz (h : x_R n t tB f g F G) : ∀ S, S ≤ 3 → ∃ z : Nat, z ≤ 60 ∧ F 2 S = nI z := fun S hS => by
  rcases h.shf S hS with ⟨-, -, q⟩ | ⟨u, z, -, hz, -, -, e, -⟩
  · exact q
  · exact ⟨z, hz, e⟩
theorem z_leg_congr {bm lim : Int32} {fb gt hd pn up rm fb' gt' hd' pn' up' rm' : Nat → Int32} {s : Nat} (h1 : ∀ c, c < n → fb c = fb' c) (h2 : ∀ c, c < n → gt c = gt' c) (h3 : ∀ c, c < n → hd c = hd' c) (h4 : ∀ c, c < n → pn c = pn' c) (h5 : ∀ j, j < 3 → up j = up' j ∧ rm j = rm' j) (hg : ∀ c, c < n → ∃ j : Nat, j ≤ 2 ∧ gt c = nI j) : z_leg n bm lim fb gt hd pn up rm s ↔ z_leg n bm lim fb' gt' hd' pn' up' rm' s := by
  have e1 : (∀ c, c < n → s.testBit c = true → z_ok fb gt hd up s c) ↔ (∀ c, c < n → s.testBit c = true → z_ok fb' gt' hd' up' s c) := by
    refine forall_congr' (fun c => ?_)
    refine forall_congr' (fun hc => ?_)
    refine forall_congr' (fun _ => ?_)
    obtain ⟨j, hj, ej⟩ := hg c hc
    have e : (gt c).toNatClampNeg = j := by rw [ej]; exact nI_clamp (by omega)
    show (fb c &&& nI s = 0 ∧ ¬ up (gt c).toNatClampNeg = 0 ∧ ¬ 0 < hd c) ↔ (fb' c &&& nI s = 0 ∧ ¬ up' (gt' c).toNatClampNeg = 0 ∧ ¬ 0 < hd' c)
    rw [← h1 c hc, ← h2 c hc, ← h3 c hc, e, (h5 j (by omega)).1]
  have e2 : z_pow pn s n = z_pow pn' s n := q_sum_congr (fun c hc => by rw [h4 c hc])
  have e3 : ∀ y, z_use gt s y n = z_use gt' s y n := fun y => q_sum_congr (fun c hc => by rw [h2 c hc])
  show (_ ∧ _ ∧ _ ∧ _ ∧ _ ∧ _) ↔ (_ ∧ _ ∧ _ ∧ _ ∧ _ ∧ _)
  rw [e1, e2, e3, e3, e3, (h5 0 (by omega)).2, (h5 1 (by omega)).2, (h5 2 (by omega)).2]
theorem x_R.leg (h : x_R n t tB f g F G) (s : Nat) : z_legX n f s ↔ z_legM n F s := by
  have e1 : f 1 4 = F 0 6 := r_e_eq h.bm
  have e2 : f 1 5 = F 0 7 := r_e_eq h.lm
  show z_leg n (f 1 4) (f 1 5) _ _ _ _ _ _ s ↔ z_leg n (F 0 6) (F 0 7) _ _ _ _ _ _ s
  rw [e1, e2]
  exact z_leg_congr (fun c hc => r_e_eq (h.cel c hc).fb) (fun c hc => r_e_eq (h.cel c hc).gt) (fun c hc => r_e_eq (h.cel c hc).hd) (fun c hc => by show f (c + 40) 0 * (2 + f (c + 40) 4) / 2 = F 15 c * (2 + F 22 c) / 2; rw [r_e_eq (h.cel c hc).pw, r_e_eq (h.cel c hc).rn]) (fun j hj => ⟨(h.gat j hj).2, r_e_eq (h.gat j hj).1⟩) h.gtX
theorem x_R.pM (h : x_R n t tB f g F G) : z_p n f = fun s => decide (z_legM n F s) := funext fun s => decide_eq_decide.mpr (h.leg s)
/-! the methods one by one -/
theorem r_terms (h : x_R n t tB f g F G) {b l u d vx vm : Int32} {hx hm : PH}
    (px : (((1 ≤ b.toInt ∧ b.toInt ≤ 4) ∧ (1 ≤ l.toInt ∧ l.toInt ≤ 1000) ∧ (1 ≤ u.toInt ∧ u.toInt ≤ 20) ∧ (0 ≤ d.toInt ∧ d.toInt ≤ 9)) ∧ vx = 0 ∧ hx = (q_up (q_up (q_up (q_up f 1 4 b) 1 5 l) 1 6 u) 1 7 d, g, rfX n sB tB)) ∨ (¬ ((1 ≤ b.toInt ∧ b.toInt ≤ 4) ∧ (1 ≤ l.toInt ∧ l.toInt ≤ 1000) ∧ (1 ≤ u.toInt ∧ u.toInt ≤ 20) ∧ (0 ≤ d.toInt ∧ d.toInt ≤ 9)) ∧ vx = -2 ∧ hx = (f, g, rfX n sB tB)))
    (pm : (((1 ≤ b.toInt ∧ b.toInt ≤ 4) ∧ (1 ≤ l.toInt ∧ l.toInt ≤ 1000) ∧ (1 ≤ u.toInt ∧ u.toInt ≤ 20) ∧ (0 ≤ d.toInt ∧ d.toInt ≤ 9)) ∧ vm = 0 ∧ hm = (q_up (q_up (q_up (q_up F 0 6 b) 0 7 l) 0 8 u) 0 9 d, G, rfM)) ∨ (¬ ((1 ≤ b.toInt ∧ b.toInt ≤ 4) ∧ (1 ≤ l.toInt ∧ l.toInt ≤ 1000) ∧ (1 ≤ u.toInt ∧ u.toInt ≤ 20) ∧ (0 ≤ d.toInt ∧ d.toInt ≤ 9)) ∧ vm = -2 ∧ hm = (F, G, rfM))) : vx = vm ∧ x_Q (alX n sB tB) hx hm := by
  rcases px with ⟨c, rfl, rfl⟩ | ⟨c, rfl, rfl⟩ <;> rcases pm with ⟨c2, rfl, rfl⟩ | ⟨c2, rfl, rfl⟩
  · refine ⟨rfl, x_R.Q (t := t) ?_⟩
    exact ⟨h.n10, h.cX, h.cM, h.t0, r_e_of c.1, r_e_of c.2.1, r_e_of c.2.2.1, r_e_of c.2.2.2, h.rul, h.t20, h.sX, h.sM, h.lit, h.sta, h.frm, (fun c hc => h.cel c hc), (fun c h1 h2 => h.zer c h1 h2), (fun j hj => h.gat j hj), (fun S hS => h.shf S hS), (fun S hS i hi => h.num S hS i hi), h.dig, h.x13, (fun s h1 h2 => h.x11 s h1 h2)⟩
  · exact absurd c c2
  · exact absurd c2 c
  · exact ⟨rfl, h.Q⟩
theorem r_rule (h : x_R n t tB f g F G) {x vx vm : Int32} {hx hm : PH}
    (px : ((0 ≤ x.toInt ∧ x.toInt ≤ 1) ∧ vx = f 0 7 ∧ hx = (q_up f 0 7 x, g, rfX n sB tB)) ∨ (¬ (0 ≤ x.toInt ∧ x.toInt ≤ 1) ∧ vx = -2 ∧ hx = (f, g, rfX n sB tB)))
    (pm : ((0 ≤ x.toInt ∧ x.toInt ≤ 1) ∧ vm = F 0 11 ∧ hm = (q_up F 0 11 x, G, rfM)) ∨ (¬ (0 ≤ x.toInt ∧ x.toInt ≤ 1) ∧ vm = -2 ∧ hm = (F, G, rfM))) : vx = vm ∧ x_Q (alX n sB tB) hx hm := by
  rcases px with ⟨c, rfl, rfl⟩ | ⟨c, rfl, rfl⟩ <;> rcases pm with ⟨c2, rfl, rfl⟩ | ⟨c2, rfl, rfl⟩
  · exact ⟨r_e_eq h.rul, x_R.Q (t := t) ⟨h.n10, h.cX, h.cM, h.t0, h.bm, h.lm, h.la, h.ha, r_e_of c, h.t20, h.sX, h.sM, h.lit, h.sta, h.frm, (fun c hc => h.cel c hc), (fun c h1 h2 => h.zer c h1 h2), (fun j hj => h.gat j hj), (fun S hS => h.shf S hS), (fun S hS i hi => h.num S hS i hi), h.dig, h.x13, (fun s h1 h2 => h.x11 s h1 h2)⟩⟩
  · exact absurd c c2
  · exact absurd c2 c
  · exact ⟨rfl, h.Q⟩
theorem r_lit (h : x_R n t tB f g F G) {vx vm : Int32} {hx hm : PH} (px : vx = f 0 9 ∧ hx = (f, g, rfX n sB tB)) (pm : vm = F 0 12 ∧ hm = (F, G, rfM)) : vx = vm ∧ x_Q (alX n sB tB) hx hm := by
  obtain ⟨rfl, rfl⟩ := px; obtain ⟨rfl, rfl⟩ := pm
  exact ⟨h.lit, h.Q⟩
theorem r_units (h : x_R n t tB f g F G) {c x : Int32} {vx vm : Int64} {hx hm : PH} (px : vx = (if 0 ≤ c.toInt ∧ c.toInt < n then (if x = 0 then g (c.toNatClampNeg + 40) 10 else if x = 1 then g (c.toNatClampNeg + 40) 11 else if x = 2 then g (c.toNatClampNeg + 40) 12 else -2) else -2) ∧ hx = (f, g, rfX n sB tB))
    (pm : vm = (if 0 ≤ c.toInt ∧ c.toInt < n then (if x = 0 then G 31 c.toNatClampNeg else if x = 1 then G 32 c.toNatClampNeg else if x = 2 then G 33 c.toNatClampNeg else -2) else -2) ∧ hm = (F, G, rfM)) : vx = vm ∧ x_Q (alX n sB tB) hx hm := by
  obtain ⟨rfl, rfl⟩ := px; obtain ⟨rfl, rfl⟩ := pm
  refine ⟨?_, h.Q⟩
  by_cases hc : 0 ≤ c.toInt ∧ c.toInt < n
  · rw [if_pos hc, if_pos hc]
    have hlt : c.toNatClampNeg < n := by show c.toInt.toNat < n; omega
    obtain ⟨v, cm, sn, ls, -, -, h1, h2, h3, -, -⟩ := (h.cel _ hlt).wt
    rw [h1.1, h2.1, h3.1, show G 31 c.toNatClampNeg = lN cm from h1.2, show G 32 c.toNatClampNeg = lN sn from h2.2, show G 33 c.toNatClampNeg = lN ls from h3.2]
  · rw [if_neg hc, if_neg hc]
theorem r_legal (h : x_R n t tB f g F G) {x vx vm : Int32} {hx hm : PH} (px : vx = (if 0 ≤ x.toInt ∧ x.toInt < 2 ^ n then q_b (z_legX n f x.toNatClampNeg) else -2) ∧ hx = (f, g, rfX n sB tB)) (pm : vm = (if 0 ≤ x.toInt ∧ x.toInt < 2 ^ n then q_b (z_legM n F x.toNatClampNeg) else -2) ∧ hm = (F, G, rfM)) : vx = vm ∧ x_Q (alX n sB tB) hx hm := by
  obtain ⟨rfl, rfl⟩ := px; obtain ⟨rfl, rfl⟩ := pm
  exact ⟨by rw [w_qb (h.leg _)], h.Q⟩
theorem r_fnd (h : x_R n t tB f g F G) : x_R n t tB (z_fnd n f (2 ^ n)) g F G :=
  ⟨h.n10, h.cX, h.cM, h.t0, h.bm, h.lm, h.la, h.ha, h.rul, h.t20, h.sX, h.sM, h.lit, h.sta, h.frm, (fun c hc => h.cel c hc), (fun c h1 h2 => h.zer c h1 h2), (fun j hj => h.gat j hj), (fun S hS => h.shf S hS), (fun S hS i hi => h.num S hS i hi), h.dig, h.x13, (fun s h1 h2 => by show (if s < 2 ^ n then _ else f 11 s) = 0; rw [if_neg (by omega)]; exact h.x11 s h1 h2)⟩
theorem z_ct_sum {p : Nat → Bool} {a : Nat → Int32} (ha : ∀ s, a s = if p s = true then 1 else 0) : ∀ m, nI (z_ct p m) = q_sum a m
  | 0 => rfl
  | m + 1 => by
    rw [q_sum, ← z_ct_sum ha m, ha m]
    by_cases e : p m = true
    · rw [z_ct_t e, if_pos e, nI_1]
    · rw [z_ct_f e, if_neg e, Int32.add_zero]
theorem r_sets (h : x_R n t tB f g F G) {vx vm : Int32} {hx hm : PH} (px : vx = nI (z_ct (z_p n f) (2 ^ n)) ∧ hx = (z_fnd n f (2 ^ n), g, rfX n sB tB)) (pm : vm = q_sum (fun s => q_b (z_legM n F s)) (2 ^ n) ∧ hm = (F, G, rfM)) : vx = vm ∧ x_Q (alX n sB tB) hx hm := by
  obtain ⟨rfl, rfl⟩ := px; obtain ⟨rfl, rfl⟩ := pm
  refine ⟨z_ct_sum (fun s => ?_) _, (r_fnd h).Q⟩
  show (if z_legM n F s then (1 : Int32) else 0) = if decide (z_legX n f s) = true then 1 else 0
  by_cases e : z_legM n F s
  · rw [if_pos e, if_pos (decide_eq_true ((h.leg s).mpr e))]
  · rw [if_neg e, if_neg (fun q => e ((h.leg s).mp (of_decide_eq_true q)))]
end RL
