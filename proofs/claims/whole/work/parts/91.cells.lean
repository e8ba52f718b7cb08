/-! the methods one by one: cells, gateways, rows -/
section RM
variable {n t : Nat} {sB tB : Bool} {f : Nat → Nat → Int32} {g : Nat → Nat → Int64} {F : Nat → Nat → Int32} {G : Nat → Nat → Int64}
theorem x_cel1 {f' F' : Nat → Nat → Int32} {j : Nat} (h : x_R n t tB f g F G) (e40 : ∀ c, c ≠ j → f' (c + 40) = f (c + 40)) (e60 : ∀ c, f' (c + 60) = f (c + 60)) (hcol : ∀ c, c ≠ j → ∀ a, 15 ≤ a → a ≤ 26 → F' a c = F a c) (h30 : F' 30 = F 30)
    (hj : r_C t (f' (j + 40)) (f (j + 60)) (g (j + 40)) (fun a => F' a j) (fun k => F 30 (21 * j + k)) (fun a => G a j)) : ∀ c, c < n → r_C t (f' (c + 40)) (f' (c + 60)) (g (c + 40)) (fun a => F' a c) (fun k => F' 30 (21 * c + k)) (fun a => G a c) := by
  intro c hc
  rw [e60, h30]
  by_cases e : c = j
  · subst e; exact hj
  · rw [e40 c e]
    have hr := h.cel c hc
    have k : ∀ a, 15 ≤ a → a ≤ 26 → F' a c = F a c := hcol c e
    refine ⟨?_, ?_, ?_, ?_, ?_, ?_, ?_, ?_, ?_, ?_, ?_, ?_, hr.wt⟩
    · dsimp only; rw [k 15 (by decide) (by decide)]; exact hr.pw
    · dsimp only; rw [k 16 (by decide) (by decide)]; exact hr.rt
    · dsimp only; rw [k 17 (by decide) (by decide)]; exact hr.rk
    · dsimp only; rw [k 18 (by decide) (by decide)]; exact hr.gt
    · dsimp only; rw [k 22 (by decide) (by decide)]; exact hr.rn
    · dsimp only; rw [k 20 (by decide) (by decide)]; exact hr.nd
    · dsimp only; rw [k 21 (by decide) (by decide)]; exact hr.ak
    · dsimp only; rw [k 19 (by decide) (by decide)]; exact hr.hd
    · dsimp only; rw [k 23 (by decide) (by decide)]; exact hr.fb
    · dsimp only; rw [k 24 (by decide) (by decide)]; exact hr.dk
    · dsimp only; rw [k 25 (by decide) (by decide)]; exact hr.ld
    · dsimp only; rw [k 26 (by decide) (by decide)]; exact hr.tm
theorem x_zer1 {F' : Nat → Nat → Int32} {j : Nat} (h : x_R n t tB f g F G) (hj : j < n) (hcol : ∀ c, c ≠ j → ∀ a, 15 ≤ a → a ≤ 26 → F' a c = F a c) (h30 : F' 30 = F 30) : ∀ c, n ≤ c → c < 10 → r_Z (fun a => F' a c) (fun k => F' 30 (21 * c + k)) (fun a => G a c) := by
  intro c h1 h2
  have hr := h.zer c h1 h2
  have k : ∀ a, 15 ≤ a → a ≤ 26 → F' a c = F a c := hcol c (by omega)
  rw [h30]
  refine ⟨?_, hr.w, hr.g⟩
  dsimp only
  rw [k 19 (by decide) (by decide), k 20 (by decide) (by decide), k 21 (by decide) (by decide), k 22 (by decide) (by decide), k 23 (by decide) (by decide), k 24 (by decide) (by decide), k 25 (by decide) (by decide), k 26 (by decide) (by decide)]
  exact hr.z
theorem q_col {a0 j c a : Nat} {x : Int32} (h : c ≠ j) : q_up F a0 j x a c = F a c := by
  by_cases e : a = a0
  · subst e; exact q_upz h
  · rw [q_up_ne e]
theorem x_set_rn {j : Nat} {v : Int32} (h : x_R n t tB f g F G) (hj : j < n) (hv : r_e 0 2 v v) : x_R n t tB (q_up f (j + 40) 4 v) g (q_up F 22 j v) G := by
  have e40 : ∀ c, c ≠ j → q_up f (j + 40) 4 v (c + 40) = f (c + 40) := fun c hc => q_up_ne (by omega)
  have e60 : ∀ c, q_up f (j + 40) 4 v (c + 60) = f (c + 60) := fun c => q_up_ne (by have := h.n10; omega)
  have hr := h.cel j hj
  have lo : ∀ a, a < 40 → q_up f (j + 40) 4 v a = f a := fun a ha => q_up_ne (by omega)
  have hc : r_C t (q_up f (j + 40) 4 v (j + 40)) (f (j + 60)) (g (j + 40)) (fun a => q_up F 22 j v a j) (fun k => F 30 (21 * j + k)) (fun a => G a j) := by
    rw [q_up_eq]
    exact ⟨hr.pw, hr.rt, hr.rk, hr.gt, (by show r_e 0 2 (va_up (f (j + 40)) 4 v 4) (q_up F 22 j v 22 j); rw [va_up_s, q_ups]; exact hv), hr.nd, hr.ak, hr.hd, hr.fb, hr.dk, hr.ld, hr.tm, hr.wt⟩
  exact ⟨h.n10, (by rw [lo 1 (by decide)]; exact h.cX), h.cM, h.t0, (by rw [lo 1 (by decide)]; exact h.bm), (by rw [lo 1 (by decide)]; exact h.lm), (by rw [lo 1 (by decide)]; exact h.la), (by rw [lo 1 (by decide)]; exact h.ha), (by rw [lo 0 (by decide)]; exact h.rul), h.t20, (by rw [lo 0 (by decide)]; exact h.sX), h.sM, (by rw [lo 0 (by decide)]; exact h.lit), (by rw [lo 0 (by decide)]; exact h.sta), (by rw [lo 4 (by decide), lo 21 (by decide)]; exact h.frm), x_cel1 h e40 e60 (fun c hc a _ _ => q_col hc) rfl hc, x_zer1 h hj (fun c hc a _ _ => q_col hc) rfl, (fun j hj => by rw [lo 9 (by decide), lo 10 (by decide)]; exact h.gat j hj), (fun S hS => by rw [lo 19 (by decide), lo 20 (by decide)]; exact h.shf S hS), (fun S hS i hi => h.num S hS i hi), (by rw [lo 32 (by decide)]; exact h.dig), (by rw [lo 13 (by decide)]; exact h.x13), (fun s h1 h2 => by rw [lo 11 (by decide)]; exact h.x11 s h1 h2)⟩
theorem x_set_fb {j : Nat} {v : Int32} (h : x_R n t tB f g F G) (hj : j < n) (hv : r_e 0 1023 v v) : x_R n t tB (q_up f (j + 40) 8 v) g (q_up F 23 j v) G := by
  have e40 : ∀ c, c ≠ j → q_up f (j + 40) 8 v (c + 40) = f (c + 40) := fun c hc => q_up_ne (by omega)
  have e60 : ∀ c, q_up f (j + 40) 8 v (c + 60) = f (c + 60) := fun c => q_up_ne (by have := h.n10; omega)
  have hr := h.cel j hj
  have lo : ∀ a, a < 40 → q_up f (j + 40) 8 v a = f a := fun a ha => q_up_ne (by omega)
  have hc : r_C t (q_up f (j + 40) 8 v (j + 40)) (f (j + 60)) (g (j + 40)) (fun a => q_up F 23 j v a j) (fun k => F 30 (21 * j + k)) (fun a => G a j) := by
    rw [q_up_eq]
    exact ⟨hr.pw, hr.rt, hr.rk, hr.gt, hr.rn, hr.nd, hr.ak, hr.hd, (by show r_e 0 1023 (va_up (f (j + 40)) 8 v 8) (q_up F 23 j v 23 j); rw [va_up_s, q_ups]; exact hv), hr.dk, hr.ld, hr.tm, hr.wt⟩
  exact ⟨h.n10, (by rw [lo 1 (by decide)]; exact h.cX), h.cM, h.t0, (by rw [lo 1 (by decide)]; exact h.bm), (by rw [lo 1 (by decide)]; exact h.lm), (by rw [lo 1 (by decide)]; exact h.la), (by rw [lo 1 (by decide)]; exact h.ha), (by rw [lo 0 (by decide)]; exact h.rul), h.t20, (by rw [lo 0 (by decide)]; exact h.sX), h.sM, (by rw [lo 0 (by decide)]; exact h.lit), (by rw [lo 0 (by decide)]; exact h.sta), (by rw [lo 4 (by decide), lo 21 (by decide)]; exact h.frm), x_cel1 h e40 e60 (fun c hc a _ _ => q_col hc) rfl hc, x_zer1 h hj (fun c hc a _ _ => q_col hc) rfl, (fun j hj => by rw [lo 9 (by decide), lo 10 (by decide)]; exact h.gat j hj), (fun S hS => by rw [lo 19 (by decide), lo 20 (by decide)]; exact h.shf S hS), (fun S hS i hi => h.num S hS i hi), (by rw [lo 32 (by decide)]; exact h.dig), (by rw [lo 13 (by decide)]; exact h.x13), (fun s h1 h2 => by rw [lo 11 (by decide)]; exact h.x11 s h1 h2)⟩
theorem x_set_gt {j : Nat} {v : Int32} (h : x_R n t tB f g F G) (hj : j < n) (hv : r_e 0 2 v v) : x_R n t tB (q_up f (j + 40) 3 v) g (q_up F 18 j v) G := by
  have e40 : ∀ c, c ≠ j → q_up f (j + 40) 3 v (c + 40) = f (c + 40) := fun c hc => q_up_ne (by omega)
  have e60 : ∀ c, q_up f (j + 40) 3 v (c + 60) = f (c + 60) := fun c => q_up_ne (by have := h.n10; omega)
  have hr := h.cel j hj
  have lo : ∀ a, a < 40 → q_up f (j + 40) 3 v a = f a := fun a ha => q_up_ne (by omega)
  have hc : r_C t (q_up f (j + 40) 3 v (j + 40)) (f (j + 60)) (g (j + 40)) (fun a => q_up F 18 j v a j) (fun k => F 30 (21 * j + k)) (fun a => G a j) := by
    rw [q_up_eq]
    exact ⟨hr.pw, hr.rt, hr.rk, (by show r_e 0 2 (va_up (f (j + 40)) 3 v 3) (q_up F 18 j v 18 j); rw [va_up_s, q_ups]; exact hv), hr.rn, hr.nd, hr.ak, hr.hd, hr.fb, hr.dk, hr.ld, hr.tm, hr.wt⟩
  exact ⟨h.n10, (by rw [lo 1 (by decide)]; exact h.cX), h.cM, h.t0, (by rw [lo 1 (by decide)]; exact h.bm), (by rw [lo 1 (by decide)]; exact h.lm), (by rw [lo 1 (by decide)]; exact h.la), (by rw [lo 1 (by decide)]; exact h.ha), (by rw [lo 0 (by decide)]; exact h.rul), h.t20, (by rw [lo 0 (by decide)]; exact h.sX), h.sM, (by rw [lo 0 (by decide)]; exact h.lit), (by rw [lo 0 (by decide)]; exact h.sta), (by rw [lo 4 (by decide), lo 21 (by decide)]; exact h.frm), x_cel1 h e40 e60 (fun c hc a _ _ => q_col hc) rfl hc, x_zer1 h hj (fun c hc a _ _ => q_col hc) rfl, (fun j hj => by rw [lo 9 (by decide), lo 10 (by decide)]; exact h.gat j hj), (fun S hS => by rw [lo 19 (by decide), lo 20 (by decide)]; exact h.shf S hS), (fun S hS i hi => h.num S hS i hi), (by rw [lo 32 (by decide)]; exact h.dig), (by rw [lo 13 (by decide)]; exact h.x13), (fun s h1 h2 => by rw [lo 11 (by decide)]; exact h.x11 s h1 h2)⟩
theorem x_set_hd {j : Nat} {v : Int32} (h : x_R n t tB f g F G) (hj : j < n) (hv : r_e 0 9 v v) : x_R n t tB (q_up f (j + 40) 7 v) g (q_up F 19 j v) G := by
  have e40 : ∀ c, c ≠ j → q_up f (j + 40) 7 v (c + 40) = f (c + 40) := fun c hc => q_up_ne (by omega)
  have e60 : ∀ c, q_up f (j + 40) 7 v (c + 60) = f (c + 60) := fun c => q_up_ne (by have := h.n10; omega)
  have hr := h.cel j hj
  have lo : ∀ a, a < 40 → q_up f (j + 40) 7 v a = f a := fun a ha => q_up_ne (by omega)
  have hc : r_C t (q_up f (j + 40) 7 v (j + 40)) (f (j + 60)) (g (j + 40)) (fun a => q_up F 19 j v a j) (fun k => F 30 (21 * j + k)) (fun a => G a j) := by
    rw [q_up_eq]
    exact ⟨hr.pw, hr.rt, hr.rk, hr.gt, hr.rn, hr.nd, hr.ak, (by show r_e 0 9 (va_up (f (j + 40)) 7 v 7) (q_up F 19 j v 19 j); rw [va_up_s, q_ups]; exact hv), hr.fb, hr.dk, hr.ld, hr.tm, hr.wt⟩
  exact ⟨h.n10, (by rw [lo 1 (by decide)]; exact h.cX), h.cM, h.t0, (by rw [lo 1 (by decide)]; exact h.bm), (by rw [lo 1 (by decide)]; exact h.lm), (by rw [lo 1 (by decide)]; exact h.la), (by rw [lo 1 (by decide)]; exact h.ha), (by rw [lo 0 (by decide)]; exact h.rul), h.t20, (by rw [lo 0 (by decide)]; exact h.sX), h.sM, (by rw [lo 0 (by decide)]; exact h.lit), (by rw [lo 0 (by decide)]; exact h.sta), (by rw [lo 4 (by decide), lo 21 (by decide)]; exact h.frm), x_cel1 h e40 e60 (fun c hc a _ _ => q_col hc) rfl hc, x_zer1 h hj (fun c hc a _ _ => q_col hc) rfl, (fun j hj => by rw [lo 9 (by decide), lo 10 (by decide)]; exact h.gat j hj), (fun S hS => by rw [lo 19 (by decide), lo 20 (by decide)]; exact h.shf S hS), (fun S hS i hi => h.num S hS i hi), (by rw [lo 32 (by decide)]; exact h.dig), (by rw [lo 13 (by decide)]; exact h.x13), (fun s h1 h2 => by rw [lo 11 (by decide)]; exact h.x11 s h1 h2)⟩
theorem r_lt {c : Int32} (hc : 0 ≤ c.toInt ∧ c.toInt < n) : c.toNatClampNeg < n := by show c.toInt.toNat < n; omega
theorem r_rain (h : x_R n t tB f g F G) {c x vx vm : Int32} {hx hm : PH}
    (px : (∃ j : Nat, j < n ∧ c = nI j ∧ (0 ≤ x.toInt ∧ x.toInt ≤ 2) ∧ vx = f (j + 40) 4 ∧ hx = (q_up f (j + 40) 4 x, g, rfX n sB tB)) ∨ (¬ ((0 ≤ c.toInt ∧ c.toInt < n) ∧ (0 ≤ x.toInt ∧ x.toInt ≤ 2)) ∧ vx = -2 ∧ hx = (f, g, rfX n sB tB)))
    (pm : (∃ j : Nat, j < n ∧ c = nI j ∧ (0 ≤ x.toInt ∧ x.toInt ≤ 2) ∧ vm = F 22 j ∧ hm = (q_up F 22 j x, G, rfM)) ∨ (¬ ((0 ≤ c.toInt ∧ c.toInt < n) ∧ (0 ≤ x.toInt ∧ x.toInt ≤ 2)) ∧ vm = -2 ∧ hm = (F, G, rfM))) : vx = vm ∧ x_Q (alX n sB tB) hx hm := by
  have n10 := h.n10
  have ki : ∀ j, j < n → c = nI j → 0 ≤ c.toInt ∧ c.toInt < n := fun j hj e => by rw [e, nI_toInt (by omega)]; omega
  rcases px with ⟨j, hj, e, hxr, rfl, rfl⟩ | ⟨c1, rfl, rfl⟩ <;> rcases pm with ⟨i, hi, e2, hxr2, rfl, rfl⟩ | ⟨c2, rfl, rfl⟩
  · have eij : i = j := (nI_eq (by omega) (by omega)).mp (e2.symm.trans e)
    subst eij
    exact ⟨r_e_eq (h.cel i hi).rn, (x_set_rn h hi (r_e_of hxr)).Q⟩
  · exact absurd ⟨ki j hj e, hxr⟩ c2
  · exact absurd ⟨ki i hi e2, hxr2⟩ c1
  · exact ⟨rfl, h.Q⟩
theorem r_swap (h : x_R n t tB f g F G) {c x vx vm : Int32} {hx hm : PH}
    (px : (∃ j : Nat, j < n ∧ c = nI j ∧ (0 ≤ x.toInt ∧ x.toInt ≤ 2) ∧ ¬ f (j + 40) 3 = x ∧ ((0 < f (j + 40) 7 ∧ vx = -7 ∧ hx = (f, g, rfX n sB tB)) ∨ (¬ 0 < f (j + 40) 7 ∧ vx = 0 ∧ hx = (q_up (q_up f (j + 40) 3 x) (j + 40) 7 (f 1 7), g, rfX n sB tB)))) ∨ (¬ ((0 ≤ c.toInt ∧ c.toInt < n) ∧ (0 ≤ x.toInt ∧ x.toInt ≤ 2) ∧ ¬ f (c.toNatClampNeg + 40) 3 = x) ∧ vx = -2 ∧ hx = (f, g, rfX n sB tB)))
    (pm : (∃ j : Nat, j < n ∧ c = nI j ∧ (0 ≤ x.toInt ∧ x.toInt ≤ 2) ∧ ¬ F 18 j = x ∧ ((0 < F 19 j ∧ vm = -7 ∧ hm = (F, G, rfM)) ∨ (¬ 0 < F 19 j ∧ vm = 0 ∧ hm = (q_up (q_up F 18 j x) 19 j (F 0 9), G, rfM)))) ∨ (¬ ((0 ≤ c.toInt ∧ c.toInt < n) ∧ (0 ≤ x.toInt ∧ x.toInt ≤ 2) ∧ ¬ F 18 c.toNatClampNeg = x) ∧ vm = -2 ∧ hm = (F, G, rfM))) : vx = vm ∧ x_Q (alX n sB tB) hx hm := by
  have n10 := h.n10
  have ki : ∀ j, j < n → c = nI j → (0 ≤ c.toInt ∧ c.toInt < n) ∧ c.toNatClampNeg = j := fun j hj e => by rw [e, nI_toInt (by omega), nI_clamp (by omega)]; omega
  have eg : ∀ j, j < n → f (j + 40) 3 = F 18 j := fun j hj => r_e_eq (h.cel j hj).gt
  have eh : ∀ j, j < n → f (j + 40) 7 = F 19 j := fun j hj => r_e_eq (h.cel j hj).hd
  rcases px with ⟨j, hj, e, hxr, hne, px⟩ | ⟨c1, rfl, rfl⟩ <;> rcases pm with ⟨i, hi, e2, hxr2, hne2, pm⟩ | ⟨c2, rfl, rfl⟩
  · have eij : i = j := (nI_eq (by omega) (by omega)).mp (e2.symm.trans e)
    subst eij
    rcases px with ⟨q, rfl, rfl⟩ | ⟨q, rfl, rfl⟩ <;> rcases pm with ⟨q2, rfl, rfl⟩ | ⟨q2, rfl, rfl⟩
    · exact ⟨rfl, h.Q⟩
    · exact absurd (eh i hi ▸ q) q2
    · exact absurd ((eh i hi).symm ▸ q2) q
    · have h1 := x_set_gt h hi (r_e_of hxr)
      have e9 : f 1 7 = F 0 9 := r_e_eq h.ha
      have h2 := x_set_hd h1 hi (v := F 0 9) (by obtain ⟨k, k1, k2, k3, k4⟩ := h.ha; exact ⟨k, k1, k2, k4, k4⟩)
      rw [e9]
      exact ⟨rfl, h2.Q⟩
  · refine absurd ⟨(ki j hj e).1, hxr, ?_⟩ c2
    rw [(ki j hj e).2, ← eg j hj]; exact hne
  · refine absurd ⟨(ki i hi e2).1, hxr2, ?_⟩ c1
    rw [(ki i hi e2).2, eg i hi]; exact hne2
  · exact ⟨rfl, h.Q⟩
set_option maxRecDepth 100000 in
theorem r_xorb : ∀ s, s < 1024 → ∀ b, b < 10 → ∃ k : Nat, k ≤ 1023 ∧ nI s ^^^ (1 <<< (nI b &&& 31)) = nI k := fun s hs b hb => ⟨s ^^^ 2 ^ b, by
  have := Nat.xor_lt_two_pow (n := 10) hs (Nat.pow_lt_pow_right (by decide) hb)
  omega, by rw [q_shl1 b (by omega), nx_xor]⟩
theorem r_forbid (h : x_R n t tB f g F G) {a b u vx vm : Int32} (hu : u = 0 ∨ u = 1) {hx hm : PH}
    (px : (∃ A B : Nat, A < n ∧ B < n ∧ a = nI A ∧ b = nI B ∧ ¬ a = b ∧ ¬ q_b (¬ q_bit (f (A + 40) 8) b = 0) = u ∧ vx = 1 ∧ hx = (q_up (q_up f (A + 40) 8 (f (A + 40) 8 ^^^ (1 <<< (b &&& 31)))) (B + 40) 8 (f (B + 40) 8 ^^^ (1 <<< (a &&& 31))), g, rfX n sB tB)) ∨ (¬ ((0 ≤ a.toInt ∧ a.toInt < n) ∧ (0 ≤ b.toInt ∧ b.toInt < n) ∧ ¬ a = b ∧ ¬ q_b (¬ q_bit (f (a.toNatClampNeg + 40) 8) b = 0) = u) ∧ vx = 0 ∧ hx = (f, g, rfX n sB tB)))
    (pm : (∃ A B : Nat, A < n ∧ B < n ∧ a = nI A ∧ b = nI B ∧ ¬ a = b ∧ ¬ q_bit (F 23 A) b = u ∧ vm = 1 ∧ hm = (q_up (q_up F 23 A (F 23 A ^^^ (1 <<< (b &&& 31)))) 23 B (F 23 B ^^^ (1 <<< (a &&& 31))), G, rfM)) ∨ (¬ ((0 ≤ a.toInt ∧ a.toInt < n) ∧ (0 ≤ b.toInt ∧ b.toInt < n) ∧ ¬ a = b ∧ ¬ q_bit (F 23 a.toNatClampNeg) b = u) ∧ vm = 0 ∧ hm = (F, G, rfM))) : vx = vm ∧ x_Q (alX n sB tB) hx hm := by
  have n10 := h.n10
  have ki : ∀ (c : Int32) j, j < n → c = nI j → (0 ≤ c.toInt ∧ c.toInt < n) ∧ c.toNatClampNeg = j := fun c j hj e => by rw [e, nI_toInt (by omega), nI_clamp (by omega)]; omega
  have ef : ∀ j, j < n → ∃ k : Nat, k ≤ 1023 ∧ f (j + 40) 8 = nI k ∧ F 23 j = nI k := fun j hj => by obtain ⟨k, -, k2, k3, k4⟩ := (h.cel j hj).fb; exact ⟨k, k2, k3, k4⟩
  have eb : ∀ A B : Nat, A < n → B < n → b = nI B → q_b (¬ q_bit (f (A + 40) 8) b = 0) = q_bit (F 23 A) b := fun A B hA hB e => by
    obtain ⟨k, k1, k2, k3⟩ := ef A hA
    rw [k2, k3, e, q_bitA k (by omega) B (by omega)]
    split <;> rfl
  rcases px with ⟨A, B, hA, hB, ea, eb1, hne, hq, rfl, rfl⟩ | ⟨c1, rfl, rfl⟩ <;> rcases pm with ⟨A2, B2, hA2, hB2, ea2, eb2, hne2, hq2, rfl, rfl⟩ | ⟨c2, rfl, rfl⟩
  · have e1 : A2 = A := (nI_eq (by omega) (by omega)).mp (ea2.symm.trans ea)
    have e2 : B2 = B := (nI_eq (by omega) (by omega)).mp (eb2.symm.trans eb1)
    subst e1; subst e2
    have hAB : A2 ≠ B2 := fun q => hne (by rw [ea, eb1, q])
    obtain ⟨k, k1, k2, k3⟩ := ef A2 hA
    obtain ⟨l, l1, l2, l3⟩ := ef B2 hB
    obtain ⟨x, x1, x2⟩ := r_xorb k (by omega) B2 (by omega)
    obtain ⟨y, y1, y2⟩ := r_xorb l (by omega) A2 (by omega)
    refine ⟨rfl, ?_⟩
    rw [k2, k3, l2, l3, ea, eb1, x2, y2]
    exact (x_set_fb (x_set_fb h hA ⟨x, by omega, x1, rfl, rfl⟩) hB ⟨y, by omega, y1, rfl, rfl⟩).Q
  · refine absurd ⟨(ki a A hA ea).1, (ki b B hB eb1).1, hne, ?_⟩ c2
    rw [(ki a A hA ea).2, ← eb A B hA hB eb1]; exact hq
  · refine absurd ⟨(ki a A2 hA2 ea2).1, (ki b B2 hB2 eb2).1, hne2, ?_⟩ c1
    rw [(ki a A2 hA2 ea2).2, eb A2 B2 hA2 hB2 eb2]; exact hq2
  · exact ⟨rfl, h.Q⟩
theorem r_gateway (h : x_R n t tB f g F G) {c x u vx vm : Int32} {hx hm : PH}
    (px : (∃ j : Nat, j < 3 ∧ c = nI j ∧ (0 ≤ x.toInt ∧ x.toInt ≤ 10) ∧ vx = 0 ∧ hx = (q_up (q_up f 9 j x) 10 j u, g, rfX n sB tB)) ∨ (¬ ((0 ≤ c.toInt ∧ c.toInt ≤ 2) ∧ (0 ≤ x.toInt ∧ x.toInt ≤ 10)) ∧ vx = -2 ∧ hx = (f, g, rfX n sB tB)))
    (pm : (∃ j : Nat, j < 3 ∧ c = nI j ∧ (0 ≤ x.toInt ∧ x.toInt ≤ 10) ∧ vm = 0 ∧ hm = (q_up (q_up F 27 j x) 28 j u, G, rfM)) ∨ (¬ ((0 ≤ c.toInt ∧ c.toInt ≤ 2) ∧ (0 ≤ x.toInt ∧ x.toInt ≤ 10)) ∧ vm = -2 ∧ hm = (F, G, rfM))) : vx = vm ∧ x_Q (alX n sB tB) hx hm := by
  have ki : ∀ j, j < 3 → c = nI j → 0 ≤ c.toInt ∧ c.toInt ≤ 2 := fun j hj e => by rw [e, nI_toInt (by omega)]; omega
  rcases px with ⟨j, hj, e, hxr, rfl, rfl⟩ | ⟨c1, rfl, rfl⟩ <;> rcases pm with ⟨i, hi, e2, hxr2, rfl, rfl⟩ | ⟨c2, rfl, rfl⟩
  · have eij : i = j := (nI_eq (by omega) (by omega)).mp (e2.symm.trans e)
    subst eij
    refine ⟨rfl, x_R.Q (t := t) ?_⟩
    exact ⟨h.n10, h.cX, h.cM, h.t0, h.bm, h.lm, h.la, h.ha, h.rul, h.t20, h.sX, h.sM, h.lit, h.sta, h.frm, (fun c hc => h.cel c hc), (fun c h1 h2 => h.zer c h1 h2), (fun k hk => by
      show r_e 0 10 (q_up (q_up f 9 i x) 10 i u 9 k) (q_up (q_up F 27 i x) 28 i u 27 k) ∧ q_up (q_up f 9 i x) 10 i u 10 k = q_up (q_up F 27 i x) 28 i u 28 k
      rw [q_up_ne (show 9 ≠ 10 by decide), q_up_ne (show 27 ≠ 28 by decide), q_up_eq, q_up_eq, q_up_eq, q_up_eq, q_up_ne (show 10 ≠ 9 by decide), q_up_ne (show 28 ≠ 27 by decide)]
      by_cases ek : k = i
      · subst ek; rw [va_up_s, va_up_s, va_up_s, va_up_s]; exact ⟨r_e_of hxr, rfl⟩
      · rw [va_up_n ek, va_up_n ek, va_up_n ek, va_up_n ek]; exact h.gat k hk), (fun S hS => h.shf S hS), (fun S hS i hi => h.num S hS i hi), h.dig, h.x13, (fun s h1 h2 => h.x11 s h1 h2)⟩
  · exact absurd ⟨ki j hj e, hxr⟩ c2
  · exact absurd ⟨ki i hi e2, hxr2⟩ c1
  · exact ⟨rfl, h.Q⟩
theorem r_frame (h : x_R n t tB f g F G) {m : Nat} (hm1 : f 4 1 = nI m) (hm9 : m ≤ 90) {m2 : Nat} (hm2 : F 0 13 = nI m2) (hm10 : m2 ≤ 100) {x vx vm : Int32} {hx hm : PH} (px : vx = (if 0 ≤ x.toInt ∧ x.toInt < m then f 21 x.toNatClampNeg else -1) ∧ hx = (f, g, rfX n sB tB)) (pm : vm = (if 0 ≤ x.toInt ∧ x.toInt < m2 then F 29 x.toNatClampNeg else -1) ∧ hm = (F, G, rfM)) : vx = vm ∧ x_Q (alX n sB tB) hx hm := by
  obtain ⟨rfl, rfl⟩ := px; obtain ⟨rfl, rfl⟩ := pm
  refine ⟨?_, h.Q⟩
  obtain ⟨k, hk, e1, e2, hr⟩ := h.frm
  have a1 : m = k := (nI_eq (by omega) (by omega)).mp (hm1.symm.trans e1)
  have a2 : m2 = k := (nI_eq (by omega) (by omega)).mp (hm2.symm.trans e2)
  subst a1; subst a2
  by_cases q : 0 ≤ x.toInt ∧ x.toInt < m2
  · rw [if_pos q, if_pos q, (hr _ (by show x.toInt.toNat < m2; omega)).1]
  · rw [if_neg q, if_neg q]
theorem r_digit (h : x_R n t tB f g F G) {m : Nat} (hm1 : F 0 46 = nI m) (hm9 : m ≤ 360) {x vx vm : Int32} {hx hm : PH} (px : vx = (if x.toInt < 0 then -2 else if tB = true then (if 0 ≤ x.toInt ∧ x.toInt < 72 then f 32 x.toNatClampNeg else 0) else 0) ∧ hx = (f, g, rfX n sB tB)) (pm : vm = (if x.toInt < 0 then -2 else if x.toInt < m then F 45 x.toNatClampNeg else 0) ∧ hm = (F, G, rfM)) : vx = vm ∧ x_Q (alX n sB tB) hx hm := by
  obtain ⟨rfl, rfl⟩ := px; obtain ⟨rfl, rfl⟩ := pm
  refine ⟨?_, h.Q⟩
  by_cases q : x.toInt < 0
  · rw [if_pos q, if_pos q]
  · rw [if_neg q, if_neg q]
    rcases h.dig with ⟨e, h0⟩ | ⟨e, d, hd, e2, hlt, hge⟩
    · have a1 : m = 0 := (nI_eq (b := 0) (by omega) (by omega)).mp (hm1.symm.trans h0)
      subst e
      rw [if_neg (by decide), if_neg (by omega)]
    · have a1 : m = d := (nI_eq (by omega) (by omega)).mp (hm1.symm.trans e2)
      subst a1; subst e
      rw [if_pos rfl]
      by_cases q2 : x.toInt < m
      · rw [if_pos q2, if_pos (by omega), hlt _ (by show x.toInt.toNat < m; omega)]
      · rw [if_neg q2]
        by_cases q3 : 0 ≤ x.toInt ∧ x.toInt < 72
        · rw [if_pos q3, hge _ (by show m ≤ x.toInt.toNat; omega) (by show x.toInt.toNat < 72; omega)]
        · rw [if_neg q3]
theorem nI_sm {v : Nat → Nat} {a : Nat → Int32} : ∀ {k : Nat}, (∀ j, j < k → a j = nI (v j)) → q_sum a k = nI (z_sm v k)
  | 0, _ => rfl
  | k + 1, h => by rw [q_sum, z_sm, nI_sm (fun j hj => h j (by omega)), h k (by omega), nI_add]
theorem q_old_congr {a b : Nat → Int32} : ∀ {k : Nat}, (∀ j, j < k → a j = b j) → q_old a k = q_old b k
  | 0, _ => rfl
  | k + 1, h => by rw [q_old, q_old, q_old_congr (fun j hj => h j (by omega)), h k (by omega)]
theorem r_cellOf (h : x_R n t tB f g F G) {c x vx vm : Int32} {hx hm : PH} (px : vx = (if 0 ≤ c.toInt ∧ c.toInt < n then q_celX f g c.toNatClampNeg x else -2) ∧ hx = (f, g, rfX n sB tB)) (pm : vm = (if 0 ≤ c.toInt ∧ c.toInt < n then q_cel F c.toNatClampNeg x else -2) ∧ hm = (F, G, rfM)) : vx = vm ∧ x_Q (alX n sB tB) hx hm := by
  obtain ⟨rfl, rfl⟩ := px; obtain ⟨rfl, rfl⟩ := pm
  refine ⟨?_, h.Q⟩
  by_cases hc : 0 ≤ c.toInt ∧ c.toInt < n
  · rw [if_pos hc, if_pos hc]
    have hlt := r_lt hc
    generalize c.toNatClampNeg = j at hlt
    have hr := h.cel j hlt
    obtain ⟨v, cm, sn, ls, hv, -, h1, h2, h3, hs, hcm⟩ := hr.wt
    have t20 := h.t20
    have e6 : (g (j + 40) 10 - g (j + 40) 11 - g (j + 40) 12).toInt32 = q_sum (fun k => F 30 (21 * j + k)) 21 := by
      rw [h1.1, h2.1, h3.1, lN_sub (by omega), lN_sub (by omega), lN_i, nI_sm (v := v) (fun k hk => (hv k hk).2)]
      congr 1
      omega
    have e7 : q_old (f (j + 60)) 21 = q_old (fun k => F 30 (21 * j + k)) 21 := q_old_congr (fun k hk => (hv k hk).1.trans (hv k hk).2.symm)
    unfold q_celX q_cel
    rw [e6, e7, r_e_eq hr.pw, r_e_eq hr.rn, r_e_eq hr.rt, r_e_eq hr.gt, r_e_eq hr.hd, r_e_eq hr.nd, r_e_eq hr.ak, hr.ld, hr.tm, r_e_eq hr.fb, r_e_eq hr.rk]
  · rw [if_neg hc, if_neg hc]
theorem r_count (h : x_R n t tB f g F G) {x vx vm : Int32} {hx hm : PH} (px : vx = q_cntX f x ∧ hx = (f, g, rfX n sB tB)) (pm : vm = q_cnt (F 0) (F 1) x ∧ hm = (F, G, rfM)) : vx = vm ∧ x_Q (alX n sB tB) hx hm := by
  obtain ⟨rfl, rfl⟩ := px; obtain ⟨rfl, rfl⟩ := pm
  refine ⟨?_, h.Q⟩
  obtain ⟨m, -, e1, e2, -⟩ := h.frm
  have e9 : q_sum (fun s => if f 20 s = -1 then 0 else 1) 4 = q_sum (fun s => if F 1 s < 0 then 0 else 1) 4 := q_sum_congr (fun S hS => by
    rcases h.shf S (by omega) with ⟨q1, q2, -⟩ | ⟨u, z, hu, hz, q1, -, -, q2⟩
    · rw [if_pos q2, q1, if_pos (by decide)]
    · rw [if_neg (by rw [q2]; exact fun q => absurd (congrArg Int32.toInt q) (by rw [nI_toInt (by omega), show (-1 : Int32).toInt = -1 from rfl]; omega)), q1, if_neg (nI_pos (by omega))])
  unfold q_cntX q_cnt
  rw [h.cX, h.cM, r_e_eq h.bm, r_e_eq h.lm, r_e_eq h.la, r_e_eq h.ha, h.sX, h.sM, r_e_eq h.rul, e1, e2, h.sta, e9]
theorem r_gatewayOf (h : x_R n t tB f g F G) {y x vx vm : Int32} {hx hm : PH} (px : vx = q_gwo (f 9) (f 10) (fun c => f (c + 40) 3) n y x ∧ hx = (f, g, rfX n sB tB)) (pm : vm = q_gwo (F 27) (F 28) (F 18) n y x ∧ hm = (F, G, rfM)) : vx = vm ∧ x_Q (alX n sB tB) hx hm := by
  obtain ⟨rfl, rfl⟩ := px; obtain ⟨rfl, rfl⟩ := pm
  refine ⟨?_, h.Q⟩
  have es : q_sum (fun c => if f (c + 40) 3 = y then 1 else 0) n = q_sum (fun c => if F 18 c = y then 1 else 0) n := q_sum_congr (fun c hc => by rw [r_e_eq (h.cel c hc).gt])
  unfold q_gwo
  rw [es]
  by_cases q : 0 ≤ y.toInt ∧ y.toInt ≤ 2
  · have hj : y.toNatClampNeg < 3 := by show y.toInt.toNat < 3; omega
    rw [r_e_eq (h.gat _ hj).1, (h.gat _ hj).2]
  · rw [if_pos q, if_pos q]
end RM
