/-! the methods one by one: the shelf, needs, asks, cell -/
section RN
variable {n t : Nat} {sB tB : Bool} {f : Nat → Nat → Int32} {g : Nat → Nat → Int64} {F : Nat → Nat → Int32} {G : Nat → Nat → Int64}
theorem nI_ne1 {z : Nat} (hz : z < 2 ^ 31) : ¬ nI z = -1 := fun q => absurd (congrArg Int32.toInt q) (by rw [nI_toInt hz, show (-1 : Int32).toInt = -1 from rfl]; omega)
theorem i64_e {x : Int64} {hi : Nat} (h : 0 ≤ x.toInt ∧ x.toInt ≤ hi) (hh : hi < 2 ^ 31) : r_e 0 hi x.toInt32 x.toInt32 := by
  have e : x = lN x.toInt.toNat := Int64.toInt_inj.mp (by rw [pf_lI (by omega)]; omega)
  refine ⟨x.toInt.toNat, by omega, by omega, ?_, ?_⟩ <;> (rw [e, lN_i, ← e])
theorem s_clamp {s : Int32} (h : 0 ≤ s.toInt ∧ s.toInt ≤ 3) : s.toNatClampNeg ≤ 3 ∧ s = nI s.toNatClampNeg := by
  have h1 : s.toNatClampNeg = s.toInt.toNat := rfl
  refine ⟨by rw [h1]; omega, ?_⟩
  apply Int32.toInt_inj.mp
  rw [nI_toInt (by rw [h1]; omega), h1]
  omega
theorem r_ref (h : x_R n t tB f g F G) (s : Int32) (top : Int) : q_rfX (f 20) (q_nbX g) n s top = q_ref (F 1) (F 2) (q_nbM G) n s top := by
  have n10 := h.n10
  unfold q_rfX q_ref
  by_cases q : 0 ≤ s.toInt ∧ s.toInt ≤ 3
  · rw [if_neg (Classical.not_not.mpr q), if_neg (Classical.not_not.mpr q)]
    have hS := (s_clamp q).1
    generalize s.toNatClampNeg = S at hS
    rcases h.shf S hS with ⟨q1, q2, -⟩ | ⟨u, z, hu, hz, q1, -, q3, q2⟩
    · rw [if_pos q2, q1, if_pos (by decide)]
    · rw [q2, q1, q3, if_neg (nI_ne1 (by omega)), if_neg (nI_pos (by omega))]
      have e : ∀ c, c < n → q_nbX g S c = q_nbM G S c := fun c hc => h.num S hS c (by omega)
      have e2 : (∀ c, c < n → (0 ≤ (q_nbX g S c).toInt ∧ (q_nbX g S c).toInt ≤ top)) ↔ (∀ c, c < n → (0 ≤ (q_nbM G S c).toInt ∧ (q_nbM G S c).toInt ≤ top)) :=
        ⟨fun k c hc => by rw [← e c hc]; exact k c hc, fun k c hc => by rw [e c hc]; exact k c hc⟩
      by_cases e3 : nI z < nI n
      · rw [if_pos e3, if_pos e3]
      · rw [if_neg e3, if_neg e3]
        by_cases e4 : ∀ c, c < n → (0 ≤ (q_nbX g S c).toInt ∧ (q_nbX g S c).toInt ≤ top)
        · rw [if_pos e4, if_pos (e2.mp e4)]
        · rw [if_neg e4, if_neg (fun k => e4 (e2.mpr k))]
  · rw [if_pos q, if_pos q]
theorem r_ref0 {ln : Nat → Int32} {nb : Nat → Nat → Int64} {s : Int32} {top : Int} (h : q_rfX ln nb n s top = 0) : (0 ≤ s.toInt ∧ s.toInt ≤ 3) ∧ ∀ c, c < n → 0 ≤ (nb s.toNatClampNeg c).toInt ∧ (nb s.toNatClampNeg c).toInt ≤ top := by
  unfold q_rfX at h
  by_cases q : 0 ≤ s.toInt ∧ s.toInt ≤ 3
  · rw [if_neg (Classical.not_not.mpr q)] at h
    split at h
    · exact absurd h (by decide)
    · split at h
      · exact absurd h (by decide)
      · split at h
        · rename_i k; exact ⟨q, k⟩
        · exact absurd h (by decide)
  · rw [if_pos q] at h
    exact absurd h (by decide)
theorem r_refn {wd sz : Nat → Int32} {nb : Nat → Nat → Int64} {s : Int32} {top : Int} : q_ref wd sz nb n s top < 0 ↔ ¬ q_ref wd sz nb n s top = 0 := by
  unfold q_ref
  split
  · decide
  · split
    · decide
    · split
      · decide
      · split <;> decide
theorem r_fill_nd (h : x_R n t tB f g F G) {v : Nat → Int32} (hv : ∀ c, c < n → r_e 0 9 (v c) (v c)) : x_R n t tB (fun a => if 40 ≤ a ∧ a < n + 40 then va_up (f a) 5 (v (a - 40)) else f a) g (q_fill F 20 0 n v) G := by
  have n10 := h.n10
  have e40 : ∀ c, c < n → (fun a => if 40 ≤ a ∧ a < n + 40 then va_up (f a) 5 (v (a - 40)) else f a) (c + 40) = va_up (f (c + 40)) 5 (v c) := fun c hc => by
    show (if 40 ≤ c + 40 ∧ c + 40 < n + 40 then va_up (f (c + 40)) 5 (v (c + 40 - 40)) else f (c + 40)) = _
    rw [if_pos (by omega), Nat.add_sub_cancel]
  have e60 : ∀ c, (fun a => if 40 ≤ a ∧ a < n + 40 then va_up (f a) 5 (v (a - 40)) else f a) (c + 60) = f (c + 60) := fun c => if_neg (by omega)
  have lo : ∀ a, a < 40 → (fun a => if 40 ≤ a ∧ a < n + 40 then va_up (f a) 5 (v (a - 40)) else f a) a = f a := fun a ha => if_neg (by omega)
  exact ⟨h.n10, (by rw [lo 1 (by decide)]; exact h.cX), h.cM, h.t0, (by rw [lo 1 (by decide)]; exact h.bm), (by rw [lo 1 (by decide)]; exact h.lm), (by rw [lo 1 (by decide)]; exact h.la), (by rw [lo 1 (by decide)]; exact h.ha), (by rw [lo 0 (by decide)]; exact h.rul), h.t20, (by rw [lo 0 (by decide)]; exact h.sX), h.sM, (by rw [lo 0 (by decide)]; exact h.lit), (by rw [lo 0 (by decide)]; exact h.sta), (by rw [lo 4 (by decide), lo 21 (by decide)]; exact h.frm), (fun c hc => by
    rw [e40 c hc, e60 c]
    have hr := h.cel c hc
    exact ⟨hr.pw, hr.rt, hr.rk, hr.gt, hr.rn, (by show r_e 0 9 (va_up (f (c + 40)) 5 (v c) 5) (q_fill F 20 0 n v 20 c); rw [va_up_s, q_fill_in (Nat.zero_le _) (by omega), Nat.sub_zero]; exact hv c hc), hr.ak, hr.hd, hr.fb, hr.dk, hr.ld, hr.tm, hr.wt⟩), (fun c h1 h2 => by
    have hr := h.zer c h1 h2
    have e0 : q_fill F 20 0 n v 20 c = F 20 c := q_fill_out (Or.inr (by omega))
    refine ⟨?_, hr.w, hr.g⟩
    have hz := hr.z
    dsimp only at hz ⊢
    rw [e0]
    exact hz), (fun j hj => by rw [lo 9 (by decide), lo 10 (by decide)]; exact h.gat j hj), (fun S hS => by rw [lo 19 (by decide), lo 20 (by decide)]; exact h.shf S hS), (fun S hS i hi => h.num S hS i hi), (by rw [lo 32 (by decide)]; exact h.dig), (by rw [lo 13 (by decide)]; exact h.x13), (fun s h1 h2 => by rw [lo 11 (by decide)]; exact h.x11 s h1 h2)⟩
theorem r_needs (h : x_R n t tB f g F G) {s vx vm : Int32} {hx hm : PH} (px : (¬ q_rfX (f 20) (q_nbX g) n s 9 = 0 ∧ vx = q_rfX (f 20) (q_nbX g) n s 9 ∧ hx = (f, g, rfX n sB tB)) ∨ (q_rfX (f 20) (q_nbX g) n s 9 = 0 ∧ vx = q_sum (fun c => (q_nbX g s.toNatClampNeg c).toInt32) n ∧ hx = (fun a => if 40 ≤ a ∧ a < n + 40 then va_up (f a) 5 (q_nbX g s.toNatClampNeg (a - 40)).toInt32 else f a, g, rfX n sB tB))) (pm : (q_ref (F 1) (F 2) (q_nbM G) n s 9 < 0 ∧ vm = q_ref (F 1) (F 2) (q_nbM G) n s 9 ∧ hm = (F, G, rfM)) ∨ (¬ q_ref (F 1) (F 2) (q_nbM G) n s 9 < 0 ∧ vm = q_sum (fun c => (q_nbM G s.toNatClampNeg c).toInt32) n ∧ hm = (q_fill F 20 0 n (fun c => (q_nbM G s.toNatClampNeg c).toInt32), G, rfM))) : vx = vm ∧ x_Q (alX n sB tB) hx hm := by
  have n10 := h.n10
  rw [r_refn, ← r_ref h] at pm
  rcases px with ⟨c, rfl, rfl⟩ | ⟨c, rfl, rfl⟩ <;> rcases pm with ⟨c2, rfl, rfl⟩ | ⟨c2, rfl, rfl⟩
  · exact ⟨rfl, h.Q⟩
  · exact absurd c c2
  · exact absurd c c2
  · obtain ⟨q, hb⟩ := r_ref0 c
    have hS := (s_clamp q).1
    have e : ∀ c, c < n → (q_nbX g s.toNatClampNeg c).toInt32 = (q_nbM G s.toNatClampNeg c).toInt32 := fun c hc => congrArg Int64.toInt32 (h.num _ hS c (by omega))
    refine ⟨q_sum_congr e, ?_⟩
    have hq := r_fill_nd h (v := fun c => (q_nbX g s.toNatClampNeg c).toInt32) (fun c hc => i64_e (hb c hc) (by decide))
    have ef : q_fill F 20 0 n (fun c => (q_nbX g s.toNatClampNeg c).toInt32) = q_fill F 20 0 n (fun c => (q_nbM G s.toNatClampNeg c).toInt32) := by
      funext a i
      by_cases ea : a = 20
      · subst ea
        by_cases ei : 0 ≤ i ∧ i < 0 + n
        · rw [q_fill_in ei.1 ei.2, q_fill_in ei.1 ei.2]; exact e _ (by omega)
        · rw [q_fill_out (by omega), q_fill_out (by omega)]
      · rw [q_fill_ne ea, q_fill_ne ea]
    rw [ef] at hq
    exact hq.Q
theorem r_fill_ak (h : x_R n t tB f g F G) {v : Nat → Int32} (hv : ∀ c, c < n → r_e 0 1000 (v c) (v c)) : x_R n t tB (fun a => if 40 ≤ a ∧ a < n + 40 then va_up (f a) 6 (v (a - 40)) else f a) g (q_fill F 21 0 n v) G := by
  have n10 := h.n10
  have e40 : ∀ c, c < n → (fun a => if 40 ≤ a ∧ a < n + 40 then va_up (f a) 6 (v (a - 40)) else f a) (c + 40) = va_up (f (c + 40)) 6 (v c) := fun c hc => by
    show (if 40 ≤ c + 40 ∧ c + 40 < n + 40 then va_up (f (c + 40)) 6 (v (c + 40 - 40)) else f (c + 40)) = _
    rw [if_pos (by omega), Nat.add_sub_cancel]
  have e60 : ∀ c, (fun a => if 40 ≤ a ∧ a < n + 40 then va_up (f a) 6 (v (a - 40)) else f a) (c + 60) = f (c + 60) := fun c => if_neg (by omega)
  have lo : ∀ a, a < 40 → (fun a => if 40 ≤ a ∧ a < n + 40 then va_up (f a) 6 (v (a - 40)) else f a) a = f a := fun a ha => if_neg (by omega)
  exact ⟨h.n10, (by rw [lo 1 (by decide)]; exact h.cX), h.cM, h.t0, (by rw [lo 1 (by decide)]; exact h.bm), (by rw [lo 1 (by decide)]; exact h.lm), (by rw [lo 1 (by decide)]; exact h.la), (by rw [lo 1 (by decide)]; exact h.ha), (by rw [lo 0 (by decide)]; exact h.rul), h.t20, (by rw [lo 0 (by decide)]; exact h.sX), h.sM, (by rw [lo 0 (by decide)]; exact h.lit), (by rw [lo 0 (by decide)]; exact h.sta), (by rw [lo 4 (by decide), lo 21 (by decide)]; exact h.frm), (fun c hc => by
    rw [e40 c hc, e60 c]
    have hr := h.cel c hc
    exact ⟨hr.pw, hr.rt, hr.rk, hr.gt, hr.rn, hr.nd, (by show r_e 0 1000 (va_up (f (c + 40)) 6 (v c) 6) (q_fill F 21 0 n v 21 c); rw [va_up_s, q_fill_in (Nat.zero_le _) (by omega), Nat.sub_zero]; exact hv c hc), hr.hd, hr.fb, hr.dk, hr.ld, hr.tm, hr.wt⟩), (fun c h1 h2 => by
    have hr := h.zer c h1 h2
    have e0 : q_fill F 21 0 n v 21 c = F 21 c := q_fill_out (Or.inr (by omega))
    refine ⟨?_, hr.w, hr.g⟩
    have hz := hr.z
    dsimp only at hz ⊢
    rw [e0]
    exact hz), (fun j hj => by rw [lo 9 (by decide), lo 10 (by decide)]; exact h.gat j hj), (fun S hS => by rw [lo 19 (by decide), lo 20 (by decide)]; exact h.shf S hS), (fun S hS i hi => h.num S hS i hi), (by rw [lo 32 (by decide)]; exact h.dig), (by rw [lo 13 (by decide)]; exact h.x13), (fun s h1 h2 => by rw [lo 11 (by decide)]; exact h.x11 s h1 h2)⟩
theorem r_asks (h : x_R n t tB f g F G) {s vx vm : Int32} {hx hm : PH} (px : (¬ q_rfX (f 20) (q_nbX g) n s 1000 = 0 ∧ vx = q_rfX (f 20) (q_nbX g) n s 1000 ∧ hx = (f, g, rfX n sB tB)) ∨ (q_rfX (f 20) (q_nbX g) n s 1000 = 0 ∧ vx = q_sum (fun c => (q_nbX g s.toNatClampNeg c).toInt32) n ∧ hx = (fun a => if 40 ≤ a ∧ a < n + 40 then va_up (f a) 6 (q_nbX g s.toNatClampNeg (a - 40)).toInt32 else f a, g, rfX n sB tB))) (pm : (q_ref (F 1) (F 2) (q_nbM G) n s 1000 < 0 ∧ vm = q_ref (F 1) (F 2) (q_nbM G) n s 1000 ∧ hm = (F, G, rfM)) ∨ (¬ q_ref (F 1) (F 2) (q_nbM G) n s 1000 < 0 ∧ vm = q_sum (fun c => (q_nbM G s.toNatClampNeg c).toInt32) n ∧ hm = (q_fill F 21 0 n (fun c => (q_nbM G s.toNatClampNeg c).toInt32), G, rfM))) : vx = vm ∧ x_Q (alX n sB tB) hx hm := by
  have n10 := h.n10
  rw [r_refn, ← r_ref h] at pm
  rcases px with ⟨c, rfl, rfl⟩ | ⟨c, rfl, rfl⟩ <;> rcases pm with ⟨c2, rfl, rfl⟩ | ⟨c2, rfl, rfl⟩
  · exact ⟨rfl, h.Q⟩
  · exact absurd c c2
  · exact absurd c c2
  · obtain ⟨q, hb⟩ := r_ref0 c
    have hS := (s_clamp q).1
    have e : ∀ c, c < n → (q_nbX g s.toNatClampNeg c).toInt32 = (q_nbM G s.toNatClampNeg c).toInt32 := fun c hc => congrArg Int64.toInt32 (h.num _ hS c (by omega))
    refine ⟨q_sum_congr e, ?_⟩
    have hq := r_fill_ak h (v := fun c => (q_nbX g s.toNatClampNeg c).toInt32) (fun c hc => i64_e (hb c hc) (by decide))
    have ef : q_fill F 21 0 n (fun c => (q_nbX g s.toNatClampNeg c).toInt32) = q_fill F 21 0 n (fun c => (q_nbM G s.toNatClampNeg c).toInt32) := by
      funext a i
      by_cases ea : a = 21
      · subst ea
        by_cases ei : 0 ≤ i ∧ i < 0 + n
        · rw [q_fill_in ei.1 ei.2, q_fill_in ei.1 ei.2]; exact e _ (by omega)
        · rw [q_fill_out (by omega), q_fill_out (by omega)]
      · rw [q_fill_ne ea, q_fill_ne ea]
    rw [ef] at hq
    exact hq.Q
theorem r_frameOf (h : x_R n t tB f g F G) {s vx vm : Int32} {hx hm : PH}
    (px : (¬ (0 ≤ s.toInt ∧ s.toInt ≤ 3) ∧ vx = -2 ∧ hx = (f, g, rfX n sB tB)) ∨ (∃ S : Nat, S ≤ 3 ∧ s = nI S ∧ ((f 20 S = -1 ∧ vx = -5 ∧ hx = (f, g, rfX n sB tB)) ∨ ∃ z : Nat, z ≤ 60 ∧ f 20 S = nI z ∧ ((z = 0 ∧ vx = -8 ∧ hx = (f, g, rfX n sB tB)) ∨ (0 < z ∧ ¬ (∀ k, k < q_min12 z → 0 ≤ (q_nbX g S k).toInt ∧ (q_nbX g S k).toInt < 2 ^ n) ∧ vx = -4 ∧ hx = (f, g, rfX n sB tB)) ∨ (0 < z ∧ (∀ k, k < q_min12 z → 0 ≤ (q_nbX g S k).toInt ∧ (q_nbX g S k).toInt < 2 ^ n) ∧ vx = nI (q_min12 z) ∧ hx = (q_up (q_fill f 21 0 (q_min12 z) (fun k => (q_nbX g S k).toInt32)) 4 1 (nI (q_min12 z)), g, rfX n sB tB))))))
    (pm : (¬ (0 ≤ s.toInt ∧ s.toInt ≤ 3) ∧ vm = -2 ∧ hm = (F, G, rfM)) ∨ (∃ S z : Nat, S ≤ 3 ∧ s = nI S ∧ z ≤ 60 ∧ F 2 S = nI z ∧ ((F 1 S < 0 ∧ vm = -5 ∧ hm = (F, G, rfM)) ∨ (¬ F 1 S < 0 ∧ z = 0 ∧ vm = -8 ∧ hm = (F, G, rfM)) ∨ (¬ F 1 S < 0 ∧ 0 < z ∧ ¬ (∀ k, k < q_min12 z → 0 ≤ (q_nbM G S k).toInt ∧ (q_nbM G S k).toInt < 2 ^ n) ∧ vm = -4 ∧ hm = (F, G, rfM)) ∨ (¬ F 1 S < 0 ∧ 0 < z ∧ (∀ k, k < q_min12 z → 0 ≤ (q_nbM G S k).toInt ∧ (q_nbM G S k).toInt < 2 ^ n) ∧ vm = nI (q_min12 z) ∧ hm = (q_up (q_fill F 29 0 (q_min12 z) (fun k => (q_nbM G S k).toInt32)) 0 13 (nI (q_min12 z)), G, rfM))))) : vx = vm ∧ x_Q (alX n sB tB) hx hm := by
  have n10 := h.n10
  have p10 : 2 ^ n ≤ 2 ^ 10 := Nat.pow_le_pow_right (by decide) n10
  have ks : ∀ S, S ≤ 3 → s = nI S → 0 ≤ s.toInt ∧ s.toInt ≤ 3 := fun S hS e => by rw [e, nI_toInt (by omega)]; omega
  rcases px with ⟨c, rfl, rfl⟩ | ⟨S, hS, eS, px⟩
  · rcases pm with ⟨c2, rfl, rfl⟩ | ⟨S2, z2, hS2, eS2, -⟩
    · exact ⟨rfl, h.Q⟩
    · exact absurd (ks S2 hS2 eS2) c
  · rcases pm with ⟨c2, rfl, rfl⟩ | ⟨S2, z2, hS2, eS2, hz2, ez2, pm⟩
    · exact absurd (ks S hS eS) c2
    · have eSS : S2 = S := (nI_eq (by omega) (by omega)).mp (eS2.symm.trans eS)
      subst eSS
      rcases h.shf S2 hS with ⟨q1, q2, -⟩ | ⟨u, z, hu, hz, q1, -, q3, q2⟩
      · have a1 : F 1 S2 < 0 := by rw [q1]; decide
        rcases px with ⟨-, rfl, rfl⟩ | ⟨z, hz, e, -⟩
        · rcases pm with ⟨-, rfl, rfl⟩ | ⟨c, -⟩ | ⟨c, -⟩ | ⟨c, -⟩
          · exact ⟨rfl, h.Q⟩
          · exact absurd a1 c
          · exact absurd a1 c
          · exact absurd a1 c
        · exact absurd (e.symm.trans q2) (nI_ne1 (by omega))
      · have a1 : ¬ F 1 S2 < 0 := by rw [q1]; exact nI_pos (by omega)
        have ez : z2 = z := (nI_eq (by omega) (by omega)).mp (ez2.symm.trans q3)
        subst ez
        have em : q_min12 z2 ≤ 12 ∧ q_min12 z2 ≤ z2 := by unfold q_min12; split <;> omega
        have e : ∀ k, k < q_min12 z2 → q_nbX g S2 k = q_nbM G S2 k := fun k hk => h.num S2 hS k (by omega)
        have e2 : (∀ k, k < q_min12 z2 → 0 ≤ (q_nbX g S2 k).toInt ∧ (q_nbX g S2 k).toInt < 2 ^ n) ↔ (∀ k, k < q_min12 z2 → 0 ≤ (q_nbM G S2 k).toInt ∧ (q_nbM G S2 k).toInt < 2 ^ n) :=
          ⟨fun k c hc => by rw [← e c hc]; exact k c hc, fun k c hc => by rw [e c hc]; exact k c hc⟩
        rcases px with ⟨c, -, -⟩ | ⟨z, hz', e1, px⟩
        · exact absurd (q2.symm.trans c) (nI_ne1 (by omega))
        · have ez : z = z2 := (nI_eq (by omega) (by omega)).mp (e1.symm.trans q2)
          subst ez
          rcases pm with ⟨c, -⟩ | ⟨-, d, rfl, rfl⟩ | ⟨-, d, d2, rfl, rfl⟩ | ⟨-, d, d2, rfl, rfl⟩
          · exact absurd c a1
          · rcases px with ⟨-, rfl, rfl⟩ | ⟨c, -⟩ | ⟨c, -⟩
            · exact ⟨rfl, h.Q⟩
            · omega
            · omega
          · rcases px with ⟨c, -⟩ | ⟨-, -, rfl, rfl⟩ | ⟨-, c, -⟩
            · omega
            · exact ⟨rfl, h.Q⟩
            · exact absurd (e2.mp c) d2
          · rcases px with ⟨c, -⟩ | ⟨-, c, -⟩ | ⟨-, c, rfl, rfl⟩
            · omega
            · exact absurd (e2.mpr d2) c
            · refine ⟨rfl, x_R.Q (t := t) ?_⟩
              have hfrm : r_F n (nI (q_min12 z)) (q_fill f 21 0 (q_min12 z) (fun k => (q_nbX g S2 k).toInt32) 21) (nI (q_min12 z)) (q_fill F 29 0 (q_min12 z) (fun k => (q_nbM G S2 k).toInt32) 29) := by
                refine ⟨q_min12 z, by omega, rfl, rfl, fun i hi => ?_⟩
                rw [q_fill_in (Nat.zero_le _) (by omega), q_fill_in (Nat.zero_le _) (by omega), Nat.sub_zero]
                refine ⟨congrArg Int64.toInt32 (e i hi), ?_⟩
                have h1 := c i hi
                have h3 : (q_nbX g S2 i).toInt ≤ ((1023 : Nat) : Int) := by
                  have h2 : ((2 ^ n : Nat) : Int) ≤ 1024 := by omega
                  rw [Int.natCast_pow] at h2
                  have h4 := h1.2
                  have h5 : ((2 : Nat) : Int) = 2 := rfl
                  rw [h5] at h2
                  omega
                obtain ⟨k, -, k2, k3, -⟩ := i64_e (hi := 1023) ⟨h1.1, h3⟩ (by decide)
                have h6 : (q_nbX g S2 i).toInt = k := by
                  have e : q_nbX g S2 i = lN (q_nbX g S2 i).toInt.toNat := Int64.toInt_inj.mp (by rw [pf_lI (by omega)]; omega)
                  have e2 := k3
                  rw [e, lN_i] at e2
                  have e3 := (nI_eq (by omega) (by omega)).mp e2
                  omega
                have h7 : k < 2 ^ n := by
                  have h4 := h1.2
                  rw [h6] at h4
                  have h5 : ((2 ^ n : Nat) : Int) = (2 : Int) ^ n := Int.natCast_pow 2 n
                  rw [← h5] at h4
                  omega
                exact ⟨k, h7, k3⟩
              exact ⟨h.n10, h.cX, h.cM, h.t0, h.bm, h.lm, h.la, h.ha, h.rul, h.t20, h.sX, h.sM, h.lit, h.sta, hfrm, (fun c hc => h.cel c hc), (fun c h1 h2 => h.zer c h1 h2), (fun j hj => h.gat j hj), (fun S hS => h.shf S hS), (fun S hS i hi => h.num S hS i hi), h.dig, h.x13, (fun s h1 h2 => h.x11 s h1 h2)⟩
theorem r_row (h : x_R n t tB f g F G) {s u m vx vm : Int32} {hx hm : PH}
    (px : (¬ ((0 ≤ s.toInt ∧ s.toInt ≤ 3) ∧ (0 ≤ u.toInt ∧ u.toInt ≤ 3) ∧ m.toInt ≤ 60) ∧ vx = -2 ∧ hx = (f, g, rfX n sB tB)) ∨ (((0 ≤ s.toInt ∧ s.toInt ≤ 3) ∧ (0 ≤ u.toInt ∧ u.toInt ≤ 3) ∧ m.toInt ≤ 60) ∧ m.toInt < 0 ∧ vx = -3 ∧ hx = (f, g, rfX n sB tB)) ∨ (∃ S : Nat, S ≤ 3 ∧ s = nI S ∧ (0 ≤ u.toInt ∧ u.toInt ≤ 3) ∧ (0 ≤ m.toInt ∧ m.toInt ≤ 60) ∧ vx = 0 ∧ hx = (q_up (q_up f 19 S u) 20 S m, q_fill g (S + 15) 0 60 (fun _ => 0), rfX n sB tB)))
    (pm : (¬ ((0 ≤ s.toInt ∧ s.toInt ≤ 3) ∧ (0 ≤ u.toInt ∧ u.toInt ≤ 3) ∧ m.toInt ≤ 60) ∧ vm = -2 ∧ hm = (F, G, rfM)) ∨ (((0 ≤ s.toInt ∧ s.toInt ≤ 3) ∧ (0 ≤ u.toInt ∧ u.toInt ≤ 3) ∧ m.toInt ≤ 60) ∧ m.toInt < 0 ∧ vm = -3 ∧ hm = (F, G, rfM)) ∨ (∃ S : Nat, S ≤ 3 ∧ s = nI S ∧ (0 ≤ u.toInt ∧ u.toInt ≤ 3) ∧ (0 ≤ m.toInt ∧ m.toInt ≤ 60) ∧ vm = 0 ∧ hm = (q_up (q_up F 1 S u) 2 S m, q_fill G 3 (60 * S) 60 (fun _ => 0), rfM))) : vx = vm ∧ x_Q (alX n sB tB) hx hm := by
  have ks : ∀ S, S ≤ 3 → s = nI S → 0 ≤ s.toInt ∧ s.toInt ≤ 3 := fun S hS e => by rw [e, nI_toInt (by omega)]; omega
  rcases px with ⟨c, rfl, rfl⟩ | ⟨c, d, rfl, rfl⟩ | ⟨S, hS, eS, hu, hm0, rfl, rfl⟩
  · rcases pm with ⟨c2, rfl, rfl⟩ | ⟨c2, d2, rfl, rfl⟩ | ⟨S2, hS2, eS2, hu2, hm2, rfl, rfl⟩
    · exact ⟨rfl, h.Q⟩
    · exact absurd c2 c
    · exact absurd ⟨ks S2 hS2 eS2, hu2, hm2.2⟩ c
  · rcases pm with ⟨c2, rfl, rfl⟩ | ⟨c2, d2, rfl, rfl⟩ | ⟨S2, hS2, eS2, hu2, hm2, rfl, rfl⟩
    · exact absurd c c2
    · exact ⟨rfl, h.Q⟩
    · omega
  · rcases pm with ⟨c2, rfl, rfl⟩ | ⟨c2, d2, rfl, rfl⟩ | ⟨S2, hS2, eS2, hu2, hm2, rfl, rfl⟩
    · exact absurd ⟨ks S hS eS, hu, hm0.2⟩ c2
    · omega
    · have eSS : S2 = S := (nI_eq (by omega) (by omega)).mp (eS2.symm.trans eS)
      subst eSS
      refine ⟨rfl, x_R.Q (t := t) ?_⟩
      obtain ⟨ku, -, ku2, ku3, -⟩ := r_e_of (lo := 0) (hi := 3) hu
      obtain ⟨km, -, km2, km3, -⟩ := r_e_of (lo := 0) (hi := 60) hm0
      exact ⟨h.n10, h.cX, h.cM, h.t0, h.bm, h.lm, h.la, h.ha, h.rul, h.t20, h.sX, h.sM, h.lit, h.sta, h.frm, (fun c hc => by rw [q_fill_ne (show c + 40 ≠ S2 + 15 by omega)]; exact h.cel c hc), (fun c h1 h2 => h.zer c h1 h2), (fun j hj => h.gat j hj), (fun S hS' => by
        show r_S (q_up (q_up f 19 S2 u) 20 S2 m 19 S) (q_up (q_up f 19 S2 u) 20 S2 m 20 S) (q_up (q_up F 1 S2 u) 2 S2 m 1 S) (q_up (q_up F 1 S2 u) 2 S2 m 2 S)
        rw [q_up_ne (show 19 ≠ 20 by decide), q_up_ne (show 1 ≠ 2 by decide), q_up_eq, q_up_eq, q_up_eq, q_up_eq, q_up_ne (show 20 ≠ 19 by decide), q_up_ne (show 2 ≠ 1 by decide)]
        by_cases e : S = S2
        · subst e; rw [va_up_s, va_up_s, va_up_s, va_up_s]; exact Or.inr ⟨ku, km, ku2, km2, ku3, ku3, km3, km3⟩
        · rw [va_up_n e, va_up_n e, va_up_n e, va_up_n e]; exact h.shf S hS'), (fun S hS' i hi => by
        by_cases e : S = S2
        · subst e; rw [q_fill_in (Nat.zero_le _) (by omega), q_fill_in (by omega) (by omega)]
        · rw [q_fill_ne (by omega), q_fill_out (by omega)]; exact h.num S hS' i hi), h.dig, h.x13, (fun s h1 h2 => h.x11 s h1 h2)⟩
theorem r_tear (h : x_R n t tB f g F G) {s vx vm : Int32} {hx hm : PH} (px : (∃ S : Nat, S ≤ 3 ∧ s = nI S ∧ ¬ f 20 S = -1 ∧ vx = 1 ∧ hx = (q_up f 20 S (-1), g, rfX n sB tB)) ∨ (q_len (f 20) s = -1 ∧ vx = 0 ∧ hx = (f, g, rfX n sB tB)))
    (pm : (∃ S : Nat, S ≤ 3 ∧ s = nI S ∧ ¬ F 1 S < 0 ∧ vm = 1 ∧ hm = (q_up F 1 S (-1), G, rfM)) ∨ (¬ ((0 ≤ s.toInt ∧ s.toInt ≤ 3) ∧ ¬ F 1 s.toNatClampNeg < 0) ∧ vm = 0 ∧ hm = (F, G, rfM))) : vx = vm ∧ x_Q (alX n sB tB) hx hm := by
  have ks : ∀ S, S ≤ 3 → s = nI S → (0 ≤ s.toInt ∧ s.toInt ≤ 3) ∧ s.toNatClampNeg = S := fun S hS e => by rw [e, nI_toInt (by omega), nI_clamp (by omega)]; omega
  have eq : ∀ S, S ≤ 3 → (f 20 S = -1 ↔ F 1 S < 0) := fun S hS => by
    rcases h.shf S hS with ⟨q1, q2, -⟩ | ⟨u, z, hu, hz, q1, -, q3, q2⟩
    · rw [q1, q2]; decide
    · rw [q1, q2]; exact ⟨fun q => absurd q (nI_ne1 (by omega)), fun q => absurd q (nI_pos (by omega))⟩
  rcases px with ⟨S, hS, eS, hne, rfl, rfl⟩ | ⟨c, rfl, rfl⟩
  · rcases pm with ⟨S2, hS2, eS2, hne2, rfl, rfl⟩ | ⟨c2, rfl, rfl⟩
    · have eSS : S2 = S := (nI_eq (by omega) (by omega)).mp (eS2.symm.trans eS)
      subst eSS
      refine ⟨rfl, x_R.Q (t := t) ?_⟩
      exact ⟨h.n10, h.cX, h.cM, h.t0, h.bm, h.lm, h.la, h.ha, h.rul, h.t20, h.sX, h.sM, h.lit, h.sta, h.frm, (fun c hc => h.cel c hc), (fun c h1 h2 => h.zer c h1 h2), (fun j hj => h.gat j hj), (fun S hS' => by
        show r_S (f 19 S) (q_up f 20 S2 (-1) 20 S) (q_up F 1 S2 (-1) 1 S) (F 2 S)
        rw [q_up_eq, q_up_eq]
        by_cases e : S = S2
        · subst e; rw [va_up_s, va_up_s]; exact Or.inl ⟨rfl, rfl, h.hsz S hS'⟩
        · rw [va_up_n e, va_up_n e]; exact h.shf S hS'), (fun S hS i hi => h.num S hS i hi), h.dig, h.x13, (fun s h1 h2 => h.x11 s h1 h2)⟩
    · refine absurd ⟨(ks S hS eS).1, ?_⟩ c2
      rw [(ks S hS eS).2]; exact fun q => hne ((eq S hS).mpr q)
  · rcases pm with ⟨S2, hS2, eS2, hne2, rfl, rfl⟩ | ⟨c2, rfl, rfl⟩
    · unfold q_len at c
      rw [if_pos (ks S2 hS2 eS2).1, (ks S2 hS2 eS2).2] at c
      exact absurd ((eq S2 hS2).mp c) hne2
    · exact ⟨rfl, h.Q⟩
theorem r_write (h : x_R n t tB f g F G) {s i vx vm : Int32} {x : Int64} {hx hm : PH}
    (px : (¬ (0 ≤ s.toInt ∧ s.toInt ≤ 3) ∧ vx = -2 ∧ hx = (f, g, rfX n sB tB)) ∨ (∃ S : Nat, S ≤ 3 ∧ s = nI S ∧ ((f 20 S = -1 ∧ vx = -5 ∧ hx = (f, g, rfX n sB tB)) ∨ (¬ f 20 S = -1 ∧ ¬ (0 ≤ i.toInt ∧ i.toInt < (f 20 S).toInt) ∧ vx = -6 ∧ hx = (f, g, rfX n sB tB)) ∨ (¬ f 20 S = -1 ∧ ∃ j : Nat, i = nI j ∧ (j : Int) < (f 20 S).toInt ∧ j < 60 ∧ vx = 0 ∧ hx = (f, q_up g (S + 15) j (q_cut (f 19 S) x), rfX n sB tB)))))
    (pm : (¬ (0 ≤ s.toInt ∧ s.toInt ≤ 3) ∧ vm = -2 ∧ hm = (F, G, rfM)) ∨ (∃ S : Nat, S ≤ 3 ∧ s = nI S ∧ ((F 1 S < 0 ∧ vm = -5 ∧ hm = (F, G, rfM)) ∨ (¬ F 1 S < 0 ∧ ¬ (0 ≤ i.toInt ∧ i.toInt < (F 2 S).toInt) ∧ vm = -6 ∧ hm = (F, G, rfM)) ∨ (¬ F 1 S < 0 ∧ ∃ j : Nat, i = nI j ∧ (j : Int) < (F 2 S).toInt ∧ j < 60 ∧ vm = 0 ∧ hm = (F, q_up G 3 (60 * S + j) (q_cut (F 1 S) x), rfM))))) : vx = vm ∧ x_Q (alX n sB tB) hx hm := by
  have n10 := h.n10
  have ks : ∀ S, S ≤ 3 → s = nI S → 0 ≤ s.toInt ∧ s.toInt ≤ 3 := fun S hS e => by rw [e, nI_toInt (by omega)]; omega
  rcases px with ⟨c, rfl, rfl⟩ | ⟨S, hS, eS, px⟩
  · rcases pm with ⟨c2, rfl, rfl⟩ | ⟨S2, hS2, eS2, -⟩
    · exact ⟨rfl, h.Q⟩
    · exact absurd (ks S2 hS2 eS2) c
  · rcases pm with ⟨c2, rfl, rfl⟩ | ⟨S2, hS2, eS2, pm⟩
    · exact absurd (ks S hS eS) c2
    · have eSS : S2 = S := (nI_eq (by omega) (by omega)).mp (eS2.symm.trans eS)
      subst eSS
      rcases h.shf S2 hS with ⟨q1, q2, -⟩ | ⟨u, z, hu, hz, q1, q4, q3, q2⟩
      · have a1 : F 1 S2 < 0 := by rw [q1]; decide
        rcases px with ⟨-, rfl, rfl⟩ | ⟨c, -⟩ | ⟨c, -⟩
        · rcases pm with ⟨-, rfl, rfl⟩ | ⟨c, -⟩ | ⟨c, -⟩
          · exact ⟨rfl, h.Q⟩
          · exact absurd a1 c
          · exact absurd a1 c
        · exact absurd q2 c
        · exact absurd q2 c
      · have a1 : ¬ F 1 S2 < 0 := by rw [q1]; exact nI_pos (by omega)
        have a2 : ¬ f 20 S2 = -1 := by rw [q2]; exact nI_ne1 (by omega)
        rw [q2, nI_toInt (by omega)] at px
        rw [q3, nI_toInt (by omega)] at pm
        rcases px with ⟨c, -⟩ | ⟨-, c, rfl, rfl⟩ | ⟨-, j, ej, hj, hj6, rfl, rfl⟩
        · exact absurd (q2.trans c) a2
        · rcases pm with ⟨c2, -⟩ | ⟨-, c2, rfl, rfl⟩ | ⟨-, j2, ej2, hj2, hj62, rfl, rfl⟩
          · exact absurd c2 a1
          · exact ⟨rfl, h.Q⟩
          · exact absurd ⟨by rw [ej2, nI_toInt (by omega)]; omega, by rw [ej2, nI_toInt (by omega)]; exact hj2⟩ c
        · rcases pm with ⟨c2, -⟩ | ⟨-, c2, rfl, rfl⟩ | ⟨-, j2, ej2, hj2, hj62, rfl, rfl⟩
          · exact absurd c2 a1
          · exact absurd ⟨by rw [ej, nI_toInt (by omega)]; omega, by rw [ej, nI_toInt (by omega)]; exact hj⟩ c2
          · have ejj : j2 = j := (nI_eq (by omega) (by omega)).mp (ej2.symm.trans ej)
            subst ejj
            refine ⟨rfl, x_R.Q (t := t) ?_⟩
            rw [q4, q1]
            exact ⟨h.n10, h.cX, h.cM, h.t0, h.bm, h.lm, h.la, h.ha, h.rul, h.t20, h.sX, h.sM, h.lit, h.sta, h.frm, (fun c hc => by rw [q_up_ne (show c + 40 ≠ S2 + 15 by omega)]; exact h.cel c hc), (fun c h1 h2 => h.zer c h1 h2), (fun j hj => h.gat j hj), (fun S hS => h.shf S hS), (fun S hS' i hi => by
              by_cases e : S = S2
              · subst e
                rw [q_up_eq, q_up_eq]
                by_cases ei : i = j2
                · subst ei; rw [va_up_s, va_up_s]
                · rw [va_up_n ei, va_up_n (by omega)]; exact h.num S hS' i hi
              · rw [q_up_ne (by omega), q_up_eq, va_up_n (by omega)]; exact h.num S hS' i hi), h.dig, h.x13, (fun s h1 h2 => h.x11 s h1 h2)⟩
theorem r_paste (h : x_R n t tB f g F G) {s i u k m vx vm : Int32} {hx hm : PH}
    (px : (¬ ((0 ≤ s.toInt ∧ s.toInt ≤ 3) ∧ (0 ≤ u.toInt ∧ u.toInt ≤ 3)) ∧ vx = -2 ∧ hx = (f, g, rfX n sB tB)) ∨ (∃ S T : Nat, S ≤ 3 ∧ s = nI S ∧ T ≤ 3 ∧ u = nI T ∧ (((f 20 S = -1 ∨ f 20 T = -1) ∧ vx = -5 ∧ hx = (f, g, rfX n sB tB)) ∨ (¬ (f 20 S = -1 ∨ f 20 T = -1) ∧ ¬ f 19 S = f 19 T ∧ vx = -7 ∧ hx = (f, g, rfX n sB tB)) ∨ (¬ (f 20 S = -1 ∨ f 20 T = -1) ∧ f 19 S = f 19 T ∧ ¬ (0 ≤ i.toInt ∧ 0 ≤ k.toInt ∧ 0 ≤ m.toInt ∧ i.toInt + m.toInt ≤ (f 20 S).toInt ∧ k.toInt + m.toInt ≤ (f 20 T).toInt) ∧ vx = -6 ∧ hx = (f, g, rfX n sB tB)) ∨ (¬ (f 20 S = -1 ∨ f 20 T = -1) ∧ f 19 S = f 19 T ∧ ∃ I K N : Nat, i = nI I ∧ k = nI K ∧ m = nI N ∧ ((I + N : Nat) : Int) ≤ (f 20 S).toInt ∧ ((K + N : Nat) : Int) ≤ (f 20 T).toInt ∧ I + N ≤ 60 ∧ K + N ≤ 60 ∧ vx = 0 ∧ hx = (f, va_up g (T + 15) (va_cpy (g (S + 15)) (g (T + 15)) I K N), rfX n sB tB)))))
    (pm : (¬ ((0 ≤ s.toInt ∧ s.toInt ≤ 3) ∧ (0 ≤ u.toInt ∧ u.toInt ≤ 3)) ∧ vm = -2 ∧ hm = (F, G, rfM)) ∨ (∃ S T : Nat, S ≤ 3 ∧ s = nI S ∧ T ≤ 3 ∧ u = nI T ∧ (((F 1 S < 0 ∨ F 1 T < 0) ∧ vm = -5 ∧ hm = (F, G, rfM)) ∨ (¬ (F 1 S < 0 ∨ F 1 T < 0) ∧ ¬ F 1 S = F 1 T ∧ vm = -7 ∧ hm = (F, G, rfM)) ∨ (¬ (F 1 S < 0 ∨ F 1 T < 0) ∧ F 1 S = F 1 T ∧ ¬ (0 ≤ i.toInt ∧ 0 ≤ k.toInt ∧ 0 ≤ m.toInt ∧ i.toInt + m.toInt ≤ (F 2 S).toInt ∧ k.toInt + m.toInt ≤ (F 2 T).toInt) ∧ vm = -6 ∧ hm = (F, G, rfM)) ∨ (¬ (F 1 S < 0 ∨ F 1 T < 0) ∧ F 1 S = F 1 T ∧ ∃ I K N : Nat, i = nI I ∧ k = nI K ∧ m = nI N ∧ ((I + N : Nat) : Int) ≤ (F 2 S).toInt ∧ ((K + N : Nat) : Int) ≤ (F 2 T).toInt ∧ I + N ≤ 60 ∧ K + N ≤ 60 ∧ vm = 0 ∧ hm = (F, q_fill (q_fill G 4 0 N (fun j => G 3 (60 * S + I + j))) 3 (60 * T + K) N (fun j => G 3 (60 * S + I + j)), rfM))))) : vx = vm ∧ x_Q (alX n sB tB) hx hm := by
  have n10 := h.n10
  have ks : ∀ (s : Int32) S, S ≤ 3 → s = nI S → 0 ≤ s.toInt ∧ s.toInt ≤ 3 := fun s S hS e => by rw [e, nI_toInt (by omega)]; omega
  have eq : ∀ S, S ≤ 3 → (f 20 S = -1 ↔ F 1 S < 0) ∧ (¬ F 1 S < 0 → f 19 S = F 1 S ∧ f 20 S = F 2 S) := fun S hS => by
    rcases h.shf S hS with ⟨q1, q2, -⟩ | ⟨u, z, hu, hz, q1, q4, q3, q2⟩
    · rw [q1, q2]; exact ⟨by decide, fun q => absurd (by decide) q⟩
    · exact ⟨by rw [q1, q2]; exact ⟨fun q => absurd q (nI_ne1 (by omega)), fun q => absurd q (nI_pos (by omega))⟩, fun _ => ⟨q4.trans q1.symm, q2.trans q3.symm⟩⟩
  rcases px with ⟨c, rfl, rfl⟩ | ⟨S, T, hS, eS, hT, eT, px⟩
  · rcases pm with ⟨c2, rfl, rfl⟩ | ⟨S2, T2, hS2, eS2, hT2, eT2, -⟩
    · exact ⟨rfl, h.Q⟩
    · exact absurd ⟨ks s S2 hS2 eS2, ks u T2 hT2 eT2⟩ c
  · rcases pm with ⟨c2, rfl, rfl⟩ | ⟨S2, T2, hS2, eS2, hT2, eT2, pm⟩
    · exact absurd ⟨ks s S hS eS, ks u T hT eT⟩ c2
    · have eSS : S2 = S := (nI_eq (by omega) (by omega)).mp (eS2.symm.trans eS)
      have eTT : T2 = T := (nI_eq (by omega) (by omega)).mp (eT2.symm.trans eT)
      subst eSS; subst eTT
      have eqn : (f 20 S2 = -1 ∨ f 20 T2 = -1) ↔ (F 1 S2 < 0 ∨ F 1 T2 < 0) := or_congr (eq S2 hS).1 (eq T2 hT).1
      rw [eqn] at px
      by_cases hneg : F 1 S2 < 0 ∨ F 1 T2 < 0
      · rcases px with ⟨-, rfl, rfl⟩ | ⟨c, -⟩ | ⟨c, -⟩ | ⟨c, -⟩
        · rcases pm with ⟨-, rfl, rfl⟩ | ⟨c, -⟩ | ⟨c, -⟩ | ⟨c, -⟩
          · exact ⟨rfl, h.Q⟩
          · exact absurd hneg c
          · exact absurd hneg c
          · exact absurd hneg c
        · exact absurd hneg c
        · exact absurd hneg c
        · exact absurd hneg c
      · have b1 := (eq S2 hS).2 (fun q => hneg (Or.inl q))
        have b2 := (eq T2 hT).2 (fun q => hneg (Or.inr q))
        rw [b1.1, b1.2, b2.1, b2.2] at px
        rcases px with ⟨c, -⟩ | ⟨-, c, rfl, rfl⟩ | ⟨-, c, c2, rfl, rfl⟩ | ⟨-, c, I, K, N, eI, eK, eN, l1, l2, l3, l4, rfl, rfl⟩
        · exact absurd c hneg
        · rcases pm with ⟨d, -⟩ | ⟨-, d, rfl, rfl⟩ | ⟨-, d, -⟩ | ⟨-, d, -⟩
          · exact absurd d hneg
          · exact ⟨rfl, h.Q⟩
          · exact absurd d c
          · exact absurd d c
        · rcases pm with ⟨d, -⟩ | ⟨-, d, -⟩ | ⟨-, d, d2, rfl, rfl⟩ | ⟨-, d, I, K, N, eI, eK, eN, l1, l2, l3, l4, rfl, rfl⟩
          · exact absurd d hneg
          · exact absurd c d
          · exact ⟨rfl, h.Q⟩
          · exfalso
            apply c2
            rw [eI, eK, eN, nI_toInt (by omega), nI_toInt (by omega), nI_toInt (by omega)]
            omega
        · rcases pm with ⟨d, -⟩ | ⟨-, d, -⟩ | ⟨-, d, d2, rfl, rfl⟩ | ⟨-, d, I2, K2, N2, eI2, eK2, eN2, k1, k2, k3, k4, rfl, rfl⟩
          · exact absurd d hneg
          · exact absurd c d
          · exfalso
            apply d2
            rw [eI, eK, eN, nI_toInt (by omega), nI_toInt (by omega), nI_toInt (by omega)]
            omega
          · have x1 : I2 = I := (nI_eq (by omega) (by omega)).mp (eI2.symm.trans eI)
            have x2 : K2 = K := (nI_eq (by omega) (by omega)).mp (eK2.symm.trans eK)
            have x3 : N2 = N := (nI_eq (by omega) (by omega)).mp (eN2.symm.trans eN)
            subst x1; subst x2; subst x3
            refine ⟨rfl, x_R.Q (t := t) ?_⟩
            exact ⟨h.n10, h.cX, h.cM, h.t0, h.bm, h.lm, h.la, h.ha, h.rul, h.t20, h.sX, h.sM, h.lit, h.sta, h.frm, (fun c hc => by rw [va_up_n (show c + 40 ≠ T2 + 15 by omega)]; exact h.cel c hc), (fun c h1 h2 => h.zer c h1 h2), (fun j hj => h.gat j hj), (fun S hS => h.shf S hS), (fun S hS' i hi => by
              by_cases e : S = T2
              · subst e
                rw [va_up_s]
                by_cases ei : K2 ≤ i ∧ i < K2 + N2
                · rw [pk_cpy_in ei.1 ei.2, q_fill_in (by omega) (by omega), h.num S2 hS _ (by omega)]
                  congr 1
                  omega
                · rw [pk_cpy_out (by omega), q_fill_out (by omega), q_fill_ne (by decide)]; exact h.num S hS' i hi
              · rw [va_up_n (by omega), q_fill_out (by omega), q_fill_ne (by decide)]; exact h.num S hS' i hi), h.dig, h.x13, (fun s h1 h2 => h.x11 s h1 h2)⟩
theorem r_cell (h : x_R n t tB f g F G) {p q u d : Int32} {vx : Option Value} {al2 : Nat → Bool} {vm : Int32} {hx hm : PH}
    (px : (((1 ≤ p.toInt ∧ p.toInt ≤ 100) ∧ (1 ≤ q.toInt ∧ q.toInt ≤ 1000) ∧ (1 ≤ u.toInt ∧ u.toInt ≤ 9) ∧ (0 ≤ d.toInt ∧ d.toInt ≤ 2)) ∧ n < 10 ∧ vx = some (.int (nI n)) ∧ al2 = alX (n + 1) sB tB ∧ hx = (q_up (x_newF n f p q u d) 1 1 (nI (n + 1)), x_newG n g, rfX (n + 1) sB tB)) ∨ (((1 ≤ p.toInt ∧ p.toInt ≤ 100) ∧ (1 ≤ q.toInt ∧ q.toInt ≤ 1000) ∧ (1 ≤ u.toInt ∧ u.toInt ≤ 9) ∧ (0 ≤ d.toInt ∧ d.toInt ≤ 2)) ∧ n = 10 ∧ vx = some (.int (-3)) ∧ al2 = alX n sB tB ∧ hx = (f, g, rfX n sB tB)) ∨ (¬ ((1 ≤ p.toInt ∧ p.toInt ≤ 100) ∧ (1 ≤ q.toInt ∧ q.toInt ≤ 1000) ∧ (1 ≤ u.toInt ∧ u.toInt ≤ 9) ∧ (0 ≤ d.toInt ∧ d.toInt ≤ 2)) ∧ vx = some (.int (-2)) ∧ al2 = alX n sB tB ∧ hx = (f, g, rfX n sB tB)))
    (pm : (((1 ≤ p.toInt ∧ p.toInt ≤ 100) ∧ (1 ≤ q.toInt ∧ q.toInt ≤ 1000) ∧ (1 ≤ u.toInt ∧ u.toInt ≤ 9) ∧ (0 ≤ d.toInt ∧ d.toInt ≤ 2)) ∧ n < 10 ∧ vm = nI n ∧ hm = (q_up (q_up (q_up (q_up (q_up F 15 n p) 16 n q) 17 n u) 18 n d) 0 5 (nI (n + 1)), G, rfM)) ∨ (((1 ≤ p.toInt ∧ p.toInt ≤ 100) ∧ (1 ≤ q.toInt ∧ q.toInt ≤ 1000) ∧ (1 ≤ u.toInt ∧ u.toInt ≤ 9) ∧ (0 ≤ d.toInt ∧ d.toInt ≤ 2)) ∧ n = 10 ∧ vm = -3 ∧ hm = (F, G, rfM)) ∨ (¬ ((1 ≤ p.toInt ∧ p.toInt ≤ 100) ∧ (1 ≤ q.toInt ∧ q.toInt ≤ 1000) ∧ (1 ≤ u.toInt ∧ u.toInt ≤ 9) ∧ (0 ≤ d.toInt ∧ d.toInt ≤ 2)) ∧ vm = -2 ∧ hm = (F, G, rfM))) : vx = some (.int vm) ∧ x_Q al2 hx hm := by
  rcases px with ⟨c, h9, rfl, rfl, rfl⟩ | ⟨c, h9, rfl, rfl, rfl⟩ | ⟨c, rfl, rfl, rfl⟩
  · rcases pm with ⟨c2, k9, rfl, rfl⟩ | ⟨c2, k9, rfl, rfl⟩ | ⟨c2, rfl, rfl⟩
    · refine ⟨rfl, x_R.Q (t := t) ?_⟩
      have lo : ∀ a, a < 40 → x_newF n f p q u d a = f a := fun a ha => by
        unfold x_newF
        rw [q_up_ne (by omega), q_up_ne (by omega), q_up_ne (by omega), q_up_ne (by omega), va_up_n (by omega), va_up_n (by omega)]
      have lo2 : ∀ a, a < 40 → a ≠ 1 → q_up (x_newF n f p q u d) 1 1 (nI (n + 1)) a = f a := fun a ha h1 => by rw [q_up_ne h1, lo a ha]
      have l1 : ∀ k, k ≠ 1 → q_up (x_newF n f p q u d) 1 1 (nI (n + 1)) 1 k = f 1 k := fun k hk => by rw [q_upz hk, lo 1 (by decide)]
      have log : ∀ a, a < 40 → x_newG n g a = g a := fun a ha => by unfold x_newG; rw [va_up_n (by omega), va_up_n (by omega)]
      have e40 : ∀ c, c < n → q_up (x_newF n f p q u d) 1 1 (nI (n + 1)) (c + 40) = f (c + 40) := fun c hc => by
        rw [q_up_ne (by omega)]
        unfold x_newF
        rw [q_up_ne (by omega), q_up_ne (by omega), q_up_ne (by omega), q_up_ne (by omega), va_up_n (by omega), va_up_n (by omega)]
      have e60 : ∀ c, c < n → q_up (x_newF n f p q u d) 1 1 (nI (n + 1)) (c + 60) = f (c + 60) := fun c hc => by
        rw [q_up_ne (by omega)]
        unfold x_newF
        rw [q_up_ne (by omega), q_up_ne (by omega), q_up_ne (by omega), q_up_ne (by omega), va_up_n (by omega), va_up_n (by omega)]
      have eg : ∀ c, c < n → x_newG n g (c + 40) = g (c + 40) := fun c hc => by unfold x_newG; rw [va_up_n (by omega), va_up_n (by omega)]
      have n40 : q_up (x_newF n f p q u d) 1 1 (nI (n + 1)) (n + 40) = va_up (va_up (va_up (va_up (fun _ => 0) 0 p) 1 q) 2 u) 3 d := by
        rw [q_up_ne (by omega)]
        unfold x_newF
        rw [q_up_eq, q_up_eq, q_up_eq, q_up_eq, va_up_n (by omega), va_up_s]
      have n60 : q_up (x_newF n f p q u d) 1 1 (nI (n + 1)) (n + 60) = fun _ => 0 := by
        rw [q_up_ne (by omega)]
        unfold x_newF
        rw [q_up_ne (by omega), q_up_ne (by omega), q_up_ne (by omega), q_up_ne (by omega), va_up_s]
      have ng : x_newG n g (n + 40) = fun _ => 0 := by unfold x_newG; rw [va_up_n (by omega), va_up_s]
      have hz := h.zer n (Nat.le_refl _) h9
      have pn : 2 ^ n ≤ 2 ^ (n + 1) := Nat.pow_le_pow_right (by decide) (by omega)
      have col : ∀ c, c ≠ n → ∀ a, 15 ≤ a → q_up (q_up (q_up (q_up (q_up F 15 n p) 16 n q) 17 n u) 18 n d) 0 5 (nI (n + 1)) a c = F a c := fun c hc a ha => by
        rw [q_up_ne (by omega), q_col hc, q_col hc, q_col hc, q_col hc]
      exact ⟨by omega, q_ups, q_ups, h.t0, (by rw [l1 4 (by decide)]; exact h.bm), (by rw [l1 5 (by decide)]; exact h.lm), (by rw [l1 6 (by decide)]; exact h.la), (by rw [l1 7 (by decide)]; exact h.ha), (by rw [lo2 0 (by decide) (by decide)]; exact h.rul), h.t20, (by rw [lo2 0 (by decide) (by decide)]; exact h.sX), h.sM, (by rw [lo2 0 (by decide) (by decide)]; exact h.lit), (by rw [lo2 0 (by decide) (by decide)]; exact h.sta), (by rw [lo2 4 (by decide) (by decide), lo2 21 (by decide) (by decide)]; obtain ⟨m, m1, m2, m3, m4⟩ := h.frm; exact ⟨m, m1, m2, m3, fun i hi => by obtain ⟨x1, s, x2, x3⟩ := m4 i hi; exact ⟨x1, s, by omega, x3⟩⟩), (fun c0 hc0 => by
        by_cases e : c0 = n
        · subst e
          rw [n40, n60, ng]
          have k15 : q_up (q_up (q_up (q_up (q_up F 15 c0 p) 16 c0 q) 17 c0 u) 18 c0 d) 0 5 (nI (c0 + 1)) 15 c0 = p := by rw [q_up_ne (by decide), q_up_ne (by decide), q_up_ne (by decide), q_up_ne (by decide), q_ups]
          have k16 : q_up (q_up (q_up (q_up (q_up F 15 c0 p) 16 c0 q) 17 c0 u) 18 c0 d) 0 5 (nI (c0 + 1)) 16 c0 = q := by rw [q_up_ne (by decide), q_up_ne (by decide), q_up_ne (by decide), q_ups]
          have k17 : q_up (q_up (q_up (q_up (q_up F 15 c0 p) 16 c0 q) 17 c0 u) 18 c0 d) 0 5 (nI (c0 + 1)) 17 c0 = u := by rw [q_up_ne (by decide), q_up_ne (by decide), q_ups]
          have k18 : q_up (q_up (q_up (q_up (q_up F 15 c0 p) 16 c0 q) 17 c0 u) 18 c0 d) 0 5 (nI (c0 + 1)) 18 c0 = d := by rw [q_up_ne (by decide), q_ups]
          exact ⟨by dsimp only; rw [k15]; exact r_e_of c.1, by dsimp only; rw [k16]; exact r_e_of c.2.1, by dsimp only; rw [k17]; exact r_e_of c.2.2.1, by dsimp only; rw [k18]; exact r_e_of c.2.2.2, ⟨0, by omega, by omega, rfl, hz.z.2.2.2.1⟩, ⟨0, by omega, by omega, rfl, hz.z.2.1⟩, ⟨0, by omega, by omega, rfl, hz.z.2.2.1⟩, ⟨0, by omega, by omega, rfl, hz.z.1⟩, ⟨0, by omega, by omega, rfl, hz.z.2.2.2.2.1⟩, hz.z.2.2.2.2.2.1.symm, hz.z.2.2.2.2.2.2.1.symm, hz.z.2.2.2.2.2.2.2.symm, ⟨fun _ => 0, 0, 0, 0, fun k hk => ⟨rfl, hz.w k hk⟩, rfl, ⟨rfl, hz.g.1⟩, ⟨rfl, hz.g.2.1⟩, ⟨rfl, hz.g.2.2⟩, rfl, Nat.zero_le _⟩⟩
        · have hcn : c0 < n := by omega
          rw [e40 c0 hcn, e60 c0 hcn, eg c0 hcn]
          have hr := h.cel c0 hcn
          refine ⟨?_, ?_, ?_, ?_, ?_, ?_, ?_, ?_, ?_, ?_, ?_, ?_, hr.wt⟩
          · dsimp only; rw [col c0 e 15 (by decide)]; exact hr.pw
          · dsimp only; rw [col c0 e 16 (by decide)]; exact hr.rt
          · dsimp only; rw [col c0 e 17 (by decide)]; exact hr.rk
          · dsimp only; rw [col c0 e 18 (by decide)]; exact hr.gt
          · dsimp only; rw [col c0 e 22 (by decide)]; exact hr.rn
          · dsimp only; rw [col c0 e 20 (by decide)]; exact hr.nd
          · dsimp only; rw [col c0 e 21 (by decide)]; exact hr.ak
          · dsimp only; rw [col c0 e 19 (by decide)]; exact hr.hd
          · dsimp only; rw [col c0 e 23 (by decide)]; exact hr.fb
          · dsimp only; rw [col c0 e 24 (by decide)]; exact hr.dk
          · dsimp only; rw [col c0 e 25 (by decide)]; exact hr.ld
          · dsimp only; rw [col c0 e 26 (by decide)]; exact hr.tm), (fun c h1 h2 => by
        have hr := h.zer c (by omega) h2
        refine ⟨?_, hr.w, hr.g⟩
        have hz := hr.z
        dsimp only at hz ⊢
        have hcn : c ≠ n := by omega
        rw [col c hcn 19 (by decide), col c hcn 20 (by decide), col c hcn 21 (by decide), col c hcn 22 (by decide), col c hcn 23 (by decide), col c hcn 24 (by decide), col c hcn 25 (by decide), col c hcn 26 (by decide)]
        exact hz), (fun j hj => by rw [lo2 9 (by decide) (by decide), lo2 10 (by decide) (by decide)]; exact h.gat j hj), (fun S hS => by rw [lo2 19 (by decide) (by decide), lo2 20 (by decide) (by decide)]; exact h.shf S hS), (fun S hS i hi => by rw [log (S + 15) (by omega)]; exact h.num S hS i hi), (by rw [lo2 32 (by decide) (by decide)]; exact h.dig), (by rw [lo2 13 (by decide) (by decide)]; exact h.x13), (fun s h1 h2 => by rw [lo2 11 (by decide) (by decide)]; exact h.x11 s (by omega) h2)⟩
    · omega
    · exact absurd c c2
  · rcases pm with ⟨c2, k9, rfl, rfl⟩ | ⟨c2, k9, rfl, rfl⟩ | ⟨c2, rfl, rfl⟩
    · omega
    · exact ⟨rfl, h.Q⟩
    · exact absurd c c2
  · rcases pm with ⟨c2, k9, rfl, rfl⟩ | ⟨c2, k9, rfl, rfl⟩ | ⟨c2, rfl, rfl⟩
    · exact absurd c2 c
    · exact absurd c2 c
    · exact ⟨rfl, h.Q⟩
end RN
