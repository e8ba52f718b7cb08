/-! final fields, fields and elements that refer; calls of what makes cells; returns -/
section GN2
variable {C : q_Ctx} {ty : Nat → PT} {cc : ByteArray} {nL kc ks mc ms : Nat} {own : String} {al : Nat → Bool} {ad : Nat → Nat} {FR LO : Nat} {pc : Nat} {ls : List (Option Value)} {st : List Value} {h : PH} {f : Nat → Nat → Int32} {g : Nat → Nat → Int64} {r : Nat → Nat → Option Nat}
theorem q_putF {a ci k idx : Nat} {v : Value} {h' : PH} (E : q_Ev C cc nL own al ad FR LO) (I : q_In C) (ha : al a = true) (hty : ty a = .inr ci) (hf : q_FF own idx ci k) (hd : decode cc pc = .ok (.putfield idx, 3))
    (hn : narrow (q_ft ci k) (q_cv ad v) = q_cv ad v) (hfit : fits (q_ft ci k) (q_cv ad v) = true)
    (hs : ∀ b, b ≠ a → h'.1 b = h.1 b ∧ h'.2.1 b = h.2.1 b ∧ h'.2.2 b = h.2.2 b) (hv : q_fv (q_ft ci k) ad h' a k = q_cv ad v) (hj : ∀ j, j ≠ k → q_fv (q_ft ci j) ad h' a j = q_fv (q_ft ci j) ad h a j)
    (kk : gg C ty nL kc ks al ad (pc + 3) ls st h') : gg C ty nL kc ks al ad pc ls (v :: .ref a :: st) h := by
  obtain ⟨⟨p, l, e, R, s⟩, ⟨m, args, below, meth, c⟩, ⟨D, ca, A, Q⟩⟩ := C
  intro H locs lsA hZ hR hS hl
  obtain ⟨Cn, T, N, ok, hk, hC, hCo, hfin, hlk⟩ := hf
  obtain ⟨o1, o2, o3, o4, o5⟩ := ok
  have hts : ∀ w ∈ u_ws Cn T N, w.before args s = true := fun w hw => E.2.2.2.2.1.1 w (o2 w hw) (by
    obtain ⟨j, -, rfl⟩ := List.mem_map.mp hw
    unfold u_lay
    split <;> rfl) _
  have hap := va_apart (own := own) (args := args) hts (fun _ h => h) (q_ft ci) o3 o4 E.2.2.2.2.1.2 o1
  have h0 := hR a ha
  rw [hty] at h0
  obtain ⟨r, h1, cell, q1, q2, q3, q4⟩ := h0
  have hr : r = (Cn, T, N) := Option.some.inj (h1.symm.trans o1)
  subst hr
  obtain ⟨hSl, hfc, kC, hkC, hkind⟩ := E.2.2.2.2.1.2.1 ci _ o1
  obtain ⟨cf, kf, fi, f, hi, hsl⟩ := hSl k hk
  have hlay := hts _ (u_in_lay hk)
  unfold u_lay at hlay
  rw [if_pos hfin] at hlay
  have hst := (u_facts hfc hkC (u_lays hts (fun _ h => h) hk) hi).1
  have hcf : m.cls = cf := by
    obtain ⟨_, _, c', _, _, _, -, -, hf', -, -, -, hown2, -⟩ := Cond.laysFinal_spec hlay
    have e1 : c' = cf := by have := hi.symm.trans hf'; simp at this; exact this.1.symm
    rw [hC, hCo] at hown2
    rw [← e1]; exact Option.some.inj (E.2.2.2.1.symm.trans hown2)
  have h6 := u_fits hfc hkC hkind (Or.inr hlay) hi (o3 k hk) hn hfit
  refine W.putFinK E.1 E.2.1 E.2.2.2.1 (E.2.2.2.2.1.1 _ hlk rfl _) (by rw [hC] at hi; exact hi) hst hcf I (by rw [q2]; exact h6) q1 q3 (by rw [hsl]; exact k2_hasslot (q4 k hk)) rfl rfl hd fun H' e1 e2 e3 => ?_
  rw [hsl] at e1
  refine kk H' _ lsA hZ (hR.set E.2.2.2.2.2.1 ha ?_ e3 hs) (hS.put e2 e3 (E.2.2.2.2.2.2.1 a ha)) hl
  rw [hty]
  refine ⟨_, o1, t_OB.to (V := updV (vp_V (q_fs ci ad h a)) k (q_cv ad v)) ⟨_, e1, q2, q3, t_set q4 hap hk _⟩ (fun j hjN => ?_)⟩
  have hjN' : j < q_N ci := by rw [o5]; exact hjN
  rw [q_V hjN']
  by_cases ej : j = k
  · subst ej
    simp only [updV, if_true]
    exact hv.symm
  · simp only [updV, if_neg ej]
    rw [q_V hjN', hj j ej]
theorem g_putIF {a ci k idx : Nat} {x : Int32} (E : q_Ev C cc nL own al ad FR LO) (I : q_In C) (ha : al a = true) (hty : ty a = .inr ci) (hf : q_FF own idx ci k) (ht : q_ft ci k = .int) (hd : decode cc pc = .ok (.putfield idx, 3))
    (kk : gg C ty nL kc ks al ad (pc + 3) ls st (q_up f a k x, g, r)) : gg C ty nL kc ks al ad pc ls (.int x :: .ref a :: st) (f, g, r) :=
  q_putF (h' := (q_up f a k x, g, r)) E I ha hty hf hd (by rw [ht]; rfl) (by rw [ht]; rfl) (fun b hb => ⟨q_up_ne hb, rfl, rfl⟩) (by rw [ht]; show Value.int (q_up f a k x a k) = _; rw [q_ups]; rfl) (fun j hj => by unfold q_fv; simp only [q_upz hj]) kk
theorem g_putRF {a ci k idx b : Nat} (E : q_Ev C cc nL own al ad FR LO) (I : q_In C) (ha : al a = true) (hty : ty a = .inr ci) (hf : q_FF own idx ci k) (ht : q_isr (q_ft ci k) = true) (hd : decode cc pc = .ok (.putfield idx, 3))
    (kk : gg C ty nL kc ks al ad (pc + 3) ls st (f, g, q_up r a k (some b))) : gg C ty nL kc ks al ad pc ls (.ref b :: .ref a :: st) (f, g, r) :=
  q_putF (h' := (f, g, q_up r a k (some b))) E I ha hty hf hd (by generalize q_ft ci k = t at ht; cases t <;> first | rfl | cases ht) (by generalize q_ft ci k = t at ht; cases t <;> first | rfl | cases ht) (fun b hb => ⟨rfl, rfl, q_up_ne hb⟩) (by rw [q_fv_r ht]; show va_rf ((q_up r a k (some b) a k).map ad) = _; rw [q_ups]; rfl) (fun j hj => by unfold q_fv; simp only [q_upz hj]) kk
theorem g_putR {a ci k idx b : Nat} (E : q_Ev C cc nL own al ad FR LO) (ha : al a = true) (hty : ty a = .inr ci) (hf : q_FW own idx ci k) (ht : q_isr (q_ft ci k) = true) (hd : decode cc pc = .ok (.putfield idx, 3))
    (kk : gg C ty nL kc ks al ad (pc + 3) ls st (f, g, q_up r a k (some b))) : gg C ty nL kc ks al ad pc ls (.ref b :: .ref a :: st) (f, g, r) :=
  q_putf (h' := (f, g, q_up r a k (some b))) E ha hty hf hd (by generalize q_ft ci k = t at ht; cases t <;> first | rfl | cases ht) (by generalize q_ft ci k = t at ht; cases t <;> first | rfl | cases ht) (fun b hb => ⟨rfl, rfl, q_up_ne hb⟩) (by rw [q_fv_r ht]; show va_rf ((q_up r a k (some b) a k).map ad) = _; rw [q_ups]; rfl) (fun j hj => by unfold q_fv; simp only [q_upz hj]) kk
theorem g_aast {a n j v : Nat} {i : Int32} (E : q_Ev C cc nL own al ad FR LO) (ha : al a = true) (hty : ty a = .inl (.object RX0, n)) (hva : al v = true) (htv : ty v = .inr 0) (hd : decode cc pc = .ok (.aastore, 1)) (hi : q_ix i n j)
    (kk : gg C ty nL kc ks al ad (pc + 1) ls st (f, g, q_up r a j (some v))) : gg C ty nL kc ks al ad pc ls (.ref v :: .int i :: .ref a :: st) (f, g, r) := by
  obtain ⟨⟨p, l, e, R, s⟩, ⟨m, args, below, meth, c⟩, ⟨D, ca, A, Q⟩⟩ := C
  intro H locs lsA hZ hR hS hl
  obtain ⟨hin, rfl⟩ := hi
  have hlt : i.toNatClampNeg < n := Nat.not_le.mp fun q => hin (Or.inr q)
  have h0 : ¬ i < 0 := fun q => hin (Or.inl q)
  have hP := hR v hva
  rw [htv] at hP
  obtain ⟨r', hr', cellV, g1, g2, g3, -⟩ := hP
  have hcls := (E.2.2.2.2.1.2.1 0 _ q_ok0.1).2
  obtain ⟨kA, comp, k1, k2, k3, -⟩ := (E.2.2.2.2.1.2.2 4 (ca (.object RX0), .object RX0) rfl).2
  have hcomp : comp = D.1 0 := Option.some.inj (k3.symm.trans hcls.1)
  subst hcomp
  obtain ⟨kC, hkC, -⟩ := hcls.2
  have hA0 : H[ad a]? = some (vp_cell (ca (.object RX0)) (n, .inr (.inr (.inr (.inr (fun i => (r a i).map ad)))))) := q_arr hR ha hty
  refine W.aast E.1 E.2.1 hA0 (fun q h => by cases h) (fun h => by cases h) k1 k2 rfl hkC ⟨h0, by show _ < (arrV _ _ _).slots.size; rw [arrV_size]; exact hlt⟩ g1 (fun q h => by rw [g3] at h; cases h) (by rw [g2]; exact hkC) (by rw [g2]; exact va_assign hcls) rfl rfl hd fun H1 e z oq => ?_
  refine kk H1 _ lsA hZ (hR.set (a := a) (h' := (f, g, q_up r a i.toNatClampNeg (some v))) E.2.2.2.2.2.1 ha ?_ oq (fun b hb => ⟨rfl, rfl, q_up_ne hb⟩)) (hS.put z oq (E.2.2.2.2.2.2.1 a ha)) hl
  rw [hty]
  show H1[ad a]? = some (vp_cell _ (n, .inr (.inr (.inr (.inr (fun j => (q_up r a i.toNatClampNeg (some v) a j).map ad))))))
  rw [e]
  rw [vp_cell_q, vp_cell_q, arrV_store]
  congr 2
  funext q
  by_cases hq : q = i.toNatClampNeg
  · subst hq
    rw [q_ups]
    simp [updV, va_rf]
  · rw [q_upz hq]
    simp [updV, hq]
/-! returns -/
variable {al0 : Nat → Bool} {ad0 : Nat → Nat} {postN : Option Value → (Nat → Bool) → PH → Prop}
theorem q_endN {p : Program} {l : Launch} {e : Env} {R : Room} {s : State} {m : MethodId} {args : Array Value} {below : List Frame} {meth : Method} {c : Code} {D : va_G} {ca : FieldType → ClassId} {Q : State → Prop} {t : State} {H : Heap} {locs : List Loc} {v : Option Value}
    (E : q_Ev ((p, l, e, R, s), (m, args, below, meth, c), (D, ca, q_AN al0 ad0 s.heap.size, Q)) cc nL own al ad FR LO) (K : q_Kp al0 ad0 al ad) (hR : q_R D ca ty al ad h H) (hS : va_S (q_AN al0 ad0 s.heap.size) s.heap H locs) (hp : postN v al h) (ht : t.heap = H) : q_QN D ca ty al0 ad0 s.heap.size postN args s (.returned (v.map (q_cv ad))) t := by
  refine ⟨⟨v, h, al, ad, rfl, hp, K, fun a ha => ?_, E.2.2.2.2.2.1, by rw [ht]; exact hR⟩, hS.F ht⟩
  rcases E.2.2.2.2.2.2.1 a ha with ⟨b, hb, e⟩ | q
  · left
    have h1 := K b hb
    rw [← h1.2] at e
    rw [E.2.2.2.2.2.1 a b ha h1.1 e]
    exact hb
  · exact Or.inr q
theorem g_vretN (E : q_Ev C cc nL own al ad FR LO) (Z : q_ErN C none ty al0 ad0 mc ms postN) (K : q_Kp al0 ad0 al ad) (hkc : kc ≤ mc) (hks : ks ≤ ms) (hd : decode cc pc = .ok (.return_, 1)) (hp : postN none al h) : gg C ty nL kc ks al ad pc ls [] h := by
  obtain ⟨⟨p, l, e, R, s⟩, ⟨m, args, below, meth, c⟩, ⟨D, ca, A, Q⟩⟩ := C
  obtain ⟨z1, z2, z3, z4⟩ := Z
  subst z3; subst z4
  exact fun H locs lsA hZ hR hS hl => W.widen hkc hks (W.vret E.1 E.2.1 z1 (fun t ht hW => q_endN (v := none) E K hR hS hp ht) (fun q hq => hS.2.2 q hq) hd (hlocks := z2))
theorem g_iretN {v : Int32} (E : q_Ev C cc nL own al ad FR LO) (Z : q_ErN C (some .int) ty al0 ad0 mc ms postN) (K : q_Kp al0 ad0 al ad) (hkc : kc ≤ mc) (hks : ks ≤ ms) (hd : decode cc pc = .ok (.ireturn, 1)) (hp : postN (some (.int v)) al h) : gg C ty nL kc ks al ad pc ls [.int v] h := by
  obtain ⟨⟨p, l, e, R, s⟩, ⟨m, args, below, meth, c⟩, ⟨D, ca, A, Q⟩⟩ := C
  obtain ⟨z1, z2, z3, z4⟩ := Z
  subst z3; subst z4
  exact fun H locs lsA hZ hR hS hl => W.widen hkc hks (W.iret E.1 E.2.1 z1 (fun t ht hW => q_endN (v := some (.int v)) E K hR hS hp ht) (fun q hq => hS.2.2 q hq) hd (hlocks := z2))
/-! calls of what makes cells, in the same world -/
variable {y : MethodName} {cy : ByteArray} {maxL fr lo mc' ms' idx n : Nat} {ret : Option FieldType} {as rest : List Value}
theorem q_blindN {D : va_G} {ca : FieldType → ClassId} {sz : Nat} : FrameBlind (q_PN D ca ty al ad sz as h) := fun a U g mk q => ⟨q.1, q.2.1, q_T.warm (s := U) (U := U.calling g mk a) (State.WarmedH.refl U) q.2.2.1, q.2.2.2.1, q.2.2.2.2⟩
theorem q_afterN {p : Program} {l : Launch} {e : Env} {R : Room} {s : State} {m : MethodId} {args : Array Value} {below : List Frame} {meth : Method} {c : Code} {D : va_G} {ca : FieldType → ClassId} {A : Nat → Prop} {Q : State → Prop} {H : Heap} {locs : List Loc} {lsA : Array Slot} {a : Array Value} {st0 : List Value}
    (hr : va_Run p l e R s m args below meth c H locs kc ks mc' ms' (F0 m pc lsA st0) (rest.map (q_cv ad)) (q_QN D ca ty al ad H.size postN a) (q_AN al ad H.size)) (E : q_Ev ((p, l, e, R, s), (m, args, below, meth, c), (D, ca, A, Q)) cc nL own al ad FR LO) (hnew : ∀ q, s.heap.size ≤ q → A q) (hZ : kc + mc' ≤ R.cells ∧ ks + ms' ≤ R.slots) (hS : va_S A s.heap H locs) (hl : q_L ad nL ls lsA) (hv : q_okb al ls rest = true)
    (k : ∀ r al2 h', postN r al2 h' → ∀ ad2, q_Kp al ad al2 ad2 → q_Ev ((p, l, e, R, s), (m, args, below, meth, c), (D, ca, A, Q)) cc nL own al2 ad2 FR LO → gg ((p, l, e, R, s), (m, args, below, meth, c), (D, ca, A, Q)) ty nL (kc + mc') (ks + ms') al2 ad2 (pc + 3) ls (r.toList ++ rest) h') : W p l e R s m args below meth c H locs kc ks Q (F0 m pc lsA st0) := by
  intro T hT X
  obtain ⟨v, st₀, t, T', L, h0, X', hL, e1, e2, ⟨⟨r, h', al2, ad2, hv2, hp, hK, hN, hJ2, hR'⟩, hz, hk⟩, stp⟩ := hr T hT X
  cases hv2
  rw [h0] at hz hk
  obtain ⟨x1, x2, x3, x4, x5, x6, x7, x8, x9⟩ := E
  have hAA : ∀ q, q_AN al ad H.size q → A q := fun q hq => by
    rcases hq with ⟨b, hb, hq⟩ | hq
    · exact hq ▸ x7 b hb
    · exact hnew q (Nat.le_trans hS.1 hq)
  have E2 : q_Ev ((p, l, e, R, s), (m, args, below, meth, c), (D, ca, A, Q)) cc nL own al2 ad2 FR LO := ⟨x1, x2, x3, x4, x5, hJ2, fun b hb => by
    rcases hN b hb with q | q
    · rw [(hK b q).2]; exact x7 b q
    · exact hnew _ (Nat.le_trans hS.1 q), x8, x9⟩
  have hkeep : ∀ b, al b = true → ad2 b = ad b := fun b hb => (hK b hb).2
  obtain ⟨t2, a1, b1⟩ := k r al2 h' hp ad2 hK E2 T'.heap (locs ++ L) lsA hZ (by rw [e1]; exact hR')
    ⟨Nat.le_trans hS.1 (by rw [e1]; exact hz), fun q h1 h2 => by rw [e1, hk q (Nat.lt_of_lt_of_le h1 hS.1) (fun z => h2 (hAA q z))]; exact hS.2.1 q h1 h2, fun q hq => by
      rcases List.mem_append.mp hq with h | h
      · exact hS.2.2 q h
      · exact hAA _ (hL q h)⟩ (q_okb.ls hv hkeep hl) T' rfl X'
  refine ⟨t2, stp t2 ?_, b1⟩
  rw [List.map_append, q_okb.st hv hkeep] at a1
  cases r <;> exact a1
theorem g_cIN {a : Nat} (E : q_Ev C cc nL own al ad FR LO) (V : q_Nv C mc ms) (hC : q_ConN y cy maxL none fr lo mc' ms' ty al (.ref a :: as) h postN) (hw : q_CI own idx y cy maxL n) (hn : as.length = n) (hf1 : fr + 1 ≤ FR) (hf2 : 8 + (maxL + 11) + lo ≤ LO) (hkc : kc + mc' ≤ mc) (hks : ks + ms' ≤ ms) (hdep : (rest.map fun v => v.category).sum ≤ 8) (hv : q_okb al ls rest = true) (hd : decode cc pc = .ok (.invokespecial idx, 3)) (hst : st = as.reverse ++ .ref a :: rest)
    (k : ∀ r al2 h', postN r al2 h' → ∀ ad2, q_Kp al ad al2 ad2 → q_Ev C cc nL own al2 ad2 FR LO → gg C ty nL (kc + mc') (ks + ms') al2 ad2 (pc + 3) ls (r.toList ++ rest) h') : gg C ty nL kc ks al ad pc ls st h := by
  obtain ⟨⟨p, l, e, R, s⟩, ⟨m, args, below, meth, c⟩, ⟨D, ca, A, Q⟩⟩ := C
  intro H locs lsA hZ hR hS hl
  subst hst
  obtain ⟨v1, v2, v3⟩ := V
  have E' := E
  obtain ⟨hx, hb, hml, hown, hT, hJ, hA, hFR, hLO⟩ := E
  obtain ⟨hlk, hnm, w2, w4, w5, d1, d2, d3⟩ := hw
  have hpre : PreS s H (q_PN D ca ty al ad H.size (.ref a :: as) h) (.ref (ad a) :: as.map (q_cv ad)) := ⟨q_blindN, fun U hU hW => ⟨rfl, by rw [hU], hT.warm hW, by rw [hU]; exact hR, hJ⟩⟩
  have hlen : ∀ sig, parseMethodDescriptor y.desc = some sig → n = sig.parameters.length := fun sig h => by rw [h] at d3; exact (Option.some.inj d3).symm
  have hws : ∀ w ∈ [Cond.code y cy maxL none], ∀ (a' : Array Value) (U : State), s.WarmedH U.vm → w.before a' U = true := fun w hw a' U hW => by
    rw [List.mem_singleton.mp hw]
    exact (hT.warm hW).1 _ w4 rfl _
  have hstk : (as.reverse ++ Value.ref a :: rest).map (q_cv ad) = (as.map (q_cv ad)).reverse ++ Value.ref (ad a) :: rest.map (q_cv ad) := by
    rw [List.map_append, List.map_cons, List.map_reverse]; rfl
  have hdp : 2 * (F0 m pc lsA ((as.reverse ++ Value.ref a :: rest).map (q_cv ad))).monitorRoom + ((rest.map (q_cv ad)).map fun v => v.category).sum ≤ 8 := by
    rw [q_cats]; show 2 * 0 + _ ≤ 8; omega
  have hZ2 : kc + mc' ≤ R.cells ∧ ks + ms' ≤ R.slots := ⟨by omega, by omega⟩
  rcases hlk with hlk | ⟨host, hlk⟩
  · exact q_afterN (va_runI (Ts := []) ⟨hx, hb, hml, hown, fun w h => by cases h⟩ (hC l D ca ad H.size) ⟨⟨rfl, rfl, Nat.le_trans hf1 hFR, Nat.le_trans hf2 hLO, hws, List.mem_singleton.mpr rfl, hT.1 _ w4 rfl _, hT.1 _ w5 rfl _, ⟨d1, d2⟩, hlen, hT.1 _ hlk rfl _⟩, hnm, hT.1 _ w2 rfl _⟩ hpre rfl (by rw [List.length_map]; exact hn) hl.1 hstk hdp hd hZ2) E' v1 hZ2 hS hl hv k
  · exact q_afterN (va_runIN (Ts := []) ⟨hx, hb, hml, hown, fun w h => by cases h⟩ (hC l D ca ad H.size) ⟨⟨⟨rfl, rfl, Nat.le_trans hf1 hFR, Nat.le_trans hf2 hLO, hws, List.mem_singleton.mpr rfl⟩, hT.1 _ w4 rfl _, hT.1 _ w5 rfl _, ⟨d1, d2⟩, hlen, hT.1 _ hlk rfl _⟩, hnm, hT.1 _ w2 rfl _⟩ hpre rfl (by rw [List.length_map]; exact hn) hl.1 hstk hdp hd hZ2) E' v1 hZ2 hS hl hv k
end GN2
/-! the rows of a row of rows -/
def q_alM (al : Nat → Bool) (o : Nat) : Nat → Bool := fun x => if o ≤ x ∧ x < o + 5 then true else al x
def q_adM (ad : Nat → Nat) (o z : Nat) : Nat → Nat := fun x => if o ≤ x ∧ x < o + 5 then z + (x - o) else ad x
def q_gM (g : Nat → Nat → Int64) (o : Nat) : Nat → Nat → Int64 := fun x => if o < x ∧ x < o + 5 then (fun _ => 0) else g x
def q_rM (r : Nat → Nat → Option Nat) (o : Nat) : Nat → Nat → Option Nat := va_up r o (fun j => if j < 4 then some (o + 1 + j) else none)
theorem q_outer (cA : ClassId) (z : Nat) : Jvm.Free.Multi.outerC cA 4 z 4 = arrV cA 4 (fun j => va_rf (if j < 4 then some (z + 1 + j) else none)) := by
  show (((({ cls := cA, slots := Array.replicate 4 .null, vm := .none } : Cell).setSlot 0 (.ref (z + 1 + 0))).setSlot 1 (.ref (z + 1 + 1))).setSlot 2 (.ref (z + 1 + 2))).setSlot 3 (.ref (z + 1 + 3)) = _
  rw [arrV_new, arrV_store, arrV_store, arrV_store, arrV_store]
  unfold arrV
  congr 1
