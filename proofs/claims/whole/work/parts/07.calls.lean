/-! contracts, returns, calls (nothing is made) -/
def q_Q (D : va_G) (ca : FieldType → ClassId) (ty : Nat → PT) (al : Nat → Bool) (ad : Nat → Nat) (post : Option Value → PH → Prop) : Array Value → State → Outcome → State → Prop := fun _ st o t => (∃ (r : Option Value) (h' : PH), o = .returned (r.map (q_cv ad)) ∧ post r h' ∧ q_R D ca ty al ad h' t.heap) ∧ va_F (q_A al ad) st t
def q_P (D : va_G) (ca : FieldType → ClassId) (ty : Nat → PT) (al : Nat → Bool) (ad : Nat → Nat) (as : List Value) (h : PH) : Array Value → State → Prop := va_Pc (as.map (q_cv ad)) (fun U => q_T D ca U ∧ q_R D ca ty al ad h U.heap ∧ q_J al ad)
def q_Con (y : MethodName) (cc : ByteArray) (maxL : Nat) (ret : Option FieldType) (fr lo : Nat) (ty : Nat → PT) (al : Nat → Bool) (as : List Value) (h : PH) (post : Option Value → PH → Prop) : Prop :=
  ∀ (l : Launch) (D : va_G) (ca : FieldType → ClassId) (ad : Nat → Nat), Met l y [.code y cc maxL ret] { frames := fr, cells := 0, slots := 0, locals := lo } (q_P D ca ty al ad as h) (q_Q D ca ty al ad post) 0 0 (q_A al ad)
def q_Er (C : q_Ctx) (ret : Option FieldType) (ty : Nat → PT) (al : Nat → Bool) (ad : Nat → Nat) (post : Option Value → PH → Prop) : Prop := match C with
  | ((p, l, e, R, s), (m, args, below, meth, c), (D, ca, A, Q)) => meth.sig.returnType = ret ∧ meth.locks = false ∧ Q = MQ below (q_Q D ca ty al ad post) args s 0 0 (q_A al ad) ∧ A = q_A al ad
theorem q_lgsl (ad : Nat → Nat) (vs : List Value) : (lg_sl (vs.map (q_cv ad))).length = (lg_sl vs).length := by
  induction vs with
  | nil => rfl
  | cons v r ih =>
    have e : ∀ (v : Value) (r : List Value), (lg_sl (v :: r)).length = (if v.category = 2 then 2 else 1) + (lg_sl r).length := by
      intro v r
      simp only [lg_sl, List.flatMap_cons, List.length_append]
      split <;> rfl
    rw [List.map_cons, e, e, ih, q_cv_cat]
theorem q_ofW {l : Launch} {y : MethodName} {ws ws' : List Cond} {rm : Room} {Pc : Array Value → State → Prop} {Qc : Array Value → State → Outcome → State → Prop} {mc ms : Nat} {free : Addr → Prop} {cc : ByteArray} {maxL : Nat} {ret : Option FieldType}
    (hy : plainFor y = true) (hw : ws = Cond.code y cc maxL ret :: ws')
    (body : ∀ p e s m args below meth c s₁, BodyLoose p l y (headSpec ws rm) cc maxL ret e s m args below meth c s₁ → c.maxLocals = maxL → Pc args s →
      W p l e (headSpec ws rm).room s m args below meth c s.heap [] 0 0 (MQ below Qc args s mc ms free) (entryFrame m args maxL)) : Met l y ws rm Pc Qc mc ms free := by
  refine MetFree.of_bodySF (code := cc) (maxLocals := maxL) (ret := ret) hy ?_ ?_
  · intro args s m h hn
    obtain ⟨meth, c, h1, h2, h3, h4, h5, h6, -, -⟩ := Cond.code_spec hn (atoms_spec (ws := ws) h _ (by rw [hw]; exact List.mem_cons_self))
    exact ⟨meth, c, h1, h2, h3, h4, h5, h6⟩
  · intro p e s m args below meth c s₁ B hml hP _
    have hh0 : s₁.heap = s.heap := by rw [B.state]; rfl
    obtain ⟨t, a1, o, b1, b2, b3⟩ := body p e s m args below meth c s₁ B hml hP s₁ hh0 (Stand.of_body B)
    exact ⟨t, o, a1, b1, b2, ⟨b3.1, b3.2⟩⟩
theorem q_Con.of {y : MethodName} {cc : ByteArray} {maxL : Nat} {ret : Option FieldType} {fr lo : Nat} {ty : Nat → PT} {al : Nat → Bool} {as : List Value} {h : PH} {post : Option Value → PH → Prop} (own : String) (ls0 : List (Option Value)) (hy : plainFor y = true) (ho : y.cls = own) (hls : q_in as maxL = ls0) (hlen : (lg_sl as).length ≤ maxL)
    (body : ∀ (C : q_Ctx) (ad : Nat → Nat), q_Ev C cc maxL own al ad fr lo → q_Er C ret ty al ad post → gg C ty maxL 0 0 al ad 0 ls0 [] h) : q_Con y cc maxL ret fr lo ty al as h post := by
  intro l D ca ad
  refine q_ofW (cc := cc) (maxL := maxL) (ret := ret) hy rfl ?_
  intro p e s m args below meth c s₁ B hml hv
  obtain ⟨rfl, hT, hR, hJ⟩ := hv
  have hown : s.vm.findClass own = some m.cls := by rw [← ho]; exact findClass_of_methodNamed B.named
  have K := body ((p, l, e, (headSpec [Cond.code y cc maxL ret] { frames := fr, cells := 0, slots := 0, locals := lo }).room, s), (m, (as.map (q_cv ad)).toArray, below, meth, c), (D, ca, q_A al ad, MQ below (q_Q D ca ty al ad post) (as.map (q_cv ad)).toArray s 0 0 (q_A al ad))) ad
    ⟨B.exec, B.bytes, hml, hown, hT, hJ, fun a ha => ⟨a, ha, rfl⟩, Nat.le_refl _, Nat.le_refl _⟩ ⟨B.returns, B.notSynchronized, rfl, rfl⟩
  rw [lg_entry_eq]
  exact K s.heap [] _ ⟨Nat.zero_le _, Nat.zero_le _⟩ hR va_S.rf (hls ▸ q_entry (lv_entry _ (by rw [q_lgsl]; exact hlen)))
section GR
variable {C : q_Ctx} {ty : Nat → PT} {cc : ByteArray} {nL : Nat} {own : String} {al : Nat → Bool} {ad : Nat → Nat} {FR LO : Nat} {pc : Nat} {ls : List (Option Value)} {h : PH} {post : Option Value → PH → Prop}
theorem g_iret {v : Int32} (E : q_Ev C cc nL own al ad FR LO) (Z : q_Er C (some .int) ty al ad post) (hd : decode cc pc = .ok (.ireturn, 1)) (hp : post (some (.int v)) h) : gg C ty nL 0 0 al ad pc ls [.int v] h := by
  obtain ⟨⟨p, l, e, R, s⟩, ⟨m, args, below, meth, c⟩, ⟨D, ca, A, Q⟩⟩ := C
  obtain ⟨z1, z2, z3, z4⟩ := Z
  subst z3; subst z4
  exact fun H locs lsA hZ hR hS hl => W.iret E.1 E.2.1 z1 (fun t ht hW => ⟨⟨some (.int v), h, rfl, hp, by rw [ht]; exact hR⟩, hS.F ht⟩) (fun q hq => hS.2.2 q hq) hd (hlocks := z2)
theorem g_zret {v : Int32} (E : q_Ev C cc nL own al ad FR LO) (Z : q_Er C (some .boolean) ty al ad post) (hd : decode cc pc = .ok (.ireturn, 1)) (hn : narrow .boolean (.int v) = .int v) (hp : post (some (.int v)) h) : gg C ty nL 0 0 al ad pc ls [.int v] h := by
  obtain ⟨⟨p, l, e, R, s⟩, ⟨m, args, below, meth, c⟩, ⟨D, ca, A, Q⟩⟩ := C
  obtain ⟨z1, z2, z3, z4⟩ := Z
  subst z3; subst z4
  exact fun H locs lsA hZ hR hS hl => W.zret E.1 E.2.1 z1 hn (fun t ht hW => ⟨⟨some (.int v), h, rfl, hp, by rw [ht]; exact hR⟩, hS.F ht⟩) (fun q hq => hS.2.2 q hq) hd (hlocks := z2)
theorem g_lret {v : Int64} (E : q_Ev C cc nL own al ad FR LO) (Z : q_Er C (some .long) ty al ad post) (hd : decode cc pc = .ok (.lreturn, 1)) (hp : post (some (.long v)) h) : gg C ty nL 0 0 al ad pc ls [.long v] h := by
  obtain ⟨⟨p, l, e, R, s⟩, ⟨m, args, below, meth, c⟩, ⟨D, ca, A, Q⟩⟩ := C
  obtain ⟨z1, z2, z3, z4⟩ := Z
  subst z3; subst z4
  exact fun H locs lsA hZ hR hS hl => W.lret E.1 E.2.1 z1 (fun t ht hW => ⟨⟨some (.long v), h, rfl, hp, by rw [ht]; exact hR⟩, hS.F ht⟩) (fun q hq => hS.2.2 q hq) hd (hlocks := z2)
theorem g_vret (E : q_Ev C cc nL own al ad FR LO) (Z : q_Er C none ty al ad post) (hd : decode cc pc = .ok (.return_, 1)) (hp : post none h) : gg C ty nL 0 0 al ad pc ls [] h := by
  obtain ⟨⟨p, l, e, R, s⟩, ⟨m, args, below, meth, c⟩, ⟨D, ca, A, Q⟩⟩ := C
  obtain ⟨z1, z2, z3, z4⟩ := Z
  subst z3; subst z4
  exact fun H locs lsA hZ hR hS hl => W.vret E.1 E.2.1 z1 (fun t ht hW => ⟨⟨none, h, rfl, hp, by rw [ht]; exact hR⟩, hS.F ht⟩) (fun q hq => hS.2.2 q hq) hd (hlocks := z2)
end GR
theorem q_blind {D : va_G} {ca : FieldType → ClassId} {ty : Nat → PT} {al : Nat → Bool} {ad : Nat → Nat} {as : List Value} {h : PH} : FrameBlind (q_P D ca ty al ad as h) := fun a U g mk q => ⟨q.1, q_T.warm (s := U) (U := U.calling g mk a) (State.WarmedH.refl U) q.2.1, q.2.2.1, q.2.2.2⟩
theorem q_cats (ad : Nat → Nat) (rest : List Value) : ((rest.map (q_cv ad)).map fun v => v.category) = rest.map fun v => v.category := by
  rw [List.map_map]
  exact List.map_congr_left (fun v _ => q_cv_cat ad v)
section GC
variable {C : q_Ctx} {ty : Nat → PT} {cc : ByteArray} {nL kc ks : Nat} {own : String} {al : Nat → Bool} {ad : Nat → Nat} {FR LO : Nat} {pc : Nat} {ls : List (Option Value)} {st rest : List Value} {h : PH} {post : Option Value → PH → Prop}
variable {y : MethodName} {cy : ByteArray} {maxL fr lo idx n : Nat} {ret : Option FieldType} {as : List Value}
theorem q_after {p : Program} {l : Launch} {e : Env} {R : Room} {s : State} {m : MethodId} {args : Array Value} {below : List Frame} {meth : Method} {c : Code} {D : va_G} {ca : FieldType → ClassId} {A : Nat → Prop} {Q : State → Prop} {H : Heap} {locs : List Loc} {lsA : Array Slot} {a : Array Value} {st0 : List Value}
    (hr : va_Run p l e R s m args below meth c H locs kc ks 0 0 (F0 m pc lsA st0) (rest.map (q_cv ad)) (q_Q D ca ty al ad post a) (q_A al ad)) (hZ : kc ≤ R.cells ∧ ks ≤ R.slots) (hS : va_S A s.heap H locs) (hA : ∀ a, al a = true → A (ad a)) (hl : q_L ad nL ls lsA)
    (k : ∀ r h', post r h' → gg ((p, l, e, R, s), (m, args, below, meth, c), (D, ca, A, Q)) ty nL kc ks al ad (pc + 3) ls (r.toList ++ rest) h') : W p l e R s m args below meth c H locs kc ks Q (F0 m pc lsA st0) := by
  intro T hT X
  obtain ⟨v, st₀, t, T', L, h0, X', hL, e1, e2, ⟨⟨r, h', hv, hp, hR'⟩, hz, hk⟩, stp⟩ := hr T hT X
  cases hv
  rw [h0] at hz hk
  have hAA : ∀ q, q_A al ad q → A q := fun q ⟨b, hb, hq⟩ => hq ▸ hA b hb
  obtain ⟨t2, a1, b1⟩ := k r h' hp T'.heap (locs ++ L) lsA hZ (by rw [e1]; exact hR')
    ⟨Nat.le_trans hS.1 (by rw [e1]; exact hz), fun q h1 h2 => by rw [e1, hk q (Nat.lt_of_lt_of_le h1 hS.1) (fun z => h2 (hAA q z))]; exact hS.2.1 q h1 h2, fun q hq => by
      rcases List.mem_append.mp hq with h | h
      · exact hS.2.2 q h
      · exact hAA _ (hL q h)⟩ hl T' rfl X'
  refine ⟨t2, stp t2 ?_, b1⟩
  cases r <;> exact a1
theorem q_callV {a ci : Nat} (E : q_Ev C cc nL own al ad FR LO) (hC : q_Con y cy maxL ret fr lo ty al (.ref a :: as) h post) (hw : q_CV own idx ci y cy maxL ret n) (hn : as.length = n) (hf1 : fr + 1 ≤ FR) (hf2 : 8 + (maxL + 11) + lo ≤ LO) (ha : al a = true) (hty : ty a = .inr ci) (hdep : (rest.map fun v => v.category).sum ≤ 8) (hd : decode cc pc = .ok (.invokevirtual idx, 3)) (hst : st = as.reverse ++ .ref a :: rest)
    (k : ∀ r h', post r h' → gg C ty nL kc ks al ad (pc + 3) ls (r.toList ++ rest) h') : gg C ty nL kc ks al ad pc ls st h := by
  obtain ⟨⟨p, l, e, R, s⟩, ⟨m, args, below, meth, c⟩, ⟨D, ca, A, Q⟩⟩ := C
  intro H locs lsA hZ hR hS hl
  subst hst
  obtain ⟨hx, hb, hml, hown, hT, hJ, hA, hFR, hLO⟩ := E
  obtain ⟨⟨Tc, Nc, ok⟩, hlk, w2, w3, w4, w5, d1, d2, d3⟩ := hw
  have hP := hR a ha
  rw [hty] at hP
  obtain ⟨r, g0, cell, g1, g2, g3, -⟩ := hP
  have hrecv : ∃ cellB : Cell, H[ad a]? = some cellB ∧ cellB.vm.isStatics = false ∧ s.vm.findClass y.cls = some cellB.cls := ⟨cell, g1, by rw [g3]; rfl, by rw [g2]; exact (hT.2.1 ci _ ok.1).2.1⟩
  have hpre : PreV s H y.cls (ad a) (q_P D ca ty al ad (.ref a :: as) h) (as.map (q_cv ad)) := ⟨q_blind, hrecv, fun U hU hW => ⟨rfl, hT.warm hW, by rw [hU]; exact hR, hJ⟩⟩
  have hlen : ∀ sig, parseMethodDescriptor y.desc = some sig → n = sig.parameters.length := fun sig h => by rw [h] at d3; exact (Option.some.inj d3).symm
  have hws : ∀ w ∈ [Cond.code y cy maxL ret], ∀ (a' : Array Value) (U : State), s.WarmedH U.vm → w.before a' U = true := fun w hw a' U hW => by
    rw [List.mem_singleton.mp hw]
    exact (hT.warm hW).1 _ w4 rfl _
  have hstk : (as.reverse ++ Value.ref a :: rest).map (q_cv ad) = (as.map (q_cv ad)).reverse ++ Value.ref (ad a) :: rest.map (q_cv ad) := by
    rw [List.map_append, List.map_cons, List.map_reverse]; rfl
  have hdp : 2 * (F0 m pc lsA ((as.reverse ++ Value.ref a :: rest).map (q_cv ad))).monitorRoom + ((rest.map (q_cv ad)).map fun v => v.category).sum ≤ 8 := by
    rw [q_cats]; show 2 * 0 + _ ≤ 8; omega
  rcases hlk with hlk | ⟨host, hlk⟩
  · exact q_after (va_runV (Ts := []) (C := y.cls) ⟨hx, hb, hml, hown, fun w h => by cases h⟩ (hC l D ca ad) ⟨⟨rfl, rfl, Nat.le_trans hf1 hFR, Nat.le_trans hf2 hLO, hws, List.mem_singleton.mpr rfl, hT.1 _ w4 rfl _, hT.1 _ w5 rfl _, ⟨d1, d2⟩, hlen, hT.1 _ hlk rfl _⟩, hT.1 _ w2 rfl _, hT.1 _ w3 rfl _⟩ hpre rfl (by rw [List.length_map]; exact hn) hl.1 hstk hdp hd hZ) hZ hS hA hl k
  · exact q_after (va_runVN (Ts := []) (C := y.cls) ⟨hx, hb, hml, hown, fun w h => by cases h⟩ (hC l D ca ad) ⟨⟨⟨rfl, rfl, Nat.le_trans hf1 hFR, Nat.le_trans hf2 hLO, hws, List.mem_singleton.mpr rfl⟩, hT.1 _ w4 rfl _, hT.1 _ w5 rfl _, ⟨d1, d2⟩, hlen, hT.1 _ hlk rfl _⟩, hT.1 _ w2 rfl _, hT.1 _ w3 rfl _⟩ hpre rfl (by rw [List.length_map]; exact hn) hl.1 hstk hdp hd hZ) hZ hS hA hl k
theorem q_callS (E : q_Ev C cc nL own al ad FR LO) (hC : q_Con y cy maxL ret fr lo ty al as h post) (hw : q_CS own idx y cy maxL ret n) (hn : as.length = n) (hf1 : fr + 1 ≤ FR) (hf2 : 8 + (maxL + 11) + lo ≤ LO) (hdep : (rest.map fun v => v.category).sum ≤ 8) (hd : decode cc pc = .ok (.invokestatic idx, 3)) (hst : st = as.reverse ++ rest)
    (k : ∀ r h', post r h' → gg C ty nL kc ks al ad (pc + 3) ls (r.toList ++ rest) h') : gg C ty nL kc ks al ad pc ls st h := by
  obtain ⟨⟨p, l, e, R, s⟩, ⟨m, args, below, meth, c⟩, ⟨D, ca, A, Q⟩⟩ := C
  intro H locs lsA hZ hR hS hl
  subst hst
  obtain ⟨hx, hb, hml, hown, hT, hJ, hA, hFR, hLO⟩ := E
  obtain ⟨hlk, w2, w4, w5, d1, d2, d3⟩ := hw
  have hpre : PreS s H (q_P D ca ty al ad as h) (as.map (q_cv ad)) := ⟨q_blind, fun U hU hW => ⟨rfl, hT.warm hW, by rw [hU]; exact hR, hJ⟩⟩
  have hlen : ∀ sig, parseMethodDescriptor y.desc = some sig → n = sig.parameters.length := fun sig h => by rw [h] at d3; exact (Option.some.inj d3).symm
  have hws : ∀ w ∈ [Cond.code y cy maxL ret], ∀ (a' : Array Value) (U : State), s.WarmedH U.vm → w.before a' U = true := fun w hw a' U hW => by
    rw [List.mem_singleton.mp hw]
    exact (hT.warm hW).1 _ w4 rfl _
  have hstk : (as.reverse ++ rest).map (q_cv ad) = (as.map (q_cv ad)).reverse ++ rest.map (q_cv ad) := by
    rw [List.map_append, List.map_reverse]
  have hdp : 2 * (F0 m pc lsA ((as.reverse ++ rest).map (q_cv ad))).monitorRoom + ((rest.map (q_cv ad)).map fun v => v.category).sum ≤ 8 := by
    rw [q_cats]; show 2 * 0 + _ ≤ 8; omega
  rcases hlk with hlk | ⟨host, hlk⟩
  · exact q_after (va_runS (Ts := []) ⟨hx, hb, hml, hown, fun w h => by cases h⟩ (hC l D ca ad) ⟨⟨rfl, rfl, Nat.le_trans hf1 hFR, Nat.le_trans hf2 hLO, hws, List.mem_singleton.mpr rfl, hT.1 _ w4 rfl _, hT.1 _ w5 rfl _, ⟨d1, d2⟩, hlen, hT.1 _ hlk rfl _⟩, hT.1 _ w2 rfl _⟩ hpre rfl (by rw [List.length_map]; exact hn) hl.1 hstk hdp hd hZ) hZ hS hA hl k
  · exact q_after (va_runSN (Ts := []) ⟨hx, hb, hml, hown, fun w h => by cases h⟩ (hC l D ca ad) ⟨⟨⟨rfl, rfl, Nat.le_trans hf1 hFR, Nat.le_trans hf2 hLO, hws, List.mem_singleton.mpr rfl⟩, hT.1 _ w4 rfl _, hT.1 _ w5 rfl _, ⟨d1, d2⟩, hlen, hT.1 _ hlk rfl _⟩, hT.1 _ w2 rfl _, trivial⟩ hpre rfl (by rw [List.length_map]; exact hn) hl.1 hstk hdp hd hZ) hZ hS hA hl k
end GC
