/-! MAKING: contracts that make cells; al and ad grow -/
def q_AN (al : Nat → Bool) (ad : Nat → Nat) (sz : Nat) : Nat → Prop := fun q => q_A al ad q ∨ sz ≤ q
abbrev q_Kp (al0 : Nat → Bool) (ad0 : Nat → Nat) (al : Nat → Bool) (ad : Nat → Nat) : Prop := ∀ a, al0 a = true → al a = true ∧ ad a = ad0 a
def q_QN (D : va_G) (ca : FieldType → ClassId) (ty : Nat → PT) (al : Nat → Bool) (ad : Nat → Nat) (sz : Nat) (post : Option Value → (Nat → Bool) → PH → Prop) : Array Value → State → Outcome → State → Prop := fun _ st o t => (∃ (r : Option Value) (h' : PH) (al2 : Nat → Bool) (ad2 : Nat → Nat), o = .returned (r.map (q_cv ad2)) ∧ post r al2 h' ∧ q_Kp al ad al2 ad2 ∧ (∀ a, al2 a = true → al a = true ∨ sz ≤ ad2 a) ∧ q_J al2 ad2 ∧ q_R D ca ty al2 ad2 h' t.heap) ∧ va_F (q_AN al ad sz) st t
def q_PN (D : va_G) (ca : FieldType → ClassId) (ty : Nat → PT) (al : Nat → Bool) (ad : Nat → Nat) (sz : Nat) (as : List Value) (h : PH) : Array Value → State → Prop := va_Pc (as.map (q_cv ad)) (fun U => U.heap.size = sz ∧ q_T D ca U ∧ q_R D ca ty al ad h U.heap ∧ q_J al ad)
def q_ConN (y : MethodName) (cc : ByteArray) (maxL : Nat) (ret : Option FieldType) (fr lo mc ms : Nat) (ty : Nat → PT) (al : Nat → Bool) (as : List Value) (h : PH) (post : Option Value → (Nat → Bool) → PH → Prop) : Prop :=
  ∀ (l : Launch) (D : va_G) (ca : FieldType → ClassId) (ad : Nat → Nat) (sz : Nat), Met l y [.code y cc maxL ret] { frames := fr, cells := mc, slots := ms, locals := lo } (q_PN D ca ty al ad sz as h) (q_QN D ca ty al ad sz post) mc ms (q_AN al ad sz)
def q_Nv (C : q_Ctx) (mc ms : Nat) : Prop := match C with
  | ((p, l, e, R, s), (m, args, below, meth, c), (D, ca, A, Q)) => (∀ q, s.heap.size ≤ q → A q) ∧ mc ≤ R.cells ∧ ms ≤ R.slots
def q_In (C : q_Ctx) : Prop := match C with
  | ((p, l, e, R, s), (m, args, below, meth, c), (D, ca, A, Q)) => meth.name = "<init>"
def q_ErN (C : q_Ctx) (ret : Option FieldType) (ty : Nat → PT) (al : Nat → Bool) (ad : Nat → Nat) (mc ms : Nat) (post : Option Value → (Nat → Bool) → PH → Prop) : Prop := match C with
  | ((p, l, e, R, s), (m, args, below, meth, c), (D, ca, A, Q)) => meth.sig.returnType = ret ∧ meth.locks = false ∧ Q = MQ below (q_QN D ca ty al ad s.heap.size post) args s mc ms (q_AN al ad s.heap.size) ∧ A = q_AN al ad s.heap.size
theorem q_ConN.of {y : MethodName} {cc : ByteArray} {maxL : Nat} {ret : Option FieldType} {fr lo mc ms : Nat} {ty : Nat → PT} {al : Nat → Bool} {as : List Value} {h : PH} {post : Option Value → (Nat → Bool) → PH → Prop} (own : String) (ls0 : List (Option Value)) (hy : plainFor y = true) (ho : y.cls = own) (hls : q_in as maxL = ls0) (hlen : (lg_sl as).length ≤ maxL)
    (body : ∀ (C : q_Ctx) (ad : Nat → Nat), q_Ev C cc maxL own al ad fr lo → q_Nv C mc ms → (y.name = "<init>" → q_In C) → q_ErN C ret ty al ad mc ms post → gg C ty maxL 0 0 al ad 0 ls0 [] h) : q_ConN y cc maxL ret fr lo mc ms ty al as h post := by
  intro l D ca ad sz
  refine q_ofW (cc := cc) (maxL := maxL) (ret := ret) hy rfl ?_
  intro p e s m args below meth c s₁ B hml hv
  obtain ⟨rfl, hsz, hT, hR, hJ⟩ := hv
  subst hsz
  have hown : s.vm.findClass own = some m.cls := by rw [← ho]; exact findClass_of_methodNamed B.named
  have K := body ((p, l, e, (headSpec [Cond.code y cc maxL ret] { frames := fr, cells := mc, slots := ms, locals := lo }).room, s), (m, (as.map (q_cv ad)).toArray, below, meth, c), (D, ca, q_AN al ad s.heap.size, MQ below (q_QN D ca ty al ad s.heap.size post) (as.map (q_cv ad)).toArray s mc ms (q_AN al ad s.heap.size))) ad
    ⟨B.exec, B.bytes, hml, hown, hT, hJ, fun a ha => Or.inl ⟨a, ha, rfl⟩, Nat.le_refl _, Nat.le_refl _⟩ ⟨fun q hq => Or.inr hq, Nat.le_refl _, Nat.le_refl _⟩ (fun hn => (name_of_methodNamed B.named B.method).1.trans hn) ⟨B.returns, B.notSynchronized, rfl, rfl⟩
  rw [lg_entry_eq]
  exact K s.heap [] _ ⟨Nat.zero_le _, Nat.zero_le _⟩ hR va_S.rf (hls ▸ q_entry (lv_entry _ (by rw [q_lgsl]; exact hlen)))
theorem q_En {ca : FieldType → ClassId} {ad ad' : Nat → Nat} {h h' : PH} {t : PT} {b b' : Nat} (h1 : h'.1 b' = h.1 b) (h2 : h'.2.1 b' = h.2.1 b) (h3 : ∀ k, (h'.2.2 b' k).map ad' = (h.2.2 b k).map ad) : q_E ca ad' h' t b' = q_E ca ad h t b := by
  cases t with
  | inl x => simp only [q_E, q_ar, h1, h2, h3]
  | inr ci => simp only [q_E, q_fs, q_fv, h1, h2, h3]
def q_cl (al : Nat → Bool) (r : Nat → Nat → Option Nat) : Prop := ∀ b k c, al b = true → r b k = some c → al c = true
def q_okv (al : Nat → Bool) : Value → Bool
  | .ref b => al b
  | _ => true
def q_okb (al : Nat → Bool) (ls : List (Option Value)) (st : List Value) : Bool := ls.all (fun o => match o with
  | some v => q_okv al v
  | none => true) && st.all (q_okv al)
theorem q_okb.v {al : Nat → Bool} {ad ad2 : Nat → Nat} {v : Value} (h : q_okv al v = true) (hk : ∀ a, al a = true → ad2 a = ad a) : q_cv ad2 v = q_cv ad v := by
  cases v with
  | ref b => exact congrArg Value.ref (hk b h)
  | _ => rfl
theorem q_okb.st {al : Nat → Bool} {ad ad2 : Nat → Nat} {ls : List (Option Value)} {st : List Value} (h : q_okb al ls st = true) (hk : ∀ a, al a = true → ad2 a = ad a) : st.map (q_cv ad2) = st.map (q_cv ad) :=
  List.map_congr_left (fun v hv => q_okb.v (List.all_eq_true.mp ((Bool.and_eq_true _ _).mp h).2 v hv) hk)
theorem q_okb.ls {al : Nat → Bool} {ad ad2 : Nat → Nat} {nL : Nat} {ls : List (Option Value)} {st : List Value} {lsA : Array Slot} (h : q_okb al ls st = true) (hk : ∀ a, al a = true → ad2 a = ad a) (hl : q_L ad nL ls lsA) : q_L ad2 nL ls lsA := by
  refine ⟨hl.1, hl.2.1, fun q hq => ?_⟩
  obtain ⟨k, v, h1, h2, h3⟩ := q_prs_mem.mp hq
  have hv := List.all_eq_true.mp ((Bool.and_eq_true _ _).mp h).1 (some v) (List.mem_of_getElem? h2)
  exact hl.2.2 q (q_prs_mem.mpr ⟨k, v, h1, h2, h3.trans (q_okb.v hv hk)⟩)
theorem q_Kp.rf {al : Nat → Bool} {ad : Nat → Nat} : q_Kp al ad al ad := fun a ha => ⟨ha, rfl⟩
theorem q_fr {al : Nat → Bool} {a b : Nat} (hfr : al a = false) (hb : al b = true) : b ≠ a := fun q => by rw [q, hfr] at hb; cases hb
theorem q_Kp.new {al0 al : Nat → Bool} {ad0 ad : Nat → Nat} {a q : Nat} (K : q_Kp al0 ad0 al ad) (hfr : al a = false) : q_Kp al0 ad0 (va_up al a true) (va_up ad a q) := fun b hb => by
  obtain ⟨h1, h2⟩ := K b hb
  rw [va_up_n (q_fr hfr h1), va_up_n (q_fr hfr h1)]
  exact ⟨h1, h2⟩
theorem q_Kp.tr {al0 al al2 : Nat → Bool} {ad0 ad ad2 : Nat → Nat} (K : q_Kp al0 ad0 al ad) (K2 : q_Kp al ad al2 ad2) : q_Kp al0 ad0 al2 ad2 := fun a ha => ⟨(K2 a (K a ha).1).1, (K2 a (K a ha).1).2.trans (K a ha).2⟩
theorem q_cl.new {al : Nat → Bool} {r : Nat → Nat → Option Nat} {a : Nat} (h : q_cl al r) : q_cl (va_up al a true) (va_up r a (fun _ => none)) := by
  intro b k c hb hr
  by_cases e : b = a
  · rw [e, va_up_s] at hr; cases hr
  · rw [va_up_n e] at hb hr
    by_cases e2 : c = a
    · rw [e2, va_up_s]
    · rw [va_up_n e2]; exact h b k c hb hr
theorem q_cl.put {al : Nat → Bool} {r : Nat → Nat → Option Nat} {a k c : Nat} (h : q_cl al r) (hc : al c = true) : q_cl al (q_up r a k (some c)) := by
  intro b j d hb hr
  by_cases e : b = a
  · subst e
    by_cases e2 : j = k
    · subst e2; rw [q_ups] at hr; cases hr; exact hc
    · rw [q_upz e2] at hr; exact h b j d hb hr
  · rw [q_up_ne e] at hr; exact h b j d hb hr
theorem q_R.grow {D : va_G} {ca : FieldType → ClassId} {ty : Nat → PT} {al : Nat → Bool} {ad : Nat → Nat} {h h' : PH} {H H1 : Heap} {a : Nat} (hR : q_R D ca ty al ad h H) (hfr : al a = false) (hcl : q_cl al h.2.2) (hold : ∀ x, x < H.size → H1[x]? = H[x]?) (hs : ∀ b, b ≠ a → h'.1 b = h.1 b ∧ h'.2.1 b = h.2.1 b ∧ h'.2.2 b = h.2.2 b)
    (hnew : va_at D vwCl (H.size, q_E ca (va_up ad a H.size) h' (ty a) a) H1) : q_R D ca ty (va_up al a true) (va_up ad a H.size) h' H1 := by
  intro b hb
  by_cases e : b = a
  · subst e; rw [va_up_s]; exact hnew
  · rw [va_up_n e] at hb ⊢
    have h0 := hR b hb
    have h1 := h0.kept (hold _ h0.lt)
    obtain ⟨s1, s2, s3⟩ := hs b e
    rw [q_En (ad := ad) (h := h) s1 s2 (fun k => ?_)]
    · exact h1
    · rw [s3]
      cases hr : h.2.2 b k with
      | none => rfl
      | some c => exact congrArg some (va_up_n (q_fr hfr (hcl b k c hb hr)))
theorem q_J.grow {D : va_G} {ca : FieldType → ClassId} {ty : Nat → PT} {al : Nat → Bool} {ad : Nat → Nat} {h : PH} {H : Heap} {a : Nat} (hR : q_R D ca ty al ad h H) (hJ : q_J al ad) : q_J (va_up al a true) (va_up ad a H.size) := by
  intro b c hb hc he
  by_cases e1 : b = a
  · by_cases e2 : c = a
    · rw [e1, e2]
    · rw [e1, va_up_s, va_up_n e2] at he
      rw [va_up_n e2] at hc
      have := (hR c hc).lt
      exact absurd he (by show ¬ H.size = _; have h2 : ad c < H.size := this; omega)
  · by_cases e2 : c = a
    · rw [e2, va_up_s, va_up_n e1] at he
      rw [va_up_n e1] at hb
      have := (hR b hb).lt
      exact absurd he (by have h2 : ad b < H.size := this; omega)
    · rw [va_up_n e1] at hb he
      rw [va_up_n e2] at hc he
      exact hJ b c hb hc he
/-- fewer names, and the same cells -/
theorem q_R.weak {D : va_G} {ca : FieldType → ClassId} {ty : Nat → PT} {al al' : Nat → Bool} {ad : Nat → Nat} {h h' : PH} {H : Heap} (hR : q_R D ca ty al ad h H) (hs : ∀ b, al' b = true → al b = true ∧ h'.1 b = h.1 b ∧ h'.2.1 b = h.2.1 b ∧ h'.2.2 b = h.2.2 b) : q_R D ca ty al' ad h' H := fun b hb => by
  obtain ⟨s0, s1, s2, s3⟩ := hs b hb
  rw [q_E_congr s1 s2 s3]
  exact hR b s0
def q_nf (t : FieldType) : Bool := match t with
  | .float => false
  | .double => false
  | _ => true
section GN
variable {C : q_Ctx} {ty : Nat → PT} {cc : ByteArray} {nL kc ks mc ms : Nat} {own : String} {al : Nat → Bool} {ad : Nat → Nat} {FR LO : Nat} {pc : Nat} {ls : List (Option Value)} {st : List Value} {f : Nat → Nat → Int32} {g : Nat → Nat → Int64} {r : Nat → Nat → Option Nat}
theorem g_weak {al' : Nat → Bool} {f' : Nat → Nat → Int32} {g' : Nat → Nat → Int64} {r' : Nat → Nat → Option Nat} (hs : ∀ b, al' b = true → al b = true ∧ f' b = f b ∧ g' b = g b ∧ r' b = r b) (k : gg C ty nL kc ks al' ad pc ls st (f', g', r')) : gg C ty nL kc ks al ad pc ls st (f, g, r) := by
  obtain ⟨⟨p, l, e, R, s⟩, ⟨m, args, below, meth, c⟩, ⟨D, ca, A, Q⟩⟩ := C
  exact fun H locs lsA hZ hR hS hl => k H locs lsA hZ (hR.weak hs) hS hl
theorem q_Ev.weak {al' : Nat → Bool} (E : q_Ev C cc nL own al ad FR LO) (hs : ∀ b, al' b = true → al b = true) : q_Ev C cc nL own al' ad FR LO := by
  obtain ⟨⟨p, l, e, R, s⟩, ⟨m, args, below, meth, c⟩, ⟨D, ca, A, Q⟩⟩ := C
  obtain ⟨e1, e2, e3, e4, e5, e6, e7, e8, e9⟩ := E
  exact ⟨e1, e2, e3, e4, e5, fun a b ha hb => e6 a b (hs a ha) (hs b hb), fun a ha => e7 a (hs a ha), e8, e9⟩
theorem g_new {a ci idx N : Nat} {Cn : String} {T : u_T} (E : q_Ev C cc nL own al ad FR LO) (V : q_Nv C mc ms) (hnf : (List.range N).all (fun j => q_nf (q_ft ci j)) = true) (hok : q_ok ci Cn T N) (hkl : Cond.classLink own idx Cn ∈ lw_tbl) (hin : Cond.instantiable Cn N ∈ lw_tbl) (hit : Cond.initialized Cn ∈ lw_tbl) (hfr : al a = false) (hcl : q_cl al r) (hty : ty a = .inr ci) (hv : q_okb al ls st = true) (hkc : kc + 1 ≤ mc) (hks : ks + N ≤ ms) (hd : decode cc pc = .ok (.new idx, 3))
    (k : ∀ q, q_Ev C cc nL own (va_up al a true) (va_up ad a q) FR LO → gg C ty nL (kc + 1) (ks + N) (va_up al a true) (va_up ad a q) (pc + 3) ls (.ref a :: st) (va_up f a (fun _ => 0), va_up g a (fun _ => 0), va_up r a (fun _ => none))) : gg C ty nL kc ks al ad pc ls st (f, g, r) := by
  obtain ⟨⟨p, l, e, R, s⟩, ⟨m, args, below, meth, c⟩, ⟨D, ca, A, Q⟩⟩ := C
  intro H locs lsA hZ hR hS hl
  obtain ⟨hx, hb, hml, hown, hT, hJ, hA, hFR, hLO⟩ := E
  obtain ⟨v1, v2, v3⟩ := V
  obtain ⟨o1, o2, o3, o4, o5⟩ := hok
  have hKn := hT.2.1 ci _ o1
  have hts : ∀ w ∈ u_ws Cn T N, w.before args s = true := fun w hw => hT.1 w (o2 w hw) (by
    obtain ⟨j, -, rfl⟩ := List.mem_map.mp hw
    unfold u_lay
    split <;> rfl) _
  have hkeep : ∀ b, al b = true → va_up ad a H.size b = ad b := fun b hb => va_up_n (q_fr hfr hb)
  refine W.newcK hx hb hown (hT.1 _ hkl rfl _) (hT.1 _ hin rfl _) (hT.1 _ hit rfl _) rfl hd (by omega) (by omega) hKn.2.1 rfl fun H1 kC hkC e1 z1 o1' => ?_
  have hR2 : q_R D ca ty (va_up al a true) (va_up ad a H.size) (va_up f a (fun _ => 0), va_up g a (fun _ => 0), va_up r a (fun _ => none)) H1 := by
    refine hR.grow hfr hcl o1' (fun b hb => ⟨va_up_n hb, va_up_n hb, va_up_n hb⟩) ?_
    rw [hty]
    refine ⟨_, o1, (u_born (q_ft ci) hts (fun _ h => h) hKn hkC e1 o3).to (fun j hj => ?_)⟩
    rw [q_V (by rw [o5]; exact hj)]
    show defaultValue (q_ft ci j) = q_fv (q_ft ci j) _ (va_up f a (fun _ => 0), va_up g a (fun _ => 0), va_up r a (fun _ => none)) a j
    unfold q_fv
    simp only [va_up_s]
    have hj2 := List.all_eq_true.mp hnf j (List.mem_range.mpr hj)
    cases hqt : q_ft ci j <;> rw [hqt] at hj2 <;> first | rfl | cases hj2
  have K := k H.size ⟨hx, hb, hml, hown, hT, hJ.grow hR, fun b hb => by
    by_cases eb : b = a
    · rw [eb, va_up_s]; exact v1 _ hS.1
    · rw [va_up_n eb] at hb ⊢; exact hA b hb, hFR, hLO⟩
  have K2 := K H1 locs lsA ⟨by omega, by omega⟩ hR2 ⟨Nat.le_trans hS.1 (by omega), fun x h1 h2 => (o1' x (Nat.lt_of_lt_of_le h1 hS.1)).trans (hS.2.1 x h1 h2), hS.2.2⟩ (q_okb.ls hv hkeep hl)
  rw [List.map_cons, q_okb.st hv hkeep, show q_cv (va_up ad a H.size) (.ref a) = .ref H.size from congrArg Value.ref va_up_s] at K2
  exact K2
theorem q_newa {a idx N : Nat} {t : FieldType} {at_ : ArrayType} {n : Int32} (E : q_Ev C cc nL own al ad FR LO) (V : q_Nv C mc ms) (har : Cond.arrayClass t ∈ lw_tbl) (ht : newarray.typeOf at_ = t) (i0 : Nat) (hca : ∀ ca, (q_tys ca)[i0]? = some (ca t, t)) (hra : ∀ (U : State) cA, va_RA U cA t = (U.vm.findClass ("[" ++ t.toString) = some cA)) (hN : n.toNatClampNeg = N) (hn : ¬ n < 0) (hbt : N * componentBytes t ≤ 536870912)
    (hdv : ∀ (cA : ClassId) (ad : Nat → Nat), vp_cell cA (N, q_ar t ad (va_up f a (fun _ => 0), va_up g a (fun _ => 0), va_up r a (fun _ => none)) a) = arrV cA N (fun _ => defaultValue t)) (hfr : al a = false) (hcl : q_cl al r) (hty : ty a = .inl (t, N)) (hv : q_okb al ls st = true) (hkc : kc + 1 ≤ mc) (hks : ks + N ≤ ms) (hd : decode cc pc = .ok (.newarray at_, 2))
    (k : ∀ q, q_Ev C cc nL own (va_up al a true) (va_up ad a q) FR LO → gg C ty nL (kc + 1) (ks + N) (va_up al a true) (va_up ad a q) (pc + 2) ls (.ref a :: st) (va_up f a (fun _ => 0), va_up g a (fun _ => 0), va_up r a (fun _ => none))) : gg C ty nL kc ks al ad pc ls (.int n :: st) (f, g, r) := by
  obtain ⟨⟨p, l, e, R, s⟩, ⟨m, args, below, meth, c⟩, ⟨D, ca, A, Q⟩⟩ := C
  intro H locs lsA hZ hR hS hl
  obtain ⟨hx, hb, hml, hown, hT, hJ, hA, hFR, hLO⟩ := E
  obtain ⟨v1, v2, v3⟩ := V
  subst ht
  have hkeep : ∀ b, al b = true → va_up ad a H.size b = ad b := fun b hb => va_up_n (q_fr hfr hb)
  refine va_newaK hx hb (hT.1 _ har rfl _) rfl hd rfl hn hN hbt (by omega) (by omega) rfl fun H1 cA e1 z1 o1' hAr hNm => ?_
  have hcA : cA = ca (newarray.typeOf at_) := by
    have h2 := (hT.2.2 i0 _ (hca ca)).2
    rw [hra] at h2
    exact Option.some.inj (hNm.symm.trans h2)
  subst hcA
  have hR2 : q_R D ca ty (va_up al a true) (va_up ad a H.size) (va_up f a (fun _ => 0), va_up g a (fun _ => 0), va_up r a (fun _ => none)) H1 := by
    refine hR.grow hfr hcl o1' (fun b hb => ⟨va_up_n hb, va_up_n hb, va_up_n hb⟩) ?_
    rw [hty]
    show H1[H.size]? = some (vp_cell _ _)
    rw [hdv]
    exact e1
  have K := k H.size ⟨hx, hb, hml, hown, hT, hJ.grow hR, fun b hb => by
    by_cases eb : b = a
    · rw [eb, va_up_s]; exact v1 _ hS.1
    · rw [va_up_n eb] at hb ⊢; exact hA b hb, hFR, hLO⟩
  have K2 := K H1 locs lsA ⟨by omega, by omega⟩ hR2 ⟨Nat.le_trans hS.1 (by omega), fun x h1 h2 => (o1' x (Nat.lt_of_lt_of_le h1 hS.1)).trans (hS.2.1 x h1 h2), hS.2.2⟩ (q_okb.ls hv hkeep hl)
  rw [List.map_cons, q_okb.st hv hkeep, show q_cv (va_up ad a H.size) (.ref a) = .ref H.size from congrArg Value.ref va_up_s] at K2
  exact K2
theorem g_newI {a N : Nat} {n : Int32} (E : q_Ev C cc nL own al ad FR LO) (V : q_Nv C mc ms) (hN : n.toNatClampNeg = N) (hn : ¬ n < 0) (hbt : N * 4 ≤ 536870912) (hfr : al a = false) (hcl : q_cl al r) (hty : ty a = .inl (.int, N)) (hv : q_okb al ls st = true) (hkc : kc + 1 ≤ mc) (hks : ks + N ≤ ms) (hd : decode cc pc = .ok (.newarray .int, 2))
    (k : ∀ q, q_Ev C cc nL own (va_up al a true) (va_up ad a q) FR LO → gg C ty nL (kc + 1) (ks + N) (va_up al a true) (va_up ad a q) (pc + 2) ls (.ref a :: st) (va_up f a (fun _ => 0), va_up g a (fun _ => 0), va_up r a (fun _ => none))) : gg C ty nL kc ks al ad pc ls (.int n :: st) (f, g, r) :=
  q_newa (idx := 0) E V ar_arrayClass_int rfl 0 (fun _ => rfl) (fun _ _ => rfl) hN hn hbt (fun cA ad => by show arrV cA N (fun j => .int (va_up f a (fun _ => 0) a j)) = _; rw [va_up_s]; rfl) hfr hcl hty hv hkc hks hd k
theorem g_newJ {a N : Nat} {n : Int32} (E : q_Ev C cc nL own al ad FR LO) (V : q_Nv C mc ms) (hN : n.toNatClampNeg = N) (hn : ¬ n < 0) (hbt : N * 8 ≤ 536870912) (hfr : al a = false) (hcl : q_cl al r) (hty : ty a = .inl (.long, N)) (hv : q_okb al ls st = true) (hkc : kc + 1 ≤ mc) (hks : ks + N ≤ ms) (hd : decode cc pc = .ok (.newarray .long, 2))
    (k : ∀ q, q_Ev C cc nL own (va_up al a true) (va_up ad a q) FR LO → gg C ty nL (kc + 1) (ks + N) (va_up al a true) (va_up ad a q) (pc + 2) ls (.ref a :: st) (va_up f a (fun _ => 0), va_up g a (fun _ => 0), va_up r a (fun _ => none))) : gg C ty nL kc ks al ad pc ls (.int n :: st) (f, g, r) :=
  q_newa (idx := 0) E V ar_arrayClass_long rfl 1 (fun _ => rfl) (fun _ _ => rfl) hN hn hbt (fun cA ad => by show arrV cA N (fun j => .long (va_up g a (fun _ => 0) a j)) = _; rw [va_up_s]; rfl) hfr hcl hty hv hkc hks hd k
theorem g_newZ {a N : Nat} {n : Int32} (E : q_Ev C cc nL own al ad FR LO) (V : q_Nv C mc ms) (hN : n.toNatClampNeg = N) (hn : ¬ n < 0) (hbt : N * 1 ≤ 536870912) (hfr : al a = false) (hcl : q_cl al r) (hty : ty a = .inl (.boolean, N)) (hv : q_okb al ls st = true) (hkc : kc + 1 ≤ mc) (hks : ks + N ≤ ms) (hd : decode cc pc = .ok (.newarray .boolean, 2))
    (k : ∀ q, q_Ev C cc nL own (va_up al a true) (va_up ad a q) FR LO → gg C ty nL (kc + 1) (ks + N) (va_up al a true) (va_up ad a q) (pc + 2) ls (.ref a :: st) (va_up f a (fun _ => 0), va_up g a (fun _ => 0), va_up r a (fun _ => none))) : gg C ty nL kc ks al ad pc ls (.int n :: st) (f, g, r) :=
  q_newa (idx := 0) E V ar_arrayClass_boolean rfl 2 (fun _ => rfl) (fun _ _ => rfl) hN hn hbt (fun cA ad => by show arrV cA N (fun j => .int (va_up f a (fun _ => 0) a j)) = _; rw [va_up_s]; rfl) hfr hcl hty hv hkc hks hd k
theorem g_newB {a N : Nat} {n : Int32} (E : q_Ev C cc nL own al ad FR LO) (V : q_Nv C mc ms) (hN : n.toNatClampNeg = N) (hn : ¬ n < 0) (hbt : N * 1 ≤ 536870912) (hfr : al a = false) (hcl : q_cl al r) (hty : ty a = .inl (.byte, N)) (hv : q_okb al ls st = true) (hkc : kc + 1 ≤ mc) (hks : ks + N ≤ ms) (hd : decode cc pc = .ok (.newarray .byte, 2))
    (k : ∀ q, q_Ev C cc nL own (va_up al a true) (va_up ad a q) FR LO → gg C ty nL (kc + 1) (ks + N) (va_up al a true) (va_up ad a q) (pc + 2) ls (.ref a :: st) (va_up f a (fun _ => 0), va_up g a (fun _ => 0), va_up r a (fun _ => none))) : gg C ty nL kc ks al ad pc ls (.int n :: st) (f, g, r) :=
  q_newa (idx := 0) E V ar_arrayClass_byte rfl 3 (fun _ => rfl) (fun _ _ => rfl) hN hn hbt (fun cA ad => by show arrV cA N (fun j => .int (va_up f a (fun _ => 0) a j)) = _; rw [va_up_s]; rfl) hfr hcl hty hv hkc hks hd k
theorem g_anew {a idx N : Nat} {n : Int32} (E : q_Ev C cc nL own al ad FR LO) (V : q_Nv C mc ms) (hkl : Cond.classLink own idx RX0 ∈ lw_tbl) (hN : n.toNatClampNeg = N) (hn : ¬ n < 0) (hbt : N * 4 ≤ 536870912) (hfr : al a = false) (hcl : q_cl al r) (hty : ty a = .inl (.object RX0, N)) (hv : q_okb al ls st = true) (hkc : kc + 1 ≤ mc) (hks : ks + N ≤ ms) (hd : decode cc pc = .ok (.anewarray idx, 3))
    (k : ∀ q, q_Ev C cc nL own (va_up al a true) (va_up ad a q) FR LO → gg C ty nL (kc + 1) (ks + N) (va_up al a true) (va_up ad a q) (pc + 3) ls (.ref a :: st) (va_up f a (fun _ => 0), va_up g a (fun _ => 0), va_up r a (fun _ => none))) : gg C ty nL kc ks al ad pc ls (.int n :: st) (f, g, r) := by
  obtain ⟨⟨p, l, e, R, s⟩, ⟨m, args, below, meth, c⟩, ⟨D, ca, A, Q⟩⟩ := C
  intro H locs lsA hZ hR hS hl
  obtain ⟨hx, hb, hml, hown, hT, hJ, hA, hFR, hLO⟩ := E
  obtain ⟨v1, v2, v3⟩ := V
  subst hN
  have hkeep : ∀ b, al b = true → va_up ad a H.size b = ad b := fun b hb => va_up_n (q_fr hfr hb)
  refine W.anew hx hb hown (hT.1 _ hkl rfl _) (hT.1 _ ar_arrayOver_objectHopBeamsCell rfl _) rfl hd rfl hn hbt (by omega) (by omega) fun cA kA comp f1 f2 f3 f4 => ?_
  generalize hH1 : H.push ({ cls := cA, slots := Array.replicate n.toNatClampNeg .null, vm := .none } : Cell) = H1
  have z1 : H1.size = H.size + 1 := by rw [← hH1, Array.size_push]
  have e1 : H1[H.size]? = some (arrV cA n.toNatClampNeg (fun _ => .null)) := by rw [← hH1, Array.getElem?_push_size, ← arrV_new]
  have o1' : ∀ q : Nat, q < H.size → H1[q]? = H[q]? := fun q hq => by rw [← hH1, Array.getElem?_push, if_neg (Nat.ne_of_lt hq)]
  have hcA : cA = ca (.object RX0) := by
    obtain ⟨kA2, comp2, -, -, -, h2⟩ := (hT.2.2 4 (ca (.object RX0), .object RX0) rfl).2
    exact Option.some.inj (f1.symm.trans h2)
  subst hcA
  have hR2 : q_R D ca ty (va_up al a true) (va_up ad a H.size) (va_up f a (fun _ => 0), va_up g a (fun _ => 0), va_up r a (fun _ => none)) H1 := by
    refine hR.grow hfr hcl o1' (fun b hb => ⟨va_up_n hb, va_up_n hb, va_up_n hb⟩) ?_
    rw [hty]
    show H1[H.size]? = some (vp_cell _ (n.toNatClampNeg, .inr (.inr (.inr (.inr (fun i => (va_up r a (fun _ => none) a i).map _))))))
    rw [va_up_s, e1]
    rfl
  have K := k H.size ⟨hx, hb, hml, hown, hT, hJ.grow hR, fun b hb => by
    by_cases eb : b = a
    · rw [eb, va_up_s]; exact v1 _ hS.1
    · rw [va_up_n eb] at hb ⊢; exact hA b hb, hFR, hLO⟩
  have K2 := K H1 locs lsA ⟨by omega, by omega⟩ hR2 ⟨Nat.le_trans hS.1 (by omega), fun x h1 h2 => (o1' x (Nat.lt_of_lt_of_le h1 hS.1)).trans (hS.2.1 x h1 h2), hS.2.2⟩ (q_okb.ls hv hkeep hl)
  rw [List.map_cons, q_okb.st hv hkeep, show q_cv (va_up ad a H.size) (.ref a) = .ref H.size from congrArg Value.ref va_up_s] at K2
  exact K2
theorem g_oi {a idx : Nat} {h : PH} (E : q_Ev C cc nL own al ad FR LO) (hlk : Cond.methodLink own idx objectInit ∈ lw_tbl) (hf : 1 ≤ FR) (hlo : 20 ≤ LO) (hdep : (st.map fun v => v.category).sum ≤ 8) (hd : decode cc pc = .ok (.invokespecial idx, 3)) (k : gg C ty nL kc ks al ad (pc + 3) ls st h) : gg C ty nL kc ks al ad pc ls (.ref a :: st) h := by
  obtain ⟨⟨p, l, e, R, s⟩, ⟨m, args, below, meth, c⟩, ⟨D, ca, A, Q⟩⟩ := C
  intro H locs lsA hZ hR hS hl
  obtain ⟨hx, hb, hml, hown, hT, hJ, hA, hFR, hLO⟩ := E
  refine W.objInit hx hb hown (hT.1 _ hlk rfl _) (hT.1 _ wi_oi rfl _) (hT.1 _ wc_oi rfl _) rfl (hl.1.trans hml.symm) rfl hd (Nat.le_trans hf hFR) ?_ (k H locs lsA hZ hR hS hl)
  rw [q_cats]
  show 2 * 0 + _ + 12 ≤ _
  omega
end GN
