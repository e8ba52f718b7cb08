/-! the heap's instructions, returns, contracts, calls -/
def q_ix (i : Int32) (n j : Nat) : Prop := vp_in i n ∧ i.toNatClampNeg = j
theorem q_ix_n {j n : Nat} (h : j < n) (hn : n < 2 ^ 31 := by decide) : q_ix (nI j) n j := ⟨vp_in_nI h hn, nI_clamp (Nat.lt_trans h hn)⟩
theorem q_ix_e {i : Int32} {j n : Nat} (e : i = nI j) (h : j < n) (hn : n < 2 ^ 31 := by decide) : q_ix i n j := e ▸ q_ix_n h hn
theorem q_ix_l {i : Int32} {j n : Nat} (h : (decide (¬ i < 0) && decide (i.toNatClampNeg < n) && decide (i.toNatClampNeg = j)) = true) : q_ix i n j := by
  simp only [Bool.and_eq_true, decide_eq_true_eq] at h
  exact ⟨fun q => q.elim h.1.1 (fun z => absurd h.1.2 (Nat.not_lt.mpr z)), h.2⟩
theorem q_E_congr {ca : FieldType → ClassId} {ad : Nat → Nat} {h h' : PH} {t : PT} {b : Nat} (h1 : h'.1 b = h.1 b) (h2 : h'.2.1 b = h.2.1 b) (h3 : h'.2.2 b = h.2.2 b) : q_E ca ad h' t b = q_E ca ad h t b := by
  cases t with
  | inl x => simp only [q_E, q_ar, h1, h2, h3]
  | inr ci => simp only [q_E, q_fs, q_fv, h1, h2, h3]
theorem q_R.set {D : va_G} {ca : FieldType → ClassId} {ty : Nat → PT} {al : Nat → Bool} {ad : Nat → Nat} {h h' : PH} {H H1 : Heap} {a : Nat} (hR : q_R D ca ty al ad h H) (hJ : q_J al ad) (ha : al a = true) (hat : va_at D vwCl (ad a, q_E ca ad h' (ty a) a) H1) (hne : ∀ q, q ≠ ad a → H1[q]? = H[q]?)
    (hs : ∀ b, b ≠ a → h'.1 b = h.1 b ∧ h'.2.1 b = h.2.1 b ∧ h'.2.2 b = h.2.2 b) : q_R D ca ty al ad h' H1 := by
  intro b hb
  by_cases e : b = a
  · subst e; exact hat
  · rw [q_E_congr (hs b e).1 (hs b e).2.1 (hs b e).2.2]
    exact (hR b hb).kept (hne _ (fun q => e (hJ b a hb ha q)))
theorem q_up_ne {α : Type} {f : Nat → Nat → α} {a k : Nat} {v : α} {b : Nat} (h : b ≠ a) : q_up f a k v b = f b := if_neg h
theorem q_up_eq {α : Type} {f : Nat → Nat → α} {a k : Nat} {v : α} : q_up f a k v a = va_up (f a) k v := if_pos rfl
theorem q_V {ci : Nat} {ad : Nat → Nat} {h : PH} {a j : Nat} (hj : j < q_N ci) : vp_V (q_fs ci ad h a) j = q_fv (q_ft ci j) ad h a j := by
  simp [vp_V, q_fs, hj]
section GH
variable {C : q_Ctx} {ty : Nat → PT} {cc : ByteArray} {nL kc ks : Nat} {own : String} {al : Nat → Bool} {ad : Nat → Nat} {FR LO : Nat} {pc : Nat} {ls : List (Option Value)} {st : List Value} {h : PH}
theorem q_getf {a ci k idx : Nat} {v : Value} (E : q_Ev C cc nL own al ad FR LO) (ha : al a = true) (hty : ty a = .inr ci) (hf : q_FL own idx ci k) (hd : decode cc pc = .ok (.getfield idx, 3)) (hv : q_fv (q_ft ci k) ad h a k = q_cv ad v)
    (kk : gg C ty nL kc ks al ad (pc + 3) ls (v :: st) h) : gg C ty nL kc ks al ad pc ls (.ref a :: st) h := by
  obtain ⟨⟨p, l, e, R, s⟩, ⟨m, args, below, meth, c⟩, ⟨D, ca, A, Q⟩⟩ := C
  intro H locs lsA hZ hR hS hl
  obtain ⟨Cn, T, N, ok, hk, hC, hlk⟩ := hf
  obtain ⟨o1, o2, o3, o4, o5⟩ := ok
  have hP : va_P D vwCl [(ad a, .inr (ci, q_fs ci ad h a))] H := by
    have h0 := hR a ha
    rw [hty] at h0
    intro i q hq
    have hz : i < 1 := (List.getElem?_eq_some_iff.mp hq).1
    rw [show i = 0 by omega] at hq
    cases hq
    exact h0
  have hv2 : (q_fs ci ad h a)[k]? = some (q_cv ad v) := by
    rw [← hv]
    simp [q_fs, o5, hk]
  have hts : ∀ w ∈ u_ws Cn T N, w.before args s = true := fun w hw => E.2.2.2.2.1.1 w (o2 w hw) (by
    obtain ⟨j, -, rfl⟩ := List.mem_map.mp hw
    unfold u_lay
    split <;> rfl) _
  rcases hlk with hlk | ⟨host, hlk⟩
  · exact va_get E.1 E.2.1 (Ts := u_ws Cn T N) hts (fun _ h => h) E.2.2.2.1 E.2.2.2.2.1.2 hP 0 rfl o1 k hk (E.2.2.2.2.1.1 _ hlk rfl _) (fun x hx => by rw [hC] at hx; exact hx) hv2 hd (kk H locs lsA hZ hR hS hl)
  · exact va_getN E.1 E.2.1 (Ts := u_ws Cn T N) hts (fun _ h => h) E.2.2.2.1 E.2.2.2.2.1.2 hP 0 rfl o1 k hk (E.2.2.2.2.1.1 _ hlk rfl _) (fun x hx => by rw [hC] at hx; exact hx) hv2 hd (kk H locs lsA hZ hR hS hl)
theorem g_getI0 {a ci k idx : Nat} (E : q_Ev C cc nL own al ad FR LO) (ha : al a = true) (hty : ty a = .inr ci) (hf : q_FL own idx ci k) (ht : q_ft ci k = .int) (hd : decode cc pc = .ok (.getfield idx, 3))
    (kk : gg C ty nL kc ks al ad (pc + 3) ls (.int (h.1 a k) :: st) h) : gg C ty nL kc ks al ad pc ls (.ref a :: st) h := q_getf E ha hty hf hd (by rw [ht]; rfl) kk
theorem g_getL0 {a ci k idx : Nat} (E : q_Ev C cc nL own al ad FR LO) (ha : al a = true) (hty : ty a = .inr ci) (hf : q_FL own idx ci k) (ht : q_ft ci k = .long) (hd : decode cc pc = .ok (.getfield idx, 3))
    (kk : gg C ty nL kc ks al ad (pc + 3) ls (.long (h.2.1 a k) :: st) h) : gg C ty nL kc ks al ad pc ls (.ref a :: st) h := q_getf E ha hty hf hd (by rw [ht]; rfl) kk
def q_isr (t : FieldType) : Bool := match t with
  | .object _ => true
  | .array _ => true
  | _ => false
theorem q_fv_r {t : FieldType} (ht : q_isr t = true) (ad : Nat → Nat) (h : PH) (a k : Nat) : q_fv t ad h a k = va_rf ((h.2.2 a k).map ad) := by
  cases t <;> first | rfl | cases ht
theorem g_getR0 {a ci k idx b : Nat} (E : q_Ev C cc nL own al ad FR LO) (ha : al a = true) (hty : ty a = .inr ci) (hf : q_FL own idx ci k) (ht : q_isr (q_ft ci k) = true) (hb : h.2.2 a k = some b) (hd : decode cc pc = .ok (.getfield idx, 3))
    (kk : gg C ty nL kc ks al ad (pc + 3) ls (.ref b :: st) h) : gg C ty nL kc ks al ad pc ls (.ref a :: st) h := q_getf E ha hty hf hd (by rw [q_fv_r ht, hb]; rfl) kk
theorem g_getN0 {a ci k idx : Nat} (E : q_Ev C cc nL own al ad FR LO) (ha : al a = true) (hty : ty a = .inr ci) (hf : q_FL own idx ci k) (ht : q_isr (q_ft ci k) = true) (hb : h.2.2 a k = none) (hd : decode cc pc = .ok (.getfield idx, 3))
    (kk : gg C ty nL kc ks al ad (pc + 3) ls (.null :: st) h) : gg C ty nL kc ks al ad pc ls (.ref a :: st) h := q_getf E ha hty hf hd (by rw [q_fv_r ht, hb]; rfl) kk
theorem q_putf {a ci k idx : Nat} {v : Value} {h' : PH} (E : q_Ev C cc nL own al ad FR LO) (ha : al a = true) (hty : ty a = .inr ci) (hf : q_FW own idx ci k) (hd : decode cc pc = .ok (.putfield idx, 3))
    (hn : narrow (q_ft ci k) (q_cv ad v) = q_cv ad v) (hfit : fits (q_ft ci k) (q_cv ad v) = true)
    (hs : ∀ b, b ≠ a → h'.1 b = h.1 b ∧ h'.2.1 b = h.2.1 b ∧ h'.2.2 b = h.2.2 b) (hv : q_fv (q_ft ci k) ad h' a k = q_cv ad v) (hj : ∀ j, j ≠ k → q_fv (q_ft ci j) ad h' a j = q_fv (q_ft ci j) ad h a j)
    (kk : gg C ty nL kc ks al ad (pc + 3) ls st h') : gg C ty nL kc ks al ad pc ls (v :: .ref a :: st) h := by
  obtain ⟨⟨p, l, e, R, s⟩, ⟨m, args, below, meth, c⟩, ⟨D, ca, A, Q⟩⟩ := C
  intro H locs lsA hZ hR hS hl
  obtain ⟨Cn, T, N, ok, hk, hC, hfin, hlk⟩ := hf
  obtain ⟨o1, o2, o3, o4, o5⟩ := ok
  have hts : ∀ w ∈ u_ws Cn T N, w.before args s = true := fun w hw => E.2.2.2.2.1.1 w (o2 w hw) (by
    obtain ⟨j, -, rfl⟩ := List.mem_map.mp hw
    unfold u_lay
    split <;> rfl) _
  have hap := va_apart (own := own) (args := args) hts (fun _ h => h) (q_ft ci) o3 o4 E.2.2.2.2.1.2 o1
  have h0 := hR a ha
  rw [hty] at h0
  obtain ⟨r, h1, cell, q1, q2, q3, q4⟩ := h0
  have hr : r = (Cn, T, N) := Option.some.inj (h1.symm.trans o1)
  subst hr
  obtain ⟨hSl, hfc, kC, hkC, hkind⟩ := E.2.2.2.2.1.2.1 ci _ o1
  obtain ⟨cf, kf, fi, f, hi, hsl⟩ := hSl k hk
  have hlay := hts _ (u_in_lay hk)
  unfold u_lay at hlay
  rw [if_neg (by rw [hfin]; decide)] at hlay
  have hst := (u_facts hfc hkC (u_lays hts (fun _ h => h) hk) hi).1
  have h6 := u_store hfc hkC hkind hlay hi (o3 k hk) hn hfit
  have fin : ∀ (H' : Heap), H'[ad a]? = some (cell.setSlot f.slot (q_cv ad v)) → H'.size = H.size → (∀ q, q ≠ ad a → H'[q]? = H[q]?) → W p l e R s m args below meth c H' (locs ++ [⟨ad a, f.slot⟩]) kc ks Q (F0 m (pc + 3) lsA (st.map (q_cv ad))) := by
    intro H' e1 e2 e3
    rw [hsl] at e1
    refine kk H' _ lsA hZ (hR.set E.2.2.2.2.2.1 ha ?_ e3 hs) (hS.put e2 e3 (E.2.2.2.2.2.2.1 a ha)) hl
    rw [hty]
    refine ⟨_, o1, t_OB.to (V := updV (vp_V (q_fs ci ad h a)) k (q_cv ad v)) ⟨_, e1, q2, q3, t_set q4 hap hk _⟩ (fun j hjN => ?_)⟩
    have hjN' : j < q_N ci := by rw [o5]; exact hjN
    rw [q_V hjN']
    by_cases ej : j = k
    · subst ej
      simp only [updV, if_true]
      exact hv.symm
    · simp only [updV, if_neg ej]
      rw [q_V hjN', hj j ej]
  rcases hlk with hlk | ⟨host, hlk⟩
  · exact W.putK E.1 E.2.1 (f := f) ⟨E.2.2.2.1, E.2.2.2.2.1.1 _ hlk rfl _, ⟨_, _, _, by rw [hC] at hi; exact hi⟩, hst⟩ (by rw [q2]; exact h6) q1 q3 (by rw [hsl]; exact k2_hasslot (q4 k hk)) rfl rfl hd fin
  · exact va_WputK E.1 E.2.1 (f := f) E.2.2.2.1 (E.2.2.2.2.1.1 _ hlk rfl _) (by rw [hC] at hi; exact hi) hst (by rw [q2]; exact h6) q1 q3 (by rw [hsl]; exact k2_hasslot (q4 k hk)) rfl rfl hd fin
theorem q_upz {α : Type} {f : Nat → Nat → α} {a k j : Nat} {v : α} (h : j ≠ k) : q_up f a k v a j = f a j := by rw [q_up_eq]; exact if_neg h
theorem q_ups {α : Type} {f : Nat → Nat → α} {a k : Nat} {v : α} : q_up f a k v a k = v := by rw [q_up_eq]; exact if_pos rfl
theorem g_putI0 {a ci k idx : Nat} {x : Int32} (E : q_Ev C cc nL own al ad FR LO) (ha : al a = true) (hty : ty a = .inr ci) (hf : q_FW own idx ci k) (ht : q_ft ci k = .int) (hd : decode cc pc = .ok (.putfield idx, 3))
    (kk : gg C ty nL kc ks al ad (pc + 3) ls st (q_up h.1 a k x, h.2.1, h.2.2)) : gg C ty nL kc ks al ad pc ls (.int x :: .ref a :: st) h :=
  q_putf (h' := (q_up h.1 a k x, h.2.1, h.2.2)) E ha hty hf hd (by rw [ht]; rfl) (by rw [ht]; rfl) (fun b hb => ⟨q_up_ne hb, rfl, rfl⟩) (by rw [ht]; show Value.int (q_up h.1 a k x a k) = _; rw [q_ups]; rfl) (fun j hj => by unfold q_fv; simp only [q_upz hj]) kk
theorem g_putL0 {a ci k idx : Nat} {x : Int64} (E : q_Ev C cc nL own al ad FR LO) (ha : al a = true) (hty : ty a = .inr ci) (hf : q_FW own idx ci k) (ht : q_ft ci k = .long) (hd : decode cc pc = .ok (.putfield idx, 3))
    (kk : gg C ty nL kc ks al ad (pc + 3) ls st (h.1, q_up h.2.1 a k x, h.2.2)) : gg C ty nL kc ks al ad pc ls (.long x :: .ref a :: st) h :=
  q_putf (h' := (h.1, q_up h.2.1 a k x, h.2.2)) E ha hty hf hd (by rw [ht]; rfl) (by rw [ht]; rfl) (fun b hb => ⟨rfl, q_up_ne hb, rfl⟩) (by rw [ht]; show Value.long (q_up h.2.1 a k x a k) = _; rw [q_ups]; rfl) (fun j hj => by unfold q_fv; simp only [q_upz hj]) kk
/-! arrays -/
theorem q_arr {D : va_G} {ca : FieldType → ClassId} {a n : Nat} {t : FieldType} {H : Heap} (hR : q_R D ca ty al ad h H) (ha : al a = true) (hty : ty a = .inl (t, n)) : H[ad a]? = some (vp_cell (ca t) (n, q_ar t ad h a)) := by
  have h0 := hR a ha
  rw [hty] at h0
  exact h0
theorem q_one {D : va_G} {H : Heap} {x : Nat × va_E} (h0 : va_at D vwCl x H) : va_P D vwCl [x] H := by
  intro i q hq
  have hz : i < 1 := (List.getElem?_eq_some_iff.mp hq).1
  rw [show i = 0 by omega] at hq
  cases hq
  exact h0
theorem g_iald0 {a n j : Nat} {i : Int32} (E : q_Ev C cc nL own al ad FR LO) (ha : al a = true) (hty : ty a = .inl (.int, n)) (hd : decode cc pc = .ok (.iaload, 1)) (hi : q_ix i n j)
    (kk : gg C ty nL kc ks al ad (pc + 1) ls (.int (h.1 a j) :: st) h) : gg C ty nL kc ks al ad pc ls (.int i :: .ref a :: st) h := by
  obtain ⟨⟨p, l, e, R, s⟩, ⟨m, args, below, meth, c⟩, ⟨D, ca, A, Q⟩⟩ := C
  obtain ⟨hi, rfl⟩ := hi
  exact fun H locs lsA hZ hR hS hl => va_iald E.1 E.2.1 E.2.2.2.2.1.2 (q_one (x := (ad a, .inl (ca .int, n, .inl (h.1 a)))) (q_arr hR ha hty)) 0 0 rfl rfl hi hd (kk H locs lsA hZ hR hS hl)
theorem g_zald0 {a n j : Nat} {i : Int32} (E : q_Ev C cc nL own al ad FR LO) (ha : al a = true) (hty : ty a = .inl (.boolean, n)) (hd : decode cc pc = .ok (.baload, 1)) (hi : q_ix i n j)
    (kk : gg C ty nL kc ks al ad (pc + 1) ls (.int (h.1 a j) :: st) h) : gg C ty nL kc ks al ad pc ls (.int i :: .ref a :: st) h := by
  obtain ⟨⟨p, l, e, R, s⟩, ⟨m, args, below, meth, c⟩, ⟨D, ca, A, Q⟩⟩ := C
  obtain ⟨hi, rfl⟩ := hi
  exact fun H locs lsA hZ hR hS hl => va_zald E.1 E.2.1 E.2.2.2.2.1.2 (q_one (x := (ad a, .inl (ca .boolean, n, .inl (h.1 a)))) (q_arr hR ha hty)) 0 2 rfl rfl hi hd (kk H locs lsA hZ hR hS hl)
theorem g_bald0 {a n j : Nat} {i : Int32} (E : q_Ev C cc nL own al ad FR LO) (ha : al a = true) (hty : ty a = .inl (.byte, n)) (hd : decode cc pc = .ok (.baload, 1)) (hi : q_ix i n j)
    (kk : gg C ty nL kc ks al ad (pc + 1) ls (.int (h.1 a j) :: st) h) : gg C ty nL kc ks al ad pc ls (.int i :: .ref a :: st) h := by
  obtain ⟨⟨p, l, e, R, s⟩, ⟨m, args, below, meth, c⟩, ⟨D, ca, A, Q⟩⟩ := C
  obtain ⟨hi, rfl⟩ := hi
  exact fun H locs lsA hZ hR hS hl => va_bald E.1 E.2.1 E.2.2.2.2.1.2 (q_one (x := (ad a, .inl (ca .byte, n, .inl (h.1 a)))) (q_arr hR ha hty)) 0 3 rfl rfl hi hd (kk H locs lsA hZ hR hS hl)
theorem g_lald0 {a n j : Nat} {i : Int32} (E : q_Ev C cc nL own al ad FR LO) (ha : al a = true) (hty : ty a = .inl (.long, n)) (hd : decode cc pc = .ok (.laload, 1)) (hi : q_ix i n j)
    (kk : gg C ty nL kc ks al ad (pc + 1) ls (.long (h.2.1 a j) :: st) h) : gg C ty nL kc ks al ad pc ls (.int i :: .ref a :: st) h := by
  obtain ⟨⟨p, l, e, R, s⟩, ⟨m, args, below, meth, c⟩, ⟨D, ca, A, Q⟩⟩ := C
  obtain ⟨hi, rfl⟩ := hi
  exact fun H locs lsA hZ hR hS hl => va_lald E.1 E.2.1 E.2.2.2.2.1.2 (q_one (x := (ad a, .inl (ca .long, n, .inr (.inl (h.2.1 a))))) (q_arr hR ha hty)) 0 1 rfl rfl hi hd (kk H locs lsA hZ hR hS hl)
theorem g_aald0 {a n j b : Nat} {i : Int32} (E : q_Ev C cc nL own al ad FR LO) (ha : al a = true) (hty : ty a = .inl (.object RX0, n)) (hd : decode cc pc = .ok (.aaload, 1)) (hi : q_ix i n j) (hb : h.2.2 a j = some b)
    (kk : gg C ty nL kc ks al ad (pc + 1) ls (.ref b :: st) h) : gg C ty nL kc ks al ad pc ls (.int i :: .ref a :: st) h := by
  obtain ⟨⟨p, l, e, R, s⟩, ⟨m, args, below, meth, c⟩, ⟨D, ca, A, Q⟩⟩ := C
  obtain ⟨hi, rfl⟩ := hi
  refine fun H locs lsA hZ hR hS hl => va_aldq (C := RX0) E.1 E.2.1 E.2.2.2.2.1.2 (q_one (x := (ad a, .inl (ca (.object RX0), n, .inr (.inr (.inr (.inr (fun i => (h.2.2 a i).map ad))))))) (q_arr hR ha hty)) 0 4 rfl rfl hi hd ?_
  rw [hb]
  exact kk H locs lsA hZ hR hS hl
theorem g_aaldJ0 {a n j b : Nat} {i : Int32} (E : q_Ev C cc nL own al ad FR LO) (ha : al a = true) (hty : ty a = .inl (.array .long, n)) (hd : decode cc pc = .ok (.aaload, 1)) (hi : q_ix i n j) (hb : h.2.2 a j = some b)
    (kk : gg C ty nL kc ks al ad (pc + 1) ls (.ref b :: st) h) : gg C ty nL kc ks al ad pc ls (.int i :: .ref a :: st) h := by
  obtain ⟨⟨p, l, e, R, s⟩, ⟨m, args, below, meth, c⟩, ⟨D, ca, A, Q⟩⟩ := C
  obtain ⟨hi, rfl⟩ := hi
  intro H locs lsA hZ hR hS hl
  have hlt : i.toNatClampNeg < n := Nat.not_le.mp fun q => hi (Or.inr q)
  have hc : H[ad a]? = some (vp_cell (ca (.array .long)) (n, .inr (.inr (.inr (.inr (fun i => (h.2.2 a i).map ad)))))) := q_arr hR ha hty
  refine W.aald (v := va_rf ((h.2.2 a i.toNatClampNeg).map ad)) (ty := .array .long) E.1 E.2.1 hc ((E.2.2.2.2.1.2.2 5 _ rfl).1 n (fun j => va_rf ((h.2.2 a j).map ad))) rfl (fun q => by cases q) (by show ¬ (i < 0 ∨ (arrV _ _ _).slots.size ≤ _); rw [arrV_size]; exact hi) (by show (arrV _ _ _).slots[_]? = _; rw [arrV_read _ _ hlt]) rfl rfl hd ?_
  rw [hb]
  exact kk H locs lsA hZ hR hS hl
theorem g_alen0 {a n : Nat} {t : FieldType} (E : q_Ev C cc nL own al ad FR LO) (ha : al a = true) (hty : ty a = .inl (t, n)) (ht : t = .int ∨ t = .long) (hd : decode cc pc = .ok (.arraylength, 1))
    (kk : gg C ty nL kc ks al ad (pc + 1) ls (.int (nI n) :: st) h) : gg C ty nL kc ks al ad pc ls (.ref a :: st) h := by
  obtain ⟨⟨p, l, e, R, s⟩, ⟨m, args, below, meth, c⟩, ⟨D, ca, A, Q⟩⟩ := C
  rcases ht with rfl | rfl
  · exact fun H locs lsA hZ hR hS hl => va_alen E.1 E.2.1 E.2.2.2.2.1.2 (q_one (x := (ad a, .inl (ca .int, n, .inl (h.1 a)))) (q_arr hR ha hty)) 0 0 rfl rfl rfl hd (kk H locs lsA hZ hR hS hl)
  · exact fun H locs lsA hZ hR hS hl => va_alen E.1 E.2.1 E.2.2.2.2.1.2 (q_one (x := (ad a, .inl (ca .long, n, .inr (.inl (h.2.1 a))))) (q_arr hR ha hty)) 0 1 rfl rfl rfl hd (kk H locs lsA hZ hR hS hl)
theorem g_iast0 {a n j : Nat} {i x : Int32} (E : q_Ev C cc nL own al ad FR LO) (ha : al a = true) (hty : ty a = .inl (.int, n)) (hd : decode cc pc = .ok (.iastore, 1)) (hi : q_ix i n j)
    (kk : gg C ty nL kc ks al ad (pc + 1) ls st (q_up h.1 a j x, h.2.1, h.2.2)) : gg C ty nL kc ks al ad pc ls (.int x :: .int i :: .ref a :: st) h := by
  obtain ⟨⟨p, l, e, R, s⟩, ⟨m, args, below, meth, c⟩, ⟨D, ca, A, Q⟩⟩ := C
  obtain ⟨hi, rfl⟩ := hi
  intro H locs lsA hZ hR hS hl
  refine W.iast E.1 E.2.1 (q_arr hR ha hty) ((E.2.2.2.2.1.2.2 0 _ rfl).1 n (fun j => .int (h.1 a j))) (fun q => by cases q) (by show ¬ (i < 0 ∨ (arrV _ _ _).slots.size ≤ _); rw [arrV_size]; exact hi) rfl rfl hd fun H1 e1 z oq => ?_
  refine kk H1 _ lsA hZ (hR.set E.2.2.2.2.2.1 ha ?_ oq (fun b hb => ⟨q_up_ne hb, rfl, rfl⟩)) (hS.put z oq (E.2.2.2.2.2.2.1 a ha)) hl
  rw [hty]
  show H1[ad a]? = some (vp_cell _ (n, .inl (q_up h.1 a i.toNatClampNeg x a)))
  rw [e1]
  show some ((vp_cell (ca .int) (n, .inl (h.1 a))).setSlot _ _) = _
  rw [vp_cell_i, vp_cell_i, arrV_store]
  congr 2
  funext q
  by_cases hq : q = i.toNatClampNeg
  · subst hq
    simp [updV, q_ups]
  · simp [updV, q_upz hq, hq]
theorem g_zast0 {a n j : Nat} {i x : Int32} (E : q_Ev C cc nL own al ad FR LO) (ha : al a = true) (hty : ty a = .inl (.boolean, n)) (hd : decode cc pc = .ok (.bastore, 1)) (hi : q_ix i n j) (hx : narrow .boolean (.int x) = .int x)
    (kk : gg C ty nL kc ks al ad (pc + 1) ls st (q_up h.1 a j x, h.2.1, h.2.2)) : gg C ty nL kc ks al ad pc ls (.int x :: .int i :: .ref a :: st) h := by
  obtain ⟨⟨p, l, e, R, s⟩, ⟨m, args, below, meth, c⟩, ⟨D, ca, A, Q⟩⟩ := C
  obtain ⟨hi, rfl⟩ := hi
  intro H locs lsA hZ hR hS hl
  refine W.zast E.1 E.2.1 (q_arr hR ha hty) ((E.2.2.2.2.1.2.2 2 _ rfl).1 n (fun j => .int (h.1 a j))) (fun q => by cases q) (by show ¬ (i < 0 ∨ (arrV _ _ _).slots.size ≤ _); rw [arrV_size]; exact hi) rfl rfl hd fun H1 e1 z oq => ?_
  refine kk H1 _ lsA hZ (hR.set E.2.2.2.2.2.1 ha ?_ oq (fun b hb => ⟨q_up_ne hb, rfl, rfl⟩)) (hS.put z oq (E.2.2.2.2.2.2.1 a ha)) hl
  rw [hty]
  show H1[ad a]? = some (vp_cell _ (n, .inl (q_up h.1 a i.toNatClampNeg x a)))
  rw [e1, hx]
  show some ((vp_cell (ca .boolean) (n, .inl (h.1 a))).setSlot _ _) = _
  rw [vp_cell_i, vp_cell_i, arrV_store]
  congr 2
  funext q
  by_cases hq : q = i.toNatClampNeg
  · subst hq
    simp [updV, q_ups]
  · simp [updV, q_upz hq, hq]
theorem g_bast0 {a n j : Nat} {i x : Int32} (E : q_Ev C cc nL own al ad FR LO) (ha : al a = true) (hty : ty a = .inl (.byte, n)) (hd : decode cc pc = .ok (.bastore, 1)) (hi : q_ix i n j) (hx : narrow .byte (.int x) = .int x)
    (kk : gg C ty nL kc ks al ad (pc + 1) ls st (q_up h.1 a j x, h.2.1, h.2.2)) : gg C ty nL kc ks al ad pc ls (.int x :: .int i :: .ref a :: st) h := by
  obtain ⟨⟨p, l, e, R, s⟩, ⟨m, args, below, meth, c⟩, ⟨D, ca, A, Q⟩⟩ := C
  obtain ⟨hi, rfl⟩ := hi
  intro H locs lsA hZ hR hS hl
  refine W.bast E.1 E.2.1 (q_arr hR ha hty) ((E.2.2.2.2.1.2.2 3 _ rfl).1 n (fun j => .int (h.1 a j))) (fun q => by cases q) (by show ¬ (i < 0 ∨ (arrV _ _ _).slots.size ≤ _); rw [arrV_size]; exact hi) rfl rfl hd fun H1 e1 z oq => ?_
  refine kk H1 _ lsA hZ (hR.set E.2.2.2.2.2.1 ha ?_ oq (fun b hb => ⟨q_up_ne hb, rfl, rfl⟩)) (hS.put z oq (E.2.2.2.2.2.2.1 a ha)) hl
  rw [hty]
  show H1[ad a]? = some (vp_cell _ (n, .inl (q_up h.1 a i.toNatClampNeg x a)))
  rw [e1, hx]
  show some ((vp_cell (ca .byte) (n, .inl (h.1 a))).setSlot _ _) = _
  rw [vp_cell_i, vp_cell_i, arrV_store]
  congr 2
  funext q
  by_cases hq : q = i.toNatClampNeg
  · subst hq
    simp [updV, q_ups]
  · simp [updV, q_upz hq, hq]
theorem g_last0 {a n j : Nat} {i : Int32} {x : Int64} (E : q_Ev C cc nL own al ad FR LO) (ha : al a = true) (hty : ty a = .inl (.long, n)) (hd : decode cc pc = .ok (.lastore, 1)) (hi : q_ix i n j)
    (kk : gg C ty nL kc ks al ad (pc + 1) ls st (h.1, q_up h.2.1 a j x, h.2.2)) : gg C ty nL kc ks al ad pc ls (.long x :: .int i :: .ref a :: st) h := by
  obtain ⟨⟨p, l, e, R, s⟩, ⟨m, args, below, meth, c⟩, ⟨D, ca, A, Q⟩⟩ := C
  obtain ⟨hi, rfl⟩ := hi
  intro H locs lsA hZ hR hS hl
  refine W.last E.1 E.2.1 (q_arr hR ha hty) ((E.2.2.2.2.1.2.2 1 _ rfl).1 n (fun j => .long (h.2.1 a j))) (fun q => by cases q) (by show ¬ (i < 0 ∨ (arrV _ _ _).slots.size ≤ _); rw [arrV_size]; exact hi) rfl rfl hd fun H1 e1 z oq => ?_
  refine kk H1 _ lsA hZ (hR.set E.2.2.2.2.2.1 ha ?_ oq (fun b hb => ⟨rfl, q_up_ne hb, rfl⟩)) (hS.put z oq (E.2.2.2.2.2.2.1 a ha)) hl
  rw [hty]
  show H1[ad a]? = some (vp_cell _ (n, .inr (.inl (q_up h.2.1 a i.toNatClampNeg x a))))
  rw [e1]
  show some ((vp_cell (ca .long) (n, .inr (.inl (h.2.1 a)))).setSlot _ _) = _
  rw [vp_cell_l, vp_cell_l, arrV_store]
  congr 2
  funext q
  by_cases hq : q = i.toNatClampNeg
  · subst hq
    simp [updV, q_ups]
  · simp [updV, q_upz hq, hq]
variable {f : Nat → Nat → Int32} {g : Nat → Nat → Int64} {r : Nat → Nat → Option Nat}
theorem g_getI {a ci k idx : Nat} (E : q_Ev C cc nL own al ad FR LO) (ha : al a = true) (hty : ty a = .inr ci) (hf : q_FL own idx ci k) (ht : q_ft ci k = .int) (hd : decode cc pc = .ok (.getfield idx, 3))
    (kk : gg C ty nL kc ks al ad (pc + 3) ls (.int (f a k) :: st) (f, g, r)) : gg C ty nL kc ks al ad pc ls (.ref a :: st) (f, g, r) := g_getI0 (h := (f, g, r)) E ha hty hf ht hd kk
theorem g_getL {a ci k idx : Nat} (E : q_Ev C cc nL own al ad FR LO) (ha : al a = true) (hty : ty a = .inr ci) (hf : q_FL own idx ci k) (ht : q_ft ci k = .long) (hd : decode cc pc = .ok (.getfield idx, 3))
    (kk : gg C ty nL kc ks al ad (pc + 3) ls (.long (g a k) :: st) (f, g, r)) : gg C ty nL kc ks al ad pc ls (.ref a :: st) (f, g, r) := g_getL0 (h := (f, g, r)) E ha hty hf ht hd kk
theorem g_getR {a ci k idx b : Nat} (E : q_Ev C cc nL own al ad FR LO) (ha : al a = true) (hty : ty a = .inr ci) (hf : q_FL own idx ci k) (ht : q_isr (q_ft ci k) = true) (hb : r a k = some b) (hd : decode cc pc = .ok (.getfield idx, 3))
    (kk : gg C ty nL kc ks al ad (pc + 3) ls (.ref b :: st) (f, g, r)) : gg C ty nL kc ks al ad pc ls (.ref a :: st) (f, g, r) := g_getR0 (h := (f, g, r)) E ha hty hf ht hb hd kk
theorem g_getN {a ci k idx : Nat} (E : q_Ev C cc nL own al ad FR LO) (ha : al a = true) (hty : ty a = .inr ci) (hf : q_FL own idx ci k) (ht : q_isr (q_ft ci k) = true) (hb : r a k = none) (hd : decode cc pc = .ok (.getfield idx, 3))
    (kk : gg C ty nL kc ks al ad (pc + 3) ls (.null :: st) (f, g, r)) : gg C ty nL kc ks al ad pc ls (.ref a :: st) (f, g, r) := g_getN0 (h := (f, g, r)) E ha hty hf ht hb hd kk
theorem g_putI {a ci k idx : Nat} {x : Int32} (E : q_Ev C cc nL own al ad FR LO) (ha : al a = true) (hty : ty a = .inr ci) (hf : q_FW own idx ci k) (ht : q_ft ci k = .int) (hd : decode cc pc = .ok (.putfield idx, 3))
    (kk : gg C ty nL kc ks al ad (pc + 3) ls st (q_up f a k x, g, r)) : gg C ty nL kc ks al ad pc ls (.int x :: .ref a :: st) (f, g, r) := g_putI0 (h := (f, g, r)) E ha hty hf ht hd kk
theorem g_putL {a ci k idx : Nat} {x : Int64} (E : q_Ev C cc nL own al ad FR LO) (ha : al a = true) (hty : ty a = .inr ci) (hf : q_FW own idx ci k) (ht : q_ft ci k = .long) (hd : decode cc pc = .ok (.putfield idx, 3))
    (kk : gg C ty nL kc ks al ad (pc + 3) ls st (f, q_up g a k x, r)) : gg C ty nL kc ks al ad pc ls (.long x :: .ref a :: st) (f, g, r) := g_putL0 (h := (f, g, r)) E ha hty hf ht hd kk
theorem g_iald {a n j : Nat} {i : Int32} (E : q_Ev C cc nL own al ad FR LO) (ha : al a = true) (hty : ty a = .inl (.int, n)) (hd : decode cc pc = .ok (.iaload, 1)) (hi : q_ix i n j)
    (kk : gg C ty nL kc ks al ad (pc + 1) ls (.int (f a j) :: st) (f, g, r)) : gg C ty nL kc ks al ad pc ls (.int i :: .ref a :: st) (f, g, r) := g_iald0 (h := (f, g, r)) E ha hty hd hi kk
theorem g_zald {a n j : Nat} {i : Int32} (E : q_Ev C cc nL own al ad FR LO) (ha : al a = true) (hty : ty a = .inl (.boolean, n)) (hd : decode cc pc = .ok (.baload, 1)) (hi : q_ix i n j)
    (kk : gg C ty nL kc ks al ad (pc + 1) ls (.int (f a j) :: st) (f, g, r)) : gg C ty nL kc ks al ad pc ls (.int i :: .ref a :: st) (f, g, r) := g_zald0 (h := (f, g, r)) E ha hty hd hi kk
theorem g_bald {a n j : Nat} {i : Int32} (E : q_Ev C cc nL own al ad FR LO) (ha : al a = true) (hty : ty a = .inl (.byte, n)) (hd : decode cc pc = .ok (.baload, 1)) (hi : q_ix i n j)
    (kk : gg C ty nL kc ks al ad (pc + 1) ls (.int (f a j) :: st) (f, g, r)) : gg C ty nL kc ks al ad pc ls (.int i :: .ref a :: st) (f, g, r) := g_bald0 (h := (f, g, r)) E ha hty hd hi kk
theorem g_lald {a n j : Nat} {i : Int32} (E : q_Ev C cc nL own al ad FR LO) (ha : al a = true) (hty : ty a = .inl (.long, n)) (hd : decode cc pc = .ok (.laload, 1)) (hi : q_ix i n j)
    (kk : gg C ty nL kc ks al ad (pc + 1) ls (.long (g a j) :: st) (f, g, r)) : gg C ty nL kc ks al ad pc ls (.int i :: .ref a :: st) (f, g, r) := g_lald0 (h := (f, g, r)) E ha hty hd hi kk
theorem g_aald {a n j b : Nat} {i : Int32} (E : q_Ev C cc nL own al ad FR LO) (ha : al a = true) (hty : ty a = .inl (.object RX0, n)) (hd : decode cc pc = .ok (.aaload, 1)) (hi : q_ix i n j) (hb : r a j = some b)
    (kk : gg C ty nL kc ks al ad (pc + 1) ls (.ref b :: st) (f, g, r)) : gg C ty nL kc ks al ad pc ls (.int i :: .ref a :: st) (f, g, r) := g_aald0 (h := (f, g, r)) E ha hty hd hi hb kk
theorem g_aaldJ {a n j b : Nat} {i : Int32} (E : q_Ev C cc nL own al ad FR LO) (ha : al a = true) (hty : ty a = .inl (.array .long, n)) (hd : decode cc pc = .ok (.aaload, 1)) (hi : q_ix i n j) (hb : r a j = some b)
    (kk : gg C ty nL kc ks al ad (pc + 1) ls (.ref b :: st) (f, g, r)) : gg C ty nL kc ks al ad pc ls (.int i :: .ref a :: st) (f, g, r) := g_aaldJ0 (h := (f, g, r)) E ha hty hd hi hb kk
theorem g_alen {a n : Nat} {t : FieldType} (E : q_Ev C cc nL own al ad FR LO) (ha : al a = true) (hty : ty a = .inl (t, n)) (ht : t = .int ∨ t = .long) (hd : decode cc pc = .ok (.arraylength, 1))
    (kk : gg C ty nL kc ks al ad (pc + 1) ls (.int (nI n) :: st) (f, g, r)) : gg C ty nL kc ks al ad pc ls (.ref a :: st) (f, g, r) := g_alen0 (h := (f, g, r)) E ha hty ht hd kk
theorem g_iast {a n j : Nat} {i x : Int32} (E : q_Ev C cc nL own al ad FR LO) (ha : al a = true) (hty : ty a = .inl (.int, n)) (hd : decode cc pc = .ok (.iastore, 1)) (hi : q_ix i n j)
    (kk : gg C ty nL kc ks al ad (pc + 1) ls st (q_up f a j x, g, r)) : gg C ty nL kc ks al ad pc ls (.int x :: .int i :: .ref a :: st) (f, g, r) := g_iast0 (h := (f, g, r)) E ha hty hd hi kk
theorem g_zast {a n j : Nat} {i x : Int32} (E : q_Ev C cc nL own al ad FR LO) (ha : al a = true) (hty : ty a = .inl (.boolean, n)) (hd : decode cc pc = .ok (.bastore, 1)) (hi : q_ix i n j) (hx : narrow .boolean (.int x) = .int x)
    (kk : gg C ty nL kc ks al ad (pc + 1) ls st (q_up f a j x, g, r)) : gg C ty nL kc ks al ad pc ls (.int x :: .int i :: .ref a :: st) (f, g, r) := g_zast0 (h := (f, g, r)) E ha hty hd hi hx kk
theorem g_bast {a n j : Nat} {i x : Int32} (E : q_Ev C cc nL own al ad FR LO) (ha : al a = true) (hty : ty a = .inl (.byte, n)) (hd : decode cc pc = .ok (.bastore, 1)) (hi : q_ix i n j) (hx : narrow .byte (.int x) = .int x)
    (kk : gg C ty nL kc ks al ad (pc + 1) ls st (q_up f a j x, g, r)) : gg C ty nL kc ks al ad pc ls (.int x :: .int i :: .ref a :: st) (f, g, r) := g_bast0 (h := (f, g, r)) E ha hty hd hi hx kk
theorem g_last {a n j : Nat} {i : Int32} {x : Int64} (E : q_Ev C cc nL own al ad FR LO) (ha : al a = true) (hty : ty a = .inl (.long, n)) (hd : decode cc pc = .ok (.lastore, 1)) (hi : q_ix i n j)
    (kk : gg C ty nL kc ks al ad (pc + 1) ls st (f, q_up g a j x, r)) : gg C ty nL kc ks al ad pc ls (.long x :: .int i :: .ref a :: st) (f, g, r) := g_last0 (h := (f, g, r)) E ha hty hd hi kk
end GH
theorem q_up_same {α : Type} {f : Nat → Nat → α} {a k : Nat} {v : α} (h : f a k = v) : q_up f a k v = f := by
  funext x
  by_cases e : x = a
  · subst e
    rw [q_up_eq]
    funext y
    by_cases e2 : y = k
    · subst e2; rw [← h]; exact if_pos rfl
    · exact if_neg e2
  · exact q_up_ne e
/-- a row's part set anew -/
def q_fill {α : Type} (f : Nat → Nat → α) (a lo n : Nat) (v : Nat → α) : Nat → Nat → α := fun x => if x = a then (fun i => if lo ≤ i ∧ i < lo + n then v (i - lo) else f a i) else f x
theorem q_fill_ne {α : Type} {f : Nat → Nat → α} {a lo n b : Nat} {v : Nat → α} (h : b ≠ a) : q_fill f a lo n v b = f b := if_neg h
theorem q_fill_in {α : Type} {f : Nat → Nat → α} {a lo n i : Nat} {v : Nat → α} (h1 : lo ≤ i) (h2 : i < lo + n) : q_fill f a lo n v a i = v (i - lo) := by
  unfold q_fill; rw [if_pos rfl, if_pos ⟨h1, h2⟩]
theorem q_fill_out {α : Type} {f : Nat → Nat → α} {a lo n i : Nat} {v : Nat → α} (h : i < lo ∨ lo + n ≤ i) : q_fill f a lo n v a i = f a i := by
  unfold q_fill; rw [if_pos rfl, if_neg (by omega)]
theorem q_fill_0 {α : Type} {f : Nat → Nat → α} {a lo : Nat} {v : Nat → α} : q_fill f a lo 0 v = f := by
  funext x
  by_cases e : x = a
  · subst e; funext i; exact q_fill_out (by omega)
  · exact q_fill_ne e
theorem q_fill_s {α : Type} {f : Nat → Nat → α} {a lo n : Nat} {v : Nat → α} {w : α} (hw : w = v n) : q_up (q_fill f a lo n v) a (lo + n) w = q_fill f a lo (n + 1) v := by
  funext x
  by_cases e : x = a
  · subst e
    rw [q_up_eq]
    funext i
    by_cases e2 : i = lo + n
    · subst e2
      rw [q_fill_in (by omega) (by omega)]
      unfold va_up
      rw [if_pos rfl, hw, Nat.add_sub_cancel_left]
    · unfold va_up
      rw [if_neg e2]
      by_cases e3 : lo ≤ i ∧ i < lo + n
      · rw [q_fill_in e3.1 e3.2, q_fill_in e3.1 (by omega)]
      · rw [q_fill_out (by omega), q_fill_out (by omega)]
  · rw [q_up_ne e, q_fill_ne e, q_fill_ne e]
theorem q_nat {x : Int32} {b : Nat} (h0 : 0 ≤ x.toInt) (h1 : x.toInt ≤ (b : Int)) : ∃ j : Nat, j ≤ b ∧ x = nI j := by
  refine ⟨x.toInt.toNat, by omega, ?_⟩
  apply Int32.toInt_inj.mp
  have hb := Int32.toInt_lt x
  rw [nI_toInt (by omega)]
  omega
theorem q_mul (a b : Nat) : nI a * nI b = nI (a * b) := pk_mul a b
