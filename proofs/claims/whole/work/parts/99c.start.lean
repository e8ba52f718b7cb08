/-! the tables at the start, and whole_start -/
theorem w_tab {s : State} {A0 : Array Value} (hts : ∀ w ∈ lw_tbl, w.before A0 s = true) : ∃ (D : va_G) (ca : FieldType → ClassId), q_T D ca s := by
  have hW : q_W s := q_W.at (A0 := A0) (State.WarmedH.refl s) (fun w hw _ => hts w hw)
  have hk : ∀ c : Nat, ∃ (cC : ClassId) (iS : Nat → Nat), ∀ q : vw_C, vwCl[c]? = some q → u_Kn s q.1 q.2.1 q.2.2 cC iS := by
    have one : ∀ {ci : Nat} {Cn : String} {T : u_T} {N : Nat}, q_ok ci Cn T N → Cond.instantiable Cn N ∈ lw_tbl → ∃ (cC : ClassId) (iS : Nat → Nat), ∀ q : vw_C, vwCl[ci]? = some q → u_Kn s q.1 q.2.1 q.2.2 cC iS := fun {ci Cn T N} ok hi => by
      obtain ⟨cC, iS, h⟩ := u_known (T := T) (N := N) hts ok.2.1 (hts _ hi)
      exact ⟨cC, iS, fun q hq => by
        have e := Option.some.inj (hq.symm.trans ok.1)
        subst e
        exact h⟩
    intro c
    match c with
    | 0 => exact one q_ok0 in_X0
    | 1 => exact one q_ok1 in_X1
    | 2 => exact one q_ok2 in_X2
    | 3 => exact one q_ok3 in_X3
    | 4 => exact one q_ok4 in_X4
    | 5 => exact one q_ok5 in_X5
    | 6 => exact one q_ok6 in_X6
    | 7 => exact one q_ok7 in_X7
    | 8 => exact one q_ok8 in_X8
    | c + 9 => exact ⟨0, fun _ => 0, fun q hq => by
        have := (List.getElem?_eq_some_iff.mp hq).1
        exact absurd this (by show ¬ c + 9 < 9; omega)⟩
  obtain ⟨dC, hk1⟩ := Classical.axiomOfChoice hk
  obtain ⟨dI, hk2⟩ := Classical.axiomOfChoice hk1
  obtain ⟨c1, k1, p1, a1, b1, d1⟩ := Cond.arrayClass_spec (hts _ ar_arrayClass_int)
  obtain ⟨c2, k2, p2, a2, b2, d2⟩ := Cond.arrayClass_spec (hts _ ar_arrayClass_long)
  obtain ⟨c3, k3, p3, a3, b3, d3⟩ := Cond.arrayClass_spec (hts _ ar_arrayClass_boolean)
  obtain ⟨c4, k4, p4, a4, b4, d4⟩ := Cond.arrayClass_spec (hts _ ar_arrayClass_byte)
  obtain ⟨p5, c5, k5, f5, -, b5, d5, a5⟩ := Cond.arrayOver_spec (hts _ ar_arrayOver_objectHopBeamsCell)
  obtain ⟨p6, c6, k6, f6, b6, d6, a6⟩ := Cond.arrayOver_specA (hts _ ar_arrayOver_arraylong)
  have ao : ∀ {cA : ClassId} {k : Class} {comp : ClassId} {t : FieldType}, s.vm.classes[cA]? = some k → k.kind = .array comp t → ArrOfT s cA t := fun hb hd => fun n z => ⟨fun k h => (by cases h), _, hb, _, hd⟩
  refine ⟨(dC, dI), fun t => match t with
    | .int => c1
    | .long => c2
    | .boolean => c3
    | .byte => c4
    | .object _ => c5
    | .array _ => c6
    | _ => 0, hW, fun c q hq => hk2 c q hq, fun k q hq => ?_⟩
  match k, hq with
  | 0, hq => cases hq; exact ⟨ao b1 d1, a1⟩
  | 1, hq => cases hq; exact ⟨ao b2 d2, a2⟩
  | 2, hq => cases hq; exact ⟨ao b3 d3, a3⟩
  | 3, hq => cases hq; exact ⟨ao b4 d4, a4⟩
  | 4, hq => cases hq; exact ⟨ao b5 d5, k5, p5, b5, d5, f5, a5⟩
  | 5, hq => cases hq; exact ⟨ao b6 d6, a6⟩
  | k + 6, hq => cases hq
theorem whole_start {p : Program} {e : Env} {s : State} {m : MethodId} {below : List Frame} {meth : Method} {c : Code} (l : Launch) {b L : Nat} {xs : Nat → Int32} (hL : L ≤ 3072) (C0 : lw_At p s m meth c b L xs) : W p l e room_1 s m #[Value.ref b] below meth c s.heap [] 0 0 (lw_Z below #[Value.ref b] s) (entryFrame m ([Value.ref b] : List Value).toArray 4) := by
  obtain ⟨hx, hb, hr, hml, hown, hts, hX, hbl, hlk, -⟩ := C0
  obtain ⟨D, ca, hT⟩ := w_tab hts
  have hE : q_Ev ((p, l, e, room_1, s), (m, #[Value.ref b], below, meth, c), (D, ca, (fun q => s.heap.size ≤ q), lw_Z below #[Value.ref b] s)) cL_law 4 RL (fun _ => false) (fun _ => b) 6 136 := ⟨hx, hb, hml, hown, hT, (fun a b ha => by cases ha), (fun a ha => by cases ha), (by decide), (by decide)⟩
  have K := w_start (C := ((p, l, e, room_1, s), (m, #[Value.ref b], below, meth, c), (D, ca, (fun q => s.heap.size ≤ q), lw_Z below #[Value.ref b] s))) (b := b) (L := L) (xs := xs) ⟨fun q hq => hq, Nat.le_refl _, Nat.le_refl _⟩ ⟨hX, hbl, fun q => by have q2 : s.heap.size ≤ b := q; omega⟩ ⟨hr, hlk, rfl, rfl, rfl, fun q hq => hq⟩ hL (fun _ => b) hE rfl
  rw [lg_entry_eq]
  exact K s.heap [] _ ⟨Nat.zero_le _, Nat.zero_le _⟩ (fun a ha => by cases ha) va_S.rf (q_entry (ad := fun _ => b) (vs := [Value.ref 200]) (n := 4) (lv_entry _ (Nat.le_of_ble_eq_true rfl)))
