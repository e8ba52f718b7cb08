/-! THE PURE MACHINE: names instead of addresses, a pure heap, one judgement gg -/
abbrev PT : Type := (FieldType × Nat) ⊕ Nat
abbrev PH : Type := (Nat → Nat → Int32) × (Nat → Nat → Int64) × (Nat → Nat → Option Nat)
def q_up {α : Type} (f : Nat → Nat → α) (a k : Nat) (v : α) : Nat → Nat → α := fun x => if x = a then va_up (f a) k v else f x
def q_cv (ad : Nat → Nat) (v : Value) : Value := match v with
  | .ref k => .ref (ad k)
  | v => v
def q_fv (t : FieldType) (ad : Nat → Nat) (h : PH) (a k : Nat) : Value := match t with
  | .long => .long (h.2.1 a k)
  | .object _ => va_rf ((h.2.2 a k).map ad)
  | .array _ => va_rf ((h.2.2 a k).map ad)
  | _ => .int (h.1 a k)
def q_ar (t : FieldType) (ad : Nat → Nat) (h : PH) (a : Nat) : (Nat → Int32) ⊕ (Nat → Int64) ⊕ (Nat → UInt32) ⊕ (Nat → UInt64) ⊕ (Nat → Option Nat) := match t with
  | .long => .inr (.inl (h.2.1 a))
  | .object _ => .inr (.inr (.inr (.inr (fun i => (h.2.2 a i).map ad))))
  | .array _ => .inr (.inr (.inr (.inr (fun i => (h.2.2 a i).map ad))))
  | _ => .inl (h.1 a)
def q_ft (ci k : Nat) : FieldType := match ci with
  | 0 => tyX0 k
  | 1 => tyX1 k
  | 2 => tyX2 k
  | 3 => tyX3 k
  | 4 => tyX4 k
  | 5 => tyX5 k
  | 6 => tyX6 k
  | 7 => tyX7 k
  | _ => tyX8 k
def q_N (ci : Nat) : Nat := match ci with
  | 0 => 16
  | 1 => 2
  | 2 => 8
  | 3 => 4
  | 4 => 10
  | 5 => 3
  | 6 => 5
  | 7 => 11
  | _ => 48
def q_fs (ci : Nat) (ad : Nat → Nat) (h : PH) (a : Nat) : List Value := (List.range (q_N ci)).map fun k => q_fv (q_ft ci k) ad h a k
def q_E (ca : FieldType → ClassId) (ad : Nat → Nat) (h : PH) (t : PT) (a : Nat) : va_E := match t with
  | .inl x => .inl (ca x.1, x.2, q_ar x.1 ad h a)
  | .inr ci => .inr (ci, q_fs ci ad h a)
def q_tys (ca : FieldType → ClassId) : List (ClassId × FieldType) := [(ca .int, .int), (ca .long, .long), (ca .boolean, .boolean), (ca .byte, .byte), (ca (.object RX0), .object RX0), (ca (.array .long), .array .long)]
def q_nest (w : Cond) : Bool := match w with
  | .fieldLinkNest _ _ _ _ _ _ => true
  | .methodLinkNest _ _ _ _ => true
  | .arrayOver _ => true
  | _ => false
def q_good (w : Cond) : Bool := goodWord w || q_nest w
def q_W (U : State) : Prop := ∀ w ∈ lw_tbl, q_good w = true → ∀ a : Array Value, w.before a U = true
theorem q_W.at {s U : State} {A0 : Array Value} (hW : s.WarmedH U.vm) (h : ∀ w ∈ lw_tbl, q_good w = true → w.before A0 s = true) : q_W U := by
  intro w hw h1 a
  have h0 := h w hw h1
  rcases (Bool.or_eq_true _ _).mp h1 with h2 | h2
  · exact word_at hW (good_of_word h2) h0
  · cases w with
    | fieldLinkNest a1 a2 a3 a4 a5 a6 => exact va_Nw.use rfl (va_Nw.warmF hW (va_Nw.of rfl h0))
    | methodLinkNest a1 a2 a3 a4 => exact va_Nw.use rfl (va_Nw.warmM hW (va_Nw.of rfl h0))
    | arrayOver t => exact (Cond.arrayOver_setVmC (args := A0) (s := s) hW.alike t).trans h0
    | _ => cases h2
theorem q_W.warm {s U : State} (hW : s.WarmedH U.vm) (h : q_W s) : q_W U := q_W.at (A0 := #[]) hW (fun w hw hg => h w hw hg _)
def q_T (D : va_G) (ca : FieldType → ClassId) (U : State) : Prop := q_W U ∧ va_K D vwCl (q_tys ca) U
theorem q_T.warm {D : va_G} {ca : FieldType → ClassId} {s U : State} (hW : s.WarmedH U.vm) (h : q_T D ca s) : q_T D ca U := ⟨q_W.warm hW h.1, va_K.moved hW.alike h.2⟩
def q_R (D : va_G) (ca : FieldType → ClassId) (ty : Nat → PT) (al : Nat → Bool) (ad : Nat → Nat) (h : PH) (H : Heap) : Prop := ∀ a, al a = true → va_at D vwCl (ad a, q_E ca ad h (ty a) a) H
def q_J (al : Nat → Bool) (ad : Nat → Nat) : Prop := ∀ a b, al a = true → al b = true → ad a = ad b → a = b
def q_A (al : Nat → Bool) (ad : Nat → Nat) : Nat → Prop := fun q => ∃ a, al a = true ∧ q = ad a
/-- locals by their places -/
def q_prs (ad : Nat → Nat) : Nat → List (Option Value) → List (Nat × Value)
  | _, [] => []
  | i, none :: r => q_prs ad (i + 1) r
  | i, some v :: r => (i, q_cv ad v) :: q_prs ad (i + 1) r
theorem q_prs_mem {ad : Nat → Nat} {q : Nat × Value} : ∀ {ls : List (Option Value)} {i : Nat}, q ∈ q_prs ad i ls ↔ ∃ (k : Nat) (v : Value), q.1 = i + k ∧ ls[k]? = some (some v) ∧ q.2 = q_cv ad v := by
  intro ls
  induction ls with
  | nil => intro i; simp [q_prs]
  | cons x r ih =>
    intro i
    cases x with
    | none =>
      rw [q_prs, ih]
      constructor
      · rintro ⟨k, v, h1, h2, h3⟩
        exact ⟨k + 1, v, by omega, by simpa using h2, h3⟩
      · rintro ⟨k, v, h1, h2, h3⟩
        cases k with
        | zero => simp at h2
        | succ k => exact ⟨k, v, by omega, by simpa using h2, h3⟩
    | some w =>
      rw [q_prs, List.mem_cons, ih]
      constructor
      · rintro (rfl | ⟨k, v, h1, h2, h3⟩)
        · exact ⟨0, w, rfl, rfl, rfl⟩
        · exact ⟨k + 1, v, by omega, by simpa using h2, h3⟩
      · rintro ⟨k, v, h1, h2, h3⟩
        cases k with
        | zero =>
          simp at h2
          subst h2
          exact Or.inl (Prod.ext h1 h3)
        | succ k => exact Or.inr ⟨k, v, by omega, by simpa using h2, h3⟩
def q_L (ad : Nat → Nat) (nL : Nat) (ls : List (Option Value)) (lsA : Array Slot) : Prop := lv_has lsA nL (q_prs ad 0 ls)
theorem q_L.get {ad : Nat → Nat} {nL i : Nat} {ls : List (Option Value)} {lsA : Array Slot} {v : Value} (h : q_L ad nL ls lsA) (hi : ls[i]? = some (some v)) : lsA[i]? = some (.val (q_cv ad v)) :=
  h.2.2 (i, q_cv ad v) (q_prs_mem.mpr ⟨i, v, by simp, hi, rfl⟩)
theorem q_L.mono {ad : Nat → Nat} {nL : Nat} {ls ls' : List (Option Value)} {lsA : Array Slot} (h : q_L ad nL ls lsA) (hi : ∀ (i : Nat) (v : Value), ls'[i]? = some (some v) → ls[i]? = some (some v)) : q_L ad nL ls' lsA := by
  refine ⟨h.1, h.2.1, fun q hq => ?_⟩
  obtain ⟨k, v, h1, h2, h3⟩ := q_prs_mem.mp hq
  exact h.2.2 q (q_prs_mem.mpr ⟨k, v, h1, hi k v h2, h3⟩)
def q_nl (ls : List (Option Value)) (i : Nat) : Bool := match i with
  | 0 => true
  | j + 1 => match ls[j]? with
    | some (some v) => v.category == 1
    | _ => true
theorem q_cv_cat (ad : Nat → Nat) (v : Value) : (q_cv ad v).category = v.category := by cases v <;> rfl
theorem q_L.set1 {ad : Nat → Nat} {nL i : Nat} {ls : List (Option Value)} {lsA' : Array Slot} {v : Value} (hn : q_nl ls i = true)
    (h : lv_has lsA' nL ((i, q_cv ad v) :: (q_prs ad 0 ls).filter (fun q => !(q.1 == i) && !(q.1 + 1 == i && q.2.category == 2)))) : q_L ad nL (ls.set i (some v)) lsA' := by
  refine ⟨h.1, h.2.1, fun q hq => ?_⟩
  obtain ⟨k, w, h1, h2, h3⟩ := q_prs_mem.mp hq
  rw [Nat.zero_add] at h1
  apply h.2.2
  by_cases e : i = k
  · subst e
    rw [List.getElem?_set] at h2
    simp only [if_true] at h2
    split at h2
    · cases h2
      exact List.mem_cons.mpr (Or.inl (Prod.ext h1 h3))
    · cases h2
  · rw [List.getElem?_set_ne e] at h2
    refine List.mem_cons.mpr (Or.inr (List.mem_filter.mpr ⟨q_prs_mem.mpr ⟨k, w, by omega, h2, h3⟩, ?_⟩))
    have e1 : (q.1 == i) = false := by simp; omega
    rw [e1]
    by_cases e2 : q.1 + 1 = i
    · have e3 : i = k + 1 := by omega
      subst e3
      simp only [q_nl, h2] at hn
      have hw : w.category = 1 := by simpa using hn
      simp [h3, q_cv_cat, hw]
    · simp [e2]
theorem q_L.set2 {ad : Nat → Nat} {nL i : Nat} {ls : List (Option Value)} {lsA' : Array Slot} {v : Value} (hn : q_nl ls i = true)
    (h : lv_has lsA' nL ((i, q_cv ad v) :: (q_prs ad 0 ls).filter (fun q => !(q.1 == i) && (!(q.1 == i + 1) && !(q.1 + 1 == i && q.2.category == 2))))) : q_L ad nL ((ls.set i (some v)).set (i + 1) none) lsA' := by
  refine ⟨h.1, h.2.1, fun q hq => ?_⟩
  obtain ⟨k, w, h1, h2, h3⟩ := q_prs_mem.mp hq
  rw [Nat.zero_add] at h1
  apply h.2.2
  by_cases e0 : i + 1 = k
  · subst e0
    rw [List.getElem?_set] at h2
    simp only [if_true] at h2
    split at h2 <;> cases h2
  rw [List.getElem?_set_ne e0] at h2
  by_cases e : i = k
  · subst e
    rw [List.getElem?_set] at h2
    simp only [if_true] at h2
    split at h2
    · cases h2
      exact List.mem_cons.mpr (Or.inl (Prod.ext h1 h3))
    · cases h2
  · rw [List.getElem?_set_ne e] at h2
    refine List.mem_cons.mpr (Or.inr (List.mem_filter.mpr ⟨q_prs_mem.mpr ⟨k, w, by omega, h2, h3⟩, ?_⟩))
    have e1 : (q.1 == i) = false := by simp; omega
    have e4 : (q.1 == i + 1) = false := by simp; omega
    rw [e1, e4]
    by_cases e2 : q.1 + 1 = i
    · have e3 : i = k + 1 := by omega
      subst e3
      simp only [q_nl, h2] at hn
      have hw : w.category = 1 := by simpa using hn
      simp [h3, q_cv_cat, hw]
    · simp [e2]
/-- the locals at the entry -/
def q_in : List Value → Nat → List (Option Value)
  | [], n => List.replicate n none
  | .long x :: vs, n => some (.long x) :: none :: q_in vs (n - 2)
  | .double x :: vs, n => some (.double x) :: none :: q_in vs (n - 2)
  | v :: vs, n => some v :: q_in vs (n - 1)
theorem q_in_get {ad : Nat → Nat} : ∀ (vs : List Value) (n i k : Nat) (v : Value), (q_in vs n)[k]? = some (some v) → (i + k, q_cv ad v) ∈ lv_args i (vs.map (q_cv ad)) := by
  intro vs
  induction vs with
  | nil =>
    intro n i k v h
    have := List.eq_of_mem_replicate (List.mem_of_getElem? h)
    cases this
  | cons x r ih =>
    intro n i k v h
    have cat1 : x.category = 1 → (q_in (x :: r) n) = some x :: q_in r (n - 1) := by
      intro hc
      cases x <;> first | rfl | cases hc
    have cat2 : x.category = 2 → (q_in (x :: r) n) = some x :: none :: q_in r (n - 2) := by
      intro hc
      cases x <;> first | rfl | cases hc
    rw [List.map_cons, lv_args]
    rcases lv_cat x with hc | hc
    · rw [cat1 hc] at h
      rw [q_cv_cat, if_neg (by omega)]
      cases k with
      | zero =>
        simp at h
        subst h
        exact List.mem_cons.mpr (Or.inl rfl)
      | succ k =>
        have := ih (n - 1) (i + 1) k v (by simpa using h)
        rw [show i + (k + 1) = i + 1 + k by omega]
        exact List.mem_cons.mpr (Or.inr this)
    · rw [cat2 hc] at h
      rw [q_cv_cat, if_pos hc]
      match k, h with
      | 0, h =>
        simp at h
        subst h
        exact List.mem_cons.mpr (Or.inl rfl)
      | 1, h => simp at h
      | k + 2, h =>
        have := ih (n - 2) (i + 2) k v (by simpa using h)
        rw [show i + (k + 2) = i + 2 + k by omega]
        exact List.mem_cons.mpr (Or.inr this)
theorem q_entry {ad : Nat → Nat} {vs : List Value} {n : Nat} {lsA : Array Slot} (h : lv_has lsA n (lv_args 0 (vs.map (q_cv ad)))) : q_L ad n (q_in vs n) lsA := by
  refine ⟨h.1, h.2.1, fun q hq => ?_⟩
  obtain ⟨k, v, h1, h2, h3⟩ := q_prs_mem.mp hq
  have := q_in_get (ad := ad) vs n 0 k v h2
  exact h.2.2 q (by rw [show q = (0 + k, q_cv ad v) from Prod.ext h1 h3]; exact this)
/-! classes -/
def q_ok (ci : Nat) (C : String) (T : u_T) (N : Nat) : Prop := vwCl[ci]? = some (C, T, N) ∧ (∀ w ∈ u_ws C T N, w ∈ lw_tbl) ∧ (∀ k, k < N → parseFieldDescriptor (T k).2.2.1 = some (q_ft ci k)) ∧ (∀ a, a < N → ∀ b, b < N → a ≠ b → (T a).2.1 ≠ (T b).2.1) ∧ q_N ci = N
set_option maxRecDepth 100000 in
theorem q_ok0 : q_ok 0 RX0 TX0 16 := ⟨rfl, by decide +kernel, tyX0_ok, nmX0, rfl⟩
set_option maxRecDepth 100000 in
theorem q_ok1 : q_ok 1 RX1 TX1 2 := ⟨rfl, by decide +kernel, tyX1_ok, nmX1, rfl⟩
set_option maxRecDepth 100000 in
theorem q_ok2 : q_ok 2 RX2 TX2 8 := ⟨rfl, by decide +kernel, tyX2_ok, nmX2, rfl⟩
set_option maxRecDepth 100000 in
theorem q_ok3 : q_ok 3 RX3 TX3 4 := ⟨rfl, by decide +kernel, tyX3_ok, nmX3, rfl⟩
set_option maxRecDepth 100000 in
theorem q_ok4 : q_ok 4 RX4 TX4 10 := ⟨rfl, by decide +kernel, tyX4_ok, nmX4, rfl⟩
set_option maxRecDepth 100000 in
theorem q_ok5 : q_ok 5 RX5 TX5 3 := ⟨rfl, by decide +kernel, tyX5_ok, nmX5, rfl⟩
set_option maxRecDepth 100000 in
theorem q_ok6 : q_ok 6 RX6 TX6 5 := ⟨rfl, by decide +kernel, tyX6_ok, nmX6, rfl⟩
set_option maxRecDepth 100000 in
theorem q_ok7 : q_ok 7 RX7 TX7 11 := ⟨rfl, by decide +kernel, tyX7_ok, nmX7, rfl⟩
set_option maxRecDepth 100000 in
theorem q_ok8 : q_ok 8 RX8 TX8 48 := ⟨rfl, by decide +kernel, tyX8_ok, nmX8, rfl⟩
def q_FL (own : String) (idx ci k : Nat) : Prop := ∃ (C : String) (T : u_T) (N : Nat), q_ok ci C T N ∧ k < N ∧ (T k).1 = C ∧ (Cond.fieldLink own idx C (T k).2.1 (T k).2.2.1 ∈ lw_tbl ∨ ∃ host, Cond.fieldLinkNest own idx C (T k).2.1 (T k).2.2.1 host ∈ lw_tbl)
/-- the same, and not final -/
def q_FW (own : String) (idx ci k : Nat) : Prop := ∃ (C : String) (T : u_T) (N : Nat), q_ok ci C T N ∧ k < N ∧ (T k).1 = C ∧ (T k).2.2.2 = false ∧ (Cond.fieldLink own idx C (T k).2.1 (T k).2.2.1 ∈ lw_tbl ∨ ∃ host, Cond.fieldLinkNest own idx C (T k).2.1 (T k).2.2.1 host ∈ lw_tbl)
def q_FF (own : String) (idx ci k : Nat) : Prop := ∃ (C : String) (T : u_T) (N : Nat), q_ok ci C T N ∧ k < N ∧ (T k).1 = C ∧ C = own ∧ (T k).2.2.2 = true ∧ Cond.fieldLink own idx C (T k).2.1 (T k).2.2.1 ∈ lw_tbl
def q_CV (own : String) (idx ci : Nat) (y : MethodName) (cc : ByteArray) (maxL : Nat) (ret : Option FieldType) (n : Nat) : Prop := (∃ (T : u_T) (N : Nat), q_ok ci y.cls T N) ∧ (Cond.methodLink own idx y ∈ lw_tbl ∨ ∃ host, Cond.methodLinkNest own idx y host ∈ lw_tbl) ∧ Cond.instanceMethod y ∈ lw_tbl ∧ Cond.selects y.cls y y ∈ lw_tbl ∧ Cond.code y cc maxL ret ∈ lw_tbl ∧ Cond.initialized y.cls ∈ lw_tbl ∧ (y.cls ≠ "java/lang/invoke/MethodHandle" ∧ y.cls ≠ "java/lang/invoke/VarHandle" ∧ (parseMethodDescriptor y.desc).map (fun d => d.parameters.length) = some n)
def q_CS (own : String) (idx : Nat) (y : MethodName) (cc : ByteArray) (maxL : Nat) (ret : Option FieldType) (n : Nat) : Prop := (Cond.methodLink own idx y ∈ lw_tbl ∨ ∃ host, Cond.methodLinkNest own idx y host ∈ lw_tbl) ∧ Cond.static y ∈ lw_tbl ∧ Cond.code y cc maxL ret ∈ lw_tbl ∧ Cond.initialized y.cls ∈ lw_tbl ∧ (y.cls ≠ "java/lang/invoke/MethodHandle" ∧ y.cls ≠ "java/lang/invoke/VarHandle" ∧ (parseMethodDescriptor y.desc).map (fun d => d.parameters.length) = some n)
def q_CI (own : String) (idx : Nat) (y : MethodName) (cc : ByteArray) (maxL : Nat) (n : Nat) : Prop := (Cond.methodLink own idx y ∈ lw_tbl ∨ ∃ host, Cond.methodLinkNest own idx y host ∈ lw_tbl) ∧ y.name = "<init>" ∧ Cond.instanceMethod y ∈ lw_tbl ∧ Cond.code y cc maxL none ∈ lw_tbl ∧ Cond.initialized y.cls ∈ lw_tbl ∧ (y.cls ≠ "java/lang/invoke/MethodHandle" ∧ y.cls ≠ "java/lang/invoke/VarHandle" ∧ (parseMethodDescriptor y.desc).map (fun d => d.parameters.length) = some n)
