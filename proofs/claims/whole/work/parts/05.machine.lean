abbrev q_Ctx : Type := (Program × Launch × Env × Room × State) × (MethodId × Array Value × List Frame × Method × Code) × (va_G × (FieldType → ClassId) × (Nat → Prop) × (State → Prop))
def gg (C : q_Ctx) (ty : Nat → PT) (nL kc ks : Nat) (al : Nat → Bool) (ad : Nat → Nat) (pc : Nat) (ls : List (Option Value)) (st : List Value) (h : PH) : Prop := match C with
  | ((p, l, e, R, s), (m, args, below, meth, c), (D, ca, A, Q)) => ∀ (H : Heap) (locs : List Loc) (lsA : Array Slot), (kc ≤ R.cells ∧ ks ≤ R.slots) → q_R D ca ty al ad h H → va_S A s.heap H locs → q_L ad nL ls lsA → W p l e R s m args below meth c H locs kc ks Q (F0 m pc lsA (st.map (q_cv ad)))
def q_Ev (C : q_Ctx) (cc : ByteArray) (nL : Nat) (own : String) (al : Nat → Bool) (ad : Nat → Nat) (FR LO : Nat) : Prop := match C with
  | ((p, l, e, R, s), (m, args, below, meth, c), (D, ca, A, Q)) => p.tables.exec = Jvm.exec ∧ c.code = cc ∧ c.maxLocals = nL ∧ s.vm.findClass own = some m.cls ∧ q_T D ca s ∧ q_J al ad ∧ (∀ a, al a = true → A (ad a)) ∧ FR ≤ R.frames ∧ LO ≤ R.locals
section GM
variable {C : q_Ctx} {ty : Nat → PT} {cc : ByteArray} {nL kc ks : Nat} {own : String} {al : Nat → Bool} {ad : Nat → Nat} {FR LO : Nat} {pc : Nat} {ls : List (Option Value)} {st : List Value} {h : PH}
theorem g_iconst {n : Int} {v : Int32} (E : q_Ev C cc nL own al ad FR LO) (hd : decode cc pc = .ok (.iconst n, 1)) (hv : Int32.ofInt n = v) (k : gg C ty nL kc ks al ad (pc + 1) ls (.int v :: st) h) : gg C ty nL kc ks al ad pc ls st h := by
  obtain ⟨⟨p, l, e, R, s⟩, ⟨m, args, below, meth, c⟩, ⟨D, ca, A, Q⟩⟩ := C
  exact fun H locs lsA hZ hR hS hl => lv_iconst E.1 E.2.1 hd hv (k H locs lsA hZ hR hS hl)
theorem g_bipush {n : Int} {v : Int32} (E : q_Ev C cc nL own al ad FR LO) (hd : decode cc pc = .ok (.bipush n, 2)) (hv : (Int8.ofInt n).toInt32 = v) (k : gg C ty nL kc ks al ad (pc + 2) ls (.int v :: st) h) : gg C ty nL kc ks al ad pc ls st h := by
  obtain ⟨⟨p, l, e, R, s⟩, ⟨m, args, below, meth, c⟩, ⟨D, ca, A, Q⟩⟩ := C
  exact fun H locs lsA hZ hR hS hl => lv_bipush E.1 E.2.1 hd hv (k H locs lsA hZ hR hS hl)
theorem g_sipush {n : Int} {v : Int32} (E : q_Ev C cc nL own al ad FR LO) (hd : decode cc pc = .ok (.sipush n, 3)) (hv : (Int16.ofInt n).toInt32 = v) (k : gg C ty nL kc ks al ad (pc + 3) ls (.int v :: st) h) : gg C ty nL kc ks al ad pc ls st h := by
  obtain ⟨⟨p, l, e, R, s⟩, ⟨m, args, below, meth, c⟩, ⟨D, ca, A, Q⟩⟩ := C
  exact fun H locs lsA hZ hR hS hl => lv_sipush E.1 E.2.1 hd hv (k H locs lsA hZ hR hS hl)
theorem g_lconst {n : Fin 2} {v : Int64} (E : q_Ev C cc nL own al ad FR LO) (hd : decode cc pc = .ok (.lconst n, 1)) (hv : Int64.ofNat (n : Nat) = v) (k : gg C ty nL kc ks al ad (pc + 1) ls (.long v :: st) h) : gg C ty nL kc ks al ad pc ls st h := by
  obtain ⟨⟨p, l, e, R, s⟩, ⟨m, args, below, meth, c⟩, ⟨D, ca, A, Q⟩⟩ := C
  exact fun H locs lsA hZ hR hS hl => lv_lconst E.1 E.2.1 hd hv (k H locs lsA hZ hR hS hl)
theorem g_iadd {x y : Int32} (E : q_Ev C cc nL own al ad FR LO) (hd : decode cc pc = .ok (.iadd, 1))  (k : gg C ty nL kc ks al ad (pc + 1) ls (.int (x + y) :: st) h) : gg C ty nL kc ks al ad pc ls (.int y :: .int x :: st) h := by
  obtain ⟨⟨p, l, e, R, s⟩, ⟨m, args, below, meth, c⟩, ⟨D, ca, A, Q⟩⟩ := C
  exact fun H locs lsA hZ hR hS hl => lv_iadd E.1 E.2.1 hd  (k H locs lsA hZ hR hS hl)
theorem g_isub {x y : Int32} (E : q_Ev C cc nL own al ad FR LO) (hd : decode cc pc = .ok (.isub, 1))  (k : gg C ty nL kc ks al ad (pc + 1) ls (.int (x - y) :: st) h) : gg C ty nL kc ks al ad pc ls (.int y :: .int x :: st) h := by
  obtain ⟨⟨p, l, e, R, s⟩, ⟨m, args, below, meth, c⟩, ⟨D, ca, A, Q⟩⟩ := C
  exact fun H locs lsA hZ hR hS hl => lv_isub E.1 E.2.1 hd  (k H locs lsA hZ hR hS hl)
theorem g_imul {x y : Int32} (E : q_Ev C cc nL own al ad FR LO) (hd : decode cc pc = .ok (.imul, 1))  (k : gg C ty nL kc ks al ad (pc + 1) ls (.int (x * y) :: st) h) : gg C ty nL kc ks al ad pc ls (.int y :: .int x :: st) h := by
  obtain ⟨⟨p, l, e, R, s⟩, ⟨m, args, below, meth, c⟩, ⟨D, ca, A, Q⟩⟩ := C
  exact fun H locs lsA hZ hR hS hl => lv_imul E.1 E.2.1 hd  (k H locs lsA hZ hR hS hl)
theorem g_iand {x y : Int32} (E : q_Ev C cc nL own al ad FR LO) (hd : decode cc pc = .ok (.iand, 1))  (k : gg C ty nL kc ks al ad (pc + 1) ls (.int (x &&& y) :: st) h) : gg C ty nL kc ks al ad pc ls (.int y :: .int x :: st) h := by
  obtain ⟨⟨p, l, e, R, s⟩, ⟨m, args, below, meth, c⟩, ⟨D, ca, A, Q⟩⟩ := C
  exact fun H locs lsA hZ hR hS hl => lv_iand E.1 E.2.1 hd  (k H locs lsA hZ hR hS hl)
theorem g_ior {x y : Int32} (E : q_Ev C cc nL own al ad FR LO) (hd : decode cc pc = .ok (.ior, 1))  (k : gg C ty nL kc ks al ad (pc + 1) ls (.int (x ||| y) :: st) h) : gg C ty nL kc ks al ad pc ls (.int y :: .int x :: st) h := by
  obtain ⟨⟨p, l, e, R, s⟩, ⟨m, args, below, meth, c⟩, ⟨D, ca, A, Q⟩⟩ := C
  exact fun H locs lsA hZ hR hS hl => lv_ior E.1 E.2.1 hd  (k H locs lsA hZ hR hS hl)
theorem g_ixor {x y : Int32} (E : q_Ev C cc nL own al ad FR LO) (hd : decode cc pc = .ok (.ixor, 1))  (k : gg C ty nL kc ks al ad (pc + 1) ls (.int (x ^^^ y) :: st) h) : gg C ty nL kc ks al ad pc ls (.int y :: .int x :: st) h := by
  obtain ⟨⟨p, l, e, R, s⟩, ⟨m, args, below, meth, c⟩, ⟨D, ca, A, Q⟩⟩ := C
  exact fun H locs lsA hZ hR hS hl => lv_ixor E.1 E.2.1 hd  (k H locs lsA hZ hR hS hl)
theorem g_ishl {x y : Int32} (E : q_Ev C cc nL own al ad FR LO) (hd : decode cc pc = .ok (.ishl, 1))  (k : gg C ty nL kc ks al ad (pc + 1) ls (.int (x <<< (y &&& 31)) :: st) h) : gg C ty nL kc ks al ad pc ls (.int y :: .int x :: st) h := by
  obtain ⟨⟨p, l, e, R, s⟩, ⟨m, args, below, meth, c⟩, ⟨D, ca, A, Q⟩⟩ := C
  exact fun H locs lsA hZ hR hS hl => lv_ishl E.1 E.2.1 hd  (k H locs lsA hZ hR hS hl)
theorem g_ishr {x y : Int32} (E : q_Ev C cc nL own al ad FR LO) (hd : decode cc pc = .ok (.ishr, 1))  (k : gg C ty nL kc ks al ad (pc + 1) ls (.int (x >>> (y &&& 31)) :: st) h) : gg C ty nL kc ks al ad pc ls (.int y :: .int x :: st) h := by
  obtain ⟨⟨p, l, e, R, s⟩, ⟨m, args, below, meth, c⟩, ⟨D, ca, A, Q⟩⟩ := C
  exact fun H locs lsA hZ hR hS hl => lv_ishr E.1 E.2.1 hd  (k H locs lsA hZ hR hS hl)
theorem g_ladd {x y : Int64} (E : q_Ev C cc nL own al ad FR LO) (hd : decode cc pc = .ok (.ladd, 1))  (k : gg C ty nL kc ks al ad (pc + 1) ls (.long (x + y) :: st) h) : gg C ty nL kc ks al ad pc ls (.long y :: .long x :: st) h := by
  obtain ⟨⟨p, l, e, R, s⟩, ⟨m, args, below, meth, c⟩, ⟨D, ca, A, Q⟩⟩ := C
  exact fun H locs lsA hZ hR hS hl => lv_ladd E.1 E.2.1 hd  (k H locs lsA hZ hR hS hl)
theorem g_lsub {x y : Int64} (E : q_Ev C cc nL own al ad FR LO) (hd : decode cc pc = .ok (.lsub, 1))  (k : gg C ty nL kc ks al ad (pc + 1) ls (.long (x - y) :: st) h) : gg C ty nL kc ks al ad pc ls (.long y :: .long x :: st) h := by
  obtain ⟨⟨p, l, e, R, s⟩, ⟨m, args, below, meth, c⟩, ⟨D, ca, A, Q⟩⟩ := C
  exact fun H locs lsA hZ hR hS hl => lv_lsub E.1 E.2.1 hd  (k H locs lsA hZ hR hS hl)
theorem g_lmul {x y : Int64} (E : q_Ev C cc nL own al ad FR LO) (hd : decode cc pc = .ok (.lmul, 1))  (k : gg C ty nL kc ks al ad (pc + 1) ls (.long (x * y) :: st) h) : gg C ty nL kc ks al ad pc ls (.long y :: .long x :: st) h := by
  obtain ⟨⟨p, l, e, R, s⟩, ⟨m, args, below, meth, c⟩, ⟨D, ca, A, Q⟩⟩ := C
  exact fun H locs lsA hZ hR hS hl => lv_lmul E.1 E.2.1 hd  (k H locs lsA hZ hR hS hl)
theorem g_land {x y : Int64} (E : q_Ev C cc nL own al ad FR LO) (hd : decode cc pc = .ok (.land, 1))  (k : gg C ty nL kc ks al ad (pc + 1) ls (.long (x &&& y) :: st) h) : gg C ty nL kc ks al ad pc ls (.long y :: .long x :: st) h := by
  obtain ⟨⟨p, l, e, R, s⟩, ⟨m, args, below, meth, c⟩, ⟨D, ca, A, Q⟩⟩ := C
  exact fun H locs lsA hZ hR hS hl => lv_land E.1 E.2.1 hd  (k H locs lsA hZ hR hS hl)
theorem g_lor {x y : Int64} (E : q_Ev C cc nL own al ad FR LO) (hd : decode cc pc = .ok (.lor, 1))  (k : gg C ty nL kc ks al ad (pc + 1) ls (.long (x ||| y) :: st) h) : gg C ty nL kc ks al ad pc ls (.long y :: .long x :: st) h := by
  obtain ⟨⟨p, l, e, R, s⟩, ⟨m, args, below, meth, c⟩, ⟨D, ca, A, Q⟩⟩ := C
  exact fun H locs lsA hZ hR hS hl => lv_lor E.1 E.2.1 hd  (k H locs lsA hZ hR hS hl)
theorem g_lxor {x y : Int64} (E : q_Ev C cc nL own al ad FR LO) (hd : decode cc pc = .ok (.lxor, 1))  (k : gg C ty nL kc ks al ad (pc + 1) ls (.long (x ^^^ y) :: st) h) : gg C ty nL kc ks al ad pc ls (.long y :: .long x :: st) h := by
  obtain ⟨⟨p, l, e, R, s⟩, ⟨m, args, below, meth, c⟩, ⟨D, ca, A, Q⟩⟩ := C
  exact fun H locs lsA hZ hR hS hl => lv_lxor E.1 E.2.1 hd  (k H locs lsA hZ hR hS hl)
theorem g_idiv {x y : Int32} (E : q_Ev C cc nL own al ad FR LO) (hd : decode cc pc = .ok (.idiv, 1)) (hne : ¬ y = 0) (k : gg C ty nL kc ks al ad (pc + 1) ls (.int (x / y) :: st) h) : gg C ty nL kc ks al ad pc ls (.int y :: .int x :: st) h := by
  obtain ⟨⟨p, l, e, R, s⟩, ⟨m, args, below, meth, c⟩, ⟨D, ca, A, Q⟩⟩ := C
  exact fun H locs lsA hZ hR hS hl => lv_idiv E.1 E.2.1 hd hne (k H locs lsA hZ hR hS hl)
theorem g_irem {x y : Int32} (E : q_Ev C cc nL own al ad FR LO) (hd : decode cc pc = .ok (.irem, 1)) (hne : ¬ y = 0) (k : gg C ty nL kc ks al ad (pc + 1) ls (.int (x - x / y * y) :: st) h) : gg C ty nL kc ks al ad pc ls (.int y :: .int x :: st) h := by
  obtain ⟨⟨p, l, e, R, s⟩, ⟨m, args, below, meth, c⟩, ⟨D, ca, A, Q⟩⟩ := C
  exact fun H locs lsA hZ hR hS hl => lv_irem E.1 E.2.1 hd hne (k H locs lsA hZ hR hS hl)
theorem g_ldiv {x y : Int64} (E : q_Ev C cc nL own al ad FR LO) (hd : decode cc pc = .ok (.ldiv, 1)) (hne : ¬ y = 0) (k : gg C ty nL kc ks al ad (pc + 1) ls (.long (x / y) :: st) h) : gg C ty nL kc ks al ad pc ls (.long y :: .long x :: st) h := by
  obtain ⟨⟨p, l, e, R, s⟩, ⟨m, args, below, meth, c⟩, ⟨D, ca, A, Q⟩⟩ := C
  exact fun H locs lsA hZ hR hS hl => lv_ldiv E.1 E.2.1 hd hne (k H locs lsA hZ hR hS hl)
theorem g_lrem {x y : Int64} (E : q_Ev C cc nL own al ad FR LO) (hd : decode cc pc = .ok (.lrem, 1)) (hne : ¬ y = 0) (k : gg C ty nL kc ks al ad (pc + 1) ls (.long (x - x / y * y) :: st) h) : gg C ty nL kc ks al ad pc ls (.long y :: .long x :: st) h := by
  obtain ⟨⟨p, l, e, R, s⟩, ⟨m, args, below, meth, c⟩, ⟨D, ca, A, Q⟩⟩ := C
  exact fun H locs lsA hZ hR hS hl => lv_lrem E.1 E.2.1 hd hne (k H locs lsA hZ hR hS hl)
theorem g_iushr {x y : Int32} (E : q_Ev C cc nL own al ad FR LO) (hd : decode cc pc = .ok (.iushr, 1))  (k : gg C ty nL kc ks al ad (pc + 1) ls (.int (x.toUInt32 >>> (y.toUInt32 &&& Int32.toUInt32 31)).toInt32 :: st) h) : gg C ty nL kc ks al ad pc ls (.int y :: .int x :: st) h := by
  obtain ⟨⟨p, l, e, R, s⟩, ⟨m, args, below, meth, c⟩, ⟨D, ca, A, Q⟩⟩ := C
  exact fun H locs lsA hZ hR hS hl => lv_iushr E.1 E.2.1 hd rfl (k H locs lsA hZ hR hS hl)
theorem g_lushr {x : Int64} {y : Int32} (E : q_Ev C cc nL own al ad FR LO) (hd : decode cc pc = .ok (.lushr, 1))  (k : gg C ty nL kc ks al ad (pc + 1) ls (.long (x.toUInt64 >>> (y.toInt64.toUInt64 &&& Int64.toUInt64 63)).toInt64 :: st) h) : gg C ty nL kc ks al ad pc ls (.int y :: .long x :: st) h := by
  obtain ⟨⟨p, l, e, R, s⟩, ⟨m, args, below, meth, c⟩, ⟨D, ca, A, Q⟩⟩ := C
  exact fun H locs lsA hZ hR hS hl => lv_lushr E.1 E.2.1 hd rfl (k H locs lsA hZ hR hS hl)
theorem g_lshl {x : Int64} {y : Int32} (E : q_Ev C cc nL own al ad FR LO) (hd : decode cc pc = .ok (.lshl, 1))  (k : gg C ty nL kc ks al ad (pc + 1) ls (.long (x <<< (y.toInt64 &&& 63)) :: st) h) : gg C ty nL kc ks al ad pc ls (.int y :: .long x :: st) h := by
  obtain ⟨⟨p, l, e, R, s⟩, ⟨m, args, below, meth, c⟩, ⟨D, ca, A, Q⟩⟩ := C
  exact fun H locs lsA hZ hR hS hl => lv_lshl E.1 E.2.1 hd rfl (k H locs lsA hZ hR hS hl)
theorem g_lshr {x : Int64} {y : Int32} (E : q_Ev C cc nL own al ad FR LO) (hd : decode cc pc = .ok (.lshr, 1))  (k : gg C ty nL kc ks al ad (pc + 1) ls (.long (x >>> (y.toInt64 &&& 63)) :: st) h) : gg C ty nL kc ks al ad pc ls (.int y :: .long x :: st) h := by
  obtain ⟨⟨p, l, e, R, s⟩, ⟨m, args, below, meth, c⟩, ⟨D, ca, A, Q⟩⟩ := C
  exact fun H locs lsA hZ hR hS hl => lv_lshr E.1 E.2.1 hd rfl (k H locs lsA hZ hR hS hl)
theorem g_i2l {x : Int32} (E : q_Ev C cc nL own al ad FR LO) (hd : decode cc pc = .ok (.i2l, 1))  (k : gg C ty nL kc ks al ad (pc + 1) ls (.long x.toInt64 :: st) h) : gg C ty nL kc ks al ad pc ls (.int x :: st) h := by
  obtain ⟨⟨p, l, e, R, s⟩, ⟨m, args, below, meth, c⟩, ⟨D, ca, A, Q⟩⟩ := C
  exact fun H locs lsA hZ hR hS hl => lv_i2l E.1 E.2.1 hd rfl (k H locs lsA hZ hR hS hl)
theorem g_l2i {x : Int64} (E : q_Ev C cc nL own al ad FR LO) (hd : decode cc pc = .ok (.l2i, 1))  (k : gg C ty nL kc ks al ad (pc + 1) ls (.int x.toInt32 :: st) h) : gg C ty nL kc ks al ad pc ls (.long x :: st) h := by
  obtain ⟨⟨p, l, e, R, s⟩, ⟨m, args, below, meth, c⟩, ⟨D, ca, A, Q⟩⟩ := C
  exact fun H locs lsA hZ hR hS hl => lv_l2i E.1 E.2.1 hd rfl (k H locs lsA hZ hR hS hl)
theorem g_i2b {x : Int32} (E : q_Ev C cc nL own al ad FR LO) (hd : decode cc pc = .ok (.i2b, 1))  (k : gg C ty nL kc ks al ad (pc + 1) ls (.int x.toInt8.toInt32 :: st) h) : gg C ty nL kc ks al ad pc ls (.int x :: st) h := by
  obtain ⟨⟨p, l, e, R, s⟩, ⟨m, args, below, meth, c⟩, ⟨D, ca, A, Q⟩⟩ := C
  exact fun H locs lsA hZ hR hS hl => lv_i2b E.1 E.2.1 hd rfl (k H locs lsA hZ hR hS hl)
theorem g_i2s {x : Int32} (E : q_Ev C cc nL own al ad FR LO) (hd : decode cc pc = .ok (.i2s, 1))  (k : gg C ty nL kc ks al ad (pc + 1) ls (.int x.toInt16.toInt32 :: st) h) : gg C ty nL kc ks al ad pc ls (.int x :: st) h := by
  obtain ⟨⟨p, l, e, R, s⟩, ⟨m, args, below, meth, c⟩, ⟨D, ca, A, Q⟩⟩ := C
  exact fun H locs lsA hZ hR hS hl => lv_i2s E.1 E.2.1 hd rfl (k H locs lsA hZ hR hS hl)
theorem g_lcmp {x y : Int64} (E : q_Ev C cc nL own al ad FR LO) (hd : decode cc pc = .ok (.lcmp, 1))  (k : gg C ty nL kc ks al ad (pc + 1) ls (.int (lg_cmp x y) :: st) h) : gg C ty nL kc ks al ad pc ls (.long y :: .long x :: st) h := by
  obtain ⟨⟨p, l, e, R, s⟩, ⟨m, args, below, meth, c⟩, ⟨D, ca, A, Q⟩⟩ := C
  exact fun H locs lsA hZ hR hS hl => W.lcmp E.1 E.2.1 hd  (k H locs lsA hZ hR hS hl)
theorem g_dupi {x : Int32} (E : q_Ev C cc nL own al ad FR LO) (hd : decode cc pc = .ok (.dup, 1))  (k : gg C ty nL kc ks al ad (pc + 1) ls (.int x :: .int x :: st) h) : gg C ty nL kc ks al ad pc ls (.int x :: st) h := by
  obtain ⟨⟨p, l, e, R, s⟩, ⟨m, args, below, meth, c⟩, ⟨D, ca, A, Q⟩⟩ := C
  exact fun H locs lsA hZ hR hS hl => lv_dup E.1 E.2.1 hd rfl (k H locs lsA hZ hR hS hl)
theorem g_dupr {x : Nat} (E : q_Ev C cc nL own al ad FR LO) (hd : decode cc pc = .ok (.dup, 1))  (k : gg C ty nL kc ks al ad (pc + 1) ls (.ref x :: .ref x :: st) h) : gg C ty nL kc ks al ad pc ls (.ref x :: st) h := by
  obtain ⟨⟨p, l, e, R, s⟩, ⟨m, args, below, meth, c⟩, ⟨D, ca, A, Q⟩⟩ := C
  exact fun H locs lsA hZ hR hS hl => lv_dup E.1 E.2.1 hd rfl (k H locs lsA hZ hR hS hl)
theorem g_dupl {x : Int64} (E : q_Ev C cc nL own al ad FR LO) (hd : decode cc pc = .ok (.dup2, 1))  (k : gg C ty nL kc ks al ad (pc + 1) ls (.long x :: .long x :: st) h) : gg C ty nL kc ks al ad pc ls (.long x :: st) h := by
  obtain ⟨⟨p, l, e, R, s⟩, ⟨m, args, below, meth, c⟩, ⟨D, ca, A, Q⟩⟩ := C
  exact fun H locs lsA hZ hR hS hl => lv_dup2_2 E.1 E.2.1 hd rfl (k H locs lsA hZ hR hS hl)
theorem g_dup2 {x : Int32} {y : Nat} (E : q_Ev C cc nL own al ad FR LO) (hd : decode cc pc = .ok (.dup2, 1))  (k : gg C ty nL kc ks al ad (pc + 1) ls (.int x :: .ref y :: .int x :: .ref y :: st) h) : gg C ty nL kc ks al ad pc ls (.int x :: .ref y :: st) h := by
  obtain ⟨⟨p, l, e, R, s⟩, ⟨m, args, below, meth, c⟩, ⟨D, ca, A, Q⟩⟩ := C
  exact fun H locs lsA hZ hR hS hl => lv_dup2_11 E.1 E.2.1 hd rfl rfl (k H locs lsA hZ hR hS hl)
theorem g_popi {x : Int32} (E : q_Ev C cc nL own al ad FR LO) (hd : decode cc pc = .ok (.pop, 1))  (k : gg C ty nL kc ks al ad (pc + 1) ls st h) : gg C ty nL kc ks al ad pc ls (.int x :: st) h := by
  obtain ⟨⟨p, l, e, R, s⟩, ⟨m, args, below, meth, c⟩, ⟨D, ca, A, Q⟩⟩ := C
  exact fun H locs lsA hZ hR hS hl => lv_pop E.1 E.2.1 hd rfl (k H locs lsA hZ hR hS hl)
theorem g_icmp_eq {x y : Int32} {off : Int} {tgt : Nat} (E : q_Ev C cc nL own al ad FR LO) (hd : decode cc pc = .ok (.if_icmp .eq off, 3)) (ht : (pc : Int) + off = (tgt : Int)) (kt : x = y → gg C ty nL kc ks al ad tgt ls st h) (kf : ¬ x = y → gg C ty nL kc ks al ad (pc + 3) ls st h) : gg C ty nL kc ks al ad pc ls (.int y :: .int x :: st) h := by
  obtain ⟨⟨p, l, e, R, s⟩, ⟨m, args, below, meth, c⟩, ⟨D, ca, A, Q⟩⟩ := C
  exact fun H locs lsA hZ hR hS hl => lv_icmp_eq E.1 E.2.1 hd ht (fun z => kt z H locs lsA hZ hR hS hl) (fun z => kf z H locs lsA hZ hR hS hl)
theorem g_if_eq {x : Int32} {off : Int} {tgt : Nat} (E : q_Ev C cc nL own al ad FR LO) (hd : decode cc pc = .ok (.ifCond .eq off, 3)) (ht : (pc : Int) + off = (tgt : Int)) (kt : x = 0 → gg C ty nL kc ks al ad tgt ls st h) (kf : ¬ x = 0 → gg C ty nL kc ks al ad (pc + 3) ls st h) : gg C ty nL kc ks al ad pc ls (.int x :: st) h := by
  obtain ⟨⟨p, l, e, R, s⟩, ⟨m, args, below, meth, c⟩, ⟨D, ca, A, Q⟩⟩ := C
  exact fun H locs lsA hZ hR hS hl => lv_if_eq E.1 E.2.1 hd ht (fun z => kt z H locs lsA hZ hR hS hl) (fun z => kf z H locs lsA hZ hR hS hl)
theorem g_icmp_lt {x y : Int32} {off : Int} {tgt : Nat} (E : q_Ev C cc nL own al ad FR LO) (hd : decode cc pc = .ok (.if_icmp .lt off, 3)) (ht : (pc : Int) + off = (tgt : Int)) (kt : x < y → gg C ty nL kc ks al ad tgt ls st h) (kf : ¬ x < y → gg C ty nL kc ks al ad (pc + 3) ls st h) : gg C ty nL kc ks al ad pc ls (.int y :: .int x :: st) h := by
  obtain ⟨⟨p, l, e, R, s⟩, ⟨m, args, below, meth, c⟩, ⟨D, ca, A, Q⟩⟩ := C
  exact fun H locs lsA hZ hR hS hl => lv_icmp_lt E.1 E.2.1 hd ht (fun z => kt z H locs lsA hZ hR hS hl) (fun z => kf z H locs lsA hZ hR hS hl)
theorem g_if_lt {x : Int32} {off : Int} {tgt : Nat} (E : q_Ev C cc nL own al ad FR LO) (hd : decode cc pc = .ok (.ifCond .lt off, 3)) (ht : (pc : Int) + off = (tgt : Int)) (kt : x < 0 → gg C ty nL kc ks al ad tgt ls st h) (kf : ¬ x < 0 → gg C ty nL kc ks al ad (pc + 3) ls st h) : gg C ty nL kc ks al ad pc ls (.int x :: st) h := by
  obtain ⟨⟨p, l, e, R, s⟩, ⟨m, args, below, meth, c⟩, ⟨D, ca, A, Q⟩⟩ := C
  exact fun H locs lsA hZ hR hS hl => lv_if_lt E.1 E.2.1 hd ht (fun z => kt z H locs lsA hZ hR hS hl) (fun z => kf z H locs lsA hZ hR hS hl)
theorem g_icmp_ge {x y : Int32} {off : Int} {tgt : Nat} (E : q_Ev C cc nL own al ad FR LO) (hd : decode cc pc = .ok (.if_icmp .ge off, 3)) (ht : (pc : Int) + off = (tgt : Int)) (kt : y ≤ x → gg C ty nL kc ks al ad tgt ls st h) (kf : ¬ y ≤ x → gg C ty nL kc ks al ad (pc + 3) ls st h) : gg C ty nL kc ks al ad pc ls (.int y :: .int x :: st) h := by
  obtain ⟨⟨p, l, e, R, s⟩, ⟨m, args, below, meth, c⟩, ⟨D, ca, A, Q⟩⟩ := C
  exact fun H locs lsA hZ hR hS hl => lv_icmp_ge E.1 E.2.1 hd ht (fun z => kt z H locs lsA hZ hR hS hl) (fun z => kf z H locs lsA hZ hR hS hl)
theorem g_if_ge {x : Int32} {off : Int} {tgt : Nat} (E : q_Ev C cc nL own al ad FR LO) (hd : decode cc pc = .ok (.ifCond .ge off, 3)) (ht : (pc : Int) + off = (tgt : Int)) (kt : 0 ≤ x → gg C ty nL kc ks al ad tgt ls st h) (kf : ¬ 0 ≤ x → gg C ty nL kc ks al ad (pc + 3) ls st h) : gg C ty nL kc ks al ad pc ls (.int x :: st) h := by
  obtain ⟨⟨p, l, e, R, s⟩, ⟨m, args, below, meth, c⟩, ⟨D, ca, A, Q⟩⟩ := C
  exact fun H locs lsA hZ hR hS hl => lv_if_ge E.1 E.2.1 hd ht (fun z => kt z H locs lsA hZ hR hS hl) (fun z => kf z H locs lsA hZ hR hS hl)
theorem g_icmp_gt {x y : Int32} {off : Int} {tgt : Nat} (E : q_Ev C cc nL own al ad FR LO) (hd : decode cc pc = .ok (.if_icmp .gt off, 3)) (ht : (pc : Int) + off = (tgt : Int)) (kt : y < x → gg C ty nL kc ks al ad tgt ls st h) (kf : ¬ y < x → gg C ty nL kc ks al ad (pc + 3) ls st h) : gg C ty nL kc ks al ad pc ls (.int y :: .int x :: st) h := by
  obtain ⟨⟨p, l, e, R, s⟩, ⟨m, args, below, meth, c⟩, ⟨D, ca, A, Q⟩⟩ := C
  exact fun H locs lsA hZ hR hS hl => lv_icmp_gt E.1 E.2.1 hd ht (fun z => kt z H locs lsA hZ hR hS hl) (fun z => kf z H locs lsA hZ hR hS hl)
theorem g_if_gt {x : Int32} {off : Int} {tgt : Nat} (E : q_Ev C cc nL own al ad FR LO) (hd : decode cc pc = .ok (.ifCond .gt off, 3)) (ht : (pc : Int) + off = (tgt : Int)) (kt : 0 < x → gg C ty nL kc ks al ad tgt ls st h) (kf : ¬ 0 < x → gg C ty nL kc ks al ad (pc + 3) ls st h) : gg C ty nL kc ks al ad pc ls (.int x :: st) h := by
  obtain ⟨⟨p, l, e, R, s⟩, ⟨m, args, below, meth, c⟩, ⟨D, ca, A, Q⟩⟩ := C
  exact fun H locs lsA hZ hR hS hl => lv_if_gt E.1 E.2.1 hd ht (fun z => kt z H locs lsA hZ hR hS hl) (fun z => kf z H locs lsA hZ hR hS hl)
theorem g_icmp_le {x y : Int32} {off : Int} {tgt : Nat} (E : q_Ev C cc nL own al ad FR LO) (hd : decode cc pc = .ok (.if_icmp .le off, 3)) (ht : (pc : Int) + off = (tgt : Int)) (kt : x ≤ y → gg C ty nL kc ks al ad tgt ls st h) (kf : ¬ x ≤ y → gg C ty nL kc ks al ad (pc + 3) ls st h) : gg C ty nL kc ks al ad pc ls (.int y :: .int x :: st) h := by
  obtain ⟨⟨p, l, e, R, s⟩, ⟨m, args, below, meth, c⟩, ⟨D, ca, A, Q⟩⟩ := C
  exact fun H locs lsA hZ hR hS hl => lv_icmp_le E.1 E.2.1 hd ht (fun z => kt z H locs lsA hZ hR hS hl) (fun z => kf z H locs lsA hZ hR hS hl)
theorem g_if_le {x : Int32} {off : Int} {tgt : Nat} (E : q_Ev C cc nL own al ad FR LO) (hd : decode cc pc = .ok (.ifCond .le off, 3)) (ht : (pc : Int) + off = (tgt : Int)) (kt : x ≤ 0 → gg C ty nL kc ks al ad tgt ls st h) (kf : ¬ x ≤ 0 → gg C ty nL kc ks al ad (pc + 3) ls st h) : gg C ty nL kc ks al ad pc ls (.int x :: st) h := by
  obtain ⟨⟨p, l, e, R, s⟩, ⟨m, args, below, meth, c⟩, ⟨D, ca, A, Q⟩⟩ := C
  exact fun H locs lsA hZ hR hS hl => lv_if_le E.1 E.2.1 hd ht (fun z => kt z H locs lsA hZ hR hS hl) (fun z => kf z H locs lsA hZ hR hS hl)
theorem g_icmp_ne {x y : Int32} {off : Int} {tgt : Nat} (E : q_Ev C cc nL own al ad FR LO) (hd : decode cc pc = .ok (.if_icmp .ne off, 3)) (ht : (pc : Int) + off = (tgt : Int)) (kt : ¬ x = y → gg C ty nL kc ks al ad tgt ls st h) (kf : x = y → gg C ty nL kc ks al ad (pc + 3) ls st h) : gg C ty nL kc ks al ad pc ls (.int y :: .int x :: st) h := by
  obtain ⟨⟨p, l, e, R, s⟩, ⟨m, args, below, meth, c⟩, ⟨D, ca, A, Q⟩⟩ := C
  exact fun H locs lsA hZ hR hS hl => lv_icmp_ne E.1 E.2.1 hd ht (fun z => kt z H locs lsA hZ hR hS hl) (fun z => kf z H locs lsA hZ hR hS hl)
theorem g_if_ne {x : Int32} {off : Int} {tgt : Nat} (E : q_Ev C cc nL own al ad FR LO) (hd : decode cc pc = .ok (.ifCond .ne off, 3)) (ht : (pc : Int) + off = (tgt : Int)) (kt : ¬ x = 0 → gg C ty nL kc ks al ad tgt ls st h) (kf : x = 0 → gg C ty nL kc ks al ad (pc + 3) ls st h) : gg C ty nL kc ks al ad pc ls (.int x :: st) h := by
  obtain ⟨⟨p, l, e, R, s⟩, ⟨m, args, below, meth, c⟩, ⟨D, ca, A, Q⟩⟩ := C
  exact fun H locs lsA hZ hR hS hl => lv_if_ne E.1 E.2.1 hd ht (fun z => kt z H locs lsA hZ hR hS hl) (fun z => kf z H locs lsA hZ hR hS hl)
theorem g_goto {off : Int} {tgt : Nat} (E : q_Ev C cc nL own al ad FR LO) (hd : decode cc pc = .ok (.goto off, 3)) (ht : (pc : Int) + off = (tgt : Int)) (k : gg C ty nL kc ks al ad tgt ls st h) : gg C ty nL kc ks al ad pc ls st h := by
  obtain ⟨⟨p, l, e, R, s⟩, ⟨m, args, below, meth, c⟩, ⟨D, ca, A, Q⟩⟩ := C
  exact fun H locs lsA hZ hR hS hl => lv_goto E.1 E.2.1 hd ht (k H locs lsA hZ hR hS hl)
theorem g_ifnonnull {off : Int} {x tgt : Nat} (E : q_Ev C cc nL own al ad FR LO) (hd : decode cc pc = .ok (.ifnonnull off, 3)) (ht : (pc : Int) + off = (tgt : Int)) (k : gg C ty nL kc ks al ad tgt ls st h) : gg C ty nL kc ks al ad pc ls (.ref x :: st) h := by
  obtain ⟨⟨p, l, e, R, s⟩, ⟨m, args, below, meth, c⟩, ⟨D, ca, A, Q⟩⟩ := C
  exact fun H locs lsA hZ hR hS hl => lv_ifnonnull E.1 E.2.1 hd ht (k H locs lsA hZ hR hS hl)
theorem g_ifnonnullN {off : Int} (E : q_Ev C cc nL own al ad FR LO) (hd : decode cc pc = .ok (.ifnonnull off, 3)) (k : gg C ty nL kc ks al ad (pc + 3) ls st h) : gg C ty nL kc ks al ad pc ls (.null :: st) h := by
  obtain ⟨⟨p, l, e, R, s⟩, ⟨m, args, below, meth, c⟩, ⟨D, ca, A, Q⟩⟩ := C
  exact fun H locs lsA hZ hR hS hl => lv_ifnonnullN E.1 E.2.1 hd (k H locs lsA hZ hR hS hl)
theorem g_tableOut {dflt lo hi : Int} {offs : Array Int} {len : Nat} {x : Int32} {tgt : Nat} (E : q_Ev C cc nL own al ad FR LO) (hd : decode cc pc = .ok (.tableswitch dflt lo hi offs, len)) (hx : x.toInt < lo ∨ hi < x.toInt) (ht : (pc : Int) + dflt = (tgt : Int)) (k : gg C ty nL kc ks al ad tgt ls st h) : gg C ty nL kc ks al ad pc ls (.int x :: st) h := by
  obtain ⟨⟨p, l, e, R, s⟩, ⟨m, args, below, meth, c⟩, ⟨D, ca, A, Q⟩⟩ := C
  exact fun H locs lsA hZ hR hS hl => lv_tableOut E.1 E.2.1 hd hx ht (k H locs lsA hZ hR hS hl)
theorem g_tableIn {dflt lo hi : Int} {offs : Array Int} {len : Nat} {x : Int32} {off : Int} {tgt : Nat} (E : q_Ev C cc nL own al ad FR LO) (hd : decode cc pc = .ok (.tableswitch dflt lo hi offs, len)) (h1 : ¬ x.toInt < lo) (h2 : ¬ hi < x.toInt) (ho : offs[(x.toInt - lo).toNat]? = some off) (ht : (pc : Int) + off = (tgt : Int)) (k : gg C ty nL kc ks al ad tgt ls st h) : gg C ty nL kc ks al ad pc ls (.int x :: st) h := by
  obtain ⟨⟨p, l, e, R, s⟩, ⟨m, args, below, meth, c⟩, ⟨D, ca, A, Q⟩⟩ := C
  exact fun H locs lsA hZ hR hS hl => lv_tableIn E.1 E.2.1 hd h1 h2 ho ht (k H locs lsA hZ hR hS hl)
theorem g_ldc {index : Nat} {v : Int32} (E : q_Ev C cc nL own al ad FR LO) (hw : Cond.constant own index v ∈ lw_tbl) (hd : decode cc pc = .ok (.ldc index, 2)) (k : gg C ty nL kc ks al ad (pc + 2) ls (.int v :: st) h) : gg C ty nL kc ks al ad pc ls st h := by
  obtain ⟨⟨p, l, e, R, s⟩, ⟨m, args, below, meth, c⟩, ⟨D, ca, A, Q⟩⟩ := C
  exact fun H locs lsA hZ hR hS hl => lv_ldc E.1 E.2.1 E.2.2.2.1 (E.2.2.2.2.1.1 _ hw rfl _) hd (k H locs lsA hZ hR hS hl)
theorem g_ldcw {index : Nat} {v : Int32} (E : q_Ev C cc nL own al ad FR LO) (hw : Cond.constant own index v ∈ lw_tbl) (hd : decode cc pc = .ok (.ldc_w index, 3)) (k : gg C ty nL kc ks al ad (pc + 3) ls (.int v :: st) h) : gg C ty nL kc ks al ad pc ls st h := by
  obtain ⟨⟨p, l, e, R, s⟩, ⟨m, args, below, meth, c⟩, ⟨D, ca, A, Q⟩⟩ := C
  exact fun H locs lsA hZ hR hS hl => lv_ldcw E.1 E.2.1 E.2.2.2.1 (E.2.2.2.2.1.1 _ hw rfl _) hd (k H locs lsA hZ hR hS hl)
theorem g_ldc2 {index : Nat} {v : Int64} (E : q_Ev C cc nL own al ad FR LO) (hw : Cond.constantLong own index v ∈ lw_tbl) (hd : decode cc pc = .ok (.ldc2_w index, 3)) (k : gg C ty nL kc ks al ad (pc + 3) ls (.long v :: st) h) : gg C ty nL kc ks al ad pc ls st h := by
  obtain ⟨⟨p, l, e, R, s⟩, ⟨m, args, below, meth, c⟩, ⟨D, ca, A, Q⟩⟩ := C
  exact fun H locs lsA hZ hR hS hl => lv_ldc2 E.1 E.2.1 E.2.2.2.1 (E.2.2.2.2.1.1 _ hw rfl _) hd (k H locs lsA hZ hR hS hl)
theorem g_iload_0 {r : List (Option Value)} {x : Int32} (E : q_Ev C cc nL own al ad FR LO) (hd : decode cc pc = .ok (.iload_n 0, 1)) (k : gg C ty nL kc ks al ad (pc + 1) (some (.int x) :: r) (.int x :: st) h) : gg C ty nL kc ks al ad pc (some (.int x) :: r) st h := by
  obtain ⟨⟨p, l, e, R, s⟩, ⟨m, args, below, meth, c⟩, ⟨D, ca, A, Q⟩⟩ := C
  exact fun H locs lsA hZ hR hS hl => lv_iload_n E.1 E.2.1 hd rfl (q_L.get hl (i := 0) rfl) (k H locs lsA hZ hR hS hl)
theorem g_istore_0 {az : Option Value} {r : List (Option Value)} {x : Int32} (E : q_Ev C cc nL own al ad FR LO) (hd : decode cc pc = .ok (.istore_n 0, 1)) (hi : 0 < nL) (hn : q_nl (az :: r) 0 = true) (k : gg C ty nL kc ks al ad (pc + 1) (some (.int x) :: r) st h) : gg C ty nL kc ks al ad pc (az :: r) (.int x :: st) h := by
  obtain ⟨⟨p, l, e, R, s⟩, ⟨m, args, below, meth, c⟩, ⟨D, ca, A, Q⟩⟩ := C
  exact fun H locs lsA hZ hR hS hl => lv_istore_n E.1 E.2.1 hd rfl hl hi rfl (fun ls2 hl2 => k H locs ls2 hZ hR hS (q_L.set1 (v := .int x) hn hl2))
theorem g_lload_0 {r : List (Option Value)} {x : Int64} (E : q_Ev C cc nL own al ad FR LO) (hd : decode cc pc = .ok (.lload_n 0, 1)) (k : gg C ty nL kc ks al ad (pc + 1) (some (.long x) :: r) (.long x :: st) h) : gg C ty nL kc ks al ad pc (some (.long x) :: r) st h := by
  obtain ⟨⟨p, l, e, R, s⟩, ⟨m, args, below, meth, c⟩, ⟨D, ca, A, Q⟩⟩ := C
  exact fun H locs lsA hZ hR hS hl => lv_lload_n E.1 E.2.1 hd rfl (q_L.get hl (i := 0) rfl) (k H locs lsA hZ hR hS hl)
theorem g_lstore_0 {az ay : Option Value} {r : List (Option Value)} {x : Int64} (E : q_Ev C cc nL own al ad FR LO) (hd : decode cc pc = .ok (.lstore_n 0, 1)) (hi : 0 + 1 < nL) (hn : q_nl (az :: ay :: r) 0 = true) (k : gg C ty nL kc ks al ad (pc + 1) (some (.long x) :: none :: r) st h) : gg C ty nL kc ks al ad pc (az :: ay :: r) (.long x :: st) h := by
  obtain ⟨⟨p, l, e, R, s⟩, ⟨m, args, below, meth, c⟩, ⟨D, ca, A, Q⟩⟩ := C
  exact fun H locs lsA hZ hR hS hl => lv_lstore_n E.1 E.2.1 hd rfl hl hi rfl (fun ls2 hl2 => k H locs ls2 hZ hR hS (q_L.set2 (v := .long x) hn hl2))
theorem g_aload_0 {r : List (Option Value)} {x : Nat} (E : q_Ev C cc nL own al ad FR LO) (hd : decode cc pc = .ok (.aload_n 0, 1)) (k : gg C ty nL kc ks al ad (pc + 1) (some (.ref x) :: r) (.ref x :: st) h) : gg C ty nL kc ks al ad pc (some (.ref x) :: r) st h := by
  obtain ⟨⟨p, l, e, R, s⟩, ⟨m, args, below, meth, c⟩, ⟨D, ca, A, Q⟩⟩ := C
  exact fun H locs lsA hZ hR hS hl => lv_aload_n E.1 E.2.1 hd rfl (q_L.get hl (i := 0) rfl) (k H locs lsA hZ hR hS hl)
theorem g_astore_0 {az : Option Value} {r : List (Option Value)} {x : Nat} (E : q_Ev C cc nL own al ad FR LO) (hd : decode cc pc = .ok (.astore_n 0, 1)) (hi : 0 < nL) (hn : q_nl (az :: r) 0 = true) (k : gg C ty nL kc ks al ad (pc + 1) (some (.ref x) :: r) st h) : gg C ty nL kc ks al ad pc (az :: r) (.ref x :: st) h := by
  obtain ⟨⟨p, l, e, R, s⟩, ⟨m, args, below, meth, c⟩, ⟨D, ca, A, Q⟩⟩ := C
  exact fun H locs lsA hZ hR hS hl => lv_astore_n E.1 E.2.1 hd rfl hl hi rfl (fun ls2 hl2 => k H locs ls2 hZ hR hS (q_L.set1 (v := .ref x) hn hl2))
theorem g_iinc_0 {r : List (Option Value)} {x u : Int32} {n : Int} (E : q_Ev C cc nL own al ad FR LO) (hd : decode cc pc = .ok (.iinc 0 n, 3)) (hv : Int32.ofInt n = u) (hi : 0 < nL) (hn : q_nl (some (.int x) :: r) 0 = true) (k : gg C ty nL kc ks al ad (pc + 3) (some (.int (x + u)) :: r) st h) : gg C ty nL kc ks al ad pc (some (.int x) :: r) st h := by
  obtain ⟨⟨p, l, e, R, s⟩, ⟨m, args, below, meth, c⟩, ⟨D, ca, A, Q⟩⟩ := C
  intro H locs lsA hZ hR hS hl
  obtain ⟨kk, hk⟩ := List.getElem?_of_mem (q_prs_mem.mpr ⟨0, .int x, by simp, rfl, rfl⟩ : (0, q_cv ad (.int x)) ∈ q_prs ad 0 (some (.int x) :: r))
  exact lv_iinc E.1 E.2.1 hd hl hk (by rw [hv]) hi rfl (fun ls2 hl2 => k H locs ls2 hZ hR hS (q_L.set1 (v := .int (x + u)) hn hl2))
theorem g_iload_1 {a0 : Option Value} {r : List (Option Value)} {x : Int32} (E : q_Ev C cc nL own al ad FR LO) (hd : decode cc pc = .ok (.iload_n 1, 1)) (k : gg C ty nL kc ks al ad (pc + 1) (a0 :: some (.int x) :: r) (.int x :: st) h) : gg C ty nL kc ks al ad pc (a0 :: some (.int x) :: r) st h := by
  obtain ⟨⟨p, l, e, R, s⟩, ⟨m, args, below, meth, c⟩, ⟨D, ca, A, Q⟩⟩ := C
  exact fun H locs lsA hZ hR hS hl => lv_iload_n E.1 E.2.1 hd rfl (q_L.get hl (i := 1) rfl) (k H locs lsA hZ hR hS hl)
theorem g_istore_1 {a0 az : Option Value} {r : List (Option Value)} {x : Int32} (E : q_Ev C cc nL own al ad FR LO) (hd : decode cc pc = .ok (.istore_n 1, 1)) (hi : 1 < nL) (hn : q_nl (a0 :: az :: r) 1 = true) (k : gg C ty nL kc ks al ad (pc + 1) (a0 :: some (.int x) :: r) st h) : gg C ty nL kc ks al ad pc (a0 :: az :: r) (.int x :: st) h := by
  obtain ⟨⟨p, l, e, R, s⟩, ⟨m, args, below, meth, c⟩, ⟨D, ca, A, Q⟩⟩ := C
  exact fun H locs lsA hZ hR hS hl => lv_istore_n E.1 E.2.1 hd rfl hl hi rfl (fun ls2 hl2 => k H locs ls2 hZ hR hS (q_L.set1 (v := .int x) hn hl2))
theorem g_lload_1 {a0 : Option Value} {r : List (Option Value)} {x : Int64} (E : q_Ev C cc nL own al ad FR LO) (hd : decode cc pc = .ok (.lload_n 1, 1)) (k : gg C ty nL kc ks al ad (pc + 1) (a0 :: some (.long x) :: r) (.long x :: st) h) : gg C ty nL kc ks al ad pc (a0 :: some (.long x) :: r) st h := by
  obtain ⟨⟨p, l, e, R, s⟩, ⟨m, args, below, meth, c⟩, ⟨D, ca, A, Q⟩⟩ := C
  exact fun H locs lsA hZ hR hS hl => lv_lload_n E.1 E.2.1 hd rfl (q_L.get hl (i := 1) rfl) (k H locs lsA hZ hR hS hl)
theorem g_lstore_1 {a0 az ay : Option Value} {r : List (Option Value)} {x : Int64} (E : q_Ev C cc nL own al ad FR LO) (hd : decode cc pc = .ok (.lstore_n 1, 1)) (hi : 1 + 1 < nL) (hn : q_nl (a0 :: az :: ay :: r) 1 = true) (k : gg C ty nL kc ks al ad (pc + 1) (a0 :: some (.long x) :: none :: r) st h) : gg C ty nL kc ks al ad pc (a0 :: az :: ay :: r) (.long x :: st) h := by
  obtain ⟨⟨p, l, e, R, s⟩, ⟨m, args, below, meth, c⟩, ⟨D, ca, A, Q⟩⟩ := C
  exact fun H locs lsA hZ hR hS hl => lv_lstore_n E.1 E.2.1 hd rfl hl hi rfl (fun ls2 hl2 => k H locs ls2 hZ hR hS (q_L.set2 (v := .long x) hn hl2))
theorem g_aload_1 {a0 : Option Value} {r : List (Option Value)} {x : Nat} (E : q_Ev C cc nL own al ad FR LO) (hd : decode cc pc = .ok (.aload_n 1, 1)) (k : gg C ty nL kc ks al ad (pc + 1) (a0 :: some (.ref x) :: r) (.ref x :: st) h) : gg C ty nL kc ks al ad pc (a0 :: some (.ref x) :: r) st h := by
  obtain ⟨⟨p, l, e, R, s⟩, ⟨m, args, below, meth, c⟩, ⟨D, ca, A, Q⟩⟩ := C
  exact fun H locs lsA hZ hR hS hl => lv_aload_n E.1 E.2.1 hd rfl (q_L.get hl (i := 1) rfl) (k H locs lsA hZ hR hS hl)
theorem g_astore_1 {a0 az : Option Value} {r : List (Option Value)} {x : Nat} (E : q_Ev C cc nL own al ad FR LO) (hd : decode cc pc = .ok (.astore_n 1, 1)) (hi : 1 < nL) (hn : q_nl (a0 :: az :: r) 1 = true) (k : gg C ty nL kc ks al ad (pc + 1) (a0 :: some (.ref x) :: r) st h) : gg C ty nL kc ks al ad pc (a0 :: az :: r) (.ref x :: st) h := by
  obtain ⟨⟨p, l, e, R, s⟩, ⟨m, args, below, meth, c⟩, ⟨D, ca, A, Q⟩⟩ := C
  exact fun H locs lsA hZ hR hS hl => lv_astore_n E.1 E.2.1 hd rfl hl hi rfl (fun ls2 hl2 => k H locs ls2 hZ hR hS (q_L.set1 (v := .ref x) hn hl2))
theorem g_iinc_1 {a0 : Option Value} {r : List (Option Value)} {x u : Int32} {n : Int} (E : q_Ev C cc nL own al ad FR LO) (hd : decode cc pc = .ok (.iinc 1 n, 3)) (hv : Int32.ofInt n = u) (hi : 1 < nL) (hn : q_nl (a0 :: some (.int x) :: r) 1 = true) (k : gg C ty nL kc ks al ad (pc + 3) (a0 :: some (.int (x + u)) :: r) st h) : gg C ty nL kc ks al ad pc (a0 :: some (.int x) :: r) st h := by
  obtain ⟨⟨p, l, e, R, s⟩, ⟨m, args, below, meth, c⟩, ⟨D, ca, A, Q⟩⟩ := C
  intro H locs lsA hZ hR hS hl
  obtain ⟨kk, hk⟩ := List.getElem?_of_mem (q_prs_mem.mpr ⟨1, .int x, by simp, rfl, rfl⟩ : (1, q_cv ad (.int x)) ∈ q_prs ad 0 (a0 :: some (.int x) :: r))
  exact lv_iinc E.1 E.2.1 hd hl hk (by rw [hv]) hi rfl (fun ls2 hl2 => k H locs ls2 hZ hR hS (q_L.set1 (v := .int (x + u)) hn hl2))
theorem g_iload_2 {a0 a1 : Option Value} {r : List (Option Value)} {x : Int32} (E : q_Ev C cc nL own al ad FR LO) (hd : decode cc pc = .ok (.iload_n 2, 1)) (k : gg C ty nL kc ks al ad (pc + 1) (a0 :: a1 :: some (.int x) :: r) (.int x :: st) h) : gg C ty nL kc ks al ad pc (a0 :: a1 :: some (.int x) :: r) st h := by
  obtain ⟨⟨p, l, e, R, s⟩, ⟨m, args, below, meth, c⟩, ⟨D, ca, A, Q⟩⟩ := C
  exact fun H locs lsA hZ hR hS hl => lv_iload_n E.1 E.2.1 hd rfl (q_L.get hl (i := 2) rfl) (k H locs lsA hZ hR hS hl)
theorem g_istore_2 {a0 a1 az : Option Value} {r : List (Option Value)} {x : Int32} (E : q_Ev C cc nL own al ad FR LO) (hd : decode cc pc = .ok (.istore_n 2, 1)) (hi : 2 < nL) (hn : q_nl (a0 :: a1 :: az :: r) 2 = true) (k : gg C ty nL kc ks al ad (pc + 1) (a0 :: a1 :: some (.int x) :: r) st h) : gg C ty nL kc ks al ad pc (a0 :: a1 :: az :: r) (.int x :: st) h := by
  obtain ⟨⟨p, l, e, R, s⟩, ⟨m, args, below, meth, c⟩, ⟨D, ca, A, Q⟩⟩ := C
  exact fun H locs lsA hZ hR hS hl => lv_istore_n E.1 E.2.1 hd rfl hl hi rfl (fun ls2 hl2 => k H locs ls2 hZ hR hS (q_L.set1 (v := .int x) hn hl2))
theorem g_lload_2 {a0 a1 : Option Value} {r : List (Option Value)} {x : Int64} (E : q_Ev C cc nL own al ad FR LO) (hd : decode cc pc = .ok (.lload_n 2, 1)) (k : gg C ty nL kc ks al ad (pc + 1) (a0 :: a1 :: some (.long x) :: r) (.long x :: st) h) : gg C ty nL kc ks al ad pc (a0 :: a1 :: some (.long x) :: r) st h := by
  obtain ⟨⟨p, l, e, R, s⟩, ⟨m, args, below, meth, c⟩, ⟨D, ca, A, Q⟩⟩ := C
  exact fun H locs lsA hZ hR hS hl => lv_lload_n E.1 E.2.1 hd rfl (q_L.get hl (i := 2) rfl) (k H locs lsA hZ hR hS hl)
theorem g_lstore_2 {a0 a1 az ay : Option Value} {r : List (Option Value)} {x : Int64} (E : q_Ev C cc nL own al ad FR LO) (hd : decode cc pc = .ok (.lstore_n 2, 1)) (hi : 2 + 1 < nL) (hn : q_nl (a0 :: a1 :: az :: ay :: r) 2 = true) (k : gg C ty nL kc ks al ad (pc + 1) (a0 :: a1 :: some (.long x) :: none :: r) st h) : gg C ty nL kc ks al ad pc (a0 :: a1 :: az :: ay :: r) (.long x :: st) h := by
  obtain ⟨⟨p, l, e, R, s⟩, ⟨m, args, below, meth, c⟩, ⟨D, ca, A, Q⟩⟩ := C
  exact fun H locs lsA hZ hR hS hl => lv_lstore_n E.1 E.2.1 hd rfl hl hi rfl (fun ls2 hl2 => k H locs ls2 hZ hR hS (q_L.set2 (v := .long x) hn hl2))
theorem g_aload_2 {a0 a1 : Option Value} {r : List (Option Value)} {x : Nat} (E : q_Ev C cc nL own al ad FR LO) (hd : decode cc pc = .ok (.aload_n 2, 1)) (k : gg C ty nL kc ks al ad (pc + 1) (a0 :: a1 :: some (.ref x) :: r) (.ref x :: st) h) : gg C ty nL kc ks al ad pc (a0 :: a1 :: some (.ref x) :: r) st h := by
  obtain ⟨⟨p, l, e, R, s⟩, ⟨m, args, below, meth, c⟩, ⟨D, ca, A, Q⟩⟩ := C
  exact fun H locs lsA hZ hR hS hl => lv_aload_n E.1 E.2.1 hd rfl (q_L.get hl (i := 2) rfl) (k H locs lsA hZ hR hS hl)
theorem g_astore_2 {a0 a1 az : Option Value} {r : List (Option Value)} {x : Nat} (E : q_Ev C cc nL own al ad FR LO) (hd : decode cc pc = .ok (.astore_n 2, 1)) (hi : 2 < nL) (hn : q_nl (a0 :: a1 :: az :: r) 2 = true) (k : gg C ty nL kc ks al ad (pc + 1) (a0 :: a1 :: some (.ref x) :: r) st h) : gg C ty nL kc ks al ad pc (a0 :: a1 :: az :: r) (.ref x :: st) h := by
  obtain ⟨⟨p, l, e, R, s⟩, ⟨m, args, below, meth, c⟩, ⟨D, ca, A, Q⟩⟩ := C
  exact fun H locs lsA hZ hR hS hl => lv_astore_n E.1 E.2.1 hd rfl hl hi rfl (fun ls2 hl2 => k H locs ls2 hZ hR hS (q_L.set1 (v := .ref x) hn hl2))
theorem g_iinc_2 {a0 a1 : Option Value} {r : List (Option Value)} {x u : Int32} {n : Int} (E : q_Ev C cc nL own al ad FR LO) (hd : decode cc pc = .ok (.iinc 2 n, 3)) (hv : Int32.ofInt n = u) (hi : 2 < nL) (hn : q_nl (a0 :: a1 :: some (.int x) :: r) 2 = true) (k : gg C ty nL kc ks al ad (pc + 3) (a0 :: a1 :: some (.int (x + u)) :: r) st h) : gg C ty nL kc ks al ad pc (a0 :: a1 :: some (.int x) :: r) st h := by
  obtain ⟨⟨p, l, e, R, s⟩, ⟨m, args, below, meth, c⟩, ⟨D, ca, A, Q⟩⟩ := C
  intro H locs lsA hZ hR hS hl
  obtain ⟨kk, hk⟩ := List.getElem?_of_mem (q_prs_mem.mpr ⟨2, .int x, by simp, rfl, rfl⟩ : (2, q_cv ad (.int x)) ∈ q_prs ad 0 (a0 :: a1 :: some (.int x) :: r))
  exact lv_iinc E.1 E.2.1 hd hl hk (by rw [hv]) hi rfl (fun ls2 hl2 => k H locs ls2 hZ hR hS (q_L.set1 (v := .int (x + u)) hn hl2))
theorem g_iload_3 {a0 a1 a2 : Option Value} {r : List (Option Value)} {x : Int32} (E : q_Ev C cc nL own al ad FR LO) (hd : decode cc pc = .ok (.iload_n 3, 1)) (k : gg C ty nL kc ks al ad (pc + 1) (a0 :: a1 :: a2 :: some (.int x) :: r) (.int x :: st) h) : gg C ty nL kc ks al ad pc (a0 :: a1 :: a2 :: some (.int x) :: r) st h := by
  obtain ⟨⟨p, l, e, R, s⟩, ⟨m, args, below, meth, c⟩, ⟨D, ca, A, Q⟩⟩ := C
  exact fun H locs lsA hZ hR hS hl => lv_iload_n E.1 E.2.1 hd rfl (q_L.get hl (i := 3) rfl) (k H locs lsA hZ hR hS hl)
theorem g_istore_3 {a0 a1 a2 az : Option Value} {r : List (Option Value)} {x : Int32} (E : q_Ev C cc nL own al ad FR LO) (hd : decode cc pc = .ok (.istore_n 3, 1)) (hi : 3 < nL) (hn : q_nl (a0 :: a1 :: a2 :: az :: r) 3 = true) (k : gg C ty nL kc ks al ad (pc + 1) (a0 :: a1 :: a2 :: some (.int x) :: r) st h) : gg C ty nL kc ks al ad pc (a0 :: a1 :: a2 :: az :: r) (.int x :: st) h := by
  obtain ⟨⟨p, l, e, R, s⟩, ⟨m, args, below, meth, c⟩, ⟨D, ca, A, Q⟩⟩ := C
  exact fun H locs lsA hZ hR hS hl => lv_istore_n E.1 E.2.1 hd rfl hl hi rfl (fun ls2 hl2 => k H locs ls2 hZ hR hS (q_L.set1 (v := .int x) hn hl2))
theorem g_lload_3 {a0 a1 a2 : Option Value} {r : List (Option Value)} {x : Int64} (E : q_Ev C cc nL own al ad FR LO) (hd : decode cc pc = .ok (.lload_n 3, 1)) (k : gg C ty nL kc ks al ad (pc + 1) (a0 :: a1 :: a2 :: some (.long x) :: r) (.long x :: st) h) : gg C ty nL kc ks al ad pc (a0 :: a1 :: a2 :: some (.long x) :: r) st h := by
  obtain ⟨⟨p, l, e, R, s⟩, ⟨m, args, below, meth, c⟩, ⟨D, ca, A, Q⟩⟩ := C
  exact fun H locs lsA hZ hR hS hl => lv_lload_n E.1 E.2.1 hd rfl (q_L.get hl (i := 3) rfl) (k H locs lsA hZ hR hS hl)
theorem g_lstore_3 {a0 a1 a2 az ay : Option Value} {r : List (Option Value)} {x : Int64} (E : q_Ev C cc nL own al ad FR LO) (hd : decode cc pc = .ok (.lstore_n 3, 1)) (hi : 3 + 1 < nL) (hn : q_nl (a0 :: a1 :: a2 :: az :: ay :: r) 3 = true) (k : gg C ty nL kc ks al ad (pc + 1) (a0 :: a1 :: a2 :: some (.long x) :: none :: r) st h) : gg C ty nL kc ks al ad pc (a0 :: a1 :: a2 :: az :: ay :: r) (.long x :: st) h := by
  obtain ⟨⟨p, l, e, R, s⟩, ⟨m, args, below, meth, c⟩, ⟨D, ca, A, Q⟩⟩ := C
  exact fun H locs lsA hZ hR hS hl => lv_lstore_n E.1 E.2.1 hd rfl hl hi rfl (fun ls2 hl2 => k H locs ls2 hZ hR hS (q_L.set2 (v := .long x) hn hl2))
theorem g_aload_3 {a0 a1 a2 : Option Value} {r : List (Option Value)} {x : Nat} (E : q_Ev C cc nL own al ad FR LO) (hd : decode cc pc = .ok (.aload_n 3, 1)) (k : gg C ty nL kc ks al ad (pc + 1) (a0 :: a1 :: a2 :: some (.ref x) :: r) (.ref x :: st) h) : gg C ty nL kc ks al ad pc (a0 :: a1 :: a2 :: some (.ref x) :: r) st h := by
  obtain ⟨⟨p, l, e, R, s⟩, ⟨m, args, below, meth, c⟩, ⟨D, ca, A, Q⟩⟩ := C
  exact fun H locs lsA hZ hR hS hl => lv_aload_n E.1 E.2.1 hd rfl (q_L.get hl (i := 3) rfl) (k H locs lsA hZ hR hS hl)
theorem g_astore_3 {a0 a1 a2 az : Option Value} {r : List (Option Value)} {x : Nat} (E : q_Ev C cc nL own al ad FR LO) (hd : decode cc pc = .ok (.astore_n 3, 1)) (hi : 3 < nL) (hn : q_nl (a0 :: a1 :: a2 :: az :: r) 3 = true) (k : gg C ty nL kc ks al ad (pc + 1) (a0 :: a1 :: a2 :: some (.ref x) :: r) st h) : gg C ty nL kc ks al ad pc (a0 :: a1 :: a2 :: az :: r) (.ref x :: st) h := by
  obtain ⟨⟨p, l, e, R, s⟩, ⟨m, args, below, meth, c⟩, ⟨D, ca, A, Q⟩⟩ := C
  exact fun H locs lsA hZ hR hS hl => lv_astore_n E.1 E.2.1 hd rfl hl hi rfl (fun ls2 hl2 => k H locs ls2 hZ hR hS (q_L.set1 (v := .ref x) hn hl2))
theorem g_iinc_3 {a0 a1 a2 : Option Value} {r : List (Option Value)} {x u : Int32} {n : Int} (E : q_Ev C cc nL own al ad FR LO) (hd : decode cc pc = .ok (.iinc 3 n, 3)) (hv : Int32.ofInt n = u) (hi : 3 < nL) (hn : q_nl (a0 :: a1 :: a2 :: some (.int x) :: r) 3 = true) (k : gg C ty nL kc ks al ad (pc + 3) (a0 :: a1 :: a2 :: some (.int (x + u)) :: r) st h) : gg C ty nL kc ks al ad pc (a0 :: a1 :: a2 :: some (.int x) :: r) st h := by
  obtain ⟨⟨p, l, e, R, s⟩, ⟨m, args, below, meth, c⟩, ⟨D, ca, A, Q⟩⟩ := C
  intro H locs lsA hZ hR hS hl
  obtain ⟨kk, hk⟩ := List.getElem?_of_mem (q_prs_mem.mpr ⟨3, .int x, by simp, rfl, rfl⟩ : (3, q_cv ad (.int x)) ∈ q_prs ad 0 (a0 :: a1 :: a2 :: some (.int x) :: r))
  exact lv_iinc E.1 E.2.1 hd hl hk (by rw [hv]) hi rfl (fun ls2 hl2 => k H locs ls2 hZ hR hS (q_L.set1 (v := .int (x + u)) hn hl2))
theorem g_iload_4 {a0 a1 a2 a3 : Option Value} {r : List (Option Value)} {x : Int32} (E : q_Ev C cc nL own al ad FR LO) (hd : decode cc pc = .ok (.iload 4, 2)) (k : gg C ty nL kc ks al ad (pc + 2) (a0 :: a1 :: a2 :: a3 :: some (.int x) :: r) (.int x :: st) h) : gg C ty nL kc ks al ad pc (a0 :: a1 :: a2 :: a3 :: some (.int x) :: r) st h := by
  obtain ⟨⟨p, l, e, R, s⟩, ⟨m, args, below, meth, c⟩, ⟨D, ca, A, Q⟩⟩ := C
  exact fun H locs lsA hZ hR hS hl => lv_iload E.1 E.2.1 hd (q_L.get hl (i := 4) rfl) (k H locs lsA hZ hR hS hl)
theorem g_istore_4 {a0 a1 a2 a3 az : Option Value} {r : List (Option Value)} {x : Int32} (E : q_Ev C cc nL own al ad FR LO) (hd : decode cc pc = .ok (.istore 4, 2)) (hi : 4 < nL) (hn : q_nl (a0 :: a1 :: a2 :: a3 :: az :: r) 4 = true) (k : gg C ty nL kc ks al ad (pc + 2) (a0 :: a1 :: a2 :: a3 :: some (.int x) :: r) st h) : gg C ty nL kc ks al ad pc (a0 :: a1 :: a2 :: a3 :: az :: r) (.int x :: st) h := by
  obtain ⟨⟨p, l, e, R, s⟩, ⟨m, args, below, meth, c⟩, ⟨D, ca, A, Q⟩⟩ := C
  exact fun H locs lsA hZ hR hS hl => lv_istore E.1 E.2.1 hd hl hi rfl (fun ls2 hl2 => k H locs ls2 hZ hR hS (q_L.set1 (v := .int x) hn hl2))
theorem g_lload_4 {a0 a1 a2 a3 : Option Value} {r : List (Option Value)} {x : Int64} (E : q_Ev C cc nL own al ad FR LO) (hd : decode cc pc = .ok (.lload 4, 2)) (k : gg C ty nL kc ks al ad (pc + 2) (a0 :: a1 :: a2 :: a3 :: some (.long x) :: r) (.long x :: st) h) : gg C ty nL kc ks al ad pc (a0 :: a1 :: a2 :: a3 :: some (.long x) :: r) st h := by
  obtain ⟨⟨p, l, e, R, s⟩, ⟨m, args, below, meth, c⟩, ⟨D, ca, A, Q⟩⟩ := C
  exact fun H locs lsA hZ hR hS hl => lv_lload E.1 E.2.1 hd (q_L.get hl (i := 4) rfl) (k H locs lsA hZ hR hS hl)
theorem g_lstore_4 {a0 a1 a2 a3 az ay : Option Value} {r : List (Option Value)} {x : Int64} (E : q_Ev C cc nL own al ad FR LO) (hd : decode cc pc = .ok (.lstore 4, 2)) (hi : 4 + 1 < nL) (hn : q_nl (a0 :: a1 :: a2 :: a3 :: az :: ay :: r) 4 = true) (k : gg C ty nL kc ks al ad (pc + 2) (a0 :: a1 :: a2 :: a3 :: some (.long x) :: none :: r) st h) : gg C ty nL kc ks al ad pc (a0 :: a1 :: a2 :: a3 :: az :: ay :: r) (.long x :: st) h := by
  obtain ⟨⟨p, l, e, R, s⟩, ⟨m, args, below, meth, c⟩, ⟨D, ca, A, Q⟩⟩ := C
  exact fun H locs lsA hZ hR hS hl => lv_lstore E.1 E.2.1 hd hl hi rfl (fun ls2 hl2 => k H locs ls2 hZ hR hS (q_L.set2 (v := .long x) hn hl2))
theorem g_aload_4 {a0 a1 a2 a3 : Option Value} {r : List (Option Value)} {x : Nat} (E : q_Ev C cc nL own al ad FR LO) (hd : decode cc pc = .ok (.aload 4, 2)) (k : gg C ty nL kc ks al ad (pc + 2) (a0 :: a1 :: a2 :: a3 :: some (.ref x) :: r) (.ref x :: st) h) : gg C ty nL kc ks al ad pc (a0 :: a1 :: a2 :: a3 :: some (.ref x) :: r) st h := by
  obtain ⟨⟨p, l, e, R, s⟩, ⟨m, args, below, meth, c⟩, ⟨D, ca, A, Q⟩⟩ := C
  exact fun H locs lsA hZ hR hS hl => lv_aload E.1 E.2.1 hd (q_L.get hl (i := 4) rfl) (k H locs lsA hZ hR hS hl)
theorem g_astore_4 {a0 a1 a2 a3 az : Option Value} {r : List (Option Value)} {x : Nat} (E : q_Ev C cc nL own al ad FR LO) (hd : decode cc pc = .ok (.astore 4, 2)) (hi : 4 < nL) (hn : q_nl (a0 :: a1 :: a2 :: a3 :: az :: r) 4 = true) (k : gg C ty nL kc ks al ad (pc + 2) (a0 :: a1 :: a2 :: a3 :: some (.ref x) :: r) st h) : gg C ty nL kc ks al ad pc (a0 :: a1 :: a2 :: a3 :: az :: r) (.ref x :: st) h := by
  obtain ⟨⟨p, l, e, R, s⟩, ⟨m, args, below, meth, c⟩, ⟨D, ca, A, Q⟩⟩ := C
  exact fun H locs lsA hZ hR hS hl => lv_astore E.1 E.2.1 hd hl hi rfl (fun ls2 hl2 => k H locs ls2 hZ hR hS (q_L.set1 (v := .ref x) hn hl2))
theorem g_iinc_4 {a0 a1 a2 a3 : Option Value} {r : List (Option Value)} {x u : Int32} {n : Int} (E : q_Ev C cc nL own al ad FR LO) (hd : decode cc pc = .ok (.iinc 4 n, 3)) (hv : Int32.ofInt n = u) (hi : 4 < nL) (hn : q_nl (a0 :: a1 :: a2 :: a3 :: some (.int x) :: r) 4 = true) (k : gg C ty nL kc ks al ad (pc + 3) (a0 :: a1 :: a2 :: a3 :: some (.int (x + u)) :: r) st h) : gg C ty nL kc ks al ad pc (a0 :: a1 :: a2 :: a3 :: some (.int x) :: r) st h := by
  obtain ⟨⟨p, l, e, R, s⟩, ⟨m, args, below, meth, c⟩, ⟨D, ca, A, Q⟩⟩ := C
  intro H locs lsA hZ hR hS hl
  obtain ⟨kk, hk⟩ := List.getElem?_of_mem (q_prs_mem.mpr ⟨4, .int x, by simp, rfl, rfl⟩ : (4, q_cv ad (.int x)) ∈ q_prs ad 0 (a0 :: a1 :: a2 :: a3 :: some (.int x) :: r))
  exact lv_iinc E.1 E.2.1 hd hl hk (by rw [hv]) hi rfl (fun ls2 hl2 => k H locs ls2 hZ hR hS (q_L.set1 (v := .int (x + u)) hn hl2))
theorem g_iload_5 {a0 a1 a2 a3 a4 : Option Value} {r : List (Option Value)} {x : Int32} (E : q_Ev C cc nL own al ad FR LO) (hd : decode cc pc = .ok (.iload 5, 2)) (k : gg C ty nL kc ks al ad (pc + 2) (a0 :: a1 :: a2 :: a3 :: a4 :: some (.int x) :: r) (.int x :: st) h) : gg C ty nL kc ks al ad pc (a0 :: a1 :: a2 :: a3 :: a4 :: some (.int x) :: r) st h := by
  obtain ⟨⟨p, l, e, R, s⟩, ⟨m, args, below, meth, c⟩, ⟨D, ca, A, Q⟩⟩ := C
  exact fun H locs lsA hZ hR hS hl => lv_iload E.1 E.2.1 hd (q_L.get hl (i := 5) rfl) (k H locs lsA hZ hR hS hl)
theorem g_istore_5 {a0 a1 a2 a3 a4 az : Option Value} {r : List (Option Value)} {x : Int32} (E : q_Ev C cc nL own al ad FR LO) (hd : decode cc pc = .ok (.istore 5, 2)) (hi : 5 < nL) (hn : q_nl (a0 :: a1 :: a2 :: a3 :: a4 :: az :: r) 5 = true) (k : gg C ty nL kc ks al ad (pc + 2) (a0 :: a1 :: a2 :: a3 :: a4 :: some (.int x) :: r) st h) : gg C ty nL kc ks al ad pc (a0 :: a1 :: a2 :: a3 :: a4 :: az :: r) (.int x :: st) h := by
  obtain ⟨⟨p, l, e, R, s⟩, ⟨m, args, below, meth, c⟩, ⟨D, ca, A, Q⟩⟩ := C
  exact fun H locs lsA hZ hR hS hl => lv_istore E.1 E.2.1 hd hl hi rfl (fun ls2 hl2 => k H locs ls2 hZ hR hS (q_L.set1 (v := .int x) hn hl2))
theorem g_lload_5 {a0 a1 a2 a3 a4 : Option Value} {r : List (Option Value)} {x : Int64} (E : q_Ev C cc nL own al ad FR LO) (hd : decode cc pc = .ok (.lload 5, 2)) (k : gg C ty nL kc ks al ad (pc + 2) (a0 :: a1 :: a2 :: a3 :: a4 :: some (.long x) :: r) (.long x :: st) h) : gg C ty nL kc ks al ad pc (a0 :: a1 :: a2 :: a3 :: a4 :: some (.long x) :: r) st h := by
  obtain ⟨⟨p, l, e, R, s⟩, ⟨m, args, below, meth, c⟩, ⟨D, ca, A, Q⟩⟩ := C
  exact fun H locs lsA hZ hR hS hl => lv_lload E.1 E.2.1 hd (q_L.get hl (i := 5) rfl) (k H locs lsA hZ hR hS hl)
theorem g_lstore_5 {a0 a1 a2 a3 a4 az ay : Option Value} {r : List (Option Value)} {x : Int64} (E : q_Ev C cc nL own al ad FR LO) (hd : decode cc pc = .ok (.lstore 5, 2)) (hi : 5 + 1 < nL) (hn : q_nl (a0 :: a1 :: a2 :: a3 :: a4 :: az :: ay :: r) 5 = true) (k : gg C ty nL kc ks al ad (pc + 2) (a0 :: a1 :: a2 :: a3 :: a4 :: some (.long x) :: none :: r) st h) : gg C ty nL kc ks al ad pc (a0 :: a1 :: a2 :: a3 :: a4 :: az :: ay :: r) (.long x :: st) h := by
  obtain ⟨⟨p, l, e, R, s⟩, ⟨m, args, below, meth, c⟩, ⟨D, ca, A, Q⟩⟩ := C
  exact fun H locs lsA hZ hR hS hl => lv_lstore E.1 E.2.1 hd hl hi rfl (fun ls2 hl2 => k H locs ls2 hZ hR hS (q_L.set2 (v := .long x) hn hl2))
theorem g_aload_5 {a0 a1 a2 a3 a4 : Option Value} {r : List (Option Value)} {x : Nat} (E : q_Ev C cc nL own al ad FR LO) (hd : decode cc pc = .ok (.aload 5, 2)) (k : gg C ty nL kc ks al ad (pc + 2) (a0 :: a1 :: a2 :: a3 :: a4 :: some (.ref x) :: r) (.ref x :: st) h) : gg C ty nL kc ks al ad pc (a0 :: a1 :: a2 :: a3 :: a4 :: some (.ref x) :: r) st h := by
  obtain ⟨⟨p, l, e, R, s⟩, ⟨m, args, below, meth, c⟩, ⟨D, ca, A, Q⟩⟩ := C
  exact fun H locs lsA hZ hR hS hl => lv_aload E.1 E.2.1 hd (q_L.get hl (i := 5) rfl) (k H locs lsA hZ hR hS hl)
theorem g_astore_5 {a0 a1 a2 a3 a4 az : Option Value} {r : List (Option Value)} {x : Nat} (E : q_Ev C cc nL own al ad FR LO) (hd : decode cc pc = .ok (.astore 5, 2)) (hi : 5 < nL) (hn : q_nl (a0 :: a1 :: a2 :: a3 :: a4 :: az :: r) 5 = true) (k : gg C ty nL kc ks al ad (pc + 2) (a0 :: a1 :: a2 :: a3 :: a4 :: some (.ref x) :: r) st h) : gg C ty nL kc ks al ad pc (a0 :: a1 :: a2 :: a3 :: a4 :: az :: r) (.ref x :: st) h := by
  obtain ⟨⟨p, l, e, R, s⟩, ⟨m, args, below, meth, c⟩, ⟨D, ca, A, Q⟩⟩ := C
  exact fun H locs lsA hZ hR hS hl => lv_astore E.1 E.2.1 hd hl hi rfl (fun ls2 hl2 => k H locs ls2 hZ hR hS (q_L.set1 (v := .ref x) hn hl2))
theorem g_iinc_5 {a0 a1 a2 a3 a4 : Option Value} {r : List (Option Value)} {x u : Int32} {n : Int} (E : q_Ev C cc nL own al ad FR LO) (hd : decode cc pc = .ok (.iinc 5 n, 3)) (hv : Int32.ofInt n = u) (hi : 5 < nL) (hn : q_nl (a0 :: a1 :: a2 :: a3 :: a4 :: some (.int x) :: r) 5 = true) (k : gg C ty nL kc ks al ad (pc + 3) (a0 :: a1 :: a2 :: a3 :: a4 :: some (.int (x + u)) :: r) st h) : gg C ty nL kc ks al ad pc (a0 :: a1 :: a2 :: a3 :: a4 :: some (.int x) :: r) st h := by
  obtain ⟨⟨p, l, e, R, s⟩, ⟨m, args, below, meth, c⟩, ⟨D, ca, A, Q⟩⟩ := C
  intro H locs lsA hZ hR hS hl
  obtain ⟨kk, hk⟩ := List.getElem?_of_mem (q_prs_mem.mpr ⟨5, .int x, by simp, rfl, rfl⟩ : (5, q_cv ad (.int x)) ∈ q_prs ad 0 (a0 :: a1 :: a2 :: a3 :: a4 :: some (.int x) :: r))
  exact lv_iinc E.1 E.2.1 hd hl hk (by rw [hv]) hi rfl (fun ls2 hl2 => k H locs ls2 hZ hR hS (q_L.set1 (v := .int (x + u)) hn hl2))
theorem g_iload_6 {a0 a1 a2 a3 a4 a5 : Option Value} {r : List (Option Value)} {x : Int32} (E : q_Ev C cc nL own al ad FR LO) (hd : decode cc pc = .ok (.iload 6, 2)) (k : gg C ty nL kc ks al ad (pc + 2) (a0 :: a1 :: a2 :: a3 :: a4 :: a5 :: some (.int x) :: r) (.int x :: st) h) : gg C ty nL kc ks al ad pc (a0 :: a1 :: a2 :: a3 :: a4 :: a5 :: some (.int x) :: r) st h := by
  obtain ⟨⟨p, l, e, R, s⟩, ⟨m, args, below, meth, c⟩, ⟨D, ca, A, Q⟩⟩ := C
  exact fun H locs lsA hZ hR hS hl => lv_iload E.1 E.2.1 hd (q_L.get hl (i := 6) rfl) (k H locs lsA hZ hR hS hl)
theorem g_istore_6 {a0 a1 a2 a3 a4 a5 az : Option Value} {r : List (Option Value)} {x : Int32} (E : q_Ev C cc nL own al ad FR LO) (hd : decode cc pc = .ok (.istore 6, 2)) (hi : 6 < nL) (hn : q_nl (a0 :: a1 :: a2 :: a3 :: a4 :: a5 :: az :: r) 6 = true) (k : gg C ty nL kc ks al ad (pc + 2) (a0 :: a1 :: a2 :: a3 :: a4 :: a5 :: some (.int x) :: r) st h) : gg C ty nL kc ks al ad pc (a0 :: a1 :: a2 :: a3 :: a4 :: a5 :: az :: r) (.int x :: st) h := by
  obtain ⟨⟨p, l, e, R, s⟩, ⟨m, args, below, meth, c⟩, ⟨D, ca, A, Q⟩⟩ := C
  exact fun H locs lsA hZ hR hS hl => lv_istore E.1 E.2.1 hd hl hi rfl (fun ls2 hl2 => k H locs ls2 hZ hR hS (q_L.set1 (v := .int x) hn hl2))
theorem g_lload_6 {a0 a1 a2 a3 a4 a5 : Option Value} {r : List (Option Value)} {x : Int64} (E : q_Ev C cc nL own al ad FR LO) (hd : decode cc pc = .ok (.lload 6, 2)) (k : gg C ty nL kc ks al ad (pc + 2) (a0 :: a1 :: a2 :: a3 :: a4 :: a5 :: some (.long x) :: r) (.long x :: st) h) : gg C ty nL kc ks al ad pc (a0 :: a1 :: a2 :: a3 :: a4 :: a5 :: some (.long x) :: r) st h := by
  obtain ⟨⟨p, l, e, R, s⟩, ⟨m, args, below, meth, c⟩, ⟨D, ca, A, Q⟩⟩ := C
  exact fun H locs lsA hZ hR hS hl => lv_lload E.1 E.2.1 hd (q_L.get hl (i := 6) rfl) (k H locs lsA hZ hR hS hl)
theorem g_lstore_6 {a0 a1 a2 a3 a4 a5 az ay : Option Value} {r : List (Option Value)} {x : Int64} (E : q_Ev C cc nL own al ad FR LO) (hd : decode cc pc = .ok (.lstore 6, 2)) (hi : 6 + 1 < nL) (hn : q_nl (a0 :: a1 :: a2 :: a3 :: a4 :: a5 :: az :: ay :: r) 6 = true) (k : gg C ty nL kc ks al ad (pc + 2) (a0 :: a1 :: a2 :: a3 :: a4 :: a5 :: some (.long x) :: none :: r) st h) : gg C ty nL kc ks al ad pc (a0 :: a1 :: a2 :: a3 :: a4 :: a5 :: az :: ay :: r) (.long x :: st) h := by
  obtain ⟨⟨p, l, e, R, s⟩, ⟨m, args, below, meth, c⟩, ⟨D, ca, A, Q⟩⟩ := C
  exact fun H locs lsA hZ hR hS hl => lv_lstore E.1 E.2.1 hd hl hi rfl (fun ls2 hl2 => k H locs ls2 hZ hR hS (q_L.set2 (v := .long x) hn hl2))
theorem g_aload_6 {a0 a1 a2 a3 a4 a5 : Option Value} {r : List (Option Value)} {x : Nat} (E : q_Ev C cc nL own al ad FR LO) (hd : decode cc pc = .ok (.aload 6, 2)) (k : gg C ty nL kc ks al ad (pc + 2) (a0 :: a1 :: a2 :: a3 :: a4 :: a5 :: some (.ref x) :: r) (.ref x :: st) h) : gg C ty nL kc ks al ad pc (a0 :: a1 :: a2 :: a3 :: a4 :: a5 :: some (.ref x) :: r) st h := by
  obtain ⟨⟨p, l, e, R, s⟩, ⟨m, args, below, meth, c⟩, ⟨D, ca, A, Q⟩⟩ := C
  exact fun H locs lsA hZ hR hS hl => lv_aload E.1 E.2.1 hd (q_L.get hl (i := 6) rfl) (k H locs lsA hZ hR hS hl)
theorem g_astore_6 {a0 a1 a2 a3 a4 a5 az : Option Value} {r : List (Option Value)} {x : Nat} (E : q_Ev C cc nL own al ad FR LO) (hd : decode cc pc = .ok (.astore 6, 2)) (hi : 6 < nL) (hn : q_nl (a0 :: a1 :: a2 :: a3 :: a4 :: a5 :: az :: r) 6 = true) (k : gg C ty nL kc ks al ad (pc + 2) (a0 :: a1 :: a2 :: a3 :: a4 :: a5 :: some (.ref x) :: r) st h) : gg C ty nL kc ks al ad pc (a0 :: a1 :: a2 :: a3 :: a4 :: a5 :: az :: r) (.ref x :: st) h := by
  obtain ⟨⟨p, l, e, R, s⟩, ⟨m, args, below, meth, c⟩, ⟨D, ca, A, Q⟩⟩ := C
  exact fun H locs lsA hZ hR hS hl => lv_astore E.1 E.2.1 hd hl hi rfl (fun ls2 hl2 => k H locs ls2 hZ hR hS (q_L.set1 (v := .ref x) hn hl2))
theorem g_iinc_6 {a0 a1 a2 a3 a4 a5 : Option Value} {r : List (Option Value)} {x u : Int32} {n : Int} (E : q_Ev C cc nL own al ad FR LO) (hd : decode cc pc = .ok (.iinc 6 n, 3)) (hv : Int32.ofInt n = u) (hi : 6 < nL) (hn : q_nl (a0 :: a1 :: a2 :: a3 :: a4 :: a5 :: some (.int x) :: r) 6 = true) (k : gg C ty nL kc ks al ad (pc + 3) (a0 :: a1 :: a2 :: a3 :: a4 :: a5 :: some (.int (x + u)) :: r) st h) : gg C ty nL kc ks al ad pc (a0 :: a1 :: a2 :: a3 :: a4 :: a5 :: some (.int x) :: r) st h := by
  obtain ⟨⟨p, l, e, R, s⟩, ⟨m, args, below, meth, c⟩, ⟨D, ca, A, Q⟩⟩ := C
  intro H locs lsA hZ hR hS hl
  obtain ⟨kk, hk⟩ := List.getElem?_of_mem (q_prs_mem.mpr ⟨6, .int x, by simp, rfl, rfl⟩ : (6, q_cv ad (.int x)) ∈ q_prs ad 0 (a0 :: a1 :: a2 :: a3 :: a4 :: a5 :: some (.int x) :: r))
  exact lv_iinc E.1 E.2.1 hd hl hk (by rw [hv]) hi rfl (fun ls2 hl2 => k H locs ls2 hZ hR hS (q_L.set1 (v := .int (x + u)) hn hl2))
theorem g_iload_7 {a0 a1 a2 a3 a4 a5 a6 : Option Value} {r : List (Option Value)} {x : Int32} (E : q_Ev C cc nL own al ad FR LO) (hd : decode cc pc = .ok (.iload 7, 2)) (k : gg C ty nL kc ks al ad (pc + 2) (a0 :: a1 :: a2 :: a3 :: a4 :: a5 :: a6 :: some (.int x) :: r) (.int x :: st) h) : gg C ty nL kc ks al ad pc (a0 :: a1 :: a2 :: a3 :: a4 :: a5 :: a6 :: some (.int x) :: r) st h := by
  obtain ⟨⟨p, l, e, R, s⟩, ⟨m, args, below, meth, c⟩, ⟨D, ca, A, Q⟩⟩ := C
  exact fun H locs lsA hZ hR hS hl => lv_iload E.1 E.2.1 hd (q_L.get hl (i := 7) rfl) (k H locs lsA hZ hR hS hl)
theorem g_istore_7 {a0 a1 a2 a3 a4 a5 a6 az : Option Value} {r : List (Option Value)} {x : Int32} (E : q_Ev C cc nL own al ad FR LO) (hd : decode cc pc = .ok (.istore 7, 2)) (hi : 7 < nL) (hn : q_nl (a0 :: a1 :: a2 :: a3 :: a4 :: a5 :: a6 :: az :: r) 7 = true) (k : gg C ty nL kc ks al ad (pc + 2) (a0 :: a1 :: a2 :: a3 :: a4 :: a5 :: a6 :: some (.int x) :: r) st h) : gg C ty nL kc ks al ad pc (a0 :: a1 :: a2 :: a3 :: a4 :: a5 :: a6 :: az :: r) (.int x :: st) h := by
  obtain ⟨⟨p, l, e, R, s⟩, ⟨m, args, below, meth, c⟩, ⟨D, ca, A, Q⟩⟩ := C
  exact fun H locs lsA hZ hR hS hl => lv_istore E.1 E.2.1 hd hl hi rfl (fun ls2 hl2 => k H locs ls2 hZ hR hS (q_L.set1 (v := .int x) hn hl2))
theorem g_lload_7 {a0 a1 a2 a3 a4 a5 a6 : Option Value} {r : List (Option Value)} {x : Int64} (E : q_Ev C cc nL own al ad FR LO) (hd : decode cc pc = .ok (.lload 7, 2)) (k : gg C ty nL kc ks al ad (pc + 2) (a0 :: a1 :: a2 :: a3 :: a4 :: a5 :: a6 :: some (.long x) :: r) (.long x :: st) h) : gg C ty nL kc ks al ad pc (a0 :: a1 :: a2 :: a3 :: a4 :: a5 :: a6 :: some (.long x) :: r) st h := by
  obtain ⟨⟨p, l, e, R, s⟩, ⟨m, args, below, meth, c⟩, ⟨D, ca, A, Q⟩⟩ := C
  exact fun H locs lsA hZ hR hS hl => lv_lload E.1 E.2.1 hd (q_L.get hl (i := 7) rfl) (k H locs lsA hZ hR hS hl)
theorem g_lstore_7 {a0 a1 a2 a3 a4 a5 a6 az ay : Option Value} {r : List (Option Value)} {x : Int64} (E : q_Ev C cc nL own al ad FR LO) (hd : decode cc pc = .ok (.lstore 7, 2)) (hi : 7 + 1 < nL) (hn : q_nl (a0 :: a1 :: a2 :: a3 :: a4 :: a5 :: a6 :: az :: ay :: r) 7 = true) (k : gg C ty nL kc ks al ad (pc + 2) (a0 :: a1 :: a2 :: a3 :: a4 :: a5 :: a6 :: some (.long x) :: none :: r) st h) : gg C ty nL kc ks al ad pc (a0 :: a1 :: a2 :: a3 :: a4 :: a5 :: a6 :: az :: ay :: r) (.long x :: st) h := by
  obtain ⟨⟨p, l, e, R, s⟩, ⟨m, args, below, meth, c⟩, ⟨D, ca, A, Q⟩⟩ := C
  exact fun H locs lsA hZ hR hS hl => lv_lstore E.1 E.2.1 hd hl hi rfl (fun ls2 hl2 => k H locs ls2 hZ hR hS (q_L.set2 (v := .long x) hn hl2))
theorem g_aload_7 {a0 a1 a2 a3 a4 a5 a6 : Option Value} {r : List (Option Value)} {x : Nat} (E : q_Ev C cc nL own al ad FR LO) (hd : decode cc pc = .ok (.aload 7, 2)) (k : gg C ty nL kc ks al ad (pc + 2) (a0 :: a1 :: a2 :: a3 :: a4 :: a5 :: a6 :: some (.ref x) :: r) (.ref x :: st) h) : gg C ty nL kc ks al ad pc (a0 :: a1 :: a2 :: a3 :: a4 :: a5 :: a6 :: some (.ref x) :: r) st h := by
  obtain ⟨⟨p, l, e, R, s⟩, ⟨m, args, below, meth, c⟩, ⟨D, ca, A, Q⟩⟩ := C
  exact fun H locs lsA hZ hR hS hl => lv_aload E.1 E.2.1 hd (q_L.get hl (i := 7) rfl) (k H locs lsA hZ hR hS hl)
theorem g_astore_7 {a0 a1 a2 a3 a4 a5 a6 az : Option Value} {r : List (Option Value)} {x : Nat} (E : q_Ev C cc nL own al ad FR LO) (hd : decode cc pc = .ok (.astore 7, 2)) (hi : 7 < nL) (hn : q_nl (a0 :: a1 :: a2 :: a3 :: a4 :: a5 :: a6 :: az :: r) 7 = true) (k : gg C ty nL kc ks al ad (pc + 2) (a0 :: a1 :: a2 :: a3 :: a4 :: a5 :: a6 :: some (.ref x) :: r) st h) : gg C ty nL kc ks al ad pc (a0 :: a1 :: a2 :: a3 :: a4 :: a5 :: a6 :: az :: r) (.ref x :: st) h := by
  obtain ⟨⟨p, l, e, R, s⟩, ⟨m, args, below, meth, c⟩, ⟨D, ca, A, Q⟩⟩ := C
  exact fun H locs lsA hZ hR hS hl => lv_astore E.1 E.2.1 hd hl hi rfl (fun ls2 hl2 => k H locs ls2 hZ hR hS (q_L.set1 (v := .ref x) hn hl2))
theorem g_iinc_7 {a0 a1 a2 a3 a4 a5 a6 : Option Value} {r : List (Option Value)} {x u : Int32} {n : Int} (E : q_Ev C cc nL own al ad FR LO) (hd : decode cc pc = .ok (.iinc 7 n, 3)) (hv : Int32.ofInt n = u) (hi : 7 < nL) (hn : q_nl (a0 :: a1 :: a2 :: a3 :: a4 :: a5 :: a6 :: some (.int x) :: r) 7 = true) (k : gg C ty nL kc ks al ad (pc + 3) (a0 :: a1 :: a2 :: a3 :: a4 :: a5 :: a6 :: some (.int (x + u)) :: r) st h) : gg C ty nL kc ks al ad pc (a0 :: a1 :: a2 :: a3 :: a4 :: a5 :: a6 :: some (.int x) :: r) st h := by
  obtain ⟨⟨p, l, e, R, s⟩, ⟨m, args, below, meth, c⟩, ⟨D, ca, A, Q⟩⟩ := C
  intro H locs lsA hZ hR hS hl
  obtain ⟨kk, hk⟩ := List.getElem?_of_mem (q_prs_mem.mpr ⟨7, .int x, by simp, rfl, rfl⟩ : (7, q_cv ad (.int x)) ∈ q_prs ad 0 (a0 :: a1 :: a2 :: a3 :: a4 :: a5 :: a6 :: some (.int x) :: r))
  exact lv_iinc E.1 E.2.1 hd hl hk (by rw [hv]) hi rfl (fun ls2 hl2 => k H locs ls2 hZ hR hS (q_L.set1 (v := .int (x + u)) hn hl2))
theorem g_iload_8 {a0 a1 a2 a3 a4 a5 a6 a7 : Option Value} {r : List (Option Value)} {x : Int32} (E : q_Ev C cc nL own al ad FR LO) (hd : decode cc pc = .ok (.iload 8, 2)) (k : gg C ty nL kc ks al ad (pc + 2) (a0 :: a1 :: a2 :: a3 :: a4 :: a5 :: a6 :: a7 :: some (.int x) :: r) (.int x :: st) h) : gg C ty nL kc ks al ad pc (a0 :: a1 :: a2 :: a3 :: a4 :: a5 :: a6 :: a7 :: some (.int x) :: r) st h := by
  obtain ⟨⟨p, l, e, R, s⟩, ⟨m, args, below, meth, c⟩, ⟨D, ca, A, Q⟩⟩ := C
  exact fun H locs lsA hZ hR hS hl => lv_iload E.1 E.2.1 hd (q_L.get hl (i := 8) rfl) (k H locs lsA hZ hR hS hl)
theorem g_istore_8 {a0 a1 a2 a3 a4 a5 a6 a7 az : Option Value} {r : List (Option Value)} {x : Int32} (E : q_Ev C cc nL own al ad FR LO) (hd : decode cc pc = .ok (.istore 8, 2)) (hi : 8 < nL) (hn : q_nl (a0 :: a1 :: a2 :: a3 :: a4 :: a5 :: a6 :: a7 :: az :: r) 8 = true) (k : gg C ty nL kc ks al ad (pc + 2) (a0 :: a1 :: a2 :: a3 :: a4 :: a5 :: a6 :: a7 :: some (.int x) :: r) st h) : gg C ty nL kc ks al ad pc (a0 :: a1 :: a2 :: a3 :: a4 :: a5 :: a6 :: a7 :: az :: r) (.int x :: st) h := by
  obtain ⟨⟨p, l, e, R, s⟩, ⟨m, args, below, meth, c⟩, ⟨D, ca, A, Q⟩⟩ := C
  exact fun H locs lsA hZ hR hS hl => lv_istore E.1 E.2.1 hd hl hi rfl (fun ls2 hl2 => k H locs ls2 hZ hR hS (q_L.set1 (v := .int x) hn hl2))
theorem g_lload_8 {a0 a1 a2 a3 a4 a5 a6 a7 : Option Value} {r : List (Option Value)} {x : Int64} (E : q_Ev C cc nL own al ad FR LO) (hd : decode cc pc = .ok (.lload 8, 2)) (k : gg C ty nL kc ks al ad (pc + 2) (a0 :: a1 :: a2 :: a3 :: a4 :: a5 :: a6 :: a7 :: some (.long x) :: r) (.long x :: st) h) : gg C ty nL kc ks al ad pc (a0 :: a1 :: a2 :: a3 :: a4 :: a5 :: a6 :: a7 :: some (.long x) :: r) st h := by
  obtain ⟨⟨p, l, e, R, s⟩, ⟨m, args, below, meth, c⟩, ⟨D, ca, A, Q⟩⟩ := C
  exact fun H locs lsA hZ hR hS hl => lv_lload E.1 E.2.1 hd (q_L.get hl (i := 8) rfl) (k H locs lsA hZ hR hS hl)
theorem g_lstore_8 {a0 a1 a2 a3 a4 a5 a6 a7 az ay : Option Value} {r : List (Option Value)} {x : Int64} (E : q_Ev C cc nL own al ad FR LO) (hd : decode cc pc = .ok (.lstore 8, 2)) (hi : 8 + 1 < nL) (hn : q_nl (a0 :: a1 :: a2 :: a3 :: a4 :: a5 :: a6 :: a7 :: az :: ay :: r) 8 = true) (k : gg C ty nL kc ks al ad (pc + 2) (a0 :: a1 :: a2 :: a3 :: a4 :: a5 :: a6 :: a7 :: some (.long x) :: none :: r) st h) : gg C ty nL kc ks al ad pc (a0 :: a1 :: a2 :: a3 :: a4 :: a5 :: a6 :: a7 :: az :: ay :: r) (.long x :: st) h := by
  obtain ⟨⟨p, l, e, R, s⟩, ⟨m, args, below, meth, c⟩, ⟨D, ca, A, Q⟩⟩ := C
  exact fun H locs lsA hZ hR hS hl => lv_lstore E.1 E.2.1 hd hl hi rfl (fun ls2 hl2 => k H locs ls2 hZ hR hS (q_L.set2 (v := .long x) hn hl2))
theorem g_aload_8 {a0 a1 a2 a3 a4 a5 a6 a7 : Option Value} {r : List (Option Value)} {x : Nat} (E : q_Ev C cc nL own al ad FR LO) (hd : decode cc pc = .ok (.aload 8, 2)) (k : gg C ty nL kc ks al ad (pc + 2) (a0 :: a1 :: a2 :: a3 :: a4 :: a5 :: a6 :: a7 :: some (.ref x) :: r) (.ref x :: st) h) : gg C ty nL kc ks al ad pc (a0 :: a1 :: a2 :: a3 :: a4 :: a5 :: a6 :: a7 :: some (.ref x) :: r) st h := by
  obtain ⟨⟨p, l, e, R, s⟩, ⟨m, args, below, meth, c⟩, ⟨D, ca, A, Q⟩⟩ := C
  exact fun H locs lsA hZ hR hS hl => lv_aload E.1 E.2.1 hd (q_L.get hl (i := 8) rfl) (k H locs lsA hZ hR hS hl)
theorem g_astore_8 {a0 a1 a2 a3 a4 a5 a6 a7 az : Option Value} {r : List (Option Value)} {x : Nat} (E : q_Ev C cc nL own al ad FR LO) (hd : decode cc pc = .ok (.astore 8, 2)) (hi : 8 < nL) (hn : q_nl (a0 :: a1 :: a2 :: a3 :: a4 :: a5 :: a6 :: a7 :: az :: r) 8 = true) (k : gg C ty nL kc ks al ad (pc + 2) (a0 :: a1 :: a2 :: a3 :: a4 :: a5 :: a6 :: a7 :: some (.ref x) :: r) st h) : gg C ty nL kc ks al ad pc (a0 :: a1 :: a2 :: a3 :: a4 :: a5 :: a6 :: a7 :: az :: r) (.ref x :: st) h := by
  obtain ⟨⟨p, l, e, R, s⟩, ⟨m, args, below, meth, c⟩, ⟨D, ca, A, Q⟩⟩ := C
  exact fun H locs lsA hZ hR hS hl => lv_astore E.1 E.2.1 hd hl hi rfl (fun ls2 hl2 => k H locs ls2 hZ hR hS (q_L.set1 (v := .ref x) hn hl2))
theorem g_iinc_8 {a0 a1 a2 a3 a4 a5 a6 a7 : Option Value} {r : List (Option Value)} {x u : Int32} {n : Int} (E : q_Ev C cc nL own al ad FR LO) (hd : decode cc pc = .ok (.iinc 8 n, 3)) (hv : Int32.ofInt n = u) (hi : 8 < nL) (hn : q_nl (a0 :: a1 :: a2 :: a3 :: a4 :: a5 :: a6 :: a7 :: some (.int x) :: r) 8 = true) (k : gg C ty nL kc ks al ad (pc + 3) (a0 :: a1 :: a2 :: a3 :: a4 :: a5 :: a6 :: a7 :: some (.int (x + u)) :: r) st h) : gg C ty nL kc ks al ad pc (a0 :: a1 :: a2 :: a3 :: a4 :: a5 :: a6 :: a7 :: some (.int x) :: r) st h := by
  obtain ⟨⟨p, l, e, R, s⟩, ⟨m, args, below, meth, c⟩, ⟨D, ca, A, Q⟩⟩ := C
  intro H locs lsA hZ hR hS hl
  obtain ⟨kk, hk⟩ := List.getElem?_of_mem (q_prs_mem.mpr ⟨8, .int x, by simp, rfl, rfl⟩ : (8, q_cv ad (.int x)) ∈ q_prs ad 0 (a0 :: a1 :: a2 :: a3 :: a4 :: a5 :: a6 :: a7 :: some (.int x) :: r))
  exact lv_iinc E.1 E.2.1 hd hl hk (by rw [hv]) hi rfl (fun ls2 hl2 => k H locs ls2 hZ hR hS (q_L.set1 (v := .int (x + u)) hn hl2))
theorem g_iload_9 {a0 a1 a2 a3 a4 a5 a6 a7 a8 : Option Value} {r : List (Option Value)} {x : Int32} (E : q_Ev C cc nL own al ad FR LO) (hd : decode cc pc = .ok (.iload 9, 2)) (k : gg C ty nL kc ks al ad (pc + 2) (a0 :: a1 :: a2 :: a3 :: a4 :: a5 :: a6 :: a7 :: a8 :: some (.int x) :: r) (.int x :: st) h) : gg C ty nL kc ks al ad pc (a0 :: a1 :: a2 :: a3 :: a4 :: a5 :: a6 :: a7 :: a8 :: some (.int x) :: r) st h := by
  obtain ⟨⟨p, l, e, R, s⟩, ⟨m, args, below, meth, c⟩, ⟨D, ca, A, Q⟩⟩ := C
  exact fun H locs lsA hZ hR hS hl => lv_iload E.1 E.2.1 hd (q_L.get hl (i := 9) rfl) (k H locs lsA hZ hR hS hl)
theorem g_istore_9 {a0 a1 a2 a3 a4 a5 a6 a7 a8 az : Option Value} {r : List (Option Value)} {x : Int32} (E : q_Ev C cc nL own al ad FR LO) (hd : decode cc pc = .ok (.istore 9, 2)) (hi : 9 < nL) (hn : q_nl (a0 :: a1 :: a2 :: a3 :: a4 :: a5 :: a6 :: a7 :: a8 :: az :: r) 9 = true) (k : gg C ty nL kc ks al ad (pc + 2) (a0 :: a1 :: a2 :: a3 :: a4 :: a5 :: a6 :: a7 :: a8 :: some (.int x) :: r) st h) : gg C ty nL kc ks al ad pc (a0 :: a1 :: a2 :: a3 :: a4 :: a5 :: a6 :: a7 :: a8 :: az :: r) (.int x :: st) h := by
  obtain ⟨⟨p, l, e, R, s⟩, ⟨m, args, below, meth, c⟩, ⟨D, ca, A, Q⟩⟩ := C
  exact fun H locs lsA hZ hR hS hl => lv_istore E.1 E.2.1 hd hl hi rfl (fun ls2 hl2 => k H locs ls2 hZ hR hS (q_L.set1 (v := .int x) hn hl2))
theorem g_lload_9 {a0 a1 a2 a3 a4 a5 a6 a7 a8 : Option Value} {r : List (Option Value)} {x : Int64} (E : q_Ev C cc nL own al ad FR LO) (hd : decode cc pc = .ok (.lload 9, 2)) (k : gg C ty nL kc ks al ad (pc + 2) (a0 :: a1 :: a2 :: a3 :: a4 :: a5 :: a6 :: a7 :: a8 :: some (.long x) :: r) (.long x :: st) h) : gg C ty nL kc ks al ad pc (a0 :: a1 :: a2 :: a3 :: a4 :: a5 :: a6 :: a7 :: a8 :: some (.long x) :: r) st h := by
  obtain ⟨⟨p, l, e, R, s⟩, ⟨m, args, below, meth, c⟩, ⟨D, ca, A, Q⟩⟩ := C
  exact fun H locs lsA hZ hR hS hl => lv_lload E.1 E.2.1 hd (q_L.get hl (i := 9) rfl) (k H locs lsA hZ hR hS hl)
theorem g_lstore_9 {a0 a1 a2 a3 a4 a5 a6 a7 a8 az ay : Option Value} {r : List (Option Value)} {x : Int64} (E : q_Ev C cc nL own al ad FR LO) (hd : decode cc pc = .ok (.lstore 9, 2)) (hi : 9 + 1 < nL) (hn : q_nl (a0 :: a1 :: a2 :: a3 :: a4 :: a5 :: a6 :: a7 :: a8 :: az :: ay :: r) 9 = true) (k : gg C ty nL kc ks al ad (pc + 2) (a0 :: a1 :: a2 :: a3 :: a4 :: a5 :: a6 :: a7 :: a8 :: some (.long x) :: none :: r) st h) : gg C ty nL kc ks al ad pc (a0 :: a1 :: a2 :: a3 :: a4 :: a5 :: a6 :: a7 :: a8 :: az :: ay :: r) (.long x :: st) h := by
  obtain ⟨⟨p, l, e, R, s⟩, ⟨m, args, below, meth, c⟩, ⟨D, ca, A, Q⟩⟩ := C
  exact fun H locs lsA hZ hR hS hl => lv_lstore E.1 E.2.1 hd hl hi rfl (fun ls2 hl2 => k H locs ls2 hZ hR hS (q_L.set2 (v := .long x) hn hl2))
theorem g_aload_9 {a0 a1 a2 a3 a4 a5 a6 a7 a8 : Option Value} {r : List (Option Value)} {x : Nat} (E : q_Ev C cc nL own al ad FR LO) (hd : decode cc pc = .ok (.aload 9, 2)) (k : gg C ty nL kc ks al ad (pc + 2) (a0 :: a1 :: a2 :: a3 :: a4 :: a5 :: a6 :: a7 :: a8 :: some (.ref x) :: r) (.ref x :: st) h) : gg C ty nL kc ks al ad pc (a0 :: a1 :: a2 :: a3 :: a4 :: a5 :: a6 :: a7 :: a8 :: some (.ref x) :: r) st h := by
  obtain ⟨⟨p, l, e, R, s⟩, ⟨m, args, below, meth, c⟩, ⟨D, ca, A, Q⟩⟩ := C
  exact fun H locs lsA hZ hR hS hl => lv_aload E.1 E.2.1 hd (q_L.get hl (i := 9) rfl) (k H locs lsA hZ hR hS hl)
theorem g_astore_9 {a0 a1 a2 a3 a4 a5 a6 a7 a8 az : Option Value} {r : List (Option Value)} {x : Nat} (E : q_Ev C cc nL own al ad FR LO) (hd : decode cc pc = .ok (.astore 9, 2)) (hi : 9 < nL) (hn : q_nl (a0 :: a1 :: a2 :: a3 :: a4 :: a5 :: a6 :: a7 :: a8 :: az :: r) 9 = true) (k : gg C ty nL kc ks al ad (pc + 2) (a0 :: a1 :: a2 :: a3 :: a4 :: a5 :: a6 :: a7 :: a8 :: some (.ref x) :: r) st h) : gg C ty nL kc ks al ad pc (a0 :: a1 :: a2 :: a3 :: a4 :: a5 :: a6 :: a7 :: a8 :: az :: r) (.ref x :: st) h := by
  obtain ⟨⟨p, l, e, R, s⟩, ⟨m, args, below, meth, c⟩, ⟨D, ca, A, Q⟩⟩ := C
  exact fun H locs lsA hZ hR hS hl => lv_astore E.1 E.2.1 hd hl hi rfl (fun ls2 hl2 => k H locs ls2 hZ hR hS (q_L.set1 (v := .ref x) hn hl2))
theorem g_iinc_9 {a0 a1 a2 a3 a4 a5 a6 a7 a8 : Option Value} {r : List (Option Value)} {x u : Int32} {n : Int} (E : q_Ev C cc nL own al ad FR LO) (hd : decode cc pc = .ok (.iinc 9 n, 3)) (hv : Int32.ofInt n = u) (hi : 9 < nL) (hn : q_nl (a0 :: a1 :: a2 :: a3 :: a4 :: a5 :: a6 :: a7 :: a8 :: some (.int x) :: r) 9 = true) (k : gg C ty nL kc ks al ad (pc + 3) (a0 :: a1 :: a2 :: a3 :: a4 :: a5 :: a6 :: a7 :: a8 :: some (.int (x + u)) :: r) st h) : gg C ty nL kc ks al ad pc (a0 :: a1 :: a2 :: a3 :: a4 :: a5 :: a6 :: a7 :: a8 :: some (.int x) :: r) st h := by
  obtain ⟨⟨p, l, e, R, s⟩, ⟨m, args, below, meth, c⟩, ⟨D, ca, A, Q⟩⟩ := C
  intro H locs lsA hZ hR hS hl
  obtain ⟨kk, hk⟩ := List.getElem?_of_mem (q_prs_mem.mpr ⟨9, .int x, by simp, rfl, rfl⟩ : (9, q_cv ad (.int x)) ∈ q_prs ad 0 (a0 :: a1 :: a2 :: a3 :: a4 :: a5 :: a6 :: a7 :: a8 :: some (.int x) :: r))
  exact lv_iinc E.1 E.2.1 hd hl hk (by rw [hv]) hi rfl (fun ls2 hl2 => k H locs ls2 hZ hR hS (q_L.set1 (v := .int (x + u)) hn hl2))
theorem g_iload_10 {a0 a1 a2 a3 a4 a5 a6 a7 a8 a9 : Option Value} {r : List (Option Value)} {x : Int32} (E : q_Ev C cc nL own al ad FR LO) (hd : decode cc pc = .ok (.iload 10, 2)) (k : gg C ty nL kc ks al ad (pc + 2) (a0 :: a1 :: a2 :: a3 :: a4 :: a5 :: a6 :: a7 :: a8 :: a9 :: some (.int x) :: r) (.int x :: st) h) : gg C ty nL kc ks al ad pc (a0 :: a1 :: a2 :: a3 :: a4 :: a5 :: a6 :: a7 :: a8 :: a9 :: some (.int x) :: r) st h := by
  obtain ⟨⟨p, l, e, R, s⟩, ⟨m, args, below, meth, c⟩, ⟨D, ca, A, Q⟩⟩ := C
  exact fun H locs lsA hZ hR hS hl => lv_iload E.1 E.2.1 hd (q_L.get hl (i := 10) rfl) (k H locs lsA hZ hR hS hl)
theorem g_istore_10 {a0 a1 a2 a3 a4 a5 a6 a7 a8 a9 az : Option Value} {r : List (Option Value)} {x : Int32} (E : q_Ev C cc nL own al ad FR LO) (hd : decode cc pc = .ok (.istore 10, 2)) (hi : 10 < nL) (hn : q_nl (a0 :: a1 :: a2 :: a3 :: a4 :: a5 :: a6 :: a7 :: a8 :: a9 :: az :: r) 10 = true) (k : gg C ty nL kc ks al ad (pc + 2) (a0 :: a1 :: a2 :: a3 :: a4 :: a5 :: a6 :: a7 :: a8 :: a9 :: some (.int x) :: r) st h) : gg C ty nL kc ks al ad pc (a0 :: a1 :: a2 :: a3 :: a4 :: a5 :: a6 :: a7 :: a8 :: a9 :: az :: r) (.int x :: st) h := by
  obtain ⟨⟨p, l, e, R, s⟩, ⟨m, args, below, meth, c⟩, ⟨D, ca, A, Q⟩⟩ := C
  exact fun H locs lsA hZ hR hS hl => lv_istore E.1 E.2.1 hd hl hi rfl (fun ls2 hl2 => k H locs ls2 hZ hR hS (q_L.set1 (v := .int x) hn hl2))
theorem g_lload_10 {a0 a1 a2 a3 a4 a5 a6 a7 a8 a9 : Option Value} {r : List (Option Value)} {x : Int64} (E : q_Ev C cc nL own al ad FR LO) (hd : decode cc pc = .ok (.lload 10, 2)) (k : gg C ty nL kc ks al ad (pc + 2) (a0 :: a1 :: a2 :: a3 :: a4 :: a5 :: a6 :: a7 :: a8 :: a9 :: some (.long x) :: r) (.long x :: st) h) : gg C ty nL kc ks al ad pc (a0 :: a1 :: a2 :: a3 :: a4 :: a5 :: a6 :: a7 :: a8 :: a9 :: some (.long x) :: r) st h := by
  obtain ⟨⟨p, l, e, R, s⟩, ⟨m, args, below, meth, c⟩, ⟨D, ca, A, Q⟩⟩ := C
  exact fun H locs lsA hZ hR hS hl => lv_lload E.1 E.2.1 hd (q_L.get hl (i := 10) rfl) (k H locs lsA hZ hR hS hl)
theorem g_lstore_10 {a0 a1 a2 a3 a4 a5 a6 a7 a8 a9 az ay : Option Value} {r : List (Option Value)} {x : Int64} (E : q_Ev C cc nL own al ad FR LO) (hd : decode cc pc = .ok (.lstore 10, 2)) (hi : 10 + 1 < nL) (hn : q_nl (a0 :: a1 :: a2 :: a3 :: a4 :: a5 :: a6 :: a7 :: a8 :: a9 :: az :: ay :: r) 10 = true) (k : gg C ty nL kc ks al ad (pc + 2) (a0 :: a1 :: a2 :: a3 :: a4 :: a5 :: a6 :: a7 :: a8 :: a9 :: some (.long x) :: none :: r) st h) : gg C ty nL kc ks al ad pc (a0 :: a1 :: a2 :: a3 :: a4 :: a5 :: a6 :: a7 :: a8 :: a9 :: az :: ay :: r) (.long x :: st) h := by
  obtain ⟨⟨p, l, e, R, s⟩, ⟨m, args, below, meth, c⟩, ⟨D, ca, A, Q⟩⟩ := C
  exact fun H locs lsA hZ hR hS hl => lv_lstore E.1 E.2.1 hd hl hi rfl (fun ls2 hl2 => k H locs ls2 hZ hR hS (q_L.set2 (v := .long x) hn hl2))
theorem g_aload_10 {a0 a1 a2 a3 a4 a5 a6 a7 a8 a9 : Option Value} {r : List (Option Value)} {x : Nat} (E : q_Ev C cc nL own al ad FR LO) (hd : decode cc pc = .ok (.aload 10, 2)) (k : gg C ty nL kc ks al ad (pc + 2) (a0 :: a1 :: a2 :: a3 :: a4 :: a5 :: a6 :: a7 :: a8 :: a9 :: some (.ref x) :: r) (.ref x :: st) h) : gg C ty nL kc ks al ad pc (a0 :: a1 :: a2 :: a3 :: a4 :: a5 :: a6 :: a7 :: a8 :: a9 :: some (.ref x) :: r) st h := by
  obtain ⟨⟨p, l, e, R, s⟩, ⟨m, args, below, meth, c⟩, ⟨D, ca, A, Q⟩⟩ := C
  exact fun H locs lsA hZ hR hS hl => lv_aload E.1 E.2.1 hd (q_L.get hl (i := 10) rfl) (k H locs lsA hZ hR hS hl)
theorem g_astore_10 {a0 a1 a2 a3 a4 a5 a6 a7 a8 a9 az : Option Value} {r : List (Option Value)} {x : Nat} (E : q_Ev C cc nL own al ad FR LO) (hd : decode cc pc = .ok (.astore 10, 2)) (hi : 10 < nL) (hn : q_nl (a0 :: a1 :: a2 :: a3 :: a4 :: a5 :: a6 :: a7 :: a8 :: a9 :: az :: r) 10 = true) (k : gg C ty nL kc ks al ad (pc + 2) (a0 :: a1 :: a2 :: a3 :: a4 :: a5 :: a6 :: a7 :: a8 :: a9 :: some (.ref x) :: r) st h) : gg C ty nL kc ks al ad pc (a0 :: a1 :: a2 :: a3 :: a4 :: a5 :: a6 :: a7 :: a8 :: a9 :: az :: r) (.ref x :: st) h := by
  obtain ⟨⟨p, l, e, R, s⟩, ⟨m, args, below, meth, c⟩, ⟨D, ca, A, Q⟩⟩ := C
  exact fun H locs lsA hZ hR hS hl => lv_astore E.1 E.2.1 hd hl hi rfl (fun ls2 hl2 => k H locs ls2 hZ hR hS (q_L.set1 (v := .ref x) hn hl2))
theorem g_iinc_10 {a0 a1 a2 a3 a4 a5 a6 a7 a8 a9 : Option Value} {r : List (Option Value)} {x u : Int32} {n : Int} (E : q_Ev C cc nL own al ad FR LO) (hd : decode cc pc = .ok (.iinc 10 n, 3)) (hv : Int32.ofInt n = u) (hi : 10 < nL) (hn : q_nl (a0 :: a1 :: a2 :: a3 :: a4 :: a5 :: a6 :: a7 :: a8 :: a9 :: some (.int x) :: r) 10 = true) (k : gg C ty nL kc ks al ad (pc + 3) (a0 :: a1 :: a2 :: a3 :: a4 :: a5 :: a6 :: a7 :: a8 :: a9 :: some (.int (x + u)) :: r) st h) : gg C ty nL kc ks al ad pc (a0 :: a1 :: a2 :: a3 :: a4 :: a5 :: a6 :: a7 :: a8 :: a9 :: some (.int x) :: r) st h := by
  obtain ⟨⟨p, l, e, R, s⟩, ⟨m, args, below, meth, c⟩, ⟨D, ca, A, Q⟩⟩ := C
  intro H locs lsA hZ hR hS hl
  obtain ⟨kk, hk⟩ := List.getElem?_of_mem (q_prs_mem.mpr ⟨10, .int x, by simp, rfl, rfl⟩ : (10, q_cv ad (.int x)) ∈ q_prs ad 0 (a0 :: a1 :: a2 :: a3 :: a4 :: a5 :: a6 :: a7 :: a8 :: a9 :: some (.int x) :: r))
  exact lv_iinc E.1 E.2.1 hd hl hk (by rw [hv]) hi rfl (fun ls2 hl2 => k H locs ls2 hZ hR hS (q_L.set1 (v := .int (x + u)) hn hl2))
theorem g_iload_11 {a0 a1 a2 a3 a4 a5 a6 a7 a8 a9 a10 : Option Value} {r : List (Option Value)} {x : Int32} (E : q_Ev C cc nL own al ad FR LO) (hd : decode cc pc = .ok (.iload 11, 2)) (k : gg C ty nL kc ks al ad (pc + 2) (a0 :: a1 :: a2 :: a3 :: a4 :: a5 :: a6 :: a7 :: a8 :: a9 :: a10 :: some (.int x) :: r) (.int x :: st) h) : gg C ty nL kc ks al ad pc (a0 :: a1 :: a2 :: a3 :: a4 :: a5 :: a6 :: a7 :: a8 :: a9 :: a10 :: some (.int x) :: r) st h := by
  obtain ⟨⟨p, l, e, R, s⟩, ⟨m, args, below, meth, c⟩, ⟨D, ca, A, Q⟩⟩ := C
  exact fun H locs lsA hZ hR hS hl => lv_iload E.1 E.2.1 hd (q_L.get hl (i := 11) rfl) (k H locs lsA hZ hR hS hl)
theorem g_istore_11 {a0 a1 a2 a3 a4 a5 a6 a7 a8 a9 a10 az : Option Value} {r : List (Option Value)} {x : Int32} (E : q_Ev C cc nL own al ad FR LO) (hd : decode cc pc = .ok (.istore 11, 2)) (hi : 11 < nL) (hn : q_nl (a0 :: a1 :: a2 :: a3 :: a4 :: a5 :: a6 :: a7 :: a8 :: a9 :: a10 :: az :: r) 11 = true) (k : gg C ty nL kc ks al ad (pc + 2) (a0 :: a1 :: a2 :: a3 :: a4 :: a5 :: a6 :: a7 :: a8 :: a9 :: a10 :: some (.int x) :: r) st h) : gg C ty nL kc ks al ad pc (a0 :: a1 :: a2 :: a3 :: a4 :: a5 :: a6 :: a7 :: a8 :: a9 :: a10 :: az :: r) (.int x :: st) h := by
  obtain ⟨⟨p, l, e, R, s⟩, ⟨m, args, below, meth, c⟩, ⟨D, ca, A, Q⟩⟩ := C
  exact fun H locs lsA hZ hR hS hl => lv_istore E.1 E.2.1 hd hl hi rfl (fun ls2 hl2 => k H locs ls2 hZ hR hS (q_L.set1 (v := .int x) hn hl2))
theorem g_lload_11 {a0 a1 a2 a3 a4 a5 a6 a7 a8 a9 a10 : Option Value} {r : List (Option Value)} {x : Int64} (E : q_Ev C cc nL own al ad FR LO) (hd : decode cc pc = .ok (.lload 11, 2)) (k : gg C ty nL kc ks al ad (pc + 2) (a0 :: a1 :: a2 :: a3 :: a4 :: a5 :: a6 :: a7 :: a8 :: a9 :: a10 :: some (.long x) :: r) (.long x :: st) h) : gg C ty nL kc ks al ad pc (a0 :: a1 :: a2 :: a3 :: a4 :: a5 :: a6 :: a7 :: a8 :: a9 :: a10 :: some (.long x) :: r) st h := by
  obtain ⟨⟨p, l, e, R, s⟩, ⟨m, args, below, meth, c⟩, ⟨D, ca, A, Q⟩⟩ := C
  exact fun H locs lsA hZ hR hS hl => lv_lload E.1 E.2.1 hd (q_L.get hl (i := 11) rfl) (k H locs lsA hZ hR hS hl)
theorem g_lstore_11 {a0 a1 a2 a3 a4 a5 a6 a7 a8 a9 a10 az ay : Option Value} {r : List (Option Value)} {x : Int64} (E : q_Ev C cc nL own al ad FR LO) (hd : decode cc pc = .ok (.lstore 11, 2)) (hi : 11 + 1 < nL) (hn : q_nl (a0 :: a1 :: a2 :: a3 :: a4 :: a5 :: a6 :: a7 :: a8 :: a9 :: a10 :: az :: ay :: r) 11 = true) (k : gg C ty nL kc ks al ad (pc + 2) (a0 :: a1 :: a2 :: a3 :: a4 :: a5 :: a6 :: a7 :: a8 :: a9 :: a10 :: some (.long x) :: none :: r) st h) : gg C ty nL kc ks al ad pc (a0 :: a1 :: a2 :: a3 :: a4 :: a5 :: a6 :: a7 :: a8 :: a9 :: a10 :: az :: ay :: r) (.long x :: st) h := by
  obtain ⟨⟨p, l, e, R, s⟩, ⟨m, args, below, meth, c⟩, ⟨D, ca, A, Q⟩⟩ := C
  exact fun H locs lsA hZ hR hS hl => lv_lstore E.1 E.2.1 hd hl hi rfl (fun ls2 hl2 => k H locs ls2 hZ hR hS (q_L.set2 (v := .long x) hn hl2))
theorem g_aload_11 {a0 a1 a2 a3 a4 a5 a6 a7 a8 a9 a10 : Option Value} {r : List (Option Value)} {x : Nat} (E : q_Ev C cc nL own al ad FR LO) (hd : decode cc pc = .ok (.aload 11, 2)) (k : gg C ty nL kc ks al ad (pc + 2) (a0 :: a1 :: a2 :: a3 :: a4 :: a5 :: a6 :: a7 :: a8 :: a9 :: a10 :: some (.ref x) :: r) (.ref x :: st) h) : gg C ty nL kc ks al ad pc (a0 :: a1 :: a2 :: a3 :: a4 :: a5 :: a6 :: a7 :: a8 :: a9 :: a10 :: some (.ref x) :: r) st h := by
  obtain ⟨⟨p, l, e, R, s⟩, ⟨m, args, below, meth, c⟩, ⟨D, ca, A, Q⟩⟩ := C
  exact fun H locs lsA hZ hR hS hl => lv_aload E.1 E.2.1 hd (q_L.get hl (i := 11) rfl) (k H locs lsA hZ hR hS hl)
theorem g_astore_11 {a0 a1 a2 a3 a4 a5 a6 a7 a8 a9 a10 az : Option Value} {r : List (Option Value)} {x : Nat} (E : q_Ev C cc nL own al ad FR LO) (hd : decode cc pc = .ok (.astore 11, 2)) (hi : 11 < nL) (hn : q_nl (a0 :: a1 :: a2 :: a3 :: a4 :: a5 :: a6 :: a7 :: a8 :: a9 :: a10 :: az :: r) 11 = true) (k : gg C ty nL kc ks al ad (pc + 2) (a0 :: a1 :: a2 :: a3 :: a4 :: a5 :: a6 :: a7 :: a8 :: a9 :: a10 :: some (.ref x) :: r) st h) : gg C ty nL kc ks al ad pc (a0 :: a1 :: a2 :: a3 :: a4 :: a5 :: a6 :: a7 :: a8 :: a9 :: a10 :: az :: r) (.ref x :: st) h := by
  obtain ⟨⟨p, l, e, R, s⟩, ⟨m, args, below, meth, c⟩, ⟨D, ca, A, Q⟩⟩ := C
  exact fun H locs lsA hZ hR hS hl => lv_astore E.1 E.2.1 hd hl hi rfl (fun ls2 hl2 => k H locs ls2 hZ hR hS (q_L.set1 (v := .ref x) hn hl2))
theorem g_iinc_11 {a0 a1 a2 a3 a4 a5 a6 a7 a8 a9 a10 : Option Value} {r : List (Option Value)} {x u : Int32} {n : Int} (E : q_Ev C cc nL own al ad FR LO) (hd : decode cc pc = .ok (.iinc 11 n, 3)) (hv : Int32.ofInt n = u) (hi : 11 < nL) (hn : q_nl (a0 :: a1 :: a2 :: a3 :: a4 :: a5 :: a6 :: a7 :: a8 :: a9 :: a10 :: some (.int x) :: r) 11 = true) (k : gg C ty nL kc ks al ad (pc + 3) (a0 :: a1 :: a2 :: a3 :: a4 :: a5 :: a6 :: a7 :: a8 :: a9 :: a10 :: some (.int (x + u)) :: r) st h) : gg C ty nL kc ks al ad pc (a0 :: a1 :: a2 :: a3 :: a4 :: a5 :: a6 :: a7 :: a8 :: a9 :: a10 :: some (.int x) :: r) st h := by
  obtain ⟨⟨p, l, e, R, s⟩, ⟨m, args, below, meth, c⟩, ⟨D, ca, A, Q⟩⟩ := C
  intro H locs lsA hZ hR hS hl
  obtain ⟨kk, hk⟩ := List.getElem?_of_mem (q_prs_mem.mpr ⟨11, .int x, by simp, rfl, rfl⟩ : (11, q_cv ad (.int x)) ∈ q_prs ad 0 (a0 :: a1 :: a2 :: a3 :: a4 :: a5 :: a6 :: a7 :: a8 :: a9 :: a10 :: some (.int x) :: r))
  exact lv_iinc E.1 E.2.1 hd hl hk (by rw [hv]) hi rfl (fun ls2 hl2 => k H locs ls2 hZ hR hS (q_L.set1 (v := .int (x + u)) hn hl2))
theorem g_iload_12 {a0 a1 a2 a3 a4 a5 a6 a7 a8 a9 a10 a11 : Option Value} {r : List (Option Value)} {x : Int32} (E : q_Ev C cc nL own al ad FR LO) (hd : decode cc pc = .ok (.iload 12, 2)) (k : gg C ty nL kc ks al ad (pc + 2) (a0 :: a1 :: a2 :: a3 :: a4 :: a5 :: a6 :: a7 :: a8 :: a9 :: a10 :: a11 :: some (.int x) :: r) (.int x :: st) h) : gg C ty nL kc ks al ad pc (a0 :: a1 :: a2 :: a3 :: a4 :: a5 :: a6 :: a7 :: a8 :: a9 :: a10 :: a11 :: some (.int x) :: r) st h := by
  obtain ⟨⟨p, l, e, R, s⟩, ⟨m, args, below, meth, c⟩, ⟨D, ca, A, Q⟩⟩ := C
  exact fun H locs lsA hZ hR hS hl => lv_iload E.1 E.2.1 hd (q_L.get hl (i := 12) rfl) (k H locs lsA hZ hR hS hl)
theorem g_istore_12 {a0 a1 a2 a3 a4 a5 a6 a7 a8 a9 a10 a11 az : Option Value} {r : List (Option Value)} {x : Int32} (E : q_Ev C cc nL own al ad FR LO) (hd : decode cc pc = .ok (.istore 12, 2)) (hi : 12 < nL) (hn : q_nl (a0 :: a1 :: a2 :: a3 :: a4 :: a5 :: a6 :: a7 :: a8 :: a9 :: a10 :: a11 :: az :: r) 12 = true) (k : gg C ty nL kc ks al ad (pc + 2) (a0 :: a1 :: a2 :: a3 :: a4 :: a5 :: a6 :: a7 :: a8 :: a9 :: a10 :: a11 :: some (.int x) :: r) st h) : gg C ty nL kc ks al ad pc (a0 :: a1 :: a2 :: a3 :: a4 :: a5 :: a6 :: a7 :: a8 :: a9 :: a10 :: a11 :: az :: r) (.int x :: st) h := by
  obtain ⟨⟨p, l, e, R, s⟩, ⟨m, args, below, meth, c⟩, ⟨D, ca, A, Q⟩⟩ := C
  exact fun H locs lsA hZ hR hS hl => lv_istore E.1 E.2.1 hd hl hi rfl (fun ls2 hl2 => k H locs ls2 hZ hR hS (q_L.set1 (v := .int x) hn hl2))
theorem g_lload_12 {a0 a1 a2 a3 a4 a5 a6 a7 a8 a9 a10 a11 : Option Value} {r : List (Option Value)} {x : Int64} (E : q_Ev C cc nL own al ad FR LO) (hd : decode cc pc = .ok (.lload 12, 2)) (k : gg C ty nL kc ks al ad (pc + 2) (a0 :: a1 :: a2 :: a3 :: a4 :: a5 :: a6 :: a7 :: a8 :: a9 :: a10 :: a11 :: some (.long x) :: r) (.long x :: st) h) : gg C ty nL kc ks al ad pc (a0 :: a1 :: a2 :: a3 :: a4 :: a5 :: a6 :: a7 :: a8 :: a9 :: a10 :: a11 :: some (.long x) :: r) st h := by
  obtain ⟨⟨p, l, e, R, s⟩, ⟨m, args, below, meth, c⟩, ⟨D, ca, A, Q⟩⟩ := C
  exact fun H locs lsA hZ hR hS hl => lv_lload E.1 E.2.1 hd (q_L.get hl (i := 12) rfl) (k H locs lsA hZ hR hS hl)
theorem g_lstore_12 {a0 a1 a2 a3 a4 a5 a6 a7 a8 a9 a10 a11 az ay : Option Value} {r : List (Option Value)} {x : Int64} (E : q_Ev C cc nL own al ad FR LO) (hd : decode cc pc = .ok (.lstore 12, 2)) (hi : 12 + 1 < nL) (hn : q_nl (a0 :: a1 :: a2 :: a3 :: a4 :: a5 :: a6 :: a7 :: a8 :: a9 :: a10 :: a11 :: az :: ay :: r) 12 = true) (k : gg C ty nL kc ks al ad (pc + 2) (a0 :: a1 :: a2 :: a3 :: a4 :: a5 :: a6 :: a7 :: a8 :: a9 :: a10 :: a11 :: some (.long x) :: none :: r) st h) : gg C ty nL kc ks al ad pc (a0 :: a1 :: a2 :: a3 :: a4 :: a5 :: a6 :: a7 :: a8 :: a9 :: a10 :: a11 :: az :: ay :: r) (.long x :: st) h := by
  obtain ⟨⟨p, l, e, R, s⟩, ⟨m, args, below, meth, c⟩, ⟨D, ca, A, Q⟩⟩ := C
  exact fun H locs lsA hZ hR hS hl => lv_lstore E.1 E.2.1 hd hl hi rfl (fun ls2 hl2 => k H locs ls2 hZ hR hS (q_L.set2 (v := .long x) hn hl2))
theorem g_aload_12 {a0 a1 a2 a3 a4 a5 a6 a7 a8 a9 a10 a11 : Option Value} {r : List (Option Value)} {x : Nat} (E : q_Ev C cc nL own al ad FR LO) (hd : decode cc pc = .ok (.aload 12, 2)) (k : gg C ty nL kc ks al ad (pc + 2) (a0 :: a1 :: a2 :: a3 :: a4 :: a5 :: a6 :: a7 :: a8 :: a9 :: a10 :: a11 :: some (.ref x) :: r) (.ref x :: st) h) : gg C ty nL kc ks al ad pc (a0 :: a1 :: a2 :: a3 :: a4 :: a5 :: a6 :: a7 :: a8 :: a9 :: a10 :: a11 :: some (.ref x) :: r) st h := by
  obtain ⟨⟨p, l, e, R, s⟩, ⟨m, args, below, meth, c⟩, ⟨D, ca, A, Q⟩⟩ := C
  exact fun H locs lsA hZ hR hS hl => lv_aload E.1 E.2.1 hd (q_L.get hl (i := 12) rfl) (k H locs lsA hZ hR hS hl)
theorem g_astore_12 {a0 a1 a2 a3 a4 a5 a6 a7 a8 a9 a10 a11 az : Option Value} {r : List (Option Value)} {x : Nat} (E : q_Ev C cc nL own al ad FR LO) (hd : decode cc pc = .ok (.astore 12, 2)) (hi : 12 < nL) (hn : q_nl (a0 :: a1 :: a2 :: a3 :: a4 :: a5 :: a6 :: a7 :: a8 :: a9 :: a10 :: a11 :: az :: r) 12 = true) (k : gg C ty nL kc ks al ad (pc + 2) (a0 :: a1 :: a2 :: a3 :: a4 :: a5 :: a6 :: a7 :: a8 :: a9 :: a10 :: a11 :: some (.ref x) :: r) st h) : gg C ty nL kc ks al ad pc (a0 :: a1 :: a2 :: a3 :: a4 :: a5 :: a6 :: a7 :: a8 :: a9 :: a10 :: a11 :: az :: r) (.ref x :: st) h := by
  obtain ⟨⟨p, l, e, R, s⟩, ⟨m, args, below, meth, c⟩, ⟨D, ca, A, Q⟩⟩ := C
  exact fun H locs lsA hZ hR hS hl => lv_astore E.1 E.2.1 hd hl hi rfl (fun ls2 hl2 => k H locs ls2 hZ hR hS (q_L.set1 (v := .ref x) hn hl2))
theorem g_iinc_12 {a0 a1 a2 a3 a4 a5 a6 a7 a8 a9 a10 a11 : Option Value} {r : List (Option Value)} {x u : Int32} {n : Int} (E : q_Ev C cc nL own al ad FR LO) (hd : decode cc pc = .ok (.iinc 12 n, 3)) (hv : Int32.ofInt n = u) (hi : 12 < nL) (hn : q_nl (a0 :: a1 :: a2 :: a3 :: a4 :: a5 :: a6 :: a7 :: a8 :: a9 :: a10 :: a11 :: some (.int x) :: r) 12 = true) (k : gg C ty nL kc ks al ad (pc + 3) (a0 :: a1 :: a2 :: a3 :: a4 :: a5 :: a6 :: a7 :: a8 :: a9 :: a10 :: a11 :: some (.int (x + u)) :: r) st h) : gg C ty nL kc ks al ad pc (a0 :: a1 :: a2 :: a3 :: a4 :: a5 :: a6 :: a7 :: a8 :: a9 :: a10 :: a11 :: some (.int x) :: r) st h := by
  obtain ⟨⟨p, l, e, R, s⟩, ⟨m, args, below, meth, c⟩, ⟨D, ca, A, Q⟩⟩ := C
  intro H locs lsA hZ hR hS hl
  obtain ⟨kk, hk⟩ := List.getElem?_of_mem (q_prs_mem.mpr ⟨12, .int x, by simp, rfl, rfl⟩ : (12, q_cv ad (.int x)) ∈ q_prs ad 0 (a0 :: a1 :: a2 :: a3 :: a4 :: a5 :: a6 :: a7 :: a8 :: a9 :: a10 :: a11 :: some (.int x) :: r))
  exact lv_iinc E.1 E.2.1 hd hl hk (by rw [hv]) hi rfl (fun ls2 hl2 => k H locs ls2 hZ hR hS (q_L.set1 (v := .int (x + u)) hn hl2))
theorem g_iload_13 {a0 a1 a2 a3 a4 a5 a6 a7 a8 a9 a10 a11 a12 : Option Value} {r : List (Option Value)} {x : Int32} (E : q_Ev C cc nL own al ad FR LO) (hd : decode cc pc = .ok (.iload 13, 2)) (k : gg C ty nL kc ks al ad (pc + 2) (a0 :: a1 :: a2 :: a3 :: a4 :: a5 :: a6 :: a7 :: a8 :: a9 :: a10 :: a11 :: a12 :: some (.int x) :: r) (.int x :: st) h) : gg C ty nL kc ks al ad pc (a0 :: a1 :: a2 :: a3 :: a4 :: a5 :: a6 :: a7 :: a8 :: a9 :: a10 :: a11 :: a12 :: some (.int x) :: r) st h := by
  obtain ⟨⟨p, l, e, R, s⟩, ⟨m, args, below, meth, c⟩, ⟨D, ca, A, Q⟩⟩ := C
  exact fun H locs lsA hZ hR hS hl => lv_iload E.1 E.2.1 hd (q_L.get hl (i := 13) rfl) (k H locs lsA hZ hR hS hl)
theorem g_istore_13 {a0 a1 a2 a3 a4 a5 a6 a7 a8 a9 a10 a11 a12 az : Option Value} {r : List (Option Value)} {x : Int32} (E : q_Ev C cc nL own al ad FR LO) (hd : decode cc pc = .ok (.istore 13, 2)) (hi : 13 < nL) (hn : q_nl (a0 :: a1 :: a2 :: a3 :: a4 :: a5 :: a6 :: a7 :: a8 :: a9 :: a10 :: a11 :: a12 :: az :: r) 13 = true) (k : gg C ty nL kc ks al ad (pc + 2) (a0 :: a1 :: a2 :: a3 :: a4 :: a5 :: a6 :: a7 :: a8 :: a9 :: a10 :: a11 :: a12 :: some (.int x) :: r) st h) : gg C ty nL kc ks al ad pc (a0 :: a1 :: a2 :: a3 :: a4 :: a5 :: a6 :: a7 :: a8 :: a9 :: a10 :: a11 :: a12 :: az :: r) (.int x :: st) h := by
  obtain ⟨⟨p, l, e, R, s⟩, ⟨m, args, below, meth, c⟩, ⟨D, ca, A, Q⟩⟩ := C
  exact fun H locs lsA hZ hR hS hl => lv_istore E.1 E.2.1 hd hl hi rfl (fun ls2 hl2 => k H locs ls2 hZ hR hS (q_L.set1 (v := .int x) hn hl2))
theorem g_lload_13 {a0 a1 a2 a3 a4 a5 a6 a7 a8 a9 a10 a11 a12 : Option Value} {r : List (Option Value)} {x : Int64} (E : q_Ev C cc nL own al ad FR LO) (hd : decode cc pc = .ok (.lload 13, 2)) (k : gg C ty nL kc ks al ad (pc + 2) (a0 :: a1 :: a2 :: a3 :: a4 :: a5 :: a6 :: a7 :: a8 :: a9 :: a10 :: a11 :: a12 :: some (.long x) :: r) (.long x :: st) h) : gg C ty nL kc ks al ad pc (a0 :: a1 :: a2 :: a3 :: a4 :: a5 :: a6 :: a7 :: a8 :: a9 :: a10 :: a11 :: a12 :: some (.long x) :: r) st h := by
  obtain ⟨⟨p, l, e, R, s⟩, ⟨m, args, below, meth, c⟩, ⟨D, ca, A, Q⟩⟩ := C
  exact fun H locs lsA hZ hR hS hl => lv_lload E.1 E.2.1 hd (q_L.get hl (i := 13) rfl) (k H locs lsA hZ hR hS hl)
theorem g_lstore_13 {a0 a1 a2 a3 a4 a5 a6 a7 a8 a9 a10 a11 a12 az ay : Option Value} {r : List (Option Value)} {x : Int64} (E : q_Ev C cc nL own al ad FR LO) (hd : decode cc pc = .ok (.lstore 13, 2)) (hi : 13 + 1 < nL) (hn : q_nl (a0 :: a1 :: a2 :: a3 :: a4 :: a5 :: a6 :: a7 :: a8 :: a9 :: a10 :: a11 :: a12 :: az :: ay :: r) 13 = true) (k : gg C ty nL kc ks al ad (pc + 2) (a0 :: a1 :: a2 :: a3 :: a4 :: a5 :: a6 :: a7 :: a8 :: a9 :: a10 :: a11 :: a12 :: some (.long x) :: none :: r) st h) : gg C ty nL kc ks al ad pc (a0 :: a1 :: a2 :: a3 :: a4 :: a5 :: a6 :: a7 :: a8 :: a9 :: a10 :: a11 :: a12 :: az :: ay :: r) (.long x :: st) h := by
  obtain ⟨⟨p, l, e, R, s⟩, ⟨m, args, below, meth, c⟩, ⟨D, ca, A, Q⟩⟩ := C
  exact fun H locs lsA hZ hR hS hl => lv_lstore E.1 E.2.1 hd hl hi rfl (fun ls2 hl2 => k H locs ls2 hZ hR hS (q_L.set2 (v := .long x) hn hl2))
theorem g_aload_13 {a0 a1 a2 a3 a4 a5 a6 a7 a8 a9 a10 a11 a12 : Option Value} {r : List (Option Value)} {x : Nat} (E : q_Ev C cc nL own al ad FR LO) (hd : decode cc pc = .ok (.aload 13, 2)) (k : gg C ty nL kc ks al ad (pc + 2) (a0 :: a1 :: a2 :: a3 :: a4 :: a5 :: a6 :: a7 :: a8 :: a9 :: a10 :: a11 :: a12 :: some (.ref x) :: r) (.ref x :: st) h) : gg C ty nL kc ks al ad pc (a0 :: a1 :: a2 :: a3 :: a4 :: a5 :: a6 :: a7 :: a8 :: a9 :: a10 :: a11 :: a12 :: some (.ref x) :: r) st h := by
  obtain ⟨⟨p, l, e, R, s⟩, ⟨m, args, below, meth, c⟩, ⟨D, ca, A, Q⟩⟩ := C
  exact fun H locs lsA hZ hR hS hl => lv_aload E.1 E.2.1 hd (q_L.get hl (i := 13) rfl) (k H locs lsA hZ hR hS hl)
theorem g_astore_13 {a0 a1 a2 a3 a4 a5 a6 a7 a8 a9 a10 a11 a12 az : Option Value} {r : List (Option Value)} {x : Nat} (E : q_Ev C cc nL own al ad FR LO) (hd : decode cc pc = .ok (.astore 13, 2)) (hi : 13 < nL) (hn : q_nl (a0 :: a1 :: a2 :: a3 :: a4 :: a5 :: a6 :: a7 :: a8 :: a9 :: a10 :: a11 :: a12 :: az :: r) 13 = true) (k : gg C ty nL kc ks al ad (pc + 2) (a0 :: a1 :: a2 :: a3 :: a4 :: a5 :: a6 :: a7 :: a8 :: a9 :: a10 :: a11 :: a12 :: some (.ref x) :: r) st h) : gg C ty nL kc ks al ad pc (a0 :: a1 :: a2 :: a3 :: a4 :: a5 :: a6 :: a7 :: a8 :: a9 :: a10 :: a11 :: a12 :: az :: r) (.ref x :: st) h := by
  obtain ⟨⟨p, l, e, R, s⟩, ⟨m, args, below, meth, c⟩, ⟨D, ca, A, Q⟩⟩ := C
  exact fun H locs lsA hZ hR hS hl => lv_astore E.1 E.2.1 hd hl hi rfl (fun ls2 hl2 => k H locs ls2 hZ hR hS (q_L.set1 (v := .ref x) hn hl2))
theorem g_iinc_13 {a0 a1 a2 a3 a4 a5 a6 a7 a8 a9 a10 a11 a12 : Option Value} {r : List (Option Value)} {x u : Int32} {n : Int} (E : q_Ev C cc nL own al ad FR LO) (hd : decode cc pc = .ok (.iinc 13 n, 3)) (hv : Int32.ofInt n = u) (hi : 13 < nL) (hn : q_nl (a0 :: a1 :: a2 :: a3 :: a4 :: a5 :: a6 :: a7 :: a8 :: a9 :: a10 :: a11 :: a12 :: some (.int x) :: r) 13 = true) (k : gg C ty nL kc ks al ad (pc + 3) (a0 :: a1 :: a2 :: a3 :: a4 :: a5 :: a6 :: a7 :: a8 :: a9 :: a10 :: a11 :: a12 :: some (.int (x + u)) :: r) st h) : gg C ty nL kc ks al ad pc (a0 :: a1 :: a2 :: a3 :: a4 :: a5 :: a6 :: a7 :: a8 :: a9 :: a10 :: a11 :: a12 :: some (.int x) :: r) st h := by
  obtain ⟨⟨p, l, e, R, s⟩, ⟨m, args, below, meth, c⟩, ⟨D, ca, A, Q⟩⟩ := C
  intro H locs lsA hZ hR hS hl
  obtain ⟨kk, hk⟩ := List.getElem?_of_mem (q_prs_mem.mpr ⟨13, .int x, by simp, rfl, rfl⟩ : (13, q_cv ad (.int x)) ∈ q_prs ad 0 (a0 :: a1 :: a2 :: a3 :: a4 :: a5 :: a6 :: a7 :: a8 :: a9 :: a10 :: a11 :: a12 :: some (.int x) :: r))
  exact lv_iinc E.1 E.2.1 hd hl hk (by rw [hv]) hi rfl (fun ls2 hl2 => k H locs ls2 hZ hR hS (q_L.set1 (v := .int (x + u)) hn hl2))
theorem g_iload_14 {a0 a1 a2 a3 a4 a5 a6 a7 a8 a9 a10 a11 a12 a13 : Option Value} {r : List (Option Value)} {x : Int32} (E : q_Ev C cc nL own al ad FR LO) (hd : decode cc pc = .ok (.iload 14, 2)) (k : gg C ty nL kc ks al ad (pc + 2) (a0 :: a1 :: a2 :: a3 :: a4 :: a5 :: a6 :: a7 :: a8 :: a9 :: a10 :: a11 :: a12 :: a13 :: some (.int x) :: r) (.int x :: st) h) : gg C ty nL kc ks al ad pc (a0 :: a1 :: a2 :: a3 :: a4 :: a5 :: a6 :: a7 :: a8 :: a9 :: a10 :: a11 :: a12 :: a13 :: some (.int x) :: r) st h := by
  obtain ⟨⟨p, l, e, R, s⟩, ⟨m, args, below, meth, c⟩, ⟨D, ca, A, Q⟩⟩ := C
  exact fun H locs lsA hZ hR hS hl => lv_iload E.1 E.2.1 hd (q_L.get hl (i := 14) rfl) (k H locs lsA hZ hR hS hl)
theorem g_istore_14 {a0 a1 a2 a3 a4 a5 a6 a7 a8 a9 a10 a11 a12 a13 az : Option Value} {r : List (Option Value)} {x : Int32} (E : q_Ev C cc nL own al ad FR LO) (hd : decode cc pc = .ok (.istore 14, 2)) (hi : 14 < nL) (hn : q_nl (a0 :: a1 :: a2 :: a3 :: a4 :: a5 :: a6 :: a7 :: a8 :: a9 :: a10 :: a11 :: a12 :: a13 :: az :: r) 14 = true) (k : gg C ty nL kc ks al ad (pc + 2) (a0 :: a1 :: a2 :: a3 :: a4 :: a5 :: a6 :: a7 :: a8 :: a9 :: a10 :: a11 :: a12 :: a13 :: some (.int x) :: r) st h) : gg C ty nL kc ks al ad pc (a0 :: a1 :: a2 :: a3 :: a4 :: a5 :: a6 :: a7 :: a8 :: a9 :: a10 :: a11 :: a12 :: a13 :: az :: r) (.int x :: st) h := by
  obtain ⟨⟨p, l, e, R, s⟩, ⟨m, args, below, meth, c⟩, ⟨D, ca, A, Q⟩⟩ := C
  exact fun H locs lsA hZ hR hS hl => lv_istore E.1 E.2.1 hd hl hi rfl (fun ls2 hl2 => k H locs ls2 hZ hR hS (q_L.set1 (v := .int x) hn hl2))
theorem g_lload_14 {a0 a1 a2 a3 a4 a5 a6 a7 a8 a9 a10 a11 a12 a13 : Option Value} {r : List (Option Value)} {x : Int64} (E : q_Ev C cc nL own al ad FR LO) (hd : decode cc pc = .ok (.lload 14, 2)) (k : gg C ty nL kc ks al ad (pc + 2) (a0 :: a1 :: a2 :: a3 :: a4 :: a5 :: a6 :: a7 :: a8 :: a9 :: a10 :: a11 :: a12 :: a13 :: some (.long x) :: r) (.long x :: st) h) : gg C ty nL kc ks al ad pc (a0 :: a1 :: a2 :: a3 :: a4 :: a5 :: a6 :: a7 :: a8 :: a9 :: a10 :: a11 :: a12 :: a13 :: some (.long x) :: r) st h := by
  obtain ⟨⟨p, l, e, R, s⟩, ⟨m, args, below, meth, c⟩, ⟨D, ca, A, Q⟩⟩ := C
  exact fun H locs lsA hZ hR hS hl => lv_lload E.1 E.2.1 hd (q_L.get hl (i := 14) rfl) (k H locs lsA hZ hR hS hl)
theorem g_lstore_14 {a0 a1 a2 a3 a4 a5 a6 a7 a8 a9 a10 a11 a12 a13 az ay : Option Value} {r : List (Option Value)} {x : Int64} (E : q_Ev C cc nL own al ad FR LO) (hd : decode cc pc = .ok (.lstore 14, 2)) (hi : 14 + 1 < nL) (hn : q_nl (a0 :: a1 :: a2 :: a3 :: a4 :: a5 :: a6 :: a7 :: a8 :: a9 :: a10 :: a11 :: a12 :: a13 :: az :: ay :: r) 14 = true) (k : gg C ty nL kc ks al ad (pc + 2) (a0 :: a1 :: a2 :: a3 :: a4 :: a5 :: a6 :: a7 :: a8 :: a9 :: a10 :: a11 :: a12 :: a13 :: some (.long x) :: none :: r) st h) : gg C ty nL kc ks al ad pc (a0 :: a1 :: a2 :: a3 :: a4 :: a5 :: a6 :: a7 :: a8 :: a9 :: a10 :: a11 :: a12 :: a13 :: az :: ay :: r) (.long x :: st) h := by
  obtain ⟨⟨p, l, e, R, s⟩, ⟨m, args, below, meth, c⟩, ⟨D, ca, A, Q⟩⟩ := C
  exact fun H locs lsA hZ hR hS hl => lv_lstore E.1 E.2.1 hd hl hi rfl (fun ls2 hl2 => k H locs ls2 hZ hR hS (q_L.set2 (v := .long x) hn hl2))
theorem g_aload_14 {a0 a1 a2 a3 a4 a5 a6 a7 a8 a9 a10 a11 a12 a13 : Option Value} {r : List (Option Value)} {x : Nat} (E : q_Ev C cc nL own al ad FR LO) (hd : decode cc pc = .ok (.aload 14, 2)) (k : gg C ty nL kc ks al ad (pc + 2) (a0 :: a1 :: a2 :: a3 :: a4 :: a5 :: a6 :: a7 :: a8 :: a9 :: a10 :: a11 :: a12 :: a13 :: some (.ref x) :: r) (.ref x :: st) h) : gg C ty nL kc ks al ad pc (a0 :: a1 :: a2 :: a3 :: a4 :: a5 :: a6 :: a7 :: a8 :: a9 :: a10 :: a11 :: a12 :: a13 :: some (.ref x) :: r) st h := by
  obtain ⟨⟨p, l, e, R, s⟩, ⟨m, args, below, meth, c⟩, ⟨D, ca, A, Q⟩⟩ := C
  exact fun H locs lsA hZ hR hS hl => lv_aload E.1 E.2.1 hd (q_L.get hl (i := 14) rfl) (k H locs lsA hZ hR hS hl)
theorem g_astore_14 {a0 a1 a2 a3 a4 a5 a6 a7 a8 a9 a10 a11 a12 a13 az : Option Value} {r : List (Option Value)} {x : Nat} (E : q_Ev C cc nL own al ad FR LO) (hd : decode cc pc = .ok (.astore 14, 2)) (hi : 14 < nL) (hn : q_nl (a0 :: a1 :: a2 :: a3 :: a4 :: a5 :: a6 :: a7 :: a8 :: a9 :: a10 :: a11 :: a12 :: a13 :: az :: r) 14 = true) (k : gg C ty nL kc ks al ad (pc + 2) (a0 :: a1 :: a2 :: a3 :: a4 :: a5 :: a6 :: a7 :: a8 :: a9 :: a10 :: a11 :: a12 :: a13 :: some (.ref x) :: r) st h) : gg C ty nL kc ks al ad pc (a0 :: a1 :: a2 :: a3 :: a4 :: a5 :: a6 :: a7 :: a8 :: a9 :: a10 :: a11 :: a12 :: a13 :: az :: r) (.ref x :: st) h := by
  obtain ⟨⟨p, l, e, R, s⟩, ⟨m, args, below, meth, c⟩, ⟨D, ca, A, Q⟩⟩ := C
  exact fun H locs lsA hZ hR hS hl => lv_astore E.1 E.2.1 hd hl hi rfl (fun ls2 hl2 => k H locs ls2 hZ hR hS (q_L.set1 (v := .ref x) hn hl2))
theorem g_iinc_14 {a0 a1 a2 a3 a4 a5 a6 a7 a8 a9 a10 a11 a12 a13 : Option Value} {r : List (Option Value)} {x u : Int32} {n : Int} (E : q_Ev C cc nL own al ad FR LO) (hd : decode cc pc = .ok (.iinc 14 n, 3)) (hv : Int32.ofInt n = u) (hi : 14 < nL) (hn : q_nl (a0 :: a1 :: a2 :: a3 :: a4 :: a5 :: a6 :: a7 :: a8 :: a9 :: a10 :: a11 :: a12 :: a13 :: some (.int x) :: r) 14 = true) (k : gg C ty nL kc ks al ad (pc + 3) (a0 :: a1 :: a2 :: a3 :: a4 :: a5 :: a6 :: a7 :: a8 :: a9 :: a10 :: a11 :: a12 :: a13 :: some (.int (x + u)) :: r) st h) : gg C ty nL kc ks al ad pc (a0 :: a1 :: a2 :: a3 :: a4 :: a5 :: a6 :: a7 :: a8 :: a9 :: a10 :: a11 :: a12 :: a13 :: some (.int x) :: r) st h := by
  obtain ⟨⟨p, l, e, R, s⟩, ⟨m, args, below, meth, c⟩, ⟨D, ca, A, Q⟩⟩ := C
  intro H locs lsA hZ hR hS hl
  obtain ⟨kk, hk⟩ := List.getElem?_of_mem (q_prs_mem.mpr ⟨14, .int x, by simp, rfl, rfl⟩ : (14, q_cv ad (.int x)) ∈ q_prs ad 0 (a0 :: a1 :: a2 :: a3 :: a4 :: a5 :: a6 :: a7 :: a8 :: a9 :: a10 :: a11 :: a12 :: a13 :: some (.int x) :: r))
  exact lv_iinc E.1 E.2.1 hd hl hk (by rw [hv]) hi rfl (fun ls2 hl2 => k H locs ls2 hZ hR hS (q_L.set1 (v := .int (x + u)) hn hl2))
theorem g_iload_15 {a0 a1 a2 a3 a4 a5 a6 a7 a8 a9 a10 a11 a12 a13 a14 : Option Value} {r : List (Option Value)} {x : Int32} (E : q_Ev C cc nL own al ad FR LO) (hd : decode cc pc = .ok (.iload 15, 2)) (k : gg C ty nL kc ks al ad (pc + 2) (a0 :: a1 :: a2 :: a3 :: a4 :: a5 :: a6 :: a7 :: a8 :: a9 :: a10 :: a11 :: a12 :: a13 :: a14 :: some (.int x) :: r) (.int x :: st) h) : gg C ty nL kc ks al ad pc (a0 :: a1 :: a2 :: a3 :: a4 :: a5 :: a6 :: a7 :: a8 :: a9 :: a10 :: a11 :: a12 :: a13 :: a14 :: some (.int x) :: r) st h := by
  obtain ⟨⟨p, l, e, R, s⟩, ⟨m, args, below, meth, c⟩, ⟨D, ca, A, Q⟩⟩ := C
  exact fun H locs lsA hZ hR hS hl => lv_iload E.1 E.2.1 hd (q_L.get hl (i := 15) rfl) (k H locs lsA hZ hR hS hl)
theorem g_istore_15 {a0 a1 a2 a3 a4 a5 a6 a7 a8 a9 a10 a11 a12 a13 a14 az : Option Value} {r : List (Option Value)} {x : Int32} (E : q_Ev C cc nL own al ad FR LO) (hd : decode cc pc = .ok (.istore 15, 2)) (hi : 15 < nL) (hn : q_nl (a0 :: a1 :: a2 :: a3 :: a4 :: a5 :: a6 :: a7 :: a8 :: a9 :: a10 :: a11 :: a12 :: a13 :: a14 :: az :: r) 15 = true) (k : gg C ty nL kc ks al ad (pc + 2) (a0 :: a1 :: a2 :: a3 :: a4 :: a5 :: a6 :: a7 :: a8 :: a9 :: a10 :: a11 :: a12 :: a13 :: a14 :: some (.int x) :: r) st h) : gg C ty nL kc ks al ad pc (a0 :: a1 :: a2 :: a3 :: a4 :: a5 :: a6 :: a7 :: a8 :: a9 :: a10 :: a11 :: a12 :: a13 :: a14 :: az :: r) (.int x :: st) h := by
  obtain ⟨⟨p, l, e, R, s⟩, ⟨m, args, below, meth, c⟩, ⟨D, ca, A, Q⟩⟩ := C
  exact fun H locs lsA hZ hR hS hl => lv_istore E.1 E.2.1 hd hl hi rfl (fun ls2 hl2 => k H locs ls2 hZ hR hS (q_L.set1 (v := .int x) hn hl2))
theorem g_lload_15 {a0 a1 a2 a3 a4 a5 a6 a7 a8 a9 a10 a11 a12 a13 a14 : Option Value} {r : List (Option Value)} {x : Int64} (E : q_Ev C cc nL own al ad FR LO) (hd : decode cc pc = .ok (.lload 15, 2)) (k : gg C ty nL kc ks al ad (pc + 2) (a0 :: a1 :: a2 :: a3 :: a4 :: a5 :: a6 :: a7 :: a8 :: a9 :: a10 :: a11 :: a12 :: a13 :: a14 :: some (.long x) :: r) (.long x :: st) h) : gg C ty nL kc ks al ad pc (a0 :: a1 :: a2 :: a3 :: a4 :: a5 :: a6 :: a7 :: a8 :: a9 :: a10 :: a11 :: a12 :: a13 :: a14 :: some (.long x) :: r) st h := by
  obtain ⟨⟨p, l, e, R, s⟩, ⟨m, args, below, meth, c⟩, ⟨D, ca, A, Q⟩⟩ := C
  exact fun H locs lsA hZ hR hS hl => lv_lload E.1 E.2.1 hd (q_L.get hl (i := 15) rfl) (k H locs lsA hZ hR hS hl)
theorem g_lstore_15 {a0 a1 a2 a3 a4 a5 a6 a7 a8 a9 a10 a11 a12 a13 a14 az ay : Option Value} {r : List (Option Value)} {x : Int64} (E : q_Ev C cc nL own al ad FR LO) (hd : decode cc pc = .ok (.lstore 15, 2)) (hi : 15 + 1 < nL) (hn : q_nl (a0 :: a1 :: a2 :: a3 :: a4 :: a5 :: a6 :: a7 :: a8 :: a9 :: a10 :: a11 :: a12 :: a13 :: a14 :: az :: ay :: r) 15 = true) (k : gg C ty nL kc ks al ad (pc + 2) (a0 :: a1 :: a2 :: a3 :: a4 :: a5 :: a6 :: a7 :: a8 :: a9 :: a10 :: a11 :: a12 :: a13 :: a14 :: some (.long x) :: none :: r) st h) : gg C ty nL kc ks al ad pc (a0 :: a1 :: a2 :: a3 :: a4 :: a5 :: a6 :: a7 :: a8 :: a9 :: a10 :: a11 :: a12 :: a13 :: a14 :: az :: ay :: r) (.long x :: st) h := by
  obtain ⟨⟨p, l, e, R, s⟩, ⟨m, args, below, meth, c⟩, ⟨D, ca, A, Q⟩⟩ := C
  exact fun H locs lsA hZ hR hS hl => lv_lstore E.1 E.2.1 hd hl hi rfl (fun ls2 hl2 => k H locs ls2 hZ hR hS (q_L.set2 (v := .long x) hn hl2))
theorem g_aload_15 {a0 a1 a2 a3 a4 a5 a6 a7 a8 a9 a10 a11 a12 a13 a14 : Option Value} {r : List (Option Value)} {x : Nat} (E : q_Ev C cc nL own al ad FR LO) (hd : decode cc pc = .ok (.aload 15, 2)) (k : gg C ty nL kc ks al ad (pc + 2) (a0 :: a1 :: a2 :: a3 :: a4 :: a5 :: a6 :: a7 :: a8 :: a9 :: a10 :: a11 :: a12 :: a13 :: a14 :: some (.ref x) :: r) (.ref x :: st) h) : gg C ty nL kc ks al ad pc (a0 :: a1 :: a2 :: a3 :: a4 :: a5 :: a6 :: a7 :: a8 :: a9 :: a10 :: a11 :: a12 :: a13 :: a14 :: some (.ref x) :: r) st h := by
  obtain ⟨⟨p, l, e, R, s⟩, ⟨m, args, below, meth, c⟩, ⟨D, ca, A, Q⟩⟩ := C
  exact fun H locs lsA hZ hR hS hl => lv_aload E.1 E.2.1 hd (q_L.get hl (i := 15) rfl) (k H locs lsA hZ hR hS hl)
theorem g_astore_15 {a0 a1 a2 a3 a4 a5 a6 a7 a8 a9 a10 a11 a12 a13 a14 az : Option Value} {r : List (Option Value)} {x : Nat} (E : q_Ev C cc nL own al ad FR LO) (hd : decode cc pc = .ok (.astore 15, 2)) (hi : 15 < nL) (hn : q_nl (a0 :: a1 :: a2 :: a3 :: a4 :: a5 :: a6 :: a7 :: a8 :: a9 :: a10 :: a11 :: a12 :: a13 :: a14 :: az :: r) 15 = true) (k : gg C ty nL kc ks al ad (pc + 2) (a0 :: a1 :: a2 :: a3 :: a4 :: a5 :: a6 :: a7 :: a8 :: a9 :: a10 :: a11 :: a12 :: a13 :: a14 :: some (.ref x) :: r) st h) : gg C ty nL kc ks al ad pc (a0 :: a1 :: a2 :: a3 :: a4 :: a5 :: a6 :: a7 :: a8 :: a9 :: a10 :: a11 :: a12 :: a13 :: a14 :: az :: r) (.ref x :: st) h := by
  obtain ⟨⟨p, l, e, R, s⟩, ⟨m, args, below, meth, c⟩, ⟨D, ca, A, Q⟩⟩ := C
  exact fun H locs lsA hZ hR hS hl => lv_astore E.1 E.2.1 hd hl hi rfl (fun ls2 hl2 => k H locs ls2 hZ hR hS (q_L.set1 (v := .ref x) hn hl2))
theorem g_iinc_15 {a0 a1 a2 a3 a4 a5 a6 a7 a8 a9 a10 a11 a12 a13 a14 : Option Value} {r : List (Option Value)} {x u : Int32} {n : Int} (E : q_Ev C cc nL own al ad FR LO) (hd : decode cc pc = .ok (.iinc 15 n, 3)) (hv : Int32.ofInt n = u) (hi : 15 < nL) (hn : q_nl (a0 :: a1 :: a2 :: a3 :: a4 :: a5 :: a6 :: a7 :: a8 :: a9 :: a10 :: a11 :: a12 :: a13 :: a14 :: some (.int x) :: r) 15 = true) (k : gg C ty nL kc ks al ad (pc + 3) (a0 :: a1 :: a2 :: a3 :: a4 :: a5 :: a6 :: a7 :: a8 :: a9 :: a10 :: a11 :: a12 :: a13 :: a14 :: some (.int (x + u)) :: r) st h) : gg C ty nL kc ks al ad pc (a0 :: a1 :: a2 :: a3 :: a4 :: a5 :: a6 :: a7 :: a8 :: a9 :: a10 :: a11 :: a12 :: a13 :: a14 :: some (.int x) :: r) st h := by
  obtain ⟨⟨p, l, e, R, s⟩, ⟨m, args, below, meth, c⟩, ⟨D, ca, A, Q⟩⟩ := C
  intro H locs lsA hZ hR hS hl
  obtain ⟨kk, hk⟩ := List.getElem?_of_mem (q_prs_mem.mpr ⟨15, .int x, by simp, rfl, rfl⟩ : (15, q_cv ad (.int x)) ∈ q_prs ad 0 (a0 :: a1 :: a2 :: a3 :: a4 :: a5 :: a6 :: a7 :: a8 :: a9 :: a10 :: a11 :: a12 :: a13 :: a14 :: some (.int x) :: r))
  exact lv_iinc E.1 E.2.1 hd hl hk (by rw [hv]) hi rfl (fun ls2 hl2 => k H locs ls2 hZ hR hS (q_L.set1 (v := .int (x + u)) hn hl2))
/-- fewer locals known -/
theorem g_drop {ls2 : List (Option Value)} (hi : ∀ (i : Nat) (v : Value), ls2[i]? = some (some v) → ls[i]? = some (some v)) (k : gg C ty nL kc ks al ad pc ls2 st h) : gg C ty nL kc ks al ad pc ls st h := by
  obtain ⟨⟨p, l, e, R, s⟩, ⟨m, args, below, meth, c⟩, ⟨D, ca, A, Q⟩⟩ := C
  exact fun H locs lsA hZ hR hS hl => k H locs lsA hZ hR hS (q_L.mono hl hi)
end GM
