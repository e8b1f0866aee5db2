
/-! THE FRAME: the world of a method is one pool of cells (addresses L, what each holds: f); a goal xG is 'from here the method comes to its end' -/
def xws : List Cond := lw_tbl.filter goodWord
theorem x_mem {w : Cond} (i : Nat) (h : lw_tbl[i]? = some w) (hg : goodWord w = true) : w ∈ xws := List.mem_filter.mpr ⟨List.mem_of_getElem? h, hg⟩
abbrev xM : Type := MethodName × ByteArray × Nat × Option FieldType
def xwm (M : xM) : List Cond := Cond.code M.1 M.2.1 M.2.2.1 M.2.2.2 :: xws
theorem x_good {M : xM} (h : Cond.code M.1 M.2.1 M.2.2.1 M.2.2.2 ∈ xws) : GoodIn xws (xwm M) := fun w hw => by
  have hw2 : w ∈ xws := by
    rcases List.mem_cons.mp hw with rfl | h2
    · exact h
    · exact h2
  exact ⟨hw2, good_of_word (List.mem_filter.mp hw2).2⟩
/-- the classes' numbers and slots; the array classes; the String constants' addresses and those of their bytes -/
abbrev xE : Type := va_G × (Nat → ClassId) × (Nat → Nat) × (Nat → Nat)
def xtys (E : xE) : List (ClassId × FieldType) := [(E.2.1 0, .int), (E.2.1 1, .long), (E.2.1 2, .byte), (E.2.1 3, .boolean), (E.2.1 4, .object RX9), (E.2.1 5, .object RX4), (E.2.1 6, .array .int), (E.2.1 7, .array .long)]
def x_slen : List Nat := [4, 5, 7, 4, 2, 4]
def x_sbyt : List (List Int32) := [[102, 114, 101, 101], [98, 111, 117, 110, 100], [108, 101, 116, 116, 101, 114, 115], [104, 101, 97, 112], [105, 115], [110, 111, 110, 101]]
def x_sref : List (Nat × String) := [(52, "free"), (62, "bound"), (64, "letters"), (69, "heap"), (94, "is"), (96, "none")]
/-- what lies outside the pool and stays: the String constants, the statics that String's methods read -/
def xExt (E : xE) (A : Nat → Prop) (U : State) (H : Heap) : Prop :=
  vk_S 6 x_slen x_sbyt E.2.2.1 E.2.2.2 A U H ∧ va_Z "java/lang/String" "COMPACT_STRINGS" "Z" (.int 1) A U H ∧ va_Zq "jdk/internal/util/Preconditions" "SIOOBE_FORMATTER" "Ljava/util/function/BiFunction;" A U H ∧
  ∀ (i : Nat) (q : Nat × String), x_sref[i]? = some q → vk_R RX5 q.1 q.2 (E.2.2.1 i) U
theorem xExt.warm {E : xE} {A : Nat → Prop} {s U : State} {H : Heap} (hW : s.WarmedH U.vm) (h : xExt E A s H) : xExt E A U H :=
  ⟨h.1.moved hW.alike, h.2.1.moved hW.alike, h.2.2.1.moved hW.alike, fun i q hq => (h.2.2.2 i q hq).warm hW⟩
theorem xExt.same {E : xE} {A : Nat → Prop} {s U : State} {H : Heap} (hv : U.vm = s.vm) (h : xExt E A s H) : xExt E A U H :=
  ⟨h.1.moved (hv ▸ Vm.Alike.refl s.vm), h.2.1.moved (hv ▸ Vm.Alike.refl s.vm), h.2.2.1.moved (hv ▸ Vm.Alike.refl s.vm), fun i q hq => (h.2.2.2 i q hq).same hv⟩
theorem xExt.kept {E : xE} {A : Nat → Prop} {U : State} {H H1 : Heap} (h : xExt E A U H) (hq : ∀ a : Nat, a < H.size → ¬ A a → H1[a]? = H[a]?) : xExt E A U H1 :=
  ⟨h.1.kept hq, h.2.1.kept hq, h.2.2.1.kept hq, h.2.2.2⟩
theorem xExt.narrow {E : xE} {A B : Nat → Prop} {U : State} {H : Heap} (h : xExt E A U H) (hAB : ∀ q, B q → A q) : xExt E B U H :=
  ⟨h.1.narrow hAB, h.2.1.narrow hAB, h.2.2.1.narrow hAB, h.2.2.2⟩
abbrev xC : Type := Launch × Program × Env × Room × State × MethodId × Array Value × List Frame × Method × Code
def xOk (E : xE) (X : xC) (A : Nat → Prop) (cc : ByteArray) (own nm : String) (ret : Option FieldType) (rm : Nat × Nat × Nat) : Prop :=
  match X with
  | (_, p, _, R, s, m, args, _, meth, c) => p.tables.exec = Jvm.exec ∧ c.code = cc ∧ s.vm.findClass own = some m.cls ∧ (∀ w ∈ xws, w.before args s = true) ∧ va_K E.1 vwCl (xtys E) s ∧ rm.1 ≤ R.frames ∧ 36 * rm.1 ≤ R.locals ∧ rm.2.1 ≤ R.cells ∧ rm.2.2 ≤ R.slots ∧ (∀ q : Nat, s.heap.size ≤ q → A q) ∧ xExt E A s s.heap ∧ meth.sig.returnType = ret ∧ meth.locks = false ∧ meth.name = nm
/-- the locals: what is known of each place -/
def xL (ls : Array Slot) (loc : List (Option Value)) : Prop := ls.size = loc.length ∧ lv_wf ls ∧ ∀ (i : Nat) (v : Value), loc[i]? = some (some v) → ls[i]? = some (.val v)
def xG (E : xE) (X : xC) (A : Nat → Prop) (Z : State → Prop) (cc : ByteArray) (own nm : String) (ret : Option FieldType) (rm : Nat × Nat × Nat) (L : List Nat) (f : Nat → va_E) (cu su pc : Nat) (loc : List (Option Value)) (stk : List Value) : Prop :=
  match X with
  | (l, p, e, R, s, m, args, below, meth, c) => xOk E X A cc own nm ret rm → ∀ (H : Heap) (locs : List Loc) (ls : Array Slot), va_P E.1 vwCl (va_pl L f) H → va_D A (va_pl L f) → va_S A s.heap H locs → xL ls loc → c.maxLocals = loc.length → W p l e R s m args below meth c H locs cu su Z (F0 m pc ls stk)
section XR
variable {E : xE} {X : xC} {A : Nat → Prop} {Z : State → Prop} {cc : ByteArray} {own nm : String} {ret : Option FieldType} {rm : Nat × Nat × Nat} {L : List Nat} {f : Nat → va_E} {cu su pc : Nat} {loc : List (Option Value)} {stk : List Value}

theorem g_iconst {n : Int} {v : Int32} (d : decode cc pc = .ok (.iconst n, 1)) (hv : Int32.ofInt n = v) (k : xG E X A Z cc own nm ret rm L f cu su (pc + 1) loc (.int v :: stk)) : xG E X A Z cc own nm ret rm L f cu su pc loc (stk) := by
  obtain ⟨l, p, e, R, s, m, args, below, meth, c⟩ := X
  intro hO H locs ls hP hD hS hl hml
  have hx := hO.1
  have hb := hO.2.1
  exact lv_iconst hx hb d hv (k hO H locs ls hP hD hS hl hml)

theorem g_bipush {n : Int} {v : Int32} (d : decode cc pc = .ok (.bipush n, 2)) (hv : (Int8.ofInt n).toInt32 = v) (k : xG E X A Z cc own nm ret rm L f cu su (pc + 2) loc (.int v :: stk)) : xG E X A Z cc own nm ret rm L f cu su pc loc (stk) := by
  obtain ⟨l, p, e, R, s, m, args, below, meth, c⟩ := X
  intro hO H locs ls hP hD hS hl hml
  have hx := hO.1
  have hb := hO.2.1
  exact lv_bipush hx hb d hv (k hO H locs ls hP hD hS hl hml)

theorem g_sipush {n : Int} {v : Int32} (d : decode cc pc = .ok (.sipush n, 3)) (hv : (Int16.ofInt n).toInt32 = v) (k : xG E X A Z cc own nm ret rm L f cu su (pc + 3) loc (.int v :: stk)) : xG E X A Z cc own nm ret rm L f cu su pc loc (stk) := by
  obtain ⟨l, p, e, R, s, m, args, below, meth, c⟩ := X
  intro hO H locs ls hP hD hS hl hml
  have hx := hO.1
  have hb := hO.2.1
  exact lv_sipush hx hb d hv (k hO H locs ls hP hD hS hl hml)

theorem g_lconst {n : Fin 2} {v : Int64} (d : decode cc pc = .ok (.lconst n, 1)) (hv : Int64.ofNat (n : Nat) = v) (k : xG E X A Z cc own nm ret rm L f cu su (pc + 1) loc (.long v :: stk)) : xG E X A Z cc own nm ret rm L f cu su pc loc (stk) := by
  obtain ⟨l, p, e, R, s, m, args, below, meth, c⟩ := X
  intro hO H locs ls hP hD hS hl hml
  have hx := hO.1
  have hb := hO.2.1
  exact lv_lconst hx hb d hv (k hO H locs ls hP hD hS hl hml)

theorem g_iload_n {i : Fin 4} {x : Int32} (d : decode cc pc = .ok (.iload_n i, 1)) (h : loc[(i : Nat)]? = some (some (.int x))) (k : xG E X A Z cc own nm ret rm L f cu su (pc + 1) loc (.int x :: stk)) : xG E X A Z cc own nm ret rm L f cu su pc loc (stk) := by
  obtain ⟨l, p, e, R, s, m, args, below, meth, c⟩ := X
  intro hO H locs ls hP hD hS hl hml
  have hx := hO.1
  have hb := hO.2.1
  exact lv_iload_n hx hb d rfl (hl.2.2 _ _ h) (k hO H locs ls hP hD hS hl hml)

theorem g_iload {i : Nat} {x : Int32} (d : decode cc pc = .ok (.iload i, 2)) (h : loc[i]? = some (some (.int x))) (k : xG E X A Z cc own nm ret rm L f cu su (pc + 2) loc (.int x :: stk)) : xG E X A Z cc own nm ret rm L f cu su pc loc (stk) := by
  obtain ⟨l, p, e, R, s, m, args, below, meth, c⟩ := X
  intro hO H locs ls hP hD hS hl hml
  have hx := hO.1
  have hb := hO.2.1
  exact lv_iload hx hb d (hl.2.2 _ _ h) (k hO H locs ls hP hD hS hl hml)

theorem g_lload_n {i : Fin 4} {x : Int64} (d : decode cc pc = .ok (.lload_n i, 1)) (h : loc[(i : Nat)]? = some (some (.long x))) (k : xG E X A Z cc own nm ret rm L f cu su (pc + 1) loc (.long x :: stk)) : xG E X A Z cc own nm ret rm L f cu su pc loc (stk) := by
  obtain ⟨l, p, e, R, s, m, args, below, meth, c⟩ := X
  intro hO H locs ls hP hD hS hl hml
  have hx := hO.1
  have hb := hO.2.1
  exact lv_lload_n hx hb d rfl (hl.2.2 _ _ h) (k hO H locs ls hP hD hS hl hml)

theorem g_lload {i : Nat} {x : Int64} (d : decode cc pc = .ok (.lload i, 2)) (h : loc[i]? = some (some (.long x))) (k : xG E X A Z cc own nm ret rm L f cu su (pc + 2) loc (.long x :: stk)) : xG E X A Z cc own nm ret rm L f cu su pc loc (stk) := by
  obtain ⟨l, p, e, R, s, m, args, below, meth, c⟩ := X
  intro hO H locs ls hP hD hS hl hml
  have hx := hO.1
  have hb := hO.2.1
  exact lv_lload hx hb d (hl.2.2 _ _ h) (k hO H locs ls hP hD hS hl hml)

theorem g_aload_n {i : Fin 4} {x : Nat} (d : decode cc pc = .ok (.aload_n i, 1)) (h : loc[(i : Nat)]? = some (some (.ref x))) (k : xG E X A Z cc own nm ret rm L f cu su (pc + 1) loc (.ref x :: stk)) : xG E X A Z cc own nm ret rm L f cu su pc loc (stk) := by
  obtain ⟨l, p, e, R, s, m, args, below, meth, c⟩ := X
  intro hO H locs ls hP hD hS hl hml
  have hx := hO.1
  have hb := hO.2.1
  exact lv_aload_n hx hb d rfl (hl.2.2 _ _ h) (k hO H locs ls hP hD hS hl hml)

theorem g_aload {i : Nat} {x : Nat} (d : decode cc pc = .ok (.aload i, 2)) (h : loc[i]? = some (some (.ref x))) (k : xG E X A Z cc own nm ret rm L f cu su (pc + 2) loc (.ref x :: stk)) : xG E X A Z cc own nm ret rm L f cu su pc loc (stk) := by
  obtain ⟨l, p, e, R, s, m, args, below, meth, c⟩ := X
  intro hO H locs ls hP hD hS hl hml
  have hx := hO.1
  have hb := hO.2.1
  exact lv_aload hx hb d (hl.2.2 _ _ h) (k hO H locs ls hP hD hS hl hml)

theorem g_iadd {x y : Int32} (d : decode cc pc = .ok (.iadd, 1))  (k : xG E X A Z cc own nm ret rm L f cu su (pc + 1) loc (.int (x + y) :: stk)) : xG E X A Z cc own nm ret rm L f cu su pc loc (.int y :: .int x :: stk) := by
  obtain ⟨l, p, e, R, s, m, args, below, meth, c⟩ := X
  intro hO H locs ls hP hD hS hl hml
  have hx := hO.1
  have hb := hO.2.1
  exact lv_iadd hx hb d  (k hO H locs ls hP hD hS hl hml)

theorem g_isub {x y : Int32} (d : decode cc pc = .ok (.isub, 1))  (k : xG E X A Z cc own nm ret rm L f cu su (pc + 1) loc (.int (x - y) :: stk)) : xG E X A Z cc own nm ret rm L f cu su pc loc (.int y :: .int x :: stk) := by
  obtain ⟨l, p, e, R, s, m, args, below, meth, c⟩ := X
  intro hO H locs ls hP hD hS hl hml
  have hx := hO.1
  have hb := hO.2.1
  exact lv_isub hx hb d  (k hO H locs ls hP hD hS hl hml)

theorem g_imul {x y : Int32} (d : decode cc pc = .ok (.imul, 1))  (k : xG E X A Z cc own nm ret rm L f cu su (pc + 1) loc (.int (x * y) :: stk)) : xG E X A Z cc own nm ret rm L f cu su pc loc (.int y :: .int x :: stk) := by
  obtain ⟨l, p, e, R, s, m, args, below, meth, c⟩ := X
  intro hO H locs ls hP hD hS hl hml
  have hx := hO.1
  have hb := hO.2.1
  exact lv_imul hx hb d  (k hO H locs ls hP hD hS hl hml)

theorem g_iand {x y : Int32} (d : decode cc pc = .ok (.iand, 1))  (k : xG E X A Z cc own nm ret rm L f cu su (pc + 1) loc (.int (x &&& y) :: stk)) : xG E X A Z cc own nm ret rm L f cu su pc loc (.int y :: .int x :: stk) := by
  obtain ⟨l, p, e, R, s, m, args, below, meth, c⟩ := X
  intro hO H locs ls hP hD hS hl hml
  have hx := hO.1
  have hb := hO.2.1
  exact lv_iand hx hb d  (k hO H locs ls hP hD hS hl hml)

theorem g_ior {x y : Int32} (d : decode cc pc = .ok (.ior, 1))  (k : xG E X A Z cc own nm ret rm L f cu su (pc + 1) loc (.int (x ||| y) :: stk)) : xG E X A Z cc own nm ret rm L f cu su pc loc (.int y :: .int x :: stk) := by
  obtain ⟨l, p, e, R, s, m, args, below, meth, c⟩ := X
  intro hO H locs ls hP hD hS hl hml
  have hx := hO.1
  have hb := hO.2.1
  exact lv_ior hx hb d  (k hO H locs ls hP hD hS hl hml)

theorem g_ixor {x y : Int32} (d : decode cc pc = .ok (.ixor, 1))  (k : xG E X A Z cc own nm ret rm L f cu su (pc + 1) loc (.int (x ^^^ y) :: stk)) : xG E X A Z cc own nm ret rm L f cu su pc loc (.int y :: .int x :: stk) := by
  obtain ⟨l, p, e, R, s, m, args, below, meth, c⟩ := X
  intro hO H locs ls hP hD hS hl hml
  have hx := hO.1
  have hb := hO.2.1
  exact lv_ixor hx hb d  (k hO H locs ls hP hD hS hl hml)

theorem g_ladd {x y : Int64} (d : decode cc pc = .ok (.ladd, 1))  (k : xG E X A Z cc own nm ret rm L f cu su (pc + 1) loc (.long (x + y) :: stk)) : xG E X A Z cc own nm ret rm L f cu su pc loc (.long y :: .long x :: stk) := by
  obtain ⟨l, p, e, R, s, m, args, below, meth, c⟩ := X
  intro hO H locs ls hP hD hS hl hml
  have hx := hO.1
  have hb := hO.2.1
  exact lv_ladd hx hb d  (k hO H locs ls hP hD hS hl hml)

theorem g_lsub {x y : Int64} (d : decode cc pc = .ok (.lsub, 1))  (k : xG E X A Z cc own nm ret rm L f cu su (pc + 1) loc (.long (x - y) :: stk)) : xG E X A Z cc own nm ret rm L f cu su pc loc (.long y :: .long x :: stk) := by
  obtain ⟨l, p, e, R, s, m, args, below, meth, c⟩ := X
  intro hO H locs ls hP hD hS hl hml
  have hx := hO.1
  have hb := hO.2.1
  exact lv_lsub hx hb d  (k hO H locs ls hP hD hS hl hml)

theorem g_lmul {x y : Int64} (d : decode cc pc = .ok (.lmul, 1))  (k : xG E X A Z cc own nm ret rm L f cu su (pc + 1) loc (.long (x * y) :: stk)) : xG E X A Z cc own nm ret rm L f cu su pc loc (.long y :: .long x :: stk) := by
  obtain ⟨l, p, e, R, s, m, args, below, meth, c⟩ := X
  intro hO H locs ls hP hD hS hl hml
  have hx := hO.1
  have hb := hO.2.1
  exact lv_lmul hx hb d  (k hO H locs ls hP hD hS hl hml)

theorem g_land {x y : Int64} (d : decode cc pc = .ok (.land, 1))  (k : xG E X A Z cc own nm ret rm L f cu su (pc + 1) loc (.long (x &&& y) :: stk)) : xG E X A Z cc own nm ret rm L f cu su pc loc (.long y :: .long x :: stk) := by
  obtain ⟨l, p, e, R, s, m, args, below, meth, c⟩ := X
  intro hO H locs ls hP hD hS hl hml
  have hx := hO.1
  have hb := hO.2.1
  exact lv_land hx hb d  (k hO H locs ls hP hD hS hl hml)

theorem g_lor {x y : Int64} (d : decode cc pc = .ok (.lor, 1))  (k : xG E X A Z cc own nm ret rm L f cu su (pc + 1) loc (.long (x ||| y) :: stk)) : xG E X A Z cc own nm ret rm L f cu su pc loc (.long y :: .long x :: stk) := by
  obtain ⟨l, p, e, R, s, m, args, below, meth, c⟩ := X
  intro hO H locs ls hP hD hS hl hml
  have hx := hO.1
  have hb := hO.2.1
  exact lv_lor hx hb d  (k hO H locs ls hP hD hS hl hml)

theorem g_lxor {x y : Int64} (d : decode cc pc = .ok (.lxor, 1))  (k : xG E X A Z cc own nm ret rm L f cu su (pc + 1) loc (.long (x ^^^ y) :: stk)) : xG E X A Z cc own nm ret rm L f cu su pc loc (.long y :: .long x :: stk) := by
  obtain ⟨l, p, e, R, s, m, args, below, meth, c⟩ := X
  intro hO H locs ls hP hD hS hl hml
  have hx := hO.1
  have hb := hO.2.1
  exact lv_lxor hx hb d  (k hO H locs ls hP hD hS hl hml)

theorem g_idiv {x y : Int32} (d : decode cc pc = .ok (.idiv, 1)) (hne : ¬ y = 0) (k : xG E X A Z cc own nm ret rm L f cu su (pc + 1) loc (.int (x / y) :: stk)) : xG E X A Z cc own nm ret rm L f cu su pc loc (.int y :: .int x :: stk) := by
  obtain ⟨l, p, e, R, s, m, args, below, meth, c⟩ := X
  intro hO H locs ls hP hD hS hl hml
  have hx := hO.1
  have hb := hO.2.1
  exact lv_idiv hx hb d hne (k hO H locs ls hP hD hS hl hml)

theorem g_irem {x y : Int32} (d : decode cc pc = .ok (.irem, 1)) (hne : ¬ y = 0) (k : xG E X A Z cc own nm ret rm L f cu su (pc + 1) loc (.int (x - x / y * y) :: stk)) : xG E X A Z cc own nm ret rm L f cu su pc loc (.int y :: .int x :: stk) := by
  obtain ⟨l, p, e, R, s, m, args, below, meth, c⟩ := X
  intro hO H locs ls hP hD hS hl hml
  have hx := hO.1
  have hb := hO.2.1
  exact lv_irem hx hb d hne (k hO H locs ls hP hD hS hl hml)

theorem g_ldiv {x y : Int64} (d : decode cc pc = .ok (.ldiv, 1)) (hne : ¬ y = 0) (k : xG E X A Z cc own nm ret rm L f cu su (pc + 1) loc (.long (x / y) :: stk)) : xG E X A Z cc own nm ret rm L f cu su pc loc (.long y :: .long x :: stk) := by
  obtain ⟨l, p, e, R, s, m, args, below, meth, c⟩ := X
  intro hO H locs ls hP hD hS hl hml
  have hx := hO.1
  have hb := hO.2.1
  exact lv_ldiv hx hb d hne (k hO H locs ls hP hD hS hl hml)

theorem g_lrem {x y : Int64} (d : decode cc pc = .ok (.lrem, 1)) (hne : ¬ y = 0) (k : xG E X A Z cc own nm ret rm L f cu su (pc + 1) loc (.long (x - x / y * y) :: stk)) : xG E X A Z cc own nm ret rm L f cu su pc loc (.long y :: .long x :: stk) := by
  obtain ⟨l, p, e, R, s, m, args, below, meth, c⟩ := X
  intro hO H locs ls hP hD hS hl hml
  have hx := hO.1
  have hb := hO.2.1
  exact lv_lrem hx hb d hne (k hO H locs ls hP hD hS hl hml)

theorem g_ineg {x : Int32} (d : decode cc pc = .ok (.ineg, 1))  (k : xG E X A Z cc own nm ret rm L f cu su (pc + 1) loc (.int (-x) :: stk)) : xG E X A Z cc own nm ret rm L f cu su pc loc (.int x :: stk) := by
  obtain ⟨l, p, e, R, s, m, args, below, meth, c⟩ := X
  intro hO H locs ls hP hD hS hl hml
  have hx := hO.1
  have hb := hO.2.1
  exact lv_ineg hx hb d  (k hO H locs ls hP hD hS hl hml)

theorem g_lneg {x : Int64} (d : decode cc pc = .ok (.lneg, 1))  (k : xG E X A Z cc own nm ret rm L f cu su (pc + 1) loc (.long (-x) :: stk)) : xG E X A Z cc own nm ret rm L f cu su pc loc (.long x :: stk) := by
  obtain ⟨l, p, e, R, s, m, args, below, meth, c⟩ := X
  intro hO H locs ls hP hD hS hl hml
  have hx := hO.1
  have hb := hO.2.1
  exact lv_lneg hx hb d  (k hO H locs ls hP hD hS hl hml)

theorem g_ishl {x y : Int32} (d : decode cc pc = .ok (.ishl, 1))  (k : xG E X A Z cc own nm ret rm L f cu su (pc + 1) loc (.int (x <<< (y &&& 31)) :: stk)) : xG E X A Z cc own nm ret rm L f cu su pc loc (.int y :: .int x :: stk) := by
  obtain ⟨l, p, e, R, s, m, args, below, meth, c⟩ := X
  intro hO H locs ls hP hD hS hl hml
  have hx := hO.1
  have hb := hO.2.1
  exact lv_ishl hx hb d  (k hO H locs ls hP hD hS hl hml)

theorem g_ishr {x y : Int32} (d : decode cc pc = .ok (.ishr, 1))  (k : xG E X A Z cc own nm ret rm L f cu su (pc + 1) loc (.int (x >>> (y &&& 31)) :: stk)) : xG E X A Z cc own nm ret rm L f cu su pc loc (.int y :: .int x :: stk) := by
  obtain ⟨l, p, e, R, s, m, args, below, meth, c⟩ := X
  intro hO H locs ls hP hD hS hl hml
  have hx := hO.1
  have hb := hO.2.1
  exact lv_ishr hx hb d  (k hO H locs ls hP hD hS hl hml)

theorem g_iushr {x y : Int32} (d : decode cc pc = .ok (.iushr, 1))  (k : xG E X A Z cc own nm ret rm L f cu su (pc + 1) loc (.int ((x.toUInt32 >>> (y.toUInt32 &&& Int32.toUInt32 31)).toInt32) :: stk)) : xG E X A Z cc own nm ret rm L f cu su pc loc (.int y :: .int x :: stk) := by
  obtain ⟨l, p, e, R, s, m, args, below, meth, c⟩ := X
  intro hO H locs ls hP hD hS hl hml
  have hx := hO.1
  have hb := hO.2.1
  exact lv_iushr hx hb d rfl (k hO H locs ls hP hD hS hl hml)

theorem g_lushr {x : Int64} {y : Int32} (d : decode cc pc = .ok (.lushr, 1))  (k : xG E X A Z cc own nm ret rm L f cu su (pc + 1) loc (.long ((x.toUInt64 >>> (y.toInt64.toUInt64 &&& Int64.toUInt64 63)).toInt64) :: stk)) : xG E X A Z cc own nm ret rm L f cu su pc loc (.int y :: .long x :: stk) := by
  obtain ⟨l, p, e, R, s, m, args, below, meth, c⟩ := X
  intro hO H locs ls hP hD hS hl hml
  have hx := hO.1
  have hb := hO.2.1
  exact lv_lushr hx hb d rfl (k hO H locs ls hP hD hS hl hml)

theorem g_lshl {x : Int64} {y : Int32} (d : decode cc pc = .ok (.lshl, 1))  (k : xG E X A Z cc own nm ret rm L f cu su (pc + 1) loc (.long (x <<< (y.toInt64 &&& 63)) :: stk)) : xG E X A Z cc own nm ret rm L f cu su pc loc (.int y :: .long x :: stk) := by
  obtain ⟨l, p, e, R, s, m, args, below, meth, c⟩ := X
  intro hO H locs ls hP hD hS hl hml
  have hx := hO.1
  have hb := hO.2.1
  exact lv_lshl hx hb d rfl (k hO H locs ls hP hD hS hl hml)

theorem g_lshr {x : Int64} {y : Int32} (d : decode cc pc = .ok (.lshr, 1))  (k : xG E X A Z cc own nm ret rm L f cu su (pc + 1) loc (.long (x >>> (y.toInt64 &&& 63)) :: stk)) : xG E X A Z cc own nm ret rm L f cu su pc loc (.int y :: .long x :: stk) := by
  obtain ⟨l, p, e, R, s, m, args, below, meth, c⟩ := X
  intro hO H locs ls hP hD hS hl hml
  have hx := hO.1
  have hb := hO.2.1
  exact lv_lshr hx hb d rfl (k hO H locs ls hP hD hS hl hml)

theorem g_i2l {x : Int32} (d : decode cc pc = .ok (.i2l, 1))  (k : xG E X A Z cc own nm ret rm L f cu su (pc + 1) loc (.long x.toInt64 :: stk)) : xG E X A Z cc own nm ret rm L f cu su pc loc (.int x :: stk) := by
  obtain ⟨l, p, e, R, s, m, args, below, meth, c⟩ := X
  intro hO H locs ls hP hD hS hl hml
  have hx := hO.1
  have hb := hO.2.1
  exact lv_i2l hx hb d rfl (k hO H locs ls hP hD hS hl hml)

theorem g_l2i {x : Int64} (d : decode cc pc = .ok (.l2i, 1))  (k : xG E X A Z cc own nm ret rm L f cu su (pc + 1) loc (.int x.toInt32 :: stk)) : xG E X A Z cc own nm ret rm L f cu su pc loc (.long x :: stk) := by
  obtain ⟨l, p, e, R, s, m, args, below, meth, c⟩ := X
  intro hO H locs ls hP hD hS hl hml
  have hx := hO.1
  have hb := hO.2.1
  exact lv_l2i hx hb d rfl (k hO H locs ls hP hD hS hl hml)

theorem g_i2b {x : Int32} (d : decode cc pc = .ok (.i2b, 1))  (k : xG E X A Z cc own nm ret rm L f cu su (pc + 1) loc (.int x.toInt8.toInt32 :: stk)) : xG E X A Z cc own nm ret rm L f cu su pc loc (.int x :: stk) := by
  obtain ⟨l, p, e, R, s, m, args, below, meth, c⟩ := X
  intro hO H locs ls hP hD hS hl hml
  have hx := hO.1
  have hb := hO.2.1
  exact lv_i2b hx hb d rfl (k hO H locs ls hP hD hS hl hml)

theorem g_i2c {x : Int32} (d : decode cc pc = .ok (.i2c, 1))  (k : xG E X A Z cc own nm ret rm L f cu su (pc + 1) loc (.int (x.toUInt32 % 65536).toInt32 :: stk)) : xG E X A Z cc own nm ret rm L f cu su pc loc (.int x :: stk) := by
  obtain ⟨l, p, e, R, s, m, args, below, meth, c⟩ := X
  intro hO H locs ls hP hD hS hl hml
  have hx := hO.1
  have hb := hO.2.1
  exact lv_i2c hx hb d rfl (k hO H locs ls hP hD hS hl hml)

theorem g_lcmp {x y : Int64} (d : decode cc pc = .ok (.lcmp, 1))  (k : xG E X A Z cc own nm ret rm L f cu su (pc + 1) loc (.int (lg_cmp x y) :: stk)) : xG E X A Z cc own nm ret rm L f cu su pc loc (.long y :: .long x :: stk) := by
  obtain ⟨l, p, e, R, s, m, args, below, meth, c⟩ := X
  intro hO H locs ls hP hD hS hl hml
  have hx := hO.1
  have hb := hO.2.1
  exact W.lcmp hx hb d  (k hO H locs ls hP hD hS hl hml)

theorem g_dup {va : Value} (d : decode cc pc = .ok (.dup, 1)) (hva : va.category = 1) (k : xG E X A Z cc own nm ret rm L f cu su (pc + 1) loc (va :: va :: stk)) : xG E X A Z cc own nm ret rm L f cu su pc loc (va :: stk) := by
  obtain ⟨l, p, e, R, s, m, args, below, meth, c⟩ := X
  intro hO H locs ls hP hD hS hl hml
  have hx := hO.1
  have hb := hO.2.1
  exact lv_dup hx hb d hva (k hO H locs ls hP hD hS hl hml)

theorem g_pop {va : Value} (d : decode cc pc = .ok (.pop, 1)) (hva : va.category = 1) (k : xG E X A Z cc own nm ret rm L f cu su (pc + 1) loc (stk)) : xG E X A Z cc own nm ret rm L f cu su pc loc (va :: stk) := by
  obtain ⟨l, p, e, R, s, m, args, below, meth, c⟩ := X
  intro hO H locs ls hP hD hS hl hml
  have hx := hO.1
  have hb := hO.2.1
  exact lv_pop hx hb d hva (k hO H locs ls hP hD hS hl hml)

theorem g_dup_x1 {va vb : Value} (d : decode cc pc = .ok (.dup_x1, 1)) (hva : va.category = 1) (hvb : vb.category = 1) (k : xG E X A Z cc own nm ret rm L f cu su (pc + 1) loc (va :: vb :: va :: stk)) : xG E X A Z cc own nm ret rm L f cu su pc loc (va :: vb :: stk) := by
  obtain ⟨l, p, e, R, s, m, args, below, meth, c⟩ := X
  intro hO H locs ls hP hD hS hl hml
  have hx := hO.1
  have hb := hO.2.1
  exact lv_dup_x1 hx hb d hva hvb (k hO H locs ls hP hD hS hl hml)

theorem g_dup_x2 {va vb vd : Value} (d : decode cc pc = .ok (.dup_x2, 1)) (hva : va.category = 1) (hvb : vb.category = 1) (hvd : vd.category = 1) (k : xG E X A Z cc own nm ret rm L f cu su (pc + 1) loc (va :: vb :: vd :: va :: stk)) : xG E X A Z cc own nm ret rm L f cu su pc loc (va :: vb :: vd :: stk) := by
  obtain ⟨l, p, e, R, s, m, args, below, meth, c⟩ := X
  intro hO H locs ls hP hD hS hl hml
  have hx := hO.1
  have hb := hO.2.1
  exact lv_dup_x2 hx hb d hva hvb hvd (k hO H locs ls hP hD hS hl hml)

theorem g_dup2_11 {va vb : Value} (d : decode cc pc = .ok (.dup2, 1)) (hva : va.category = 1) (hvb : vb.category = 1) (k : xG E X A Z cc own nm ret rm L f cu su (pc + 1) loc (va :: vb :: va :: vb :: stk)) : xG E X A Z cc own nm ret rm L f cu su pc loc (va :: vb :: stk) := by
  obtain ⟨l, p, e, R, s, m, args, below, meth, c⟩ := X
  intro hO H locs ls hP hD hS hl hml
  have hx := hO.1
  have hb := hO.2.1
  exact lv_dup2_11 hx hb d hva hvb (k hO H locs ls hP hD hS hl hml)

theorem g_dup2_2 {va : Value} (d : decode cc pc = .ok (.dup2, 1)) (hva : va.category = 2) (k : xG E X A Z cc own nm ret rm L f cu su (pc + 1) loc (va :: va :: stk)) : xG E X A Z cc own nm ret rm L f cu su pc loc (va :: stk) := by
  obtain ⟨l, p, e, R, s, m, args, below, meth, c⟩ := X
  intro hO H locs ls hP hD hS hl hml
  have hx := hO.1
  have hb := hO.2.1
  exact lv_dup2_2 hx hb d hva (k hO H locs ls hP hD hS hl hml)

theorem g_dup2_x1_2 {va vb : Value} (d : decode cc pc = .ok (.dup2_x1, 1)) (hva : va.category = 2) (hvb : vb.category = 1) (k : xG E X A Z cc own nm ret rm L f cu su (pc + 1) loc (va :: vb :: va :: stk)) : xG E X A Z cc own nm ret rm L f cu su pc loc (va :: vb :: stk) := by
  obtain ⟨l, p, e, R, s, m, args, below, meth, c⟩ := X
  intro hO H locs ls hP hD hS hl hml
  have hx := hO.1
  have hb := hO.2.1
  exact lv_dup2_x1_2 hx hb d hva hvb (k hO H locs ls hP hD hS hl hml)

theorem g_dup2_x2_2 {va vb vd : Value} (d : decode cc pc = .ok (.dup2_x2, 1)) (hva : va.category = 2) (hvb : vb.category = 1) (hvd : vd.category = 1) (k : xG E X A Z cc own nm ret rm L f cu su (pc + 1) loc (va :: vb :: vd :: va :: stk)) : xG E X A Z cc own nm ret rm L f cu su pc loc (va :: vb :: vd :: stk) := by
  obtain ⟨l, p, e, R, s, m, args, below, meth, c⟩ := X
  intro hO H locs ls hP hD hS hl hml
  have hx := hO.1
  have hb := hO.2.1
  exact lv_dup2_x2_2 hx hb d hva hvb hvd (k hO H locs ls hP hD hS hl hml)

theorem g_goto {off : Int} (tgt : Nat) (d : decode cc pc = .ok (.goto off, 3)) (ht : (pc : Int) + off = (tgt : Int)) (k : xG E X A Z cc own nm ret rm L f cu su tgt loc stk) : xG E X A Z cc own nm ret rm L f cu su pc loc stk := by
  obtain ⟨l, p, e, R, s, m, args, below, meth, c⟩ := X
  intro hO H locs ls hP hD hS hl hml
  exact lv_goto hO.1 hO.2.1 d ht (k hO H locs ls hP hD hS hl hml)

theorem g_if_eq {x : Int32} {off : Int} (tgt : Nat) (d : decode cc pc = .ok (.ifCond .eq off, 3)) (ht : (pc : Int) + off = (tgt : Int)) (kt : (x = 0) → xG E X A Z cc own nm ret rm L f cu su tgt loc stk) (kf : ¬ (x = 0) → xG E X A Z cc own nm ret rm L f cu su (pc + 3) loc stk) : xG E X A Z cc own nm ret rm L f cu su pc loc (.int x :: stk) := by
  obtain ⟨l, p, e, R, s, m, args, below, meth, c⟩ := X
  intro hO H locs ls hP hD hS hl hml
  exact lv_if_eq hO.1 hO.2.1 d ht (fun q => kt (by first | exact q | simpa using q) hO H locs ls hP hD hS hl hml) (fun q => kf (by first | exact q | simpa using q) hO H locs ls hP hD hS hl hml)

theorem g_icmp_eq {x y : Int32} {off : Int} (tgt : Nat) (d : decode cc pc = .ok (.if_icmp .eq off, 3)) (ht : (pc : Int) + off = (tgt : Int)) (kt : (x = y) → xG E X A Z cc own nm ret rm L f cu su tgt loc stk) (kf : ¬ (x = y) → xG E X A Z cc own nm ret rm L f cu su (pc + 3) loc stk) : xG E X A Z cc own nm ret rm L f cu su pc loc (.int y :: .int x :: stk) := by
  obtain ⟨l, p, e, R, s, m, args, below, meth, c⟩ := X
  intro hO H locs ls hP hD hS hl hml
  exact lv_icmp_eq hO.1 hO.2.1 d ht (fun q => kt (by first | exact q | simpa using q) hO H locs ls hP hD hS hl hml) (fun q => kf (by first | exact q | simpa using q) hO H locs ls hP hD hS hl hml)

theorem g_if_ne {x : Int32} {off : Int} (tgt : Nat) (d : decode cc pc = .ok (.ifCond .ne off, 3)) (ht : (pc : Int) + off = (tgt : Int)) (kt : (¬ x = 0) → xG E X A Z cc own nm ret rm L f cu su tgt loc stk) (kf : ¬ (¬ x = 0) → xG E X A Z cc own nm ret rm L f cu su (pc + 3) loc stk) : xG E X A Z cc own nm ret rm L f cu su pc loc (.int x :: stk) := by
  obtain ⟨l, p, e, R, s, m, args, below, meth, c⟩ := X
  intro hO H locs ls hP hD hS hl hml
  exact lv_if_ne hO.1 hO.2.1 d ht (fun q => kt (by first | exact q | simpa using q) hO H locs ls hP hD hS hl hml) (fun q => kf (by first | exact q | simpa using q) hO H locs ls hP hD hS hl hml)

theorem g_icmp_ne {x y : Int32} {off : Int} (tgt : Nat) (d : decode cc pc = .ok (.if_icmp .ne off, 3)) (ht : (pc : Int) + off = (tgt : Int)) (kt : (¬ x = y) → xG E X A Z cc own nm ret rm L f cu su tgt loc stk) (kf : ¬ (¬ x = y) → xG E X A Z cc own nm ret rm L f cu su (pc + 3) loc stk) : xG E X A Z cc own nm ret rm L f cu su pc loc (.int y :: .int x :: stk) := by
  obtain ⟨l, p, e, R, s, m, args, below, meth, c⟩ := X
  intro hO H locs ls hP hD hS hl hml
  exact lv_icmp_ne hO.1 hO.2.1 d ht (fun q => kt (by first | exact q | simpa using q) hO H locs ls hP hD hS hl hml) (fun q => kf (by first | exact q | simpa using q) hO H locs ls hP hD hS hl hml)

theorem g_if_lt {x : Int32} {off : Int} (tgt : Nat) (d : decode cc pc = .ok (.ifCond .lt off, 3)) (ht : (pc : Int) + off = (tgt : Int)) (kt : (x < 0) → xG E X A Z cc own nm ret rm L f cu su tgt loc stk) (kf : ¬ (x < 0) → xG E X A Z cc own nm ret rm L f cu su (pc + 3) loc stk) : xG E X A Z cc own nm ret rm L f cu su pc loc (.int x :: stk) := by
  obtain ⟨l, p, e, R, s, m, args, below, meth, c⟩ := X
  intro hO H locs ls hP hD hS hl hml
  exact lv_if_lt hO.1 hO.2.1 d ht (fun q => kt (by first | exact q | simpa using q) hO H locs ls hP hD hS hl hml) (fun q => kf (by first | exact q | simpa using q) hO H locs ls hP hD hS hl hml)

theorem g_icmp_lt {x y : Int32} {off : Int} (tgt : Nat) (d : decode cc pc = .ok (.if_icmp .lt off, 3)) (ht : (pc : Int) + off = (tgt : Int)) (kt : (x < y) → xG E X A Z cc own nm ret rm L f cu su tgt loc stk) (kf : ¬ (x < y) → xG E X A Z cc own nm ret rm L f cu su (pc + 3) loc stk) : xG E X A Z cc own nm ret rm L f cu su pc loc (.int y :: .int x :: stk) := by
  obtain ⟨l, p, e, R, s, m, args, below, meth, c⟩ := X
  intro hO H locs ls hP hD hS hl hml
  exact lv_icmp_lt hO.1 hO.2.1 d ht (fun q => kt (by first | exact q | simpa using q) hO H locs ls hP hD hS hl hml) (fun q => kf (by first | exact q | simpa using q) hO H locs ls hP hD hS hl hml)

theorem g_if_ge {x : Int32} {off : Int} (tgt : Nat) (d : decode cc pc = .ok (.ifCond .ge off, 3)) (ht : (pc : Int) + off = (tgt : Int)) (kt : (0 ≤ x) → xG E X A Z cc own nm ret rm L f cu su tgt loc stk) (kf : ¬ (0 ≤ x) → xG E X A Z cc own nm ret rm L f cu su (pc + 3) loc stk) : xG E X A Z cc own nm ret rm L f cu su pc loc (.int x :: stk) := by
  obtain ⟨l, p, e, R, s, m, args, below, meth, c⟩ := X
  intro hO H locs ls hP hD hS hl hml
  exact lv_if_ge hO.1 hO.2.1 d ht (fun q => kt (by first | exact q | simpa using q) hO H locs ls hP hD hS hl hml) (fun q => kf (by first | exact q | simpa using q) hO H locs ls hP hD hS hl hml)

theorem g_icmp_ge {x y : Int32} {off : Int} (tgt : Nat) (d : decode cc pc = .ok (.if_icmp .ge off, 3)) (ht : (pc : Int) + off = (tgt : Int)) (kt : (y ≤ x) → xG E X A Z cc own nm ret rm L f cu su tgt loc stk) (kf : ¬ (y ≤ x) → xG E X A Z cc own nm ret rm L f cu su (pc + 3) loc stk) : xG E X A Z cc own nm ret rm L f cu su pc loc (.int y :: .int x :: stk) := by
  obtain ⟨l, p, e, R, s, m, args, below, meth, c⟩ := X
  intro hO H locs ls hP hD hS hl hml
  exact lv_icmp_ge hO.1 hO.2.1 d ht (fun q => kt (by first | exact q | simpa using q) hO H locs ls hP hD hS hl hml) (fun q => kf (by first | exact q | simpa using q) hO H locs ls hP hD hS hl hml)

theorem g_if_gt {x : Int32} {off : Int} (tgt : Nat) (d : decode cc pc = .ok (.ifCond .gt off, 3)) (ht : (pc : Int) + off = (tgt : Int)) (kt : (0 < x) → xG E X A Z cc own nm ret rm L f cu su tgt loc stk) (kf : ¬ (0 < x) → xG E X A Z cc own nm ret rm L f cu su (pc + 3) loc stk) : xG E X A Z cc own nm ret rm L f cu su pc loc (.int x :: stk) := by
  obtain ⟨l, p, e, R, s, m, args, below, meth, c⟩ := X
  intro hO H locs ls hP hD hS hl hml
  exact lv_if_gt hO.1 hO.2.1 d ht (fun q => kt (by first | exact q | simpa using q) hO H locs ls hP hD hS hl hml) (fun q => kf (by first | exact q | simpa using q) hO H locs ls hP hD hS hl hml)

theorem g_icmp_gt {x y : Int32} {off : Int} (tgt : Nat) (d : decode cc pc = .ok (.if_icmp .gt off, 3)) (ht : (pc : Int) + off = (tgt : Int)) (kt : (y < x) → xG E X A Z cc own nm ret rm L f cu su tgt loc stk) (kf : ¬ (y < x) → xG E X A Z cc own nm ret rm L f cu su (pc + 3) loc stk) : xG E X A Z cc own nm ret rm L f cu su pc loc (.int y :: .int x :: stk) := by
  obtain ⟨l, p, e, R, s, m, args, below, meth, c⟩ := X
  intro hO H locs ls hP hD hS hl hml
  exact lv_icmp_gt hO.1 hO.2.1 d ht (fun q => kt (by first | exact q | simpa using q) hO H locs ls hP hD hS hl hml) (fun q => kf (by first | exact q | simpa using q) hO H locs ls hP hD hS hl hml)

theorem g_if_le {x : Int32} {off : Int} (tgt : Nat) (d : decode cc pc = .ok (.ifCond .le off, 3)) (ht : (pc : Int) + off = (tgt : Int)) (kt : (x ≤ 0) → xG E X A Z cc own nm ret rm L f cu su tgt loc stk) (kf : ¬ (x ≤ 0) → xG E X A Z cc own nm ret rm L f cu su (pc + 3) loc stk) : xG E X A Z cc own nm ret rm L f cu su pc loc (.int x :: stk) := by
  obtain ⟨l, p, e, R, s, m, args, below, meth, c⟩ := X
  intro hO H locs ls hP hD hS hl hml
  exact lv_if_le hO.1 hO.2.1 d ht (fun q => kt (by first | exact q | simpa using q) hO H locs ls hP hD hS hl hml) (fun q => kf (by first | exact q | simpa using q) hO H locs ls hP hD hS hl hml)

theorem g_icmp_le {x y : Int32} {off : Int} (tgt : Nat) (d : decode cc pc = .ok (.if_icmp .le off, 3)) (ht : (pc : Int) + off = (tgt : Int)) (kt : (x ≤ y) → xG E X A Z cc own nm ret rm L f cu su tgt loc stk) (kf : ¬ (x ≤ y) → xG E X A Z cc own nm ret rm L f cu su (pc + 3) loc stk) : xG E X A Z cc own nm ret rm L f cu su pc loc (.int y :: .int x :: stk) := by
  obtain ⟨l, p, e, R, s, m, args, below, meth, c⟩ := X
  intro hO H locs ls hP hD hS hl hml
  exact lv_icmp_le hO.1 hO.2.1 d ht (fun q => kt (by first | exact q | simpa using q) hO H locs ls hP hD hS hl hml) (fun q => kf (by first | exact q | simpa using q) hO H locs ls hP hD hS hl hml)

theorem g_ifnonnull {x : Nat} {off : Int} (tgt : Nat) (d : decode cc pc = .ok (.ifnonnull off, 3)) (ht : (pc : Int) + off = (tgt : Int)) (k : xG E X A Z cc own nm ret rm L f cu su tgt loc stk) : xG E X A Z cc own nm ret rm L f cu su pc loc (.ref x :: stk) := by
  obtain ⟨l, p, e, R, s, m, args, below, meth, c⟩ := X
  intro hO H locs ls hP hD hS hl hml
  exact lv_ifnonnull hO.1 hO.2.1 d ht (k hO H locs ls hP hD hS hl hml)
theorem g_ifnull {x : Nat} {off : Int} (d : decode cc pc = .ok (.ifnull off, 3)) (k : xG E X A Z cc own nm ret rm L f cu su (pc + 3) loc stk) : xG E X A Z cc own nm ret rm L f cu su pc loc (.ref x :: stk) := by
  obtain ⟨l, p, e, R, s, m, args, below, meth, c⟩ := X
  intro hO H locs ls hP hD hS hl hml
  exact lv_ifnull hO.1 hO.2.1 d (k hO H locs ls hP hD hS hl hml)
theorem g_ifnonnullN {off : Int} (d : decode cc pc = .ok (.ifnonnull off, 3)) (k : xG E X A Z cc own nm ret rm L f cu su (pc + 3) loc stk) : xG E X A Z cc own nm ret rm L f cu su pc loc (.null :: stk) := by
  obtain ⟨l, p, e, R, s, m, args, below, meth, c⟩ := X
  intro hO H locs ls hP hD hS hl hml
  exact lv_ifnonnullN hO.1 hO.2.1 d (k hO H locs ls hP hD hS hl hml)
theorem g_ifnullN {off : Int} (tgt : Nat) (d : decode cc pc = .ok (.ifnull off, 3)) (ht : (pc : Int) + off = (tgt : Int)) (k : xG E X A Z cc own nm ret rm L f cu su tgt loc stk) : xG E X A Z cc own nm ret rm L f cu su pc loc (.null :: stk) := by
  obtain ⟨l, p, e, R, s, m, args, below, meth, c⟩ := X
  intro hO H locs ls hP hD hS hl hml
  exact lv_ifnullN hO.1 hO.2.1 d ht (k hO H locs ls hP hD hS hl hml)
theorem g_null (d : decode cc pc = .ok (.aconst_null, 1)) (k : xG E X A Z cc own nm ret rm L f cu su (pc + 1) loc (.null :: stk)) : xG E X A Z cc own nm ret rm L f cu su pc loc stk := by
  obtain ⟨l, p, e, R, s, m, args, below, meth, c⟩ := X
  intro hO H locs ls hP hD hS hl hml
  exact lv_null hO.1 hO.2.1 d (k hO H locs ls hP hD hS hl hml)
theorem g_aload_nN {i : Fin 4} (d : decode cc pc = .ok (.aload_n i, 1)) (h : loc[(i : Nat)]? = some (some .null)) (k : xG E X A Z cc own nm ret rm L f cu su (pc + 1) loc (.null :: stk)) : xG E X A Z cc own nm ret rm L f cu su pc loc stk := by
  obtain ⟨l, p, e, R, s, m, args, below, meth, c⟩ := X
  intro hO H locs ls hP hD hS hl hml
  exact lv_aload_nN hO.1 hO.2.1 d rfl (hl.2.2 _ _ h) (k hO H locs ls hP hD hS hl hml)
theorem g_aloadN {i : Nat} (d : decode cc pc = .ok (.aload i, 2)) (h : loc[i]? = some (some .null)) (k : xG E X A Z cc own nm ret rm L f cu su (pc + 2) loc (.null :: stk)) : xG E X A Z cc own nm ret rm L f cu su pc loc stk := by
  obtain ⟨l, p, e, R, s, m, args, below, meth, c⟩ := X
  intro hO H locs ls hP hD hS hl hml
  exact lv_aloadN hO.1 hO.2.1 d (hl.2.2 _ _ h) (k hO H locs ls hP hD hS hl hml)
theorem g_ldc {index : Nat} {v : Int32} (hc : Cond.constant own index v ∈ xws) (d : decode cc pc = .ok (.ldc index, 2)) (k : xG E X A Z cc own nm ret rm L f cu su (pc + 2) loc (.int v :: stk)) : xG E X A Z cc own nm ret rm L f cu su pc loc stk := by
  obtain ⟨l, p, e, R, s, m, args, below, meth, c⟩ := X
  intro hO H locs ls hP hD hS hl hml
  exact lv_ldc hO.1 hO.2.1 hO.2.2.1 (hO.2.2.2.1 _ hc) d (k hO H locs ls hP hD hS hl hml)
theorem g_ldcw {index : Nat} {v : Int32} (hc : Cond.constant own index v ∈ xws) (d : decode cc pc = .ok (.ldc_w index, 3)) (k : xG E X A Z cc own nm ret rm L f cu su (pc + 3) loc (.int v :: stk)) : xG E X A Z cc own nm ret rm L f cu su pc loc stk := by
  obtain ⟨l, p, e, R, s, m, args, below, meth, c⟩ := X
  intro hO H locs ls hP hD hS hl hml
  exact lv_ldcw hO.1 hO.2.1 hO.2.2.1 (hO.2.2.2.1 _ hc) d (k hO H locs ls hP hD hS hl hml)
theorem g_ldc2 {index : Nat} {v : Int64} (hc : Cond.constantLong own index v ∈ xws) (d : decode cc pc = .ok (.ldc2_w index, 3)) (k : xG E X A Z cc own nm ret rm L f cu su (pc + 3) loc (.long v :: stk)) : xG E X A Z cc own nm ret rm L f cu su pc loc stk := by
  obtain ⟨l, p, e, R, s, m, args, below, meth, c⟩ := X
  intro hO H locs ls hP hD hS hl hml
  exact lv_ldc2 hO.1 hO.2.1 hO.2.2.1 (hO.2.2.2.1 _ hc) d (k hO H locs ls hP hD hS hl hml)
/-- a String constant -/
theorem g_ldcS {i index : Nat} {tx : String} (ho : own = RX5) (hi : x_sref[i]? = some (index, tx)) (d : decode cc pc = .ok (.ldc index, 2)) (k : xG E X A Z cc own nm ret rm L f cu su (pc + 2) loc (.ref (E.2.2.1 i) :: stk)) : xG E X A Z cc own nm ret rm L f cu su pc loc stk := by
  obtain ⟨l, p, e, R, s, m, args, below, meth, c⟩ := X
  subst ho
  intro hO H locs ls hP hD hS hl hml
  exact va_ldcS hO.1 hO.2.1 hO.2.2.1 (hO.2.2.2.2.2.2.2.2.2.2.1.2.2.2 i _ hi) d (k hO H locs ls hP hD hS hl hml)
/-- a computed number gets a name -/
theorem g_topi {x : Int32} (k : ∀ y : Int32, y = x → xG E X A Z cc own nm ret rm L f cu su pc loc (.int y :: stk)) : xG E X A Z cc own nm ret rm L f cu su pc loc (.int x :: stk) := k x rfl
theorem g_topl {x : Int64} (k : ∀ y : Int64, y = x → xG E X A Z cc own nm ret rm L f cu su pc loc (.long y :: stk)) : xG E X A Z cc own nm ret rm L f cu su pc loc (.long x :: stk) := k x rfl
theorem g_eqi {x y : Int32} (h : x = y) (k : xG E X A Z cc own nm ret rm L f cu su pc loc (.int y :: stk)) : xG E X A Z cc own nm ret rm L f cu su pc loc (.int x :: stk) := h ▸ k
theorem g_eql {x y : Int64} (h : x = y) (k : xG E X A Z cc own nm ret rm L f cu su pc loc (.long y :: stk)) : xG E X A Z cc own nm ret rm L f cu su pc loc (.long x :: stk) := h ▸ k
/-- fewer known locals -/
theorem g_loc {loc' : List (Option Value)} (hn : loc'.length = loc.length) (h : ∀ (i : Nat) (v : Value), loc'[i]? = some (some v) → loc[i]? = some (some v)) (k : xG E X A Z cc own nm ret rm L f cu su pc loc' stk) : xG E X A Z cc own nm ret rm L f cu su pc loc stk := by
  obtain ⟨l, p, e, R, s, m, args, below, meth, c⟩ := X
  intro hO H locs ls hP hD hS hl hml
  exact k hO H locs ls hP hD hS ⟨hl.1.trans hn.symm, hl.2.1, fun i v hv => hl.2.2 i v (h i v hv)⟩ (hml.trans hn.symm)

/-- the place ahead of i holds no long -/
def xnl (loc : List (Option Value)) (i : Nat) : Bool := match i with
  | 0 => true
  | j + 1 => match loc[j]? with
    | some (some v) => v.category == 1
    | _ => true
theorem x_st1 {ls : Array Slot} {i : Nat} {v : Value} (hl : xL ls loc) (hc : v.category = 1) (hi : i < loc.length) (hn : xnl loc i = true) : ∃ ls', storeLocals ls i v = some ls' ∧ xL ls' (loc.set i (some v)) := by
  have h0 : lv_has ls loc.length ((List.range loc.length).filterMap (fun j => (loc[j]?.join).map (fun v => (j, v)))) := by
    refine ⟨hl.1, hl.2.1, fun q hq => ?_⟩
    obtain ⟨j, -, hj⟩ := List.mem_filterMap.mp hq
    cases hx : loc[j]? with
    | none => rw [hx] at hj; cases hj
    | some o =>
      cases o with
      | none => rw [hx] at hj; cases hj
      | some w =>
        rw [hx] at hj
        cases hj
        exact hl.2.2 j w hx
  obtain ⟨ls', e', h'⟩ := lv_store1 (v := v) h0 hi hc
  refine ⟨ls', e', by rw [List.length_set]; exact h'.1, h'.2.1, fun j w hw => ?_⟩
  by_cases hj : j = i
  · subst hj
    rw [List.getElem?_set_self hi] at hw
    cases hw
    exact h'.2.2 (j, v) List.mem_cons_self
  · rw [List.getElem?_set_ne (Ne.symm hj)] at hw
    refine h'.2.2 (j, w) (List.mem_cons_of_mem _ (List.mem_filter.mpr ⟨List.mem_filterMap.mpr ⟨j, List.mem_range.mpr (List.getElem?_eq_some_iff.mp hw).1, by rw [hw]; rfl⟩, ?_⟩))
    simp only [Bool.and_eq_true, Bool.not_eq_true', beq_eq_false_iff_ne, ne_eq, Bool.and_eq_false_iff]
    refine ⟨hj, ?_⟩
    by_cases h1 : j + 1 = i
    · refine Or.inr ?_
      subst h1
      simp only [xnl, hw, beq_iff_eq] at hn
      omega
    · exact Or.inl h1
theorem x_st2 {ls : Array Slot} {i : Nat} {v : Value} (hl : xL ls loc) (hc : v.category = 2) (hi : i + 1 < loc.length) (hn : xnl loc i = true) : ∃ ls', storeLocals ls i v = some ls' ∧ xL ls' ((loc.set i (some v)).set (i + 1) none) := by
  have h0 : lv_has ls loc.length ((List.range loc.length).filterMap (fun j => (loc[j]?.join).map (fun v => (j, v)))) := by
    refine ⟨hl.1, hl.2.1, fun q hq => ?_⟩
    obtain ⟨j, -, hj⟩ := List.mem_filterMap.mp hq
    cases hx : loc[j]? with
    | none => rw [hx] at hj; cases hj
    | some o =>
      cases o with
      | none => rw [hx] at hj; cases hj
      | some w =>
        rw [hx] at hj
        cases hj
        exact hl.2.2 j w hx
  obtain ⟨ls', e', h'⟩ := lv_store2 (v := v) h0 hi hc
  refine ⟨ls', e', by rw [List.length_set, List.length_set]; exact h'.1, h'.2.1, fun j w hw => ?_⟩
  by_cases hj2 : j = i + 1
  · subst hj2
    rw [List.getElem?_set_self (by rw [List.length_set]; exact hi)] at hw
    cases hw
  rw [List.getElem?_set_ne (Ne.symm hj2)] at hw
  by_cases hj : j = i
  · subst hj
    rw [List.getElem?_set_self (by omega)] at hw
    cases hw
    exact h'.2.2 (j, v) List.mem_cons_self
  · rw [List.getElem?_set_ne (Ne.symm hj)] at hw
    refine h'.2.2 (j, w) (List.mem_cons_of_mem _ (List.mem_filter.mpr ⟨List.mem_filterMap.mpr ⟨j, List.mem_range.mpr (List.getElem?_eq_some_iff.mp hw).1, by rw [hw]; rfl⟩, ?_⟩))
    simp only [Bool.and_eq_true, Bool.not_eq_true', beq_eq_false_iff_ne, ne_eq, Bool.and_eq_false_iff]
    refine ⟨hj, hj2, ?_⟩
    by_cases h1 : j + 1 = i
    · refine Or.inr ?_
      subst h1
      simp only [xnl, hw, beq_iff_eq] at hn
      omega
    · exact Or.inl h1

theorem g_istore_n {i : Fin 4} {x : Int32} (d : decode cc pc = .ok (.istore_n i, 1)) (hi : (i : Nat) < loc.length) (hn : xnl loc (i : Nat) = true) (k : xG E X A Z cc own nm ret rm L f cu su (pc + 1) (loc.set (i : Nat) (some (.int x))) stk) : xG E X A Z cc own nm ret rm L f cu su pc loc (.int x :: stk) := by
  obtain ⟨l, p, e, R, s, m, args, below, meth, c⟩ := X
  intro hO H locs ls hP hD hS hl hml
  have hx := hO.1
  have hb := hO.2.1
  obtain ⟨ls', e', h'⟩ := x_st1 (v := .int x) hl rfl hi hn
  intro T hT X
  obtain ⟨t, a, b⟩ := k hO H locs ls' hP hD hS h' (by simpa using hml) T hT X
  refine ⟨t, ?_, b⟩
  jvm_step X.here [X.here.top, ↓top_set X.here.top, hx, hb, d, e']
  exact a

theorem g_istore {i : Nat} {x : Int32} (d : decode cc pc = .ok (.istore i, 2)) (hi : i < loc.length) (hn : xnl loc i = true) (k : xG E X A Z cc own nm ret rm L f cu su (pc + 2) (loc.set i (some (.int x))) stk) : xG E X A Z cc own nm ret rm L f cu su pc loc (.int x :: stk) := by
  obtain ⟨l, p, e, R, s, m, args, below, meth, c⟩ := X
  intro hO H locs ls hP hD hS hl hml
  have hx := hO.1
  have hb := hO.2.1
  obtain ⟨ls', e', h'⟩ := x_st1 (v := .int x) hl rfl hi hn
  intro T hT X
  obtain ⟨t, a, b⟩ := k hO H locs ls' hP hD hS h' (by simpa using hml) T hT X
  refine ⟨t, ?_, b⟩
  jvm_step X.here [X.here.top, ↓top_set X.here.top, hx, hb, d, e']
  exact a

theorem g_lstore_n {i : Fin 4} {x : Int64} (d : decode cc pc = .ok (.lstore_n i, 1)) (hi : (i : Nat) + 1 < loc.length) (hn : xnl loc (i : Nat) = true) (k : xG E X A Z cc own nm ret rm L f cu su (pc + 1) ((loc.set (i : Nat) (some (.long x))).set ((i : Nat) + 1) none) stk) : xG E X A Z cc own nm ret rm L f cu su pc loc (.long x :: stk) := by
  obtain ⟨l, p, e, R, s, m, args, below, meth, c⟩ := X
  intro hO H locs ls hP hD hS hl hml
  have hx := hO.1
  have hb := hO.2.1
  obtain ⟨ls', e', h'⟩ := x_st2 (v := .long x) hl rfl hi hn
  intro T hT X
  obtain ⟨t, a, b⟩ := k hO H locs ls' hP hD hS h' (by simpa using hml) T hT X
  refine ⟨t, ?_, b⟩
  jvm_step X.here [X.here.top, ↓top_set X.here.top, hx, hb, d, e']
  exact a

theorem g_lstore {i : Nat} {x : Int64} (d : decode cc pc = .ok (.lstore i, 2)) (hi : i + 1 < loc.length) (hn : xnl loc i = true) (k : xG E X A Z cc own nm ret rm L f cu su (pc + 2) ((loc.set i (some (.long x))).set (i + 1) none) stk) : xG E X A Z cc own nm ret rm L f cu su pc loc (.long x :: stk) := by
  obtain ⟨l, p, e, R, s, m, args, below, meth, c⟩ := X
  intro hO H locs ls hP hD hS hl hml
  have hx := hO.1
  have hb := hO.2.1
  obtain ⟨ls', e', h'⟩ := x_st2 (v := .long x) hl rfl hi hn
  intro T hT X
  obtain ⟨t, a, b⟩ := k hO H locs ls' hP hD hS h' (by simpa using hml) T hT X
  refine ⟨t, ?_, b⟩
  jvm_step X.here [X.here.top, ↓top_set X.here.top, hx, hb, d, e']
  exact a

theorem g_astore_n {i : Fin 4} {x : Nat} (d : decode cc pc = .ok (.astore_n i, 1)) (hi : (i : Nat) < loc.length) (hn : xnl loc (i : Nat) = true) (k : xG E X A Z cc own nm ret rm L f cu su (pc + 1) (loc.set (i : Nat) (some (.ref x))) stk) : xG E X A Z cc own nm ret rm L f cu su pc loc (.ref x :: stk) := by
  obtain ⟨l, p, e, R, s, m, args, below, meth, c⟩ := X
  intro hO H locs ls hP hD hS hl hml
  have hx := hO.1
  have hb := hO.2.1
  obtain ⟨ls', e', h'⟩ := x_st1 (v := .ref x) hl rfl hi hn
  intro T hT X
  obtain ⟨t, a, b⟩ := k hO H locs ls' hP hD hS h' (by simpa using hml) T hT X
  refine ⟨t, ?_, b⟩
  jvm_step X.here [X.here.top, ↓top_set X.here.top, hx, hb, d, e']
  exact ⟨rfl, a⟩

theorem g_astore {i : Nat} {x : Nat} (d : decode cc pc = .ok (.astore i, 2)) (hi : i < loc.length) (hn : xnl loc i = true) (k : xG E X A Z cc own nm ret rm L f cu su (pc + 2) (loc.set i (some (.ref x))) stk) : xG E X A Z cc own nm ret rm L f cu su pc loc (.ref x :: stk) := by
  obtain ⟨l, p, e, R, s, m, args, below, meth, c⟩ := X
  intro hO H locs ls hP hD hS hl hml
  have hx := hO.1
  have hb := hO.2.1
  obtain ⟨ls', e', h'⟩ := x_st1 (v := .ref x) hl rfl hi hn
  intro T hT X
  obtain ⟨t, a, b⟩ := k hO H locs ls' hP hD hS h' (by simpa using hml) T hT X
  refine ⟨t, ?_, b⟩
  jvm_step X.here [X.here.top, ↓top_set X.here.top, hx, hb, d, e']
  exact ⟨rfl, a⟩

theorem g_astore_nN {i : Fin 4}  (d : decode cc pc = .ok (.astore_n i, 1)) (hi : (i : Nat) < loc.length) (hn : xnl loc (i : Nat) = true) (k : xG E X A Z cc own nm ret rm L f cu su (pc + 1) (loc.set (i : Nat) (some (.null))) stk) : xG E X A Z cc own nm ret rm L f cu su pc loc (.null :: stk) := by
  obtain ⟨l, p, e, R, s, m, args, below, meth, c⟩ := X
  intro hO H locs ls hP hD hS hl hml
  have hx := hO.1
  have hb := hO.2.1
  obtain ⟨ls', e', h'⟩ := x_st1 (v := .null) hl rfl hi hn
  intro T hT X
  obtain ⟨t, a, b⟩ := k hO H locs ls' hP hD hS h' (by simpa using hml) T hT X
  refine ⟨t, ?_, b⟩
  jvm_step X.here [X.here.top, ↓top_set X.here.top, hx, hb, d, e']
  exact ⟨rfl, a⟩

theorem g_astoreN {i : Nat}  (d : decode cc pc = .ok (.astore i, 2)) (hi : i < loc.length) (hn : xnl loc i = true) (k : xG E X A Z cc own nm ret rm L f cu su (pc + 2) (loc.set i (some (.null))) stk) : xG E X A Z cc own nm ret rm L f cu su pc loc (.null :: stk) := by
  obtain ⟨l, p, e, R, s, m, args, below, meth, c⟩ := X
  intro hO H locs ls hP hD hS hl hml
  have hx := hO.1
  have hb := hO.2.1
  obtain ⟨ls', e', h'⟩ := x_st1 (v := .null) hl rfl hi hn
  intro T hT X
  obtain ⟨t, a, b⟩ := k hO H locs ls' hP hD hS h' (by simpa using hml) T hT X
  refine ⟨t, ?_, b⟩
  jvm_step X.here [X.here.top, ↓top_set X.here.top, hx, hb, d, e']
  exact ⟨rfl, a⟩

theorem g_iinc {i : Nat} {n : Int} {x : Int32} (d : decode cc pc = .ok (.iinc i n, 3)) (h : loc[i]? = some (some (.int x))) (hn : xnl loc i = true) (k : xG E X A Z cc own nm ret rm L f cu su (pc + 3) (loc.set i (some (.int (x + Int32.ofInt n)))) stk) : xG E X A Z cc own nm ret rm L f cu su pc loc stk := by
  obtain ⟨l, p, e, R, s, m, args, below, meth, c⟩ := X
  intro hO H locs ls hP hD hS hl hml
  have hx := hO.1
  have hb := hO.2.1
  have hg := hl.2.2 _ _ h
  obtain ⟨ls', e', h'⟩ := x_st1 (v := .int (x + Int32.ofInt n)) hl rfl (List.getElem?_eq_some_iff.mp h).1 hn
  intro T hT X
  obtain ⟨t, a, b⟩ := k hO H locs ls' hP hD hS h' (by simpa using hml) T hT X
  refine ⟨t, ?_, b⟩
  jvm_step X.here [X.here.top, ↓top_set X.here.top, hx, hb, d, hg, e']
  exact a
end XR
