/-! THE CONSTRUCTORS' ROWS: the world is a list of cells -/
def xnst : Cond → Bool
  | .methodLinkNest .. => true
  | _ => false
def xnw : List Cond := lw_tbl.filter xnst
/-- what the tables say that a walk does not hand on by itself: the nest mates' links, the arrays of references -/
def xNst (U : State) : Prop := (∀ w ∈ xnw, va_Nw w U) ∧ (∀ C ∈ [RX9, RX4], va_AO C U) ∧ ∀ t ∈ [FieldType.int, FieldType.long], (Cond.arrayOver (.array t)).before #[] U = true
theorem xNst.warm {s U : State} (hW : s.WarmedH U.vm) (h : xNst s) : xNst U := by
  refine ⟨fun w hw => ?_, fun C hC => (h.2.1 C hC).moved hW.alike, fun t ht => over_moved hW.alike (h.2.2 t ht)⟩
  have h1 := h.1 w hw
  have h2 := (List.mem_filter.mp hw).2
  cases w with
  | methodLinkNest a i x h => exact h1.warmM hW
  | _ => simp [xnst] at h2
theorem xNst.same {s U : State} (hv : U.vm = s.vm) (h : xNst s) : xNst U := by
  refine ⟨fun w hw => ?_, fun C hC => (h.2.1 C hC).moved (hv ▸ Vm.Alike.refl s.vm), fun t ht => over_moved (hv ▸ Vm.Alike.refl s.vm) (h.2.2 t ht)⟩
  have h1 := h.1 w hw
  have h2 := (List.mem_filter.mp hw).2
  cases w with
  | methodLinkNest a i x h => exact h1.same rfl hv.symm
  | _ => simp [xnst] at h2
def yG (E : xE) (X : xC) (A : Nat → Prop) (Z : State → Prop) (cc : ByteArray) (own nm : String) (ret : Option FieldType) (rm : Nat × Nat × Nat) (ws : va_W) (cu su pc : Nat) (loc : List (Option Value)) (stk : List Value) : Prop :=
  match X with
  | (l, p, e, R, s, m, args, below, meth, c) => xOk E X A cc own nm ret rm → xNst s → ∀ (H : Heap) (locs : List Loc) (ls : Array Slot), va_P E.1 vwCl ws H → va_D A ws → va_S A s.heap H locs → xL ls loc → c.maxLocals = loc.length → W p l e R s m args below meth c H locs cu su Z (F0 m pc ls stk)
section YR
variable {E : xE} {X : xC} {A : Nat → Prop} {Z : State → Prop} {cc : ByteArray} {own nm : String} {ret : Option FieldType} {rm : Nat × Nat × Nat} {ws : va_W} {cu su pc : Nat} {loc : List (Option Value)} {stk : List Value}
theorem y_iconst {n : Int} {v : Int32} (d : decode cc pc = .ok (.iconst n, 1)) (hv : Int32.ofInt n = v) (k : yG E X A Z cc own nm ret rm ws cu su (pc + 1) loc (.int v :: stk)) : yG E X A Z cc own nm ret rm ws cu su pc loc (stk) := by
  obtain ⟨l, p, e, R, s, m, args, below, meth, c⟩ := X
  intro hO hN H locs ls hP hD hS hl hml
  have hx := hO.1
  have hb := hO.2.1
  exact lv_iconst hx hb d hv (k hO hN H locs ls hP hD hS hl hml)
theorem y_bipush {n : Int} {v : Int32} (d : decode cc pc = .ok (.bipush n, 2)) (hv : (Int8.ofInt n).toInt32 = v) (k : yG E X A Z cc own nm ret rm ws cu su (pc + 2) loc (.int v :: stk)) : yG E X A Z cc own nm ret rm ws cu su pc loc (stk) := by
  obtain ⟨l, p, e, R, s, m, args, below, meth, c⟩ := X
  intro hO hN H locs ls hP hD hS hl hml
  have hx := hO.1
  have hb := hO.2.1
  exact lv_bipush hx hb d hv (k hO hN H locs ls hP hD hS hl hml)
theorem y_sipush {n : Int} {v : Int32} (d : decode cc pc = .ok (.sipush n, 3)) (hv : (Int16.ofInt n).toInt32 = v) (k : yG E X A Z cc own nm ret rm ws cu su (pc + 3) loc (.int v :: stk)) : yG E X A Z cc own nm ret rm ws cu su pc loc (stk) := by
  obtain ⟨l, p, e, R, s, m, args, below, meth, c⟩ := X
  intro hO hN H locs ls hP hD hS hl hml
  have hx := hO.1
  have hb := hO.2.1
  exact lv_sipush hx hb d hv (k hO hN H locs ls hP hD hS hl hml)
theorem y_lconst {n : Fin 2} {v : Int64} (d : decode cc pc = .ok (.lconst n, 1)) (hv : Int64.ofNat (n : Nat) = v) (k : yG E X A Z cc own nm ret rm ws cu su (pc + 1) loc (.long v :: stk)) : yG E X A Z cc own nm ret rm ws cu su pc loc (stk) := by
  obtain ⟨l, p, e, R, s, m, args, below, meth, c⟩ := X
  intro hO hN H locs ls hP hD hS hl hml
  have hx := hO.1
  have hb := hO.2.1
  exact lv_lconst hx hb d hv (k hO hN H locs ls hP hD hS hl hml)
theorem y_iload_n {i : Fin 4} {x : Int32} (d : decode cc pc = .ok (.iload_n i, 1)) (h : loc[(i : Nat)]? = some (some (.int x))) (k : yG E X A Z cc own nm ret rm ws cu su (pc + 1) loc (.int x :: stk)) : yG E X A Z cc own nm ret rm ws cu su pc loc (stk) := by
  obtain ⟨l, p, e, R, s, m, args, below, meth, c⟩ := X
  intro hO hN H locs ls hP hD hS hl hml
  have hx := hO.1
  have hb := hO.2.1
  exact lv_iload_n hx hb d rfl (hl.2.2 _ _ h) (k hO hN H locs ls hP hD hS hl hml)
theorem y_aload_n {i : Fin 4} {x : Nat} (d : decode cc pc = .ok (.aload_n i, 1)) (h : loc[(i : Nat)]? = some (some (.ref x))) (k : yG E X A Z cc own nm ret rm ws cu su (pc + 1) loc (.ref x :: stk)) : yG E X A Z cc own nm ret rm ws cu su pc loc (stk) := by
  obtain ⟨l, p, e, R, s, m, args, below, meth, c⟩ := X
  intro hO hN H locs ls hP hD hS hl hml
  have hx := hO.1
  have hb := hO.2.1
  exact lv_aload_n hx hb d rfl (hl.2.2 _ _ h) (k hO hN H locs ls hP hD hS hl hml)
theorem y_dup {va : Value} (d : decode cc pc = .ok (.dup, 1)) (hva : va.category = 1) (k : yG E X A Z cc own nm ret rm ws cu su (pc + 1) loc (va :: va :: stk)) : yG E X A Z cc own nm ret rm ws cu su pc loc (va :: stk) := by
  obtain ⟨l, p, e, R, s, m, args, below, meth, c⟩ := X
  intro hO hN H locs ls hP hD hS hl hml
  have hx := hO.1
  have hb := hO.2.1
  exact lv_dup hx hb d hva (k hO hN H locs ls hP hD hS hl hml)
theorem y_goto {off : Int} (tgt : Nat) (d : decode cc pc = .ok (.goto off, 3)) (ht : (pc : Int) + off = (tgt : Int)) (k : yG E X A Z cc own nm ret rm ws cu su tgt loc stk) : yG E X A Z cc own nm ret rm ws cu su pc loc stk := by
  obtain ⟨l, p, e, R, s, m, args, below, meth, c⟩ := X
  intro hO hN H locs ls hP hD hS hl hml
  exact lv_goto hO.1 hO.2.1 d ht (k hO hN H locs ls hP hD hS hl hml)
theorem y_icmp_ge {x y : Int32} {off : Int} (tgt : Nat) (d : decode cc pc = .ok (.if_icmp .ge off, 3)) (ht : (pc : Int) + off = (tgt : Int)) (kt : (y ≤ x) → yG E X A Z cc own nm ret rm ws cu su tgt loc stk) (kf : ¬ (y ≤ x) → yG E X A Z cc own nm ret rm ws cu su (pc + 3) loc stk) : yG E X A Z cc own nm ret rm ws cu su pc loc (.int y :: .int x :: stk) := by
  obtain ⟨l, p, e, R, s, m, args, below, meth, c⟩ := X
  intro hO hN H locs ls hP hD hS hl hml
  exact lv_icmp_ge hO.1 hO.2.1 d ht (fun q => kt (by first | exact q | simpa using q) hO hN H locs ls hP hD hS hl hml) (fun q => kf (by first | exact q | simpa using q) hO hN H locs ls hP hD hS hl hml)
theorem y_ldc {index : Nat} {v : Int32} (hc : Cond.constant own index v ∈ xws) (d : decode cc pc = .ok (.ldc index, 2)) (k : yG E X A Z cc own nm ret rm ws cu su (pc + 2) loc (.int v :: stk)) : yG E X A Z cc own nm ret rm ws cu su pc loc stk := by
  obtain ⟨l, p, e, R, s, m, args, below, meth, c⟩ := X
  intro hO hN H locs ls hP hD hS hl hml
  exact lv_ldc hO.1 hO.2.1 hO.2.2.1 (hO.2.2.2.1 _ hc) d (k hO hN H locs ls hP hD hS hl hml)
theorem y_istore_n {i : Fin 4} {x : Int32} (d : decode cc pc = .ok (.istore_n i, 1)) (hi : (i : Nat) < loc.length) (hn : xnl loc (i : Nat) = true) (k : yG E X A Z cc own nm ret rm ws cu su (pc + 1) (loc.set (i : Nat) (some (.int x))) stk) : yG E X A Z cc own nm ret rm ws cu su pc loc (.int x :: stk) := by
  obtain ⟨l, p, e, R, s, m, args, below, meth, c⟩ := X
  intro hO hN H locs ls hP hD hS hl hml
  have hx := hO.1
  have hb := hO.2.1
  obtain ⟨ls', e', h'⟩ := x_st1 (v := .int x) hl rfl hi hn
  intro T hT X
  obtain ⟨t, a, b⟩ := k hO hN H locs ls' hP hD hS h' (by simpa using hml) T hT X
  refine ⟨t, ?_, b⟩
  jvm_step X.here [X.here.top, ↓top_set X.here.top, hx, hb, d, e']
  exact a
theorem y_astore_n {i : Fin 4} {x : Nat} (d : decode cc pc = .ok (.astore_n i, 1)) (hi : (i : Nat) < loc.length) (hn : xnl loc (i : Nat) = true) (k : yG E X A Z cc own nm ret rm ws cu su (pc + 1) (loc.set (i : Nat) (some (.ref x))) stk) : yG E X A Z cc own nm ret rm ws cu su pc loc (.ref x :: stk) := by
  obtain ⟨l, p, e, R, s, m, args, below, meth, c⟩ := X
  intro hO hN H locs ls hP hD hS hl hml
  have hx := hO.1
  have hb := hO.2.1
  obtain ⟨ls', e', h'⟩ := x_st1 (v := .ref x) hl rfl hi hn
  intro T hT X
  obtain ⟨t, a, b⟩ := k hO hN H locs ls' hP hD hS h' (by simpa using hml) T hT X
  refine ⟨t, ?_, b⟩
  jvm_step X.here [X.here.top, ↓top_set X.here.top, hx, hb, d, e']
  exact ⟨rfl, a⟩
theorem y_iinc {i : Nat} {n : Int} {x : Int32} (d : decode cc pc = .ok (.iinc i n, 3)) (h : loc[i]? = some (some (.int x))) (hn : xnl loc i = true) (k : yG E X A Z cc own nm ret rm ws cu su (pc + 3) (loc.set i (some (.int (x + Int32.ofInt n)))) stk) : yG E X A Z cc own nm ret rm ws cu su pc loc stk := by
  obtain ⟨l, p, e, R, s, m, args, below, meth, c⟩ := X
  intro hO hN H locs ls hP hD hS hl hml
  have hx := hO.1
  have hb := hO.2.1
  have hg := hl.2.2 _ _ h
  obtain ⟨ls', e', h'⟩ := x_st1 (v := .int (x + Int32.ofInt n)) hl rfl (List.getElem?_eq_some_iff.mp h).1 hn
  intro T hT X
  obtain ⟨t, a, b⟩ := k hO hN H locs ls' hP hD hS h' (by simpa using hml) T hT X
  refine ⟨t, ?_, b⟩
  jvm_step X.here [X.here.top, ↓top_set X.here.top, hx, hb, d, hg, e']
  exact a
theorem y_world {ws' : va_W} (h : ws = ws') (k : yG E X A Z cc own nm ret rm ws' cu su pc loc stk) : yG E X A Z cc own nm ret rm ws cu su pc loc stk := h ▸ k
theorem y_get {q0 a index ci k : Nat} {fs : List Value} {v : Value} {fin : Bool} {ty : FieldType} (hF : xFL own index ci k fin ty) (ha : ws[q0]? = some (a, .inr (ci, fs))) (hv : fs[k]? = some v) (d : decode cc pc = .ok (.getfield index, 3))
    (kk : yG E X A Z cc own nm ret rm ws cu su (pc + 3) loc (v :: stk)) : yG E X A Z cc own nm ret rm ws cu su pc loc (.ref a :: stk) := by
  obtain ⟨l, p, e, R, s, m, args, below, meth, c⟩ := X
  intro hO hN H locs ls hP hD hS hl hml
  obtain ⟨⟨C, T, N⟩, ty0, ⟨hq, hw, ht, hn⟩, hk, -, -, hlink⟩ := hF
  exact va_get (C := C) (T := T) (N := N) (ws := ws) (Ts := xws) hO.1 hO.2.1 hO.2.2.2.1 hw hO.2.2.1 hO.2.2.2.2.1 hP q0 ha hq k hk (hO.2.2.2.1 _ hlink) (fun _ h9 => h9) hv d (kk hO hN H locs ls hP hD hS hl hml)
theorem y_put {q0 a index ci k : Nat} {fs : List Value} {v : Value} {ty : FieldType} (hF : xFL own index ci k false ty) (ha : ws[q0]? = some (a, .inr (ci, fs))) (hk2 : k < fs.length) (hna : narrow ty v = v) (hfit : fits ty v = true) (d : decode cc pc = .ok (.putfield index, 3))
    (kk : yG E X A Z cc own nm ret rm (ws.set q0 (a, .inr (ci, fs.set k v))) cu su (pc + 3) loc stk) : yG E X A Z cc own nm ret rm ws cu su pc loc (v :: .ref a :: stk) := by
  obtain ⟨l, p, e, R, s, m, args, below, meth, c⟩ := X
  intro hO hN H locs ls hP hD hS hl hml
  obtain ⟨⟨C, T, N⟩, ty0, ⟨hq, hw, ht, hn⟩, hk, hfin, hty, hlink⟩ := hF
  exact va_put (C := C) (T := T) (N := N) (ws := ws) (Ts := xws) (ty := ty) hO.1 hO.2.1 hO.2.2.2.1 hw ty0 ht hn hO.2.2.1 hO.2.2.2.2.1 hP hD hS q0 ha hq k hk (hO.2.2.2.1 _ hlink) (fun _ h9 => h9) hfin (by rw [ht k hk, hty]) hna hfit hk2 d (fun H1 locs1 hP1 hD1 hS1 => kk hO hN H1 locs1 ls hP1 hD1 hS1 hl hml)
theorem y_putF {q0 a index ci k : Nat} {fs : List Value} {v : Value} {ty : FieldType} (hnm : nm = "<init>") (hF : xFL own index ci k true ty) (hdecl : ∀ q : vw_C, vwCl[ci]? = some q → (q.2.1 k).1 = own) (ha : ws[q0]? = some (a, .inr (ci, fs))) (hk2 : k < fs.length) (hna : narrow ty v = v) (hfit : fits ty v = true) (d : decode cc pc = .ok (.putfield index, 3))
    (kk : yG E X A Z cc own nm ret rm (ws.set q0 (a, .inr (ci, fs.set k v))) cu su (pc + 3) loc stk) : yG E X A Z cc own nm ret rm ws cu su pc loc (v :: .ref a :: stk) := by
  obtain ⟨l, p, e, R, s, m, args, below, meth, c⟩ := X
  intro hO hN H locs ls hP hD hS hl hml
  obtain ⟨⟨C, T, N⟩, ty0, ⟨hq, hw, ht, hn⟩, hk, hfin, hty, hlink⟩ := hF
  exact va_putF (C := C) (T := T) (N := N) (ws := ws) (Ts := xws) (ty := ty) hO.1 hO.2.1 hO.2.2.2.1 hw ty0 ht hn hO.2.2.1 hO.2.2.2.2.1 hP hD hS q0 ha hq k hk (hO.2.2.2.1 _ hlink) (fun _ h9 => h9) hfin (by rw [← hnm]; exact hO.2.2.2.2.2.2.2.2.2.2.2.2.2) (hdecl _ hq) (by rw [ht k hk, hty]) hna hfit hk2 d (fun H1 locs1 hP1 hD1 hS1 => kk hO hN H1 locs1 ls hP1 hD1 hS1 hl hml)
theorem y_alen {q0 a t0 : Nat} {x : vp_A} {v : Int32} {ty : FieldType} (ha : ws[q0]? = some (a, .inl (E.2.1 t0, x))) (ht : (xtys E)[t0]? = some (E.2.1 t0, ty)) (hv : Int32.ofNat x.1 = v) (d : decode cc pc = .ok (.arraylength, 1))
    (kk : yG E X A Z cc own nm ret rm ws cu su (pc + 1) loc (.int v :: stk)) : yG E X A Z cc own nm ret rm ws cu su pc loc (.ref a :: stk) := by
  obtain ⟨l, p, e, R, s, m, args, below, meth, c⟩ := X
  intro hO hN H locs ls hP hD hS hl hml
  exact va_alen (ws := ws) hO.1 hO.2.1 hO.2.2.2.2.1 hP q0 t0 ha ht hv d (kk hO hN H locs ls hP hD hS hl hml)
def xNew (own : String) (index ci : Nat) (q : vw_C) (ty0 : Nat → FieldType) : Prop := xCl ci q ty0 ∧ Cond.classLink own index q.1 ∈ xws ∧ Cond.instantiable q.1 q.2.2 ∈ xws ∧ Cond.initialized q.1 ∈ xws
theorem y_new {index ci : Nat} {q : vw_C} {ty0 : Nat → FieldType} {fs : List Value} (hC : xNew own index ci q ty0) (hfs : ∀ j, j < q.2.2 → defaultValue (ty0 j) = vp_V fs j) (hcc : cu + 1 ≤ rm.2.1) (hcs : su + q.2.2 ≤ rm.2.2) (d : decode cc pc = .ok (.new index, 3))
    (kk : ∀ a : Nat, yG E X A Z cc own nm ret rm (ws ++ [(a, .inr (ci, fs))]) (cu + 1) (su + q.2.2) (pc + 3) loc (.ref a :: stk)) : yG E X A Z cc own nm ret rm ws cu su pc loc stk := by
  obtain ⟨l, p, e, R, s, m, args, below, meth, c⟩ := X
  intro hO hN H locs ls hP hD hS hl hml
  obtain ⟨⟨hq, hw, ht, hn⟩, h1, h2, h3⟩ := hC
  obtain ⟨C, T, N⟩ := q
  have hw9 := hO.2.2.2.1
  exact va_new (C := C) (T := T) (N := N) (Ts := xws) hO.1 hO.2.1 hw9 hw ty0 ht hO.2.2.1 (hw9 _ h1) (hw9 _ h2) (hw9 _ h3) hO.2.2.2.2.1 hP hD hS hO.2.2.2.2.2.2.2.2.2.1 hq hfs (Nat.le_trans hcc hO.2.2.2.2.2.2.2.1) (Nat.le_trans hcs hO.2.2.2.2.2.2.2.2.1) d (fun a H1 hP1 hD1 hS1 => kk a hO hN H1 locs ls hP1 hD1 hS1 hl hml)
theorem y_newa {atype : ArrayType} {ty : FieldType} {t0 N' : Nat} {n : Int32} {z : vp_A} (harr : Cond.arrayClass ty ∈ xws) (hty : newarray.typeOf atype = ty) (ht : (xtys E)[t0]? = some (E.2.1 t0, ty)) (hra : ∀ (U : State) (cA : ClassId), va_RA U cA ty → U.vm.findClass ("[" ++ ty.toString) = some cA) (hz : ∀ cA : ClassId, vp_cell cA z = arrV cA N' (fun _ => defaultValue ty)) (hn : ¬ n < 0) (hN' : n.toNatClampNeg = N') (hbytes : N' * componentBytes ty ≤ 536870912) (hcc : cu + 1 ≤ rm.2.1) (hcs : su + N' ≤ rm.2.2) (d : decode cc pc = .ok (.newarray atype, 2))
    (kk : ∀ a : Nat, yG E X A Z cc own nm ret rm (ws ++ [(a, .inl (E.2.1 t0, z))]) (cu + 1) (su + N') (pc + 2) loc (.ref a :: stk)) : yG E X A Z cc own nm ret rm ws cu su pc loc (.int n :: stk) := by
  obtain ⟨l, p, e, R, s, m, args, below, meth, c⟩ := X
  intro hO hN H locs ls hP hD hS hl hml
  have hw9 := hO.2.2.2.1
  refine va_newa hO.1 hO.2.1 (atype := atype) (by rw [hty]; exact hw9 _ harr) hty hO.2.2.2.2.1 hP hD hS hO.2.2.2.2.2.2.2.2.2.1 hz hn hN' hbytes (Nat.le_trans hcc hO.2.2.2.2.2.2.2.1) (Nat.le_trans hcs hO.2.2.2.2.2.2.2.2.1) d (fun a cA H1 hK1 hP1 hD1 hS1 => ?_)
  have e1 := hra _ _ (hK1.2 (xtys E).length (cA, ty) (by rw [List.getElem?_append_right (Nat.le_refl _), Nat.sub_self]; rfl)).2
  have e2 := hra _ _ (hO.2.2.2.2.1.2 t0 _ ht).2
  cases Option.some.inj (e1.symm.trans e2)
  exact kk a hO hN H1 locs ls hP1 hD1 hS1 hl hml
theorem y_anewa {index t0 N' : Nat} {C : String} {n : Int32} (hcl : Cond.classLink own index C ∈ xws) (hC : C ∈ [RX9, RX4]) (ht : (xtys E)[t0]? = some (E.2.1 t0, .object C)) (hn : ¬ n < 0) (hN' : n.toNatClampNeg = N') (hbytes : N' * 4 ≤ 536870912) (hcc : cu + 1 ≤ rm.2.1) (hcs : su + N' ≤ rm.2.2) (d : decode cc pc = .ok (.anewarray index, 3))
    (kk : ∀ a : Nat, yG E X A Z cc own nm ret rm (ws ++ [(a, .inl (E.2.1 t0, N', .inr (.inr (.inr (.inr (fun _ => none))))))]) (cu + 1) (su + N') (pc + 3) loc (.ref a :: stk)) : yG E X A Z cc own nm ret rm ws cu su pc loc (.int n :: stk) := by
  obtain ⟨l, p, e, R, s, m, args, below, meth, c⟩ := X
  intro hO hN H locs ls hP hD hS hl hml
  have hw9 := hO.2.2.2.1
  refine va_newq hO.1 hO.2.1 hO.2.2.1 (hw9 _ hcl) (hN.2.1 C hC) hO.2.2.2.2.1 hP hD hS hO.2.2.2.2.2.2.2.2.2.1 hn hN' hbytes (Nat.le_trans hcc hO.2.2.2.2.2.2.2.1) (Nat.le_trans hcs hO.2.2.2.2.2.2.2.2.1) d (fun a cA H1 hK1 hP1 hD1 hS1 => ?_)
  obtain ⟨-, -, -, -, -, e1⟩ := (hK1.2 (xtys E).length (cA, .object C) (by rw [List.getElem?_append_right (Nat.le_refl _), Nat.sub_self]; rfl)).2
  obtain ⟨-, -, -, -, -, e2⟩ := (hO.2.2.2.2.1.2 t0 _ ht).2
  cases Option.some.inj (e1.symm.trans e2)
  exact kk a hO hN H1 locs ls hP1 hD1 hS1 hl hml
theorem y_aast {q0 qk t0 ci a v n j : Nat} {r : vw_C} {vs : List Value} {f : Nat → Option Nat} {i : Int32} (ha : ws[q0]? = some (a, .inl (E.2.1 t0, n, .inr (.inr (.inr (.inr f)))))) (ht : (xtys E)[t0]? = some (E.2.1 t0, .object r.1)) (hv : ws[qk]? = some (v, .inr (ci, vs))) (hc : vwCl[ci]? = some r) (hin : vp_in i n) (hj : i.toNatClampNeg = j) (d : decode cc pc = .ok (.aastore, 1))
    (kk : yG E X A Z cc own nm ret rm (ws.set q0 (a, .inl (E.2.1 t0, n, .inr (.inr (.inr (.inr (va_up f j (some v)))))))) cu su (pc + 1) loc stk) : yG E X A Z cc own nm ret rm ws cu su pc loc (.ref v :: .int i :: .ref a :: stk) := by
  obtain ⟨l, p, e, R, s, m, args, below, meth, c⟩ := X
  intro hO hN H locs ls hP hD hS hl hml
  subst hj
  exact va_astq hO.1 hO.2.1 hO.2.2.2.2.1 hP hD hS q0 t0 qk ci ha ht hv hc hin d (fun H1 locs1 hP1 hD1 hS1 => kk hO hN H1 locs1 ls hP1 hD1 hS1 hl hml)
theorem y_mna {index tO tI N' K' : Nat} {ty : FieldType} {n k : Int32} {z : vp_A} (hcl : Cond.classLink own index ("[" ++ (FieldType.array ty).toString) ∈ xws) (hC : ty ∈ [FieldType.int, FieldType.long]) (harr : Cond.arrayClass ty ∈ xws) (htO : (xtys E)[tO]? = some (E.2.1 tO, .array ty)) (htI : (xtys E)[tI]? = some (E.2.1 tI, ty)) (hra : ∀ (U : State) (cA : ClassId), va_RA U cA ty → U.vm.findClass (FieldType.array ty).toString = some cA) (hn : ¬ n < 0) (hk : ¬ k < 0) (hN' : n.toNatClampNeg = N') (hK' : k.toNatClampNeg = K')
    (hb1 : N' * 4 ≤ 536870912) (hb2 : K' * componentBytes ty ≤ 536870912) (hb3 : K' ≤ 536870912) (hdf : fits ty (defaultValue ty) = true) (hdd : (defaultValue ty).isDefault = true) (hz : ∀ c : ClassId, Jvm.Free.Multi.innerC c K' (defaultValue ty) = vp_cell c z) (hcc : cu + (1 + N') ≤ rm.2.1) (hcs : su + (N' + N' * K') ≤ rm.2.2) (d : decode cc pc = .ok (.multianewarray index 2, 4))
    (kk : ∀ (a : Nat) (r : Nat → Nat), yG E X A Z cc own nm ret rm (ws ++ ((a, .inl (E.2.1 tO, N', .inr (.inr (.inr (.inr (fun i => if i < N' then some (r i) else none)))))) :: (List.range N').map (fun i => (r i, .inl (E.2.1 tI, z))))) (cu + 1 + N') (su + N' + N' * K') (pc + 4) loc (.ref a :: stk)) : yG E X A Z cc own nm ret rm ws cu su pc loc (.int k :: .int n :: stk) := by
  obtain ⟨l, p, e, R, s, m, args, below, meth, c⟩ := X
  intro hO hN H locs ls hP hD hS hl hml T hT Xs
  have hw9 := hO.2.2.2.1
  subst hN'
  subst hK'
  obtain ⟨vm₁, cA, comp, -, fA, fC, -, -, X', step⟩ := Xs.multianewarray2F hO.1 hO.2.2.1 (hw9 _ hcl) (hN.2.2 ty hC) (hw9 _ harr) (g := F0 m pc ls (.int k :: .int n :: stk)) rfl (by rw [hO.2.1]; exact d) rfl hn hk hb1 hb2 hb3 hdf hdd (Nat.le_trans hcc hO.2.2.2.2.2.2.2.1) (Nat.le_trans hcs hO.2.2.2.2.2.2.2.2.1)
  have eO : s.vm.findClass ("[" ++ (FieldType.array ty).toString) = some (E.2.1 tO) := (hO.2.2.2.2.1.2 tO _ htO).2
  have eI := hra _ _ (hO.2.2.2.2.1.2 tI _ htI).2
  cases Option.some.inj (fA.symm.trans eO)
  cases Option.some.inj (fC.symm.trans eI)
  generalize hF : Jvm.Free.Multi.fill (T.setVm vm₁) (E.2.1 tO) (E.2.1 tI) n.toNatClampNeg k.toNatClampNeg (defaultValue ty) n.toNatClampNeg = F at X' step
  have hTh : (T.setVm vm₁).heap = H := hT
  obtain ⟨f1, f2, -, -⟩ := Jvm.Free.Multi.fill_facts (T.setVm vm₁) (E.2.1 tO) (E.2.1 tI) n.toNatClampNeg k.toNatClampNeg (defaultValue ty) n.toNatClampNeg
  rw [hF, hTh] at f1 f2
  have hold : ∀ x : Nat, x < H.size → F.heap[x]? = H[x]? := fun x hx => by
    have := Jvm.Free.Multi.fill_old (T.setVm vm₁) (E.2.1 tO) (E.2.1 tI) n.toNatClampNeg k.toNatClampNeg (defaultValue ty) (a := x) (by rw [hTh]; exact hx) n.toNatClampNeg
    rw [hF, hTh] at this
    exact this
  have hrow : ∀ j : Nat, j < n.toNatClampNeg → F.heap[H.size + 1 + j]? = some (vp_cell (E.2.1 tI) z) := fun j hj => by
    have := Jvm.Free.Multi.fill_inner (T.setVm vm₁) (E.2.1 tO) (E.2.1 tI) n.toNatClampNeg k.toNatClampNeg (defaultValue ty) n.toNatClampNeg j hj
    rw [hF, hTh, hz] at this
    exact this
  have hout : ∀ i : Nat, Jvm.Free.Multi.outerC (E.2.1 tO) n.toNatClampNeg H.size i = arrV (E.2.1 tO) n.toNatClampNeg (fun j => va_rf (if j < i then some (H.size + 1 + j) else none)) := fun i => by
    induction i with
    | zero =>
      show ({ cls := _, slots := Array.replicate _ .null, vm := .none } : Cell) = _
      rw [arrV_new]
      refine congrArg (arrV _ _) (funext fun j => ?_)
      simp [va_rf]
    | succ i ih =>
      show (Jvm.Free.Multi.outerC _ _ H.size i).setSlot i (.ref (H.size + 1 + i)) = _
      rw [ih, arrV_store]
      refine congrArg (arrV _ _) (funext fun j => ?_)
      by_cases e : j = i
      · subst e; simp [updV, va_rf]
      · by_cases h : j < i
        · simp [updV, e, h, Nat.lt_succ_of_lt h]
        · simp [updV, e, h, show ¬ j < i + 1 by omega]
  rw [hout] at f2
  generalize hnw : (((H.size, .inl (E.2.1 tO, n.toNatClampNeg, .inr (.inr (.inr (.inr (fun i => if i < n.toNatClampNeg then some (H.size + 1 + i) else none)))))) :: (List.range n.toNatClampNeg).map (fun i => (H.size + 1 + i, .inl (E.2.1 tI, z)))) : va_W) = nw
  have hnk : ∀ (k9 : Nat) (x : Nat × va_E), nw[k9]? = some x → x.1 = H.size + k9 ∧ va_at E.1 vwCl x F.heap := fun k9 x hx => by
    rw [← hnw] at hx
    cases k9 with
    | zero =>
      cases hx
      refine ⟨rfl, ?_⟩
      show F.heap[H.size]? = some (vp_cell _ _)
      rw [vp_cell_q]
      exact f2
    | succ k9 =>
      rw [List.getElem?_cons_succ, List.getElem?_map] at hx
      by_cases h9 : k9 < n.toNatClampNeg
      · rw [List.getElem?_range h9] at hx
        cases hx
        exact ⟨by show H.size + 1 + k9 = _; omega, hrow k9 h9⟩
      · rw [List.getElem?_eq_none (by rw [List.length_range]; omega)] at hx
        cases hx
  have hP1 : va_P E.1 vwCl (ws ++ nw) F.heap := (hP.kept (fun k9 x hx => hold x.1 ((hP k9 x hx).lt))).app (fun k9 x hx => (hnk k9 x hx).2)
  have hD1 : va_D A (ws ++ nw) := by
    have hw1 : ∀ (k9 : Nat) (x : Nat × va_E), ws[k9]? = some x → x.1 < H.size := fun k9 x hx => (hP k9 x hx).lt
    refine ⟨fun i j x y hi hj hxy => ?_, fun k9 x hx => ?_⟩
    · by_cases h1 : i < ws.length <;> by_cases h2 : j < ws.length
      · rw [List.getElem?_append_left h1] at hi
        rw [List.getElem?_append_left h2] at hj
        exact hD.1 i j x y hi hj hxy
      · rw [List.getElem?_append_left h1] at hi
        rw [List.getElem?_append_right (by omega)] at hj
        have := hw1 _ _ hi
        have := (hnk _ _ hj).1
        omega
      · rw [List.getElem?_append_right (by omega)] at hi
        rw [List.getElem?_append_left h2] at hj
        have := hw1 _ _ hj
        have := (hnk _ _ hi).1
        omega
      · rw [List.getElem?_append_right (by omega)] at hi hj
        have := (hnk _ _ hi).1
        have := (hnk _ _ hj).1
        omega
    · by_cases h1 : k9 < ws.length
      · rw [List.getElem?_append_left h1] at hx
        exact hD.2 k9 x hx
      · rw [List.getElem?_append_right (by omega)] at hx
        have h9 := (hnk _ _ hx).1
        rw [h9]
        exact hO.2.2.2.2.2.2.2.2.2.1 _ (Nat.le_trans hS.1 (Nat.le_add_right _ _))
  have kk2 := kk H.size (fun i => H.size + 1 + i) hO hN F.heap locs ls (by rw [hnw]; exact hP1) (by rw [hnw]; exact hD1) ⟨by rw [f1]; have := hS.1; omega, fun x h1 h2 => (hold x (Nat.lt_of_lt_of_le h1 hS.1)).trans (hS.2.1 x h1 h2), hS.2.2⟩ hl hml
  obtain ⟨t, a1, b1⟩ := kk2 F rfl X'
  refine ⟨t, step t ?_, b1⟩
  have e : T.heap.size = H.size := by rw [hT]
  rw [e]
  exact a1
theorem y_obj {index a : Nat} (hl1 : Cond.methodLink own index Lib.objectInit ∈ xws) (hl2 : Cond.instanceMethod Lib.objectInit ∈ xws) (hl3 : Cond.code Lib.objectInit ⟨#[0xb1]⟩ 1 none ∈ xws) (hd : 1 ≤ rm.1) (hroom : (stk.map fun v => v.category).sum ≤ 8) (d : decode cc pc = .ok (.invokespecial index, 3))
    (kk : yG E X A Z cc own nm ret rm ws cu su (pc + 3) loc stk) : yG E X A Z cc own nm ret rm ws cu su pc loc (.ref a :: stk) := by
  obtain ⟨l, p, e, R, s, m, args, below, meth, c⟩ := X
  intro hO hN H locs ls hP hD hS hl hml
  have hw9 := hO.2.2.2.1
  have h1 := hO.2.2.2.2.2.1
  have h2 := hO.2.2.2.2.2.2.1
  exact W.objInit hO.1 hO.2.1 hO.2.2.1 (hw9 _ hl1) (hw9 _ hl2) (hw9 _ hl3) (g := F0 m pc ls (.ref a :: stk)) rfl (hl.1.trans hml.symm) rfl d (Nat.le_trans hd h1) (by show 2 * 0 + _ + 12 ≤ R.locals; omega) (kk hO hN H locs ls hP hD hS hl hml)
end YR
/-! contracts of constructors -/
def yQ (E : xE) (A : Nat → Prop) (Q : Option Value → va_W → Prop) : Array Value → State → Outcome → State → Prop := fun _ st oc t =>
  (∃ (v : Option Value) (ws' : va_W), oc = .returned v ∧ Q v ws' ∧ va_P E.1 vwCl ws' t.heap ∧ va_D A ws') ∧ va_F A st t
def yB (E : xE) (ws : va_W) (sz : Nat) (U : State) : Prop := U.heap.size = sz ∧ va_P E.1 vwCl ws U.heap ∧ va_K E.1 vwCl (xtys E) U ∧ va_D (fun _ => True) ws ∧ xExt E (va_A ws sz) U U.heap ∧ xNst U
def ySpec (l : Launch) (E : xE) (M : xM) (dep mc ms : Nat) (av : List Value) (ws : va_W) (Q : Option Value → va_W → Prop) : Prop :=
  ∀ sz : Nat, Met l M.1 (xwm M) { frames := dep, cells := mc, slots := ms, locals := 36 * dep } (va_Pc av (yB E ws sz)) (yQ E (va_A ws sz) Q) mc ms (va_A ws sz)
def yZ (E : xE) (X : xC) (A : Nat → Prop) (mc ms : Nat) (Q : Option Value → va_W → Prop) : State → Prop :=
  match X with
  | (_, _, _, _, s, _, args, below, _, _) => MQ below (yQ E A Q) args s mc ms A
theorem y_spec {l : Launch} {E : xE} {y : MethodName} {cc : ByteArray} {maxL : Nat} {ret : Option FieldType} {dep mc ms : Nat} {av : List Value} {ws : va_W} {Q : Option Value → va_W → Prop} (own nm : String) (loc : List (Option Value)) (ho : y.cls = own) (hn : y.name = nm) (hy : plainName y.cls = true) (hloc : xloc av maxL = loc) (hlen : loc.length = maxL)
    (body : ∀ (X : xC) (A : Nat → Prop), X.1 = l → yG E X A (yZ E X A mc ms Q) cc own nm ret (dep, mc, ms) ws 0 0 0 loc []) : ySpec l E (y, cc, maxL, ret) dep mc ms av ws Q := by
  intro sz
  refine Met.ofW (cc := cc) (maxL := maxL) (ret := ret) hy rfl ?_
  intro p e s m args below meth c s₁ B hml hv
  obtain ⟨rfl, hsz, hP, hK, hD0, hE, hN⟩ := hv
  have hts := atoms_spec (ws := xwm (y, cc, maxL, ret)) B.pre
  subst hsz
  have hD : va_D (va_A ws s.heap.size) ws := hD0.self
  have hl := lv_entry av (n := maxL) (by rw [xsl_len]; rw [← hlen, ← hloc]; simp [xloc])
  rw [lg_entry_eq]
  have hl2 : xL (lg_sl av ++ List.replicate (maxL - (lg_sl av).length) Slot.unset).toArray loc := by
    refine ⟨hl.1.trans hlen.symm, hl.2.1, fun i v h => ?_⟩
    rw [← hloc] at h
    unfold xloc at h
    by_cases hi : i < (xsl av).length
    · rw [List.getElem?_append_left hi] at h
      have := xsl_args av 0 i v h
      rw [Nat.zero_add] at this
      exact hl.2.2 _ this
    · rw [List.getElem?_append_right (by omega)] at h
      have h2 := List.mem_of_getElem? h
      have := List.eq_of_mem_replicate h2
      cases this
  have hown : s.vm.findClass own = some m.cls := by
    have := findClass_of_methodNamed B.named
    rw [← ho]; exact this
  exact body (l, p, e, (headSpec (xwm (y, cc, maxL, ret)) { frames := dep, cells := mc, slots := ms, locals := 36 * dep }).room, s, m, av.toArray, below, meth, c) (va_A ws s.heap.size) rfl
    ⟨B.exec, B.bytes, hown, fun w hw => hts w (List.mem_cons_of_mem _ hw), hK, Nat.le_refl _, Nat.le_refl _, Nat.le_refl _, Nat.le_refl _, fun q h => Or.inr h, hE, B.returns, B.notSynchronized, by rw [← hn]; exact (name_of_methodNamed B.named B.method).1⟩ hN s.heap [] _ hP hD va_S.rf hl2 (hml.trans hlen.symm)
section YC
variable {E : xE} {X : xC} {A : Nat → Prop} {Z : State → Prop} {cc : ByteArray} {own nm : String} {ret : Option FieldType} {dep mcR msR : Nat} {ws : va_W} {cu su pc : Nat} {loc : List (Option Value)} {stk : List Value}
theorem y_blind {E : xE} {av : List Value} {ws : va_W} {sz : Nat} : FrameBlind (va_Pc av (yB E ws sz)) := fun a U g mk q => by
  obtain ⟨q0, q1, qP, qK, qD, qE, qN⟩ := q
  exact ⟨q0, q1, qP, va_K.moved (u := U) (U := U.calling g mk a) (Vm.Alike.refl U.vm) qK, qD, xExt.same (s := U) (U := U.calling g mk a) rfl qE, xNst.same (s := U) (U := U.calling g mk a) rfl qN⟩
theorem y_after {l : Launch} {p : Program} {e : Env} {R : Room} {s : State} {m : MethodId} {args : Array Value} {below : List Frame} {meth : Method} {c : Code} {H : Heap} {locs : List Loc} {ls : Array Slot} {mc ms : Nat} {st0 rest : List Value} {Q : Option Value → va_W → Prop} {a : Array Value} {rm : Nat × Nat × Nat}
    (hO : xOk E (l, p, e, R, s, m, args, below, meth, c) A cc own nm ret rm) (hN : xNst s) (hD : va_D A ws) (hS : va_S A s.heap H locs) (hl : xL ls loc) (hml : c.maxLocals = loc.length)
    (hr : va_Run p l e R s m args below meth c H locs cu su mc ms (F0 m pc ls st0) rest (yQ E (va_A ws H.size) Q a) (va_A ws H.size))
    (kk : ∀ (v : Option Value) (ws' : va_W), Q v ws' → yG E (l, p, e, R, s, m, args, below, meth, c) A Z cc own nm ret rm ws' (cu + mc) (su + ms) (pc + 3) loc (v.toList ++ rest)) :
    W p l e R s m args below meth c H locs cu su Z (F0 m pc ls st0) := by
  have hF : ∀ q, va_A ws H.size q → A q := fun q h => by
    rcases h with ⟨k, e, h⟩ | h
    · exact hD.2 k (q, e) h
    · exact hO.2.2.2.2.2.2.2.2.2.1 q (Nat.le_trans hS.1 h)
  intro T hT X
  obtain ⟨v, st₀, t, T', L1, h0, X', hL, e1, e2, ⟨⟨v', ws', hv, hp, hP1, hD1⟩, hz, hk⟩, st⟩ := hr T hT X
  cases hv
  rw [h0] at hz hk
  have hP1 : va_P E.1 vwCl ws' T'.heap := by rw [e1]; exact hP1
  obtain ⟨t2, a1, b1⟩ := kk v ws' hp hO hN T'.heap (locs ++ L1) ls hP1 (hD1.weaken (fun k q _ h => hF q.1 h))
    ⟨Nat.le_trans hS.1 (by rw [e1]; exact hz), fun q h1 h2 => by rw [e1, hk q (Nat.lt_of_lt_of_le h1 hS.1) (fun z => h2 (hF q z))]; exact hS.2.1 q h1 h2, fun q hq => by
      rcases List.mem_append.mp hq with h | h
      · exact hS.2.2 q h
      · exact hF _ (hL q h)⟩ hl hml T' rfl X'
  exact ⟨t2, st t2 a1, b1⟩
theorem y_before {l : Launch} {p : Program} {e : Env} {R : Room} {s : State} {m : MethodId} {args : Array Value} {below : List Frame} {meth : Method} {c : Code} {H : Heap} {locs : List Loc} {av : List Value} {rm : Nat × Nat × Nat}
    (hO : xOk E (l, p, e, R, s, m, args, below, meth, c) A cc own nm ret rm) (hN : xNst s) (hP : va_P E.1 vwCl ws H) (hD : va_D A ws) (hS : va_S A s.heap H locs) : ∀ U : State, U.heap = H → s.WarmedH U.vm → va_Pc av (yB E ws H.size) av.toArray U := by
  intro U hU hW
  refine ⟨rfl, by rw [hU], by rw [hU]; exact hP, va_K.moved hW.alike hO.2.2.2.2.1, hD.weaken (fun _ _ _ _ => trivial), ?_, hN.warm hW⟩
  rw [hU]
  refine ((hO.2.2.2.2.2.2.2.2.2.2.1.warm hW).kept (fun a h1 h2 => hS.2.1 a h1 h2)).narrow (fun q h => ?_)
  rcases h with ⟨k, e, h⟩ | h
  · exact hD.2 k (q, e) h
  · exact hO.2.2.2.2.2.2.2.2.2.1 q (Nat.le_trans hS.1 h)
/-- what a constructor's call needs of the tables: a plain link, or a nest mate's -/
def xCI (own : String) (index : Nat) (M : xM) (n : Nat) : Prop := Cond.code M.1 M.2.1 M.2.2.1 M.2.2.2 ∈ xws ∧ Cond.initialized M.1.cls ∈ xws ∧ (Cond.methodLink own index M.1 ∈ xws ∨ ∃ host, Cond.methodLinkNest own index M.1 host ∈ xnw) ∧ M.1.cls ≠ "java/lang/invoke/MethodHandle" ∧ M.1.cls ≠ "java/lang/invoke/VarHandle" ∧ (parseMethodDescriptor M.1.desc).map (fun d => d.parameters.length) = some n ∧ M.2.2.1 ≤ 17 ∧ M.2.2.2 = none ∧ M.1.name = "<init>" ∧ Cond.instanceMethod M.1 ∈ xws
theorem y_callI {index n mc ms a : Nat} {M : xM} {As rest : List Value} {Q : Option Value → va_W → Prop} (hC : xCI own index M n) (hn : As.length = n) (hst : stk = As.reverse ++ .ref a :: rest) (hroom : (rest.map fun v => v.category).sum ≤ 8) (hmc : cu + mc ≤ mcR) (hms : su + ms ≤ msR)
    (hM : ySpec X.1 E M dep mc ms (.ref a :: As) ws Q) (d : decode cc pc = .ok (.invokespecial index, 3))
    (kk : ∀ (v : Option Value) (ws' : va_W), Q v ws' → yG E X A Z cc own nm ret (dep + 1, mcR, msR) ws' (cu + mc) (su + ms) (pc + 3) loc (v.toList ++ rest)) : yG E X A Z cc own nm ret (dep + 1, mcR, msR) ws cu su pc loc stk := by
  obtain ⟨l, p, e, R, s, m, args, below, meth, c⟩ := X
  intro hO hN H locs ls hP hD hS hl hml
  obtain ⟨⟨y, bytes, maxL, ret'⟩⟩ : ∃ M' : xM, M' = M := ⟨M, rfl⟩
  obtain ⟨y, bytes, maxL, ret'⟩ := M
  obtain ⟨h1, h2, h3, h4, h5, h6, h7, h8, h9, h10⟩ := hC
  dsimp only at h1 h2 h3 h4 h5 h6 h7 h8 h9 h10
  subst h8
  have hw := hO.2.2.2.1
  subst hst
  have hfr : dep + 1 ≤ R.frames := hO.2.2.2.2.2.1
  have hlo : 8 + (maxL + 11) + 36 * dep ≤ R.locals := by
    have h0 : 36 * (dep + 1) ≤ R.locals := hO.2.2.2.2.2.2.1
    omega
  have hsig : ∀ sig, parseMethodDescriptor y.desc = some sig → n = sig.parameters.length := fun sig h => by
    rw [h] at h6
    exact (Option.some.inj h6).symm
  have hroomC : cu + mc ≤ R.cells ∧ su + ms ≤ R.slots := ⟨Nat.le_trans hmc hO.2.2.2.2.2.2.2.1, Nat.le_trans hms hO.2.2.2.2.2.2.2.2.1⟩
  have hMz := hM H.size
  rcases h3 with h3 | ⟨host, h3⟩
  · exact y_after hO hN hD hS hl hml (va_runI (Ts := xws) (nL := loc.length) (cc := cc) (As := As) (rest := rest) ⟨hO.1, hO.2.1, hml, hO.2.2.1, hw⟩ hMz (n := n) (bytes := bytes) (maxL := maxL) ⟨⟨rfl, rfl, hfr, hlo, pay_in hw (x_good (M := (y, bytes, maxL, none)) h1), List.mem_cons_self, hw _ h1, hw _ h2, ⟨h4, h5⟩, hsig, hw _ h3⟩, h9, hw _ h10⟩ ⟨y_blind, y_before hO hN hP hD hS⟩ rfl hn hl.1 rfl (lv_room hroom) d hroomC) kk
  · exact y_after hO hN hD hS hl hml (va_runIN (Ts := xws) (nL := loc.length) (cc := cc) (As := As) (rest := rest) ⟨hO.1, hO.2.1, hml, hO.2.2.1, hw⟩ hMz (n := n) (host := host) (bytes := bytes) (maxL := maxL) ⟨⟨⟨rfl, rfl, hfr, hlo, pay_in hw (x_good (M := (y, bytes, maxL, none)) h1), List.mem_cons_self⟩, hw _ h1, hw _ h2, ⟨h4, h5⟩, hsig, va_Nw.use rfl (hN.1 _ h3)⟩, h9, hw _ h10⟩ ⟨y_blind, y_before hO hN hP hD hS⟩ rfl hn hl.1 rfl (lv_room hroom) d hroomC) kk
variable {mc ms : Nat} {Q : Option Value → va_W → Prop} {rm : Nat × Nat × Nat}
theorem y_vret (hr : ret = none) (hc : cu ≤ mc) (hs : su ≤ ms) (d : decode cc pc = .ok (.return_, 1)) (hQ : Q none ws) : yG E X A (yZ E X A mc ms Q) cc own nm ret rm ws cu su pc loc [] := by
  obtain ⟨l, p, e, R, s, m, args, below, meth, c⟩ := X
  intro hO hN H locs ls hP hD hS hl hml
  refine W.widen (k := mc) (n := ms) hc hs ?_
  exact W.vret (hlocks := hO.2.2.2.2.2.2.2.2.2.2.2.2.1) hO.1 hO.2.1 (hO.2.2.2.2.2.2.2.2.2.2.2.1.trans hr) (fun t ht hW => ⟨⟨_, ws, rfl, hQ, by rw [ht]; exact hP, hD⟩, hS.F ht⟩) hS.2.2 d
end YC
/-! a constructor's world: its caller's, its own object at place k with e in it, and what it has made -/
def va_th (ws : va_W) (k a : Nat) (e : va_E) (N : va_W) : va_W := ws.set k (a, e) ++ N
theorem th_0 {ws : va_W} {k a : Nat} {e : va_E} (h : ws[k]? = some (a, e)) : ws = va_th ws k a e [] := by
  unfold va_th
  rw [List.append_nil]
  apply List.ext_getElem?
  intro i
  by_cases hi : k = i
  · subst hi
    rw [h, List.getElem?_set_self (List.getElem?_eq_some_iff.mp h).1]
  · rw [List.getElem?_set_ne hi]
theorem th_this {ws : va_W} {k a : Nat} {e : va_E} {N : va_W} (hk : k < ws.length) : (va_th ws k a e N)[k]? = some (a, e) := by
  unfold va_th
  rw [List.getElem?_append_left (by rw [List.length_set]; exact hk), List.getElem?_set_self hk]
theorem th_at {ws : va_W} {k a j : Nat} {e : va_E} {N : va_W} {q : Nat × va_E} (h : N[j]? = some q) : (va_th ws k a e N)[ws.length + j]? = some q := by
  unfold va_th
  rw [List.getElem?_append_right (by rw [List.length_set]; omega), List.length_set, Nat.add_sub_cancel_left]
  exact h
theorem th_set {ws : va_W} {k a : Nat} {e e' : va_E} {N : va_W} (hk : k < ws.length) : (va_th ws k a e N).set k (a, e') = va_th ws k a e' N := by
  unfold va_th
  rw [List.set_append_left _ _ (by rw [List.length_set]; exact hk), List.set_set]
theorem th_setN {ws : va_W} {k a j : Nat} {e : va_E} {N : va_W} {q : Nat × va_E} : (va_th ws k a e N).set (ws.length + j) q = va_th ws k a e (N.set j q) := by
  unfold va_th
  rw [List.set_append_right _ _ (by rw [List.length_set]; omega), List.length_set, Nat.add_sub_cancel_left]
theorem th_app {ws : va_W} {k a : Nat} {e : va_E} {N M : va_W} : va_th ws k a e N ++ M = va_th ws k a e (N ++ M) := List.append_assoc _ _ _
theorem th_call {ws : va_W} {k a q : Nat} {e d0 e1 : va_E} {M N1 : va_W} : va_th (va_th ws k a e (M ++ [(q, d0)])) (ws.length + M.length) q e1 N1 = va_th ws k a e (M ++ (q, e1) :: N1) := by
  show (va_th ws k a e (M ++ [(q, d0)])).set (ws.length + M.length) (q, e1) ++ N1 = _
  rw [th_setN, th_app]
  congr 1
  rw [List.set_append_right _ _ (Nat.le_refl _), Nat.sub_self, List.append_assoc]
  rfl
def zG (E : xE) (X : xC) (A : Nat → Prop) (Z : State → Prop) (cc : ByteArray) (own nm : String) (ret : Option FieldType) (rm : Nat × Nat × Nat) (ws : va_W) (k a : Nat) (e : va_E) (N : va_W) (cu su pc : Nat) (loc : List (Option Value)) (stk : List Value) : Prop := yG E X A Z cc own nm ret rm (va_th ws k a e N) cu su pc loc stk
/-- the contract of a constructor: its own object is new; it comes to hold eN, what it makes is nN -/
def zInit {γ : Type} (l : Launch) (E : xE) (M : xM) (dep mc ms : Nat) (As : List Value) (d0 : va_E) (eN : γ → va_E) (nN : γ → va_W) : Prop := ∀ (ws : va_W) (k a : Nat), ws[k]? = some (a, d0) → ySpec l E M dep mc ms (.ref a :: As) ws (fun v ws' => v = none ∧ ∃ g : γ, ws' = va_th ws k a (eN g) (nN g))
section ZR
variable {E : xE} {X : xC} {A : Nat → Prop} {Z : State → Prop} {cc : ByteArray} {own nm : String} {ret : Option FieldType} {rm : Nat × Nat × Nat} {ws : va_W} {k a : Nat} {e : va_E} {N : va_W} {cu su pc : Nat} {loc : List (Option Value)} {stk : List Value}
theorem z_iconst {n : Int} {v : Int32} (d : decode cc pc = .ok (.iconst n, 1)) (hv : Int32.ofInt n = v) (kk : zG E X A Z cc own nm ret rm ws k a e N cu su (pc + 1) loc (.int v :: stk)) : zG E X A Z cc own nm ret rm ws k a e N cu su pc loc (stk) := y_iconst d hv kk
theorem z_bipush {n : Int} {v : Int32} (d : decode cc pc = .ok (.bipush n, 2)) (hv : (Int8.ofInt n).toInt32 = v) (kk : zG E X A Z cc own nm ret rm ws k a e N cu su (pc + 2) loc (.int v :: stk)) : zG E X A Z cc own nm ret rm ws k a e N cu su pc loc (stk) := y_bipush d hv kk
theorem z_sipush {n : Int} {v : Int32} (d : decode cc pc = .ok (.sipush n, 3)) (hv : (Int16.ofInt n).toInt32 = v) (kk : zG E X A Z cc own nm ret rm ws k a e N cu su (pc + 3) loc (.int v :: stk)) : zG E X A Z cc own nm ret rm ws k a e N cu su pc loc (stk) := y_sipush d hv kk
theorem z_lconst {n : Fin 2} {v : Int64} (d : decode cc pc = .ok (.lconst n, 1)) (hv : Int64.ofNat (n : Nat) = v) (kk : zG E X A Z cc own nm ret rm ws k a e N cu su (pc + 1) loc (.long v :: stk)) : zG E X A Z cc own nm ret rm ws k a e N cu su pc loc (stk) := y_lconst d hv kk
theorem z_iload_n {i : Fin 4} {x : Int32} (d : decode cc pc = .ok (.iload_n i, 1)) (h : loc[(i : Nat)]? = some (some (.int x))) (kk : zG E X A Z cc own nm ret rm ws k a e N cu su (pc + 1) loc (.int x :: stk)) : zG E X A Z cc own nm ret rm ws k a e N cu su pc loc (stk) := y_iload_n d h kk
theorem z_aload_n {i : Fin 4} {x : Nat} (d : decode cc pc = .ok (.aload_n i, 1)) (h : loc[(i : Nat)]? = some (some (.ref x))) (kk : zG E X A Z cc own nm ret rm ws k a e N cu su (pc + 1) loc (.ref x :: stk)) : zG E X A Z cc own nm ret rm ws k a e N cu su pc loc (stk) := y_aload_n d h kk
theorem z_dup {va : Value} (d : decode cc pc = .ok (.dup, 1)) (hva : va.category = 1) (kk : zG E X A Z cc own nm ret rm ws k a e N cu su (pc + 1) loc (va :: va :: stk)) : zG E X A Z cc own nm ret rm ws k a e N cu su pc loc (va :: stk) := y_dup d hva kk
theorem z_goto {off : Int} (tgt : Nat) (d : decode cc pc = .ok (.goto off, 3)) (ht : (pc : Int) + off = (tgt : Int)) (kk : zG E X A Z cc own nm ret rm ws k a e N cu su tgt loc stk) : zG E X A Z cc own nm ret rm ws k a e N cu su pc loc stk := y_goto tgt d ht kk
theorem z_icmp_ge {x y : Int32} {off : Int} (tgt : Nat) (d : decode cc pc = .ok (.if_icmp .ge off, 3)) (ht : (pc : Int) + off = (tgt : Int)) (kt : (y ≤ x) → zG E X A Z cc own nm ret rm ws k a e N cu su tgt loc stk) (kf : ¬ (y ≤ x) → zG E X A Z cc own nm ret rm ws k a e N cu su (pc + 3) loc stk) : zG E X A Z cc own nm ret rm ws k a e N cu su pc loc (.int y :: .int x :: stk) := y_icmp_ge tgt d ht kt kf
theorem z_ldc {index : Nat} {v : Int32} (hc : Cond.constant own index v ∈ xws) (d : decode cc pc = .ok (.ldc index, 2)) (kk : zG E X A Z cc own nm ret rm ws k a e N cu su (pc + 2) loc (.int v :: stk)) : zG E X A Z cc own nm ret rm ws k a e N cu su pc loc stk := y_ldc hc d kk
theorem z_istore_n {i : Fin 4} {x : Int32} (d : decode cc pc = .ok (.istore_n i, 1)) (hi : (i : Nat) < loc.length) (hn : xnl loc (i : Nat) = true) (kk : zG E X A Z cc own nm ret rm ws k a e N cu su (pc + 1) (loc.set (i : Nat) (some (.int x))) stk) : zG E X A Z cc own nm ret rm ws k a e N cu su pc loc (.int x :: stk) := y_istore_n d hi hn kk
theorem z_astore_n {i : Fin 4} {x : Nat} (d : decode cc pc = .ok (.astore_n i, 1)) (hi : (i : Nat) < loc.length) (hn : xnl loc (i : Nat) = true) (kk : zG E X A Z cc own nm ret rm ws k a e N cu su (pc + 1) (loc.set (i : Nat) (some (.ref x))) stk) : zG E X A Z cc own nm ret rm ws k a e N cu su pc loc (.ref x :: stk) := y_astore_n d hi hn kk
theorem z_iinc {i : Nat} {n : Int} {x : Int32} (d : decode cc pc = .ok (.iinc i n, 3)) (h : loc[i]? = some (some (.int x))) (hn : xnl loc i = true) (kk : zG E X A Z cc own nm ret rm ws k a e N cu su (pc + 3) (loc.set i (some (.int (x + Int32.ofInt n)))) stk) : zG E X A Z cc own nm ret rm ws k a e N cu su pc loc stk := y_iinc d h hn kk
theorem z_N {N' : va_W} (h : N = N') (kk : zG E X A Z cc own nm ret rm ws k a e N' cu su pc loc stk) : zG E X A Z cc own nm ret rm ws k a e N cu su pc loc stk := h ▸ kk
theorem z_get {index ci i : Nat} {fs : List Value} {v : Value} {fin : Bool} {ty : FieldType} (hF : xFL own index ci i fin ty) (hk : k < ws.length) (hv : fs[i]? = some v) (d : decode cc pc = .ok (.getfield index, 3))
    (kk : zG E X A Z cc own nm ret rm ws k a (.inr (ci, fs)) N cu su (pc + 3) loc (v :: stk)) : zG E X A Z cc own nm ret rm ws k a (.inr (ci, fs)) N cu su pc loc (.ref a :: stk) := y_get hF (th_this hk) hv d kk
theorem z_put {index ci i : Nat} {fs fs' : List Value} {v : Value} {ty : FieldType} (hF : xFL own index ci i false ty) (hk : k < ws.length) (hk2 : i < fs.length) (hna : narrow ty v = v) (hfit : fits ty v = true) (hfs : fs.set i v = fs') (d : decode cc pc = .ok (.putfield index, 3))
    (kk : zG E X A Z cc own nm ret rm ws k a (.inr (ci, fs')) N cu su (pc + 3) loc stk) : zG E X A Z cc own nm ret rm ws k a (.inr (ci, fs)) N cu su pc loc (v :: .ref a :: stk) := by
  subst hfs
  exact y_put hF (th_this hk) hk2 hna hfit d (y_world (th_set hk) kk)
theorem z_putF {index ci i : Nat} {fs fs' : List Value} {v : Value} {ty : FieldType} (hnm : nm = "<init>") (hF : xFL own index ci i true ty) (hdecl : ∀ q : vw_C, vwCl[ci]? = some q → (q.2.1 i).1 = own) (hk : k < ws.length) (hk2 : i < fs.length) (hna : narrow ty v = v) (hfit : fits ty v = true) (hfs : fs.set i v = fs') (d : decode cc pc = .ok (.putfield index, 3))
    (kk : zG E X A Z cc own nm ret rm ws k a (.inr (ci, fs')) N cu su (pc + 3) loc stk) : zG E X A Z cc own nm ret rm ws k a (.inr (ci, fs)) N cu su pc loc (v :: .ref a :: stk) := by
  subst hfs
  exact y_putF hnm hF hdecl (th_this hk) hk2 hna hfit d (y_world (th_set hk) kk)
theorem z_alen {j b t0 : Nat} {x : vp_A} {v : Int32} {ty : FieldType} (ha : N[j]? = some (b, .inl (E.2.1 t0, x))) (ht : (xtys E)[t0]? = some (E.2.1 t0, ty)) (hv : Int32.ofNat x.1 = v) (d : decode cc pc = .ok (.arraylength, 1))
    (kk : zG E X A Z cc own nm ret rm ws k a e N cu su (pc + 1) loc (.int v :: stk)) : zG E X A Z cc own nm ret rm ws k a e N cu su pc loc (.ref b :: stk) := y_alen (th_at ha) ht hv d kk
theorem z_new {index ci : Nat} {q : vw_C} {ty0 : Nat → FieldType} {fs : List Value} (hC : xNew own index ci q ty0) (hfs : ∀ j, j < q.2.2 → defaultValue (ty0 j) = vp_V fs j) (hcc : cu + 1 ≤ rm.2.1) (hcs : su + q.2.2 ≤ rm.2.2) (d : decode cc pc = .ok (.new index, 3))
    (kk : ∀ b : Nat, zG E X A Z cc own nm ret rm ws k a e (N ++ [(b, .inr (ci, fs))]) (cu + 1) (su + q.2.2) (pc + 3) loc (.ref b :: stk)) : zG E X A Z cc own nm ret rm ws k a e N cu su pc loc stk := y_new hC hfs hcc hcs d (fun b => y_world th_app (kk b))
theorem z_newa {atype : ArrayType} {ty : FieldType} {t0 N' : Nat} {n : Int32} {z : vp_A} (harr : Cond.arrayClass ty ∈ xws) (hty : newarray.typeOf atype = ty) (ht : (xtys E)[t0]? = some (E.2.1 t0, ty)) (hra : ∀ (U : State) (cA : ClassId), va_RA U cA ty → U.vm.findClass ("[" ++ ty.toString) = some cA) (hz : ∀ cA : ClassId, vp_cell cA z = arrV cA N' (fun _ => defaultValue ty)) (hn : ¬ n < 0) (hN' : n.toNatClampNeg = N') (hbytes : N' * componentBytes ty ≤ 536870912) (hcc : cu + 1 ≤ rm.2.1) (hcs : su + N' ≤ rm.2.2) (d : decode cc pc = .ok (.newarray atype, 2))
    (kk : ∀ b : Nat, zG E X A Z cc own nm ret rm ws k a e (N ++ [(b, .inl (E.2.1 t0, z))]) (cu + 1) (su + N') (pc + 2) loc (.ref b :: stk)) : zG E X A Z cc own nm ret rm ws k a e N cu su pc loc (.int n :: stk) := y_newa harr hty ht hra hz hn hN' hbytes hcc hcs d (fun b => y_world th_app (kk b))
theorem z_anewa {index t0 N' : Nat} {C : String} {n : Int32} (hcl : Cond.classLink own index C ∈ xws) (hC : C ∈ [RX9, RX4]) (ht : (xtys E)[t0]? = some (E.2.1 t0, .object C)) (hn : ¬ n < 0) (hN' : n.toNatClampNeg = N') (hbytes : N' * 4 ≤ 536870912) (hcc : cu + 1 ≤ rm.2.1) (hcs : su + N' ≤ rm.2.2) (d : decode cc pc = .ok (.anewarray index, 3))
    (kk : ∀ b : Nat, zG E X A Z cc own nm ret rm ws k a e (N ++ [(b, .inl (E.2.1 t0, N', .inr (.inr (.inr (.inr (fun _ => none))))))]) (cu + 1) (su + N') (pc + 3) loc (.ref b :: stk)) : zG E X A Z cc own nm ret rm ws k a e N cu su pc loc (.int n :: stk) := y_anewa hcl hC ht hn hN' hbytes hcc hcs d (fun b => y_world th_app (kk b))
theorem z_mna {index tO tI N' K' : Nat} {ty : FieldType} {n k' : Int32} {z : vp_A} (hcl : Cond.classLink own index ("[" ++ (FieldType.array ty).toString) ∈ xws) (hC : ty ∈ [FieldType.int, FieldType.long]) (harr : Cond.arrayClass ty ∈ xws) (htO : (xtys E)[tO]? = some (E.2.1 tO, .array ty)) (htI : (xtys E)[tI]? = some (E.2.1 tI, ty)) (hra : ∀ (U : State) (cA : ClassId), va_RA U cA ty → U.vm.findClass (FieldType.array ty).toString = some cA) (hn : ¬ n < 0) (hk : ¬ k' < 0) (hN' : n.toNatClampNeg = N') (hK' : k'.toNatClampNeg = K')
    (hb1 : N' * 4 ≤ 536870912) (hb2 : K' * componentBytes ty ≤ 536870912) (hb3 : K' ≤ 536870912) (hdf : fits ty (defaultValue ty) = true) (hdd : (defaultValue ty).isDefault = true) (hz : ∀ c : ClassId, Jvm.Free.Multi.innerC c K' (defaultValue ty) = vp_cell c z) (hcc : cu + (1 + N') ≤ rm.2.1) (hcs : su + (N' + N' * K') ≤ rm.2.2) (d : decode cc pc = .ok (.multianewarray index 2, 4))
    (kk : ∀ (b : Nat) (r : Nat → Nat), zG E X A Z cc own nm ret rm ws k a e (N ++ ((b, .inl (E.2.1 tO, N', .inr (.inr (.inr (.inr (fun i => if i < N' then some (r i) else none)))))) :: (List.range N').map (fun i => (r i, .inl (E.2.1 tI, z))))) (cu + 1 + N') (su + N' + N' * K') (pc + 4) loc (.ref b :: stk)) : zG E X A Z cc own nm ret rm ws k a e N cu su pc loc (.int k' :: .int n :: stk) := y_mna hcl hC harr htO htI hra hn hk hN' hK' hb1 hb2 hb3 hdf hdd hz hcc hcs d (fun b r => y_world th_app (kk b r))
theorem z_aast {q0 qk t0 ci b v n j : Nat} {r : vw_C} {vs : List Value} {f : Nat → Option Nat} {i : Int32} (ha : N[q0]? = some (b, .inl (E.2.1 t0, n, .inr (.inr (.inr (.inr f)))))) (ht : (xtys E)[t0]? = some (E.2.1 t0, .object r.1)) (hv : N[qk]? = some (v, .inr (ci, vs))) (hc : vwCl[ci]? = some r) (hin : vp_in i n) (hj : i.toNatClampNeg = j) (d : decode cc pc = .ok (.aastore, 1))
    (kk : zG E X A Z cc own nm ret rm ws k a e (N.set q0 (b, .inl (E.2.1 t0, n, .inr (.inr (.inr (.inr (va_up f j (some v)))))))) cu su (pc + 1) loc stk) : zG E X A Z cc own nm ret rm ws k a e N cu su pc loc (.ref v :: .int i :: .ref b :: stk) := y_aast (th_at ha) ht (th_at hv) hc hin hj d (y_world th_setN kk)
theorem z_obj {index b : Nat} (hl1 : Cond.methodLink own index Lib.objectInit ∈ xws) (hl2 : Cond.instanceMethod Lib.objectInit ∈ xws) (hl3 : Cond.code Lib.objectInit ⟨#[0xb1]⟩ 1 none ∈ xws) (hd : 1 ≤ rm.1) (hroom : (stk.map fun v => v.category).sum ≤ 8) (d : decode cc pc = .ok (.invokespecial index, 3))
    (kk : zG E X A Z cc own nm ret rm ws k a e N cu su (pc + 3) loc stk) : zG E X A Z cc own nm ret rm ws k a e N cu su pc loc (.ref b :: stk) := y_obj hl1 hl2 hl3 hd hroom d kk
theorem z_init {γ : Type} {index n mc ms q dep mcR msR : Nat} {M' : xM} {As rest : List Value} {M : va_W} {d0 : va_E} {eN : γ → va_E} {nN : γ → va_W} (hI : zInit X.1 E M' dep mc ms As d0 eN nN) (hC : xCI own index M' n) (hn : As.length = n) (hst : stk = As.reverse ++ .ref q :: rest) (hroom : (rest.map fun v => v.category).sum ≤ 8) (hmc : cu + mc ≤ mcR) (hms : su + ms ≤ msR) (d : decode cc pc = .ok (.invokespecial index, 3))
    (kk : ∀ g : γ, zG E X A Z cc own nm ret (dep + 1, mcR, msR) ws k a e (M ++ (q, eN g) :: nN g) (cu + mc) (su + ms) (pc + 3) loc rest) : zG E X A Z cc own nm ret (dep + 1, mcR, msR) ws k a e (M ++ [(q, d0)]) cu su pc loc stk := by
  refine y_callI hC hn hst hroom hmc hms (hI (va_th ws k a e (M ++ [(q, d0)])) (ws.length + M.length) q (th_at ?_)) d (fun v ws' hq => ?_)
  · rw [List.getElem?_append_right (Nat.le_refl _), Nat.sub_self]
    rfl
  · obtain ⟨rfl, g, rfl⟩ := hq
    exact y_world th_call (kk g)
theorem z_vret {γ : Type} {mc ms : Nat} {eN : γ → va_E} {nN : γ → va_W} (g : γ) (hr : ret = none) (hc : cu ≤ mc) (hs : su ≤ ms) (he : e = eN g) (hN : N = nN g) (d : decode cc pc = .ok (.return_, 1)) : zG E X A (yZ E X A mc ms (fun v ws' => v = none ∧ ∃ g : γ, ws' = va_th ws k a (eN g) (nN g))) cc own nm ret rm ws k a e N cu su pc loc [] := y_vret hr hc hs d ⟨rfl, g, by rw [he, hN]⟩
theorem z_spec {γ : Type} {l : Launch} {y : MethodName} {maxL dep mc ms : Nat} {As : List Value} {d0 : va_E} {eN : γ → va_E} {nN : γ → va_W} (own : String) (loc : Nat → List (Option Value)) (ho : y.cls = own) (hn : y.name = "<init>") (hy : plainName y.cls = true) (hloc : ∀ a, xloc (.ref a :: As) maxL = loc a) (hlen : ∀ a, (loc a).length = maxL)
    (body : ∀ (X : xC) (A : Nat → Prop) (ws : va_W) (k a : Nat), X.1 = l → k < ws.length → zG E X A (yZ E X A mc ms (fun v ws' => v = none ∧ ∃ g : γ, ws' = va_th ws k a (eN g) (nN g))) cc own "<init>" ret (dep, mc, ms) ws k a d0 [] 0 0 0 (loc a) []) : zInit l E (y, cc, maxL, ret) dep mc ms As d0 eN nN := by
  intro ws k a h
  refine y_spec own "<init>" (loc a) ho hn hy (hloc a) (hlen a) (fun X A hX => ?_)
  exact y_world (th_0 h) (body X A ws k a hX (List.getElem?_eq_some_iff.mp h).1)
end ZR
