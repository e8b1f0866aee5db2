/-! the heap's rows, the methods' contracts, calls -/
def xCl (ci : Nat) (q : vw_C) (ty0 : Nat → FieldType) : Prop := vwCl[ci]? = some q ∧ (∀ w ∈ u_ws q.1 q.2.1 q.2.2, w ∈ xws) ∧ (∀ k, k < q.2.2 → parseFieldDescriptor (q.2.1 k).2.2.1 = some (ty0 k)) ∧ ∀ a, a < q.2.2 → ∀ b, b < q.2.2 → a ≠ b → (q.2.1 a).2.1 ≠ (q.2.1 b).2.1
def xFL (own : String) (index ci k : Nat) (fin : Bool) (ty : FieldType) : Prop := ∃ (q : vw_C) (ty0 : Nat → FieldType), xCl ci q ty0 ∧ k < q.2.2 ∧ (q.2.1 k).2.2.2 = fin ∧ ty0 k = ty ∧ Cond.fieldLink own index (q.2.1 k).1 (q.2.1 k).2.1 (q.2.1 k).2.2.1 ∈ xws
section XH
variable {E : xE} {X : xC} {A : Nat → Prop} {Z : State → Prop} {cc : ByteArray} {own nm : String} {ret : Option FieldType} {rm : Nat × Nat × Nat} {L : List Nat} {f : Nat → va_E} {cu su pc : Nat} {loc : List (Option Value)} {stk : List Value}
theorem g_get {a index ci k : Nat} {fs : List Value} {v : Value} {fin : Bool} {ty : FieldType} (hF : xFL own index ci k fin ty) (ha : a ∈ L) (hf : f a = .inr (ci, fs)) (hv : fs[k]? = some v) (d : decode cc pc = .ok (.getfield index, 3))
    (kk : xG E X A Z cc own nm ret rm L f cu su (pc + 3) loc (v :: stk)) : xG E X A Z cc own nm ret rm L f cu su pc loc (.ref a :: stk) := by
  obtain ⟨l, p, e, R, s, m, args, below, meth, c⟩ := X
  intro hO H locs ls hP hD hS hl hml
  obtain ⟨⟨C, T, N⟩, ty0, ⟨hq, hw, ht, hn⟩, hk, -, -, hlink⟩ := hF
  obtain ⟨k9, hk9⟩ := va_pl_get (X := []) (f := f) ha
  rw [hf] at hk9
  exact va_get (C := C) (T := T) (N := N) (ws := va_pl L f) (Ts := xws) hO.1 hO.2.1 hO.2.2.2.1 hw hO.2.2.1 hO.2.2.2.2.1 hP k9 hk9 hq k hk (hO.2.2.2.1 _ hlink) (fun _ h9 => h9) hv d (kk hO H locs ls hP hD hS hl hml)
theorem g_put {a index ci k : Nat} {fs : List Value} {v : Value} {ty : FieldType} (hF : xFL own index ci k false ty) (ha : a ∈ L) (hf : f a = .inr (ci, fs)) (hk2 : k < fs.length) (hna : narrow ty v = v) (hfit : fits ty v = true) (d : decode cc pc = .ok (.putfield index, 3))
    (kk : xG E X A Z cc own nm ret rm L (va_up f a (.inr (ci, fs.set k v))) cu su (pc + 3) loc stk) : xG E X A Z cc own nm ret rm L f cu su pc loc (v :: .ref a :: stk) := by
  obtain ⟨l, p, e, R, s, m, args, below, meth, c⟩ := X
  intro hO H locs ls hP hD hS hl hml
  obtain ⟨⟨C, T, N⟩, ty0, ⟨hq, hw, ht, hn⟩, hk, hfin, hty, hlink⟩ := hF
  obtain ⟨k9, hk9⟩ := va_pl_get (X := []) (f := f) ha
  have hset := fun e => va_pl_set (X := []) (e := e) (A := A) (by exact hD) ha hk9
  rw [hf] at hk9
  refine va_put (C := C) (T := T) (N := N) (ws := va_pl L f) (Ts := xws) (ty := ty) hO.1 hO.2.1 hO.2.2.2.1 hw ty0 ht hn hO.2.2.1 hO.2.2.2.2.1 hP hD hS k9 hk9 hq k hk (hO.2.2.2.1 _ hlink) (fun _ h9 => h9) hfin (by rw [ht k hk, hty]) hna hfit hk2 d (fun H1 locs1 hP1 hD1 hS1 => ?_)
  have e1 := hset (.inr (ci, fs.set k v))
  simp only [List.nil_append] at e1
  rw [e1] at hP1 hD1
  exact kk hO H1 locs1 ls hP1 hD1 hS1 hl hml
theorem g_putF {a index ci k : Nat} {fs : List Value} {v : Value} {ty : FieldType} (hnm : nm = "<init>") (hF : xFL own index ci k true ty) (hdecl : ∀ q : vw_C, vwCl[ci]? = some q → (q.2.1 k).1 = own) (ha : a ∈ L) (hf : f a = .inr (ci, fs)) (hk2 : k < fs.length) (hna : narrow ty v = v) (hfit : fits ty v = true) (d : decode cc pc = .ok (.putfield index, 3))
    (kk : xG E X A Z cc own nm ret rm L (va_up f a (.inr (ci, fs.set k v))) cu su (pc + 3) loc stk) : xG E X A Z cc own nm ret rm L f cu su pc loc (v :: .ref a :: stk) := by
  obtain ⟨l, p, e, R, s, m, args, below, meth, c⟩ := X
  intro hO H locs ls hP hD hS hl hml
  obtain ⟨⟨C, T, N⟩, ty0, ⟨hq, hw, ht, hn⟩, hk, hfin, hty, hlink⟩ := hF
  obtain ⟨k9, hk9⟩ := va_pl_get (X := []) (f := f) ha
  have hset := fun e => va_pl_set (X := []) (e := e) (A := A) (by exact hD) ha hk9
  rw [hf] at hk9
  refine va_putF (C := C) (T := T) (N := N) (ws := va_pl L f) (Ts := xws) (ty := ty) hO.1 hO.2.1 hO.2.2.2.1 hw ty0 ht hn hO.2.2.1 hO.2.2.2.2.1 hP hD hS k9 hk9 hq k hk (hO.2.2.2.1 _ hlink) (fun _ h9 => h9) hfin (by rw [← hnm]; exact hO.2.2.2.2.2.2.2.2.2.2.2.2.2) (hdecl _ hq) (by rw [ht k hk, hty]) hna hfit hk2 d (fun H1 locs1 hP1 hD1 hS1 => ?_)
  have e1 := hset (.inr (ci, fs.set k v))
  simp only [List.nil_append] at e1
  rw [e1] at hP1 hD1
  exact kk hO H1 locs1 ls hP1 hD1 hS1 hl hml
theorem g_alen {a t0 : Nat} {x : vp_A} {v : Int32} (ha : a ∈ L) (ht0 : t0 < 8) (hf : f a = .inl (E.2.1 t0, x)) (hv : Int32.ofNat x.1 = v) (d : decode cc pc = .ok (.arraylength, 1))
    (kk : xG E X A Z cc own nm ret rm L f cu su (pc + 1) loc (.int v :: stk)) : xG E X A Z cc own nm ret rm L f cu su pc loc (.ref a :: stk) := by
  obtain ⟨l, p, e, R, s, m, args, below, meth, c⟩ := X
  intro hO H locs ls hP hD hS hl hml
  obtain ⟨k9, hk9⟩ := va_pl_get (X := []) (f := f) ha
  rw [hf] at hk9
  have ht : ∃ ty, (xtys E)[t0]? = some (E.2.1 t0, ty) := by
    match t0, ht0 with
    | 0, _ => exact ⟨_, rfl⟩
    | 1, _ => exact ⟨_, rfl⟩
    | 2, _ => exact ⟨_, rfl⟩
    | 3, _ => exact ⟨_, rfl⟩
    | 4, _ => exact ⟨_, rfl⟩
    | 5, _ => exact ⟨_, rfl⟩
    | 6, _ => exact ⟨_, rfl⟩
    | 7, _ => exact ⟨_, rfl⟩
  obtain ⟨ty, ht⟩ := ht
  exact va_alen (ws := va_pl L f) hO.1 hO.2.1 hO.2.2.2.2.1 hP k9 t0 hk9 ht hv d (kk hO H locs ls hP hD hS hl hml)
theorem g_iald {a n : Nat} {g : Nat → Int32} {i : Int32} (ha : a ∈ L) (hf : f a = .inl (E.2.1 0, n, .inl g)) (hin : vp_in i n) (d : decode cc pc = .ok (.iaload, 1))
    (kk : xG E X A Z cc own nm ret rm L f cu su (pc + 1) loc (.int (g i.toNatClampNeg) :: stk)) : xG E X A Z cc own nm ret rm L f cu su pc loc (.int i :: .ref a :: stk) := by
  obtain ⟨l, p, e, R, s, m, args, below, meth, c⟩ := X
  intro hO H locs ls hP hD hS hl hml
  obtain ⟨k9, hk9⟩ := va_pl_get (X := []) (f := f) ha
  rw [hf] at hk9
  exact va_iald (ws := va_pl L f) hO.1 hO.2.1 hO.2.2.2.2.1 hP k9 0 hk9 rfl hin d (kk hO H locs ls hP hD hS hl hml)
theorem g_bald {a n : Nat} {g : Nat → Int32} {i : Int32} (ha : a ∈ L) (hf : f a = .inl (E.2.1 2, n, .inl g)) (hin : vp_in i n) (d : decode cc pc = .ok (.baload, 1))
    (kk : xG E X A Z cc own nm ret rm L f cu su (pc + 1) loc (.int (g i.toNatClampNeg) :: stk)) : xG E X A Z cc own nm ret rm L f cu su pc loc (.int i :: .ref a :: stk) := by
  obtain ⟨l, p, e, R, s, m, args, below, meth, c⟩ := X
  intro hO H locs ls hP hD hS hl hml
  obtain ⟨k9, hk9⟩ := va_pl_get (X := []) (f := f) ha
  rw [hf] at hk9
  exact va_bald (ws := va_pl L f) hO.1 hO.2.1 hO.2.2.2.2.1 hP k9 2 hk9 rfl hin d (kk hO H locs ls hP hD hS hl hml)
theorem g_zald {a n : Nat} {g : Nat → Int32} {i : Int32} (ha : a ∈ L) (hf : f a = .inl (E.2.1 3, n, .inl g)) (hin : vp_in i n) (d : decode cc pc = .ok (.baload, 1))
    (kk : xG E X A Z cc own nm ret rm L f cu su (pc + 1) loc (.int (g i.toNatClampNeg) :: stk)) : xG E X A Z cc own nm ret rm L f cu su pc loc (.int i :: .ref a :: stk) := by
  obtain ⟨l, p, e, R, s, m, args, below, meth, c⟩ := X
  intro hO H locs ls hP hD hS hl hml
  obtain ⟨k9, hk9⟩ := va_pl_get (X := []) (f := f) ha
  rw [hf] at hk9
  exact va_zald (ws := va_pl L f) hO.1 hO.2.1 hO.2.2.2.2.1 hP k9 3 hk9 rfl hin d (kk hO H locs ls hP hD hS hl hml)
theorem g_lald {a n : Nat} {g : Nat → Int64} {i : Int32} (ha : a ∈ L) (hf : f a = .inl (E.2.1 1, n, .inr (.inl g))) (hin : vp_in i n) (d : decode cc pc = .ok (.laload, 1))
    (kk : xG E X A Z cc own nm ret rm L f cu su (pc + 1) loc (.long (g i.toNatClampNeg) :: stk)) : xG E X A Z cc own nm ret rm L f cu su pc loc (.int i :: .ref a :: stk) := by
  obtain ⟨l, p, e, R, s, m, args, below, meth, c⟩ := X
  intro hO H locs ls hP hD hS hl hml
  obtain ⟨k9, hk9⟩ := va_pl_get (X := []) (f := f) ha
  rw [hf] at hk9
  exact va_lald (ws := va_pl L f) hO.1 hO.2.1 hO.2.2.2.2.1 hP k9 1 hk9 rfl hin d (kk hO H locs ls hP hD hS hl hml)
/-- a reference out of an array of references (of objects, or of arrays) -/
theorem g_aald {a n t0 : Nat} {g : Nat → Option Nat} {i : Int32} (ht0 : 4 ≤ t0 ∧ t0 < 8) (ha : a ∈ L) (hf : f a = .inl (E.2.1 t0, n, .inr (.inr (.inr (.inr g))))) (hin : vp_in i n) (d : decode cc pc = .ok (.aaload, 1))
    (kk : xG E X A Z cc own nm ret rm L f cu su (pc + 1) loc (va_rf (g i.toNatClampNeg) :: stk)) : xG E X A Z cc own nm ret rm L f cu su pc loc (.int i :: .ref a :: stk) := by
  obtain ⟨l, p, e, R, s, m, args, below, meth, c⟩ := X
  intro hO H locs ls hP hD hS hl hml
  obtain ⟨k9, hk9⟩ := va_pl_get (X := []) (f := f) ha
  rw [hf] at hk9
  have hlt : i.toNatClampNeg < n := Nat.not_le.mp fun q => hin (Or.inr q)
  have h0 := hP k9 _ hk9
  have kk := kk hO H locs ls hP hD hS hl hml
  have hK := hO.2.2.2.2.1
  obtain ⟨ty, ht, hr⟩ : ∃ ty, (xtys E)[t0]? = some (E.2.1 t0, ty) ∧ ((∃ C, ty = .object C) ∨ ∃ t, ty = .array t) := by
    match t0, ht0.1, ht0.2 with
    | 4, _, _ => exact ⟨_, rfl, Or.inl ⟨_, rfl⟩⟩
    | 5, _, _ => exact ⟨_, rfl, Or.inl ⟨_, rfl⟩⟩
    | 6, _, _ => exact ⟨_, rfl, Or.inr ⟨_, rfl⟩⟩
    | 7, _, _ => exact ⟨_, rfl, Or.inr ⟨_, rfl⟩⟩
  have hA := (hK.2 t0 _ ht).1
  rcases hr with ⟨C, rfl⟩ | ⟨t, rfl⟩
  · exact W.aald (v := va_rf (g i.toNatClampNeg)) (ty := .object C) hO.1 hO.2.1 h0 (hA n (fun j => va_rf (g j))) rfl (fun q => by cases q) (by show ¬ (i < 0 ∨ (arrV _ _ _).slots.size ≤ _); rw [arrV_size]; exact hin) (by show (arrV _ _ _).slots[_]? = _; rw [arrV_read _ _ hlt]) rfl rfl d kk
  · exact W.aald (v := va_rf (g i.toNatClampNeg)) (ty := .array t) hO.1 hO.2.1 h0 (hA n (fun j => va_rf (g j))) rfl (fun q => by cases q) (by show ¬ (i < 0 ∨ (arrV _ _ _).slots.size ≤ _); rw [arrV_size]; exact hin) (by show (arrV _ _ _).slots[_]? = _; rw [arrV_read _ _ hlt]) rfl rfl d kk
theorem g_iast {a n : Nat} {g : Nat → Int32} {i x : Int32} (ha : a ∈ L) (hf : f a = .inl (E.2.1 0, n, .inl g)) (hin : vp_in i n) (d : decode cc pc = .ok (.iastore, 1))
    (kk : xG E X A Z cc own nm ret rm L (va_up f a (.inl (E.2.1 0, n, .inl (upd g i.toNatClampNeg x)))) cu su (pc + 1) loc stk) : xG E X A Z cc own nm ret rm L f cu su pc loc (.int x :: .int i :: .ref a :: stk) := by
  obtain ⟨l, p, e, R, s, m, args, below, meth, c⟩ := X
  intro hO H locs ls hP hD hS hl hml
  obtain ⟨k9, hk9⟩ := va_pl_get (X := []) (f := f) ha
  have hset := fun e => va_pl_set (X := []) (e := e) (A := A) (by exact hD) ha hk9
  rw [hf] at hk9
  refine va_iast (ws := va_pl L f) hO.1 hO.2.1 hO.2.2.2.2.1 hP hD hS k9 0 hk9 rfl hin d (fun H1 locs1 hP1 hD1 hS1 => ?_)
  have e1 := hset (.inl (E.2.1 0, n, .inl (upd g i.toNatClampNeg x)))
  simp only [List.nil_append] at e1
  rw [e1] at hP1 hD1
  exact kk hO H1 locs1 ls hP1 hD1 hS1 hl hml
theorem g_bast {a n : Nat} {g : Nat → Int32} {i x : Int32} (ha : a ∈ L) (hf : f a = .inl (E.2.1 2, n, .inl g)) (hin : vp_in i n) (d : decode cc pc = .ok (.bastore, 1))
    (kk : xG E X A Z cc own nm ret rm L (va_up f a (.inl (E.2.1 2, n, .inl (upd g i.toNatClampNeg (vp_nar .byte x))))) cu su (pc + 1) loc stk) : xG E X A Z cc own nm ret rm L f cu su pc loc (.int x :: .int i :: .ref a :: stk) := by
  obtain ⟨l, p, e, R, s, m, args, below, meth, c⟩ := X
  intro hO H locs ls hP hD hS hl hml
  obtain ⟨k9, hk9⟩ := va_pl_get (X := []) (f := f) ha
  have hset := fun e => va_pl_set (X := []) (e := e) (A := A) (by exact hD) ha hk9
  rw [hf] at hk9
  refine va_bast (ws := va_pl L f) hO.1 hO.2.1 hO.2.2.2.2.1 hP hD hS k9 2 hk9 rfl hin d (fun H1 locs1 hP1 hD1 hS1 => ?_)
  have e1 := hset (.inl (E.2.1 2, n, .inl (upd g i.toNatClampNeg (vp_nar .byte x))))
  simp only [List.nil_append] at e1
  rw [e1] at hP1 hD1
  exact kk hO H1 locs1 ls hP1 hD1 hS1 hl hml
theorem g_zast {a n : Nat} {g : Nat → Int32} {i x : Int32} (ha : a ∈ L) (hf : f a = .inl (E.2.1 3, n, .inl g)) (hin : vp_in i n) (d : decode cc pc = .ok (.bastore, 1))
    (kk : xG E X A Z cc own nm ret rm L (va_up f a (.inl (E.2.1 3, n, .inl (upd g i.toNatClampNeg (vp_nar .boolean x))))) cu su (pc + 1) loc stk) : xG E X A Z cc own nm ret rm L f cu su pc loc (.int x :: .int i :: .ref a :: stk) := by
  obtain ⟨l, p, e, R, s, m, args, below, meth, c⟩ := X
  intro hO H locs ls hP hD hS hl hml
  obtain ⟨k9, hk9⟩ := va_pl_get (X := []) (f := f) ha
  have hset := fun e => va_pl_set (X := []) (e := e) (A := A) (by exact hD) ha hk9
  rw [hf] at hk9
  refine va_zast (ws := va_pl L f) hO.1 hO.2.1 hO.2.2.2.2.1 hP hD hS k9 3 hk9 rfl hin d (fun H1 locs1 hP1 hD1 hS1 => ?_)
  have e1 := hset (.inl (E.2.1 3, n, .inl (upd g i.toNatClampNeg (vp_nar .boolean x))))
  simp only [List.nil_append] at e1
  rw [e1] at hP1 hD1
  exact kk hO H1 locs1 ls hP1 hD1 hS1 hl hml
theorem g_last {a n : Nat} {g : Nat → Int64} {i : Int32} {x : Int64} (ha : a ∈ L) (hf : f a = .inl (E.2.1 1, n, .inr (.inl g))) (hin : vp_in i n) (d : decode cc pc = .ok (.lastore, 1))
    (kk : xG E X A Z cc own nm ret rm L (va_up f a (.inl (E.2.1 1, n, .inr (.inl (vp_updL g i.toNatClampNeg x))))) cu su (pc + 1) loc stk) : xG E X A Z cc own nm ret rm L f cu su pc loc (.long x :: .int i :: .ref a :: stk) := by
  obtain ⟨l, p, e, R, s, m, args, below, meth, c⟩ := X
  intro hO H locs ls hP hD hS hl hml
  obtain ⟨k9, hk9⟩ := va_pl_get (X := []) (f := f) ha
  have hset := fun e => va_pl_set (X := []) (e := e) (A := A) (by exact hD) ha hk9
  rw [hf] at hk9
  refine va_last (ws := va_pl L f) hO.1 hO.2.1 hO.2.2.2.2.1 hP hD hS k9 1 hk9 rfl hin d (fun H1 locs1 hP1 hD1 hS1 => ?_)
  have e1 := hset (.inl (E.2.1 1, n, .inr (.inl (vp_updL g i.toNatClampNeg x))))
  simp only [List.nil_append] at e1
  rw [e1] at hP1 hD1
  exact kk hO H1 locs1 ls hP1 hD1 hS1 hl hml
/-- the pool's contents, told otherwise -/
theorem g_heap {f' : Nat → va_E} (h : ∀ a ∈ L, f a = f' a) (kk : xG E X A Z cc own nm ret rm L f' cu su pc loc stk) : xG E X A Z cc own nm ret rm L f cu su pc loc stk := by
  obtain ⟨l, p, e, R, s, m, args, below, meth, c⟩ := X
  intro hO H locs ls hP hD hS hl hml
  have e1 : va_pl L f = va_pl L f' := by
    unfold va_pl
    exact List.map_congr_left fun a ha => by rw [h a ha]
  rw [e1] at hP hD
  exact kk hO H locs ls hP hD hS hl hml
end XH
/-! contracts -/
def xQ (E : xE) (A : Nat → Prop) (Q : Option Value → List Nat → (Nat → va_E) → Prop) : Array Value → State → Outcome → State → Prop := fun _ st oc t =>
  (∃ (v : Option Value) (L' : List Nat) (f' : Nat → va_E), oc = .returned v ∧ Q v L' f' ∧ va_P E.1 vwCl (va_pl L' f') t.heap ∧ va_D A (va_pl L' f')) ∧ va_F A st t
def xB (E : xE) (L : List Nat) (f : Nat → va_E) (sz : Nat) (U : State) : Prop := U.heap.size = sz ∧ va_P E.1 vwCl (va_pl L f) U.heap ∧ va_K E.1 vwCl (xtys E) U ∧ va_D (fun _ => True) (va_pl L f) ∧ xExt E (va_A (va_pl L f) sz) U U.heap
/-- the contract of a method: from this world with these arguments it returns, with Q -/
def xSpec (l : Launch) (E : xE) (M : xM) (dep mc ms : Nat) (av : List Value) (L : List Nat) (f : Nat → va_E) (Q : Option Value → List Nat → (Nat → va_E) → Prop) : Prop :=
  ∀ sz : Nat, Met l M.1 (xwm M) { frames := dep, cells := mc, slots := ms, locals := 36 * dep } (va_Pc av (xB E L f sz)) (xQ E (va_A (va_pl L f) sz) Q) mc ms (va_A (va_pl L f) sz)
def xZ (E : xE) (X : xC) (A : Nat → Prop) (mc ms : Nat) (Q : Option Value → List Nat → (Nat → va_E) → Prop) : State → Prop :=
  match X with
  | (_, _, _, _, s, _, args, below, _, _) => MQ below (xQ E A Q) args s mc ms A
def xsl : List Value → List (Option Value)
  | [] => []
  | v :: t => if v.category = 2 then some v :: none :: xsl t else some v :: xsl t
def xloc (av : List Value) (n : Nat) : List (Option Value) := xsl av ++ List.replicate (n - (xsl av).length) none
theorem xsl_len (av : List Value) : (lg_sl av).length = (xsl av).length := by
  induction av with
  | nil => rfl
  | cons v t ih =>
    show ((if v.category = 2 then [.val v, .second] else [Slot.val v]) ++ lg_sl t).length = _
    unfold xsl
    split <;> simp [ih] <;> omega
theorem xsl_args (av : List Value) : ∀ (k i : Nat) (v : Value), (xsl av)[i]? = some (some v) → (k + i, v) ∈ lv_args k av := by
  induction av with
  | nil => intro k i v h; simp [xsl] at h
  | cons w t ih =>
    intro k i v h
    unfold xsl at h
    unfold lv_args
    by_cases hc : w.category = 2
    · rw [if_pos hc] at h ⊢
      match i, h with
      | 0, h => cases h; exact List.mem_cons_self
      | 1, h => cases h
      | i + 2, h =>
        have := ih (k + 2) i v h
        rw [show k + (i + 2) = k + 2 + i by omega]
        exact List.mem_cons_of_mem _ this
    · rw [if_neg hc] at h ⊢
      match i, h with
      | 0, h => cases h; exact List.mem_cons_self
      | i + 1, h =>
        have := ih (k + 1) i v h
        rw [show k + (i + 1) = k + 1 + i by omega]
        exact List.mem_cons_of_mem _ this
theorem x_spec {l : Launch} {E : xE} {y : MethodName} {cc : ByteArray} {maxL : Nat} {ret : Option FieldType} {dep mc ms : Nat} {av : List Value} {L : List Nat} {f : Nat → va_E} {Q : Option Value → List Nat → (Nat → va_E) → Prop} (own nm : String) (loc : List (Option Value)) (ho : y.cls = own) (hn : y.name = nm) (hy : plainName y.cls = true) (hloc : xloc av maxL = loc) (hlen : loc.length = maxL)
    (body : ∀ (X : xC) (A : Nat → Prop), X.1 = l → xG E X A (xZ E X A mc ms Q) cc own nm ret (dep, mc, ms) L f 0 0 0 loc []) : xSpec l E (y, cc, maxL, ret) dep mc ms av L f Q := by
  intro sz
  refine Met.ofW (cc := cc) (maxL := maxL) (ret := ret) hy rfl ?_
  intro p e s m args below meth c s₁ B hml hv
  obtain ⟨rfl, hsz, hP, hK, hD0, hE⟩ := hv
  have hts := atoms_spec (ws := xwm (y, cc, maxL, ret)) B.pre
  subst hsz
  have hD : va_D (va_A (va_pl L f) s.heap.size) (va_pl L f) := hD0.self
  have hl := lv_entry av (n := maxL) (by rw [xsl_len]; rw [← hlen, ← hloc]; simp [xloc])
  rw [lg_entry_eq]
  have hl2 : xL (lg_sl av ++ List.replicate (maxL - (lg_sl av).length) Slot.unset).toArray loc := by
    refine ⟨hl.1.trans hlen.symm, hl.2.1, fun i v h => ?_⟩
    rw [← hloc] at h
    unfold xloc at h
    by_cases hi : i < (xsl av).length
    · rw [List.getElem?_append_left hi] at h
      have := xsl_args av 0 i v h
      rw [Nat.zero_add] at this
      exact hl.2.2 _ this
    · rw [List.getElem?_append_right (by omega)] at h
      have h2 := List.mem_of_getElem? h
      have := List.eq_of_mem_replicate h2
      cases this
  have hown : s.vm.findClass own = some m.cls := by
    have := findClass_of_methodNamed B.named
    rw [← ho]; exact this
  exact body (l, p, e, (headSpec (xwm (y, cc, maxL, ret)) { frames := dep, cells := mc, slots := ms, locals := 36 * dep }).room, s, m, av.toArray, below, meth, c) (va_A (va_pl L f) s.heap.size) rfl
    ⟨B.exec, B.bytes, hown, fun w hw => hts w (List.mem_cons_of_mem _ hw), hK, Nat.le_refl _, Nat.le_refl _, Nat.le_refl _, Nat.le_refl _, fun q h => Or.inr h, hE, B.returns, B.notSynchronized, by rw [← hn]; exact (name_of_methodNamed B.named B.method).1⟩ s.heap [] _ hP hD va_S.rf hl2 (hml.trans hlen.symm)
theorem xSpec.mono {l : Launch} {E : xE} {M : xM} {dep mc ms : Nat} {av : List Value} {L : List Nat} {f : Nat → va_E} {Q Q' : Option Value → List Nat → (Nat → va_E) → Prop} (h : xSpec l E M dep mc ms av L f Q) (hQ : ∀ v L' f', Q v L' f' → Q' v L' f') : xSpec l E M dep mc ms av L f Q' := by
  intro sz p e ha hc hk s m args below hf hfit hp hk2
  obtain ⟨k, o, h1, h2, h3, ⟨⟨v, L', f', q1, q2, q3⟩, q4⟩, q5⟩ := h sz p e ha hc hk s m args below hf hfit hp hk2
  exact ⟨k, o, h1, h2, h3, ⟨⟨v, L', f', q1, hQ _ _ _ q2, q3⟩, q4⟩, q5⟩
section XC
variable {E : xE} {X : xC} {A : Nat → Prop} {Z : State → Prop} {cc : ByteArray} {own nm : String} {ret : Option FieldType} {dep mcR msR : Nat} {L : List Nat} {f : Nat → va_E} {cu su pc : Nat} {loc : List (Option Value)} {stk : List Value}
/-- what a call needs of the tables -/
def xCB (own : String) (index : Nat) (M : xM) (n : Nat) : Prop := Cond.code M.1 M.2.1 M.2.2.1 M.2.2.2 ∈ xws ∧ Cond.initialized M.1.cls ∈ xws ∧ Cond.methodLink own index M.1 ∈ xws ∧ M.1.cls ≠ "java/lang/invoke/MethodHandle" ∧ M.1.cls ≠ "java/lang/invoke/VarHandle" ∧ (parseMethodDescriptor M.1.desc).map (fun d => d.parameters.length) = some n ∧ M.2.2.1 ≤ 17
def xCV (own : String) (index : Nat) (M : xM) (n : Nat) : Prop := xCB own index M n ∧ Cond.instanceMethod M.1 ∈ xws ∧ Cond.selects M.1.cls M.1 M.1 ∈ xws
def xCS (own : String) (index : Nat) (M : xM) (n : Nat) : Prop := xCB own index M n ∧ Cond.static M.1 ∈ xws
theorem x_blind {E : xE} {av : List Value} {L : List Nat} {f : Nat → va_E} {sz : Nat} : FrameBlind (va_Pc av (xB E L f sz)) := fun a U g mk q => by
  obtain ⟨q0, q1, qP, qK, qD, qE⟩ := q
  exact ⟨q0, q1, qP, va_K.moved (u := U) (U := U.calling g mk a) (Vm.Alike.refl U.vm) qK, qD, xExt.same (s := U) (U := U.calling g mk a) rfl qE⟩
theorem x_after {l : Launch} {p : Program} {e : Env} {R : Room} {s : State} {m : MethodId} {args : Array Value} {below : List Frame} {meth : Method} {c : Code} {H : Heap} {locs : List Loc} {ls : Array Slot} {mc ms : Nat} {st0 rest : List Value} {Q : Option Value → List Nat → (Nat → va_E) → Prop} {a : Array Value} {rm : Nat × Nat × Nat}
    (hO : xOk E (l, p, e, R, s, m, args, below, meth, c) A cc own nm ret rm) (hD : va_D A (va_pl L f)) (hS : va_S A s.heap H locs) (hl : xL ls loc) (hml : c.maxLocals = loc.length)
    (hr : va_Run p l e R s m args below meth c H locs cu su mc ms (F0 m pc ls st0) rest (xQ E (va_A (va_pl L f) H.size) Q a) (va_A (va_pl L f) H.size))
    (kk : ∀ (v : Option Value) (L' : List Nat) (f' : Nat → va_E), Q v L' f' → xG E (l, p, e, R, s, m, args, below, meth, c) A Z cc own nm ret rm L' f' (cu + mc) (su + ms) (pc + 3) loc (v.toList ++ rest)) :
    W p l e R s m args below meth c H locs cu su Z (F0 m pc ls st0) := by
  have hF : ∀ q, va_A (va_pl L f) H.size q → A q := fun q h => by
    rcases h with ⟨k, e, h⟩ | h
    · exact hD.2 k (q, e) h
    · exact hO.2.2.2.2.2.2.2.2.2.1 q (Nat.le_trans hS.1 h)
  intro T hT X
  obtain ⟨v, st₀, t, T', L1, h0, X', hL, e1, e2, ⟨⟨v', L', f', hv, hp, hP1, hD1⟩, hz, hk⟩, st⟩ := hr T hT X
  cases hv
  rw [h0] at hz hk
  have hP1 : va_P E.1 vwCl (va_pl L' f') T'.heap := by rw [e1]; exact hP1
  obtain ⟨t2, a1, b1⟩ := kk v L' f' hp hO T'.heap (locs ++ L1) ls hP1 (hD1.weaken (fun k q _ h => hF q.1 h))
    ⟨Nat.le_trans hS.1 (by rw [e1]; exact hz), fun q h1 h2 => by rw [e1, hk q (Nat.lt_of_lt_of_le h1 hS.1) (fun z => h2 (hF q z))]; exact hS.2.1 q h1 h2, fun q hq => by
      rcases List.mem_append.mp hq with h | h
      · exact hS.2.2 q h
      · exact hF _ (hL q h)⟩ hl hml T' rfl X'
  exact ⟨t2, st t2 a1, b1⟩
theorem x_before {l : Launch} {p : Program} {e : Env} {R : Room} {s : State} {m : MethodId} {args : Array Value} {below : List Frame} {meth : Method} {c : Code} {H : Heap} {locs : List Loc} {av : List Value} {rm : Nat × Nat × Nat}
    (hO : xOk E (l, p, e, R, s, m, args, below, meth, c) A cc own nm ret rm) (hP : va_P E.1 vwCl (va_pl L f) H) (hD : va_D A (va_pl L f)) (hS : va_S A s.heap H locs) : ∀ U : State, U.heap = H → s.WarmedH U.vm → va_Pc av (xB E L f H.size) av.toArray U := by
  intro U hU hW
  refine ⟨rfl, by rw [hU], by rw [hU]; exact hP, va_K.moved hW.alike hO.2.2.2.2.1, hD.weaken (fun _ _ _ _ => trivial), ?_⟩
  rw [hU]
  refine ((hO.2.2.2.2.2.2.2.2.2.2.1.warm hW).kept (fun a h1 h2 => hS.2.1 a h1 h2)).narrow (fun q h => ?_)
  rcases h with ⟨k, e, h⟩ | h
  · exact hD.2 k (q, e) h
  · exact hO.2.2.2.2.2.2.2.2.2.1 q (Nat.le_trans hS.1 h)
/-- a call of a method of an object in the pool -/
theorem g_callV {index n mc ms a ci : Nat} {M : xM} {As rest : List Value} {fs : List Value} {q : vw_C} {Q : Option Value → List Nat → (Nat → va_E) → Prop} (hC : xCV own index M n) (ha : a ∈ L) (hf : f a = .inr (ci, fs)) (hq : vwCl[ci]? = some q) (hqc : q.1 = M.1.cls) (hn : As.length = n) (hst : stk = As.reverse ++ .ref a :: rest) (hroom : (rest.map fun v => v.category).sum ≤ 8) (hmc : cu + mc ≤ mcR) (hms : su + ms ≤ msR)
    (hM : xSpec X.1 E M dep mc ms (.ref a :: As) L f Q) (d : decode cc pc = .ok (.invokevirtual index, 3))
    (kk : ∀ (v : Option Value) (L' : List Nat) (f' : Nat → va_E), Q v L' f' → xG E X A Z cc own nm ret (dep + 1, mcR, msR) L' f' (cu + mc) (su + ms) (pc + 3) loc (v.toList ++ rest)) : xG E X A Z cc own nm ret (dep + 1, mcR, msR) L f cu su pc loc stk := by
  obtain ⟨l, p, e, R, s, m, args, below, meth, c⟩ := X
  intro hO H locs ls hP hD hS hl hml
  obtain ⟨⟨h1, h2, h3, h4, h5, h6, h7⟩, h8, h9⟩ := hC
  have hw := hO.2.2.2.1
  subst hst
  obtain ⟨k9, hk9⟩ := va_pl_get (X := []) (f := f) ha
  rw [hf] at hk9
  refine x_after hO hD hS hl hml (va_runV (Ts := xws) (nL := loc.length) (cc := cc) (As := As) (rest := rest) ⟨hO.1, hO.2.1, hml, hO.2.2.1, hw⟩ (hM H.size) (C := M.1.cls) (n := n) (bytes := M.2.1) (maxL := M.2.2.1) (ret := M.2.2.2) ⟨⟨rfl, rfl, ?_, ?_, pay_in hw (x_good h1), List.mem_cons_self, hw _ h1, hw _ h2, ⟨h4, h5⟩, fun sig h => ?_, hw _ h3⟩, hw _ h8, hw _ h9⟩ ⟨x_blind, ?_, x_before hO hP hD hS⟩ rfl hn hl.1 rfl (lv_room hroom) d ⟨Nat.le_trans hmc hO.2.2.2.2.2.2.2.1, Nat.le_trans hms hO.2.2.2.2.2.2.2.2.1⟩) kk
  · have := hO.2.2.2.2.2.1
    exact this
  · have := hO.2.2.2.2.2.2.1
    show 8 + (M.2.2.1 + 11) + 36 * dep ≤ R.locals
    have h0 : 36 * (dep + 1) ≤ R.locals := this
    omega
  · rw [h] at h6
    exact (Option.some.inj h6).symm
  · have := va_recv hO.2.2.2.2.1 hP hq (q0 := k9) (ws := va_pl L f) hk9
    rw [hqc] at this
    exact this
theorem g_callS {index n mc ms : Nat} {M : xM} {As rest : List Value} {Q : Option Value → List Nat → (Nat → va_E) → Prop} (hC : xCS own index M n) (hn : As.length = n) (hst : stk = As.reverse ++ rest) (hroom : (rest.map fun v => v.category).sum ≤ 8) (hmc : cu + mc ≤ mcR) (hms : su + ms ≤ msR)
    (hM : xSpec X.1 E M dep mc ms As L f Q) (d : decode cc pc = .ok (.invokestatic index, 3))
    (kk : ∀ (v : Option Value) (L' : List Nat) (f' : Nat → va_E), Q v L' f' → xG E X A Z cc own nm ret (dep + 1, mcR, msR) L' f' (cu + mc) (su + ms) (pc + 3) loc (v.toList ++ rest)) : xG E X A Z cc own nm ret (dep + 1, mcR, msR) L f cu su pc loc stk := by
  obtain ⟨l, p, e, R, s, m, args, below, meth, c⟩ := X
  intro hO H locs ls hP hD hS hl hml
  obtain ⟨⟨h1, h2, h3, h4, h5, h6, h7⟩, h8⟩ := hC
  have hw := hO.2.2.2.1
  subst hst
  refine x_after hO hD hS hl hml (va_runS (Ts := xws) (nL := loc.length) (cc := cc) (As := As) (rest := rest) ⟨hO.1, hO.2.1, hml, hO.2.2.1, hw⟩ (hM H.size) (n := n) (bytes := M.2.1) (maxL := M.2.2.1) (ret := M.2.2.2) ⟨⟨rfl, rfl, ?_, ?_, pay_in hw (x_good h1), List.mem_cons_self, hw _ h1, hw _ h2, ⟨h4, h5⟩, fun sig h => ?_, hw _ h3⟩, hw _ h8⟩ ⟨x_blind, x_before hO hP hD hS⟩ rfl hn hl.1 rfl (lv_room hroom) d ⟨Nat.le_trans hmc hO.2.2.2.2.2.2.2.1, Nat.le_trans hms hO.2.2.2.2.2.2.2.2.1⟩) kk
  · have := hO.2.2.2.2.2.1
    exact this
  · have := hO.2.2.2.2.2.2.1
    show 8 + (M.2.2.1 + 11) + 36 * dep ≤ R.locals
    have h0 : 36 * (dep + 1) ≤ R.locals := this
    omega
  · rw [h] at h6
    exact (Option.some.inj h6).symm
/-! returns -/
variable {mc ms : Nat} {Q : Option Value → List Nat → (Nat → va_E) → Prop} {rm : Nat × Nat × Nat}
theorem g_iret {v : Int32} {ty : FieldType} (hr : ret = some ty) (hnr : narrow ty (.int v) = .int v) (hc : cu ≤ mc) (hs : su ≤ ms) (d : decode cc pc = .ok (.ireturn, 1)) (hQ : Q (some (.int v)) L f) : xG E X A (xZ E X A mc ms Q) cc own nm ret rm L f cu su pc loc [.int v] := by
  obtain ⟨l, p, e, R, s, m, args, below, meth, c⟩ := X
  intro hO H locs ls hP hD hS hl hml
  refine W.widen (k := mc) (n := ms) hc hs ?_
  exact W.zret (v := v) (ty := ty) (hlocks := hO.2.2.2.2.2.2.2.2.2.2.2.2.1) hO.1 hO.2.1 (hO.2.2.2.2.2.2.2.2.2.2.2.1.trans hr) hnr (fun t ht hW => ⟨⟨_, L, f, rfl, hQ, by rw [ht]; exact hP, hD⟩, hS.F ht⟩) hS.2.2 d
theorem g_lret {v : Int64} (hr : ret = some .long) (hc : cu ≤ mc) (hs : su ≤ ms) (d : decode cc pc = .ok (.lreturn, 1)) (hQ : Q (some (.long v)) L f) : xG E X A (xZ E X A mc ms Q) cc own nm ret rm L f cu su pc loc [.long v] := by
  obtain ⟨l, p, e, R, s, m, args, below, meth, c⟩ := X
  intro hO H locs ls hP hD hS hl hml
  refine W.widen (k := mc) (n := ms) hc hs ?_
  exact W.lret (v := v) (hlocks := hO.2.2.2.2.2.2.2.2.2.2.2.2.1) hO.1 hO.2.1 (hO.2.2.2.2.2.2.2.2.2.2.2.1.trans hr) (fun t ht hW => ⟨⟨_, L, f, rfl, hQ, by rw [ht]; exact hP, hD⟩, hS.F ht⟩) hS.2.2 d
theorem g_vret (hr : ret = none) (hc : cu ≤ mc) (hs : su ≤ ms) (d : decode cc pc = .ok (.return_, 1)) (hQ : Q none L f) : xG E X A (xZ E X A mc ms Q) cc own nm ret rm L f cu su pc loc [] := by
  obtain ⟨l, p, e, R, s, m, args, below, meth, c⟩ := X
  intro hO H locs ls hP hD hS hl hml
  refine W.widen (k := mc) (n := ms) hc hs ?_
  exact W.vret (hlocks := hO.2.2.2.2.2.2.2.2.2.2.2.2.1) hO.1 hO.2.1 (hO.2.2.2.2.2.2.2.2.2.2.2.1.trans hr) (fun t ht hW => ⟨⟨_, L, f, rfl, hQ, by rw [ht]; exact hP, hD⟩, hS.F ht⟩) hS.2.2 d
theorem g_aret {v : Value} {rt : FieldType} (hr : ret = some rt) (hrt : (∃ n, rt = .object n) ∨ ∃ t, rt = .array t) (hv : v = .null ∨ ∃ a, v = .ref a) (hc : cu ≤ mc) (hs : su ≤ ms) (d : decode cc pc = .ok (.areturn, 1)) (hQ : Q (some v) L f) : xG E X A (xZ E X A mc ms Q) cc own nm ret rm L f cu su pc loc [v] := by
  obtain ⟨l, p, e, R, s, m, args, below, meth, c⟩ := X
  intro hO H locs ls hP hD hS hl hml
  refine W.widen (k := mc) (n := ms) hc hs ?_
  exact W.aret (v := v) (rt := rt) (hlocks := hO.2.2.2.2.2.2.2.2.2.2.2.2.1) hO.1 hO.2.1 (hO.2.2.2.2.2.2.2.2.2.2.2.1.trans hr) hrt hv (fun t ht hW => ⟨⟨_, L, f, rfl, hQ, by rw [ht]; exact hP, hD⟩, hS.F ht⟩) hS.2.2 d
end XC
