/-! THE CONSTRUCTORS: links and contracts, printed by program -/
theorem x_nw {w : Cond} (i : Nat) (h : lw_tbl[i]? = some w) (hg : xnst w = true) : w ∈ xnw := List.mem_filter.mpr ⟨List.mem_of_getElem? h, hg⟩
theorem up_app (M : List Nat) (b : Nat) : va_up (fun i => M[i]?) M.length (some b) = fun i => (M ++ [b])[i]? := by
  funext i
  unfold va_up
  by_cases h : i = M.length
  · subst h; simp
  · rw [if_neg h]
    show M[i]? = (M ++ [b])[i]?
    by_cases h2 : i < M.length
    · rw [List.getElem?_append_left h2]
    · rw [List.getElem?_eq_none (by omega), List.getElem?_eq_none (by simp; omega)]
section ZA
variable {E : xE} {X : xC} {A : Nat → Prop} {Z : State → Prop} {cc : ByteArray} {own nm : String} {ret : Option FieldType} {rm : Nat × Nat × Nat} {ws : va_W} {k a : Nat} {e : va_E} {N : va_W} {cu su pc : Nat} {loc : List (Option Value)} {stk : List Value}
theorem z_aastU (M : List Nat) {q0 qk t0 ci b v n : Nat} {r : vw_C} {vs : List Value} {i : Int32} (ha : N[q0]? = some (b, .inl (E.2.1 t0, n, .inr (.inr (.inr (.inr (fun i => M[i]?))))))) (ht : (xtys E)[t0]? = some (E.2.1 t0, .object r.1)) (hv : N[qk]? = some (v, .inr (ci, vs))) (hc : vwCl[ci]? = some r) (hin : vp_in i n) (hj : i.toNatClampNeg = M.length) (d : decode cc pc = .ok (.aastore, 1))
    (kk : zG E X A Z cc own nm ret rm ws k a e (N.set q0 (b, .inl (E.2.1 t0, n, .inr (.inr (.inr (.inr (fun i => (M ++ [v])[i]?))))))) cu su (pc + 1) loc stk) : zG E X A Z cc own nm ret rm ws k a e N cu su pc loc (.ref v :: .int i :: .ref b :: stk) := z_aast ha ht hv hc hin hj d (by rw [up_app]; exact kk)
end ZA
theorem ac_int : Cond.arrayClass .int ∈ xws := x_mem 117 (by decide +kernel) (by decide +kernel)
theorem ac_byte : Cond.arrayClass .byte ∈ xws := x_mem 284 (by decide +kernel) (by decide +kernel)
theorem ac_long : Cond.arrayClass .long ∈ xws := x_mem 315 (by decide +kernel) (by decide +kernel)
theorem ac_boolean : Cond.arrayClass .boolean ∈ xws := x_mem 1249 (by decide +kernel) (by decide +kernel)
theorem oi_m : Cond.instanceMethod Lib.objectInit ∈ xws := x_mem 102 (by decide +kernel) (by decide +kernel)
theorem oi_c : Cond.code Lib.objectInit ⟨#[0xb1]⟩ 1 none ∈ xws := x_mem 103 (by decide +kernel) (by decide +kernel)
theorem df_X0 : ∀ j, j < 10 → defaultValue (tyX0 j) = vp_V [.null, .null, .null, .null, .null, .null, .null, .int 0, .int 0, .int 0] j
  | 0, _ => rfl
  | 1, _ => rfl
  | 2, _ => rfl
  | 3, _ => rfl
  | 4, _ => rfl
  | 5, _ => rfl
  | 6, _ => rfl
  | 7, _ => rfl
  | 8, _ => rfl
  | 9, _ => rfl
  | n + 10, h => absurd h (by omega)
theorem df_X1 : ∀ j, j < 7 → defaultValue (tyX1 j) = vp_V [.null, .null, .null, .null, .null, .null, .int 0] j
  | 0, _ => rfl
  | 1, _ => rfl
  | 2, _ => rfl
  | 3, _ => rfl
  | 4, _ => rfl
  | 5, _ => rfl
  | 6, _ => rfl
  | n + 7, h => absurd h (by omega)
theorem df_X2 : ∀ j, j < 4 → defaultValue (tyX2 j) = vp_V [.null, .null, .null, .null] j
  | 0, _ => rfl
  | 1, _ => rfl
  | 2, _ => rfl
  | 3, _ => rfl
  | n + 4, h => absurd h (by omega)
theorem df_X3 : ∀ j, j < 2 → defaultValue (tyX3 j) = vp_V [.null, .int 0] j
  | 0, _ => rfl
  | 1, _ => rfl
  | n + 2, h => absurd h (by omega)
theorem df_X4 : ∀ j, j < 5 → defaultValue (tyX4 j) = vp_V [.int 0, .int 0, .int 0, .int 0, .int 0] j
  | 0, _ => rfl
  | 1, _ => rfl
  | 2, _ => rfl
  | 3, _ => rfl
  | 4, _ => rfl
  | n + 5, h => absurd h (by omega)
theorem df_X5 : ∀ j, j < 4 → defaultValue (tyX5 j) = vp_V [.null, .null, .int 0, .int 0] j
  | 0, _ => rfl
  | 1, _ => rfl
  | 2, _ => rfl
  | 3, _ => rfl
  | n + 4, h => absurd h (by omega)
theorem df_X6 : ∀ j, j < 6 → defaultValue (tyX6 j) = vp_V [.null, .null, .null, .null, .int 0, .long 0] j
  | 0, _ => rfl
  | 1, _ => rfl
  | 2, _ => rfl
  | 3, _ => rfl
  | 4, _ => rfl
  | 5, _ => rfl
  | n + 6, h => absurd h (by omega)
theorem df_X7 : ∀ j, j < 4 → defaultValue (tyX7 j) = vp_V [.null, .null, .null, .null] j
  | 0, _ => rfl
  | 1, _ => rfl
  | 2, _ => rfl
  | 3, _ => rfl
  | n + 4, h => absurd h (by omega)
theorem df_X8 : ∀ j, j < 7 → defaultValue (tyX8 j) = vp_V [.null, .null, .null, .null, .null, .int 0, .int 0] j
  | 0, _ => rfl
  | 1, _ => rfl
  | 2, _ => rfl
  | 3, _ => rfl
  | 4, _ => rfl
  | 5, _ => rfl
  | 6, _ => rfl
  | n + 7, h => absurd h (by omega)
theorem df_X9 : ∀ j, j < 2 → defaultValue (tyX9 j) = vp_V [.null, .int 0] j
  | 0, _ => rfl
  | 1, _ => rfl
  | n + 2, h => absurd h (by omega)
theorem df_X10 : ∀ j, j < 4 → defaultValue (tyX10 j) = vp_V [.null, .int 0, .int 0, .int 0] j
  | 0, _ => rfl
  | 1, _ => rfl
  | 2, _ => rfl
  | 3, _ => rfl
  | n + 4, h => absurd h (by omega)
theorem df_X11 : ∀ j, j < 11 → defaultValue (tyX11 j) = vp_V [.null, .null, .null, .null, .null, .null, .null, .null, .null, .null, .null] j
  | 0, _ => rfl
  | 1, _ => rfl
  | 2, _ => rfl
  | 3, _ => rfl
  | 4, _ => rfl
  | 5, _ => rfl
  | 6, _ => rfl
  | 7, _ => rfl
  | 8, _ => rfl
  | 9, _ => rfl
  | 10, _ => rfl
  | n + 11, h => absurd h (by omega)
theorem df_X12 : ∀ j, j < 35 → defaultValue (tyX12 j) = vp_V [.int 0, .null, .null, .null, .int 0, .null, .int 0, .int 0, .int 0, .int 0, .int 0, .int 0, .int 0, .null, .null, .null, .null, .null, .null, .null, .null, .null, .null, .null, .int 0, .int 0, .null, .int 0, .null, .null, .null, .null, .int 0, .int 0, .null] j
  | 0, _ => rfl
  | 1, _ => rfl
  | 2, _ => rfl
  | 3, _ => rfl
  | 4, _ => rfl
  | 5, _ => rfl
  | 6, _ => rfl
  | 7, _ => rfl
  | 8, _ => rfl
  | 9, _ => rfl
  | 10, _ => rfl
  | 11, _ => rfl
  | 12, _ => rfl
  | 13, _ => rfl
  | 14, _ => rfl
  | 15, _ => rfl
  | 16, _ => rfl
  | 17, _ => rfl
  | 18, _ => rfl
  | 19, _ => rfl
  | 20, _ => rfl
  | 21, _ => rfl
  | 22, _ => rfl
  | 23, _ => rfl
  | 24, _ => rfl
  | 25, _ => rfl
  | 26, _ => rfl
  | 27, _ => rfl
  | 28, _ => rfl
  | 29, _ => rfl
  | 30, _ => rfl
  | 31, _ => rfl
  | 32, _ => rfl
  | 33, _ => rfl
  | 34, _ => rfl
  | n + 35, h => absurd h (by omega)
theorem z_inint (c : ClassId) (k : Nat) : Jvm.Free.Multi.innerC c k (defaultValue .int) = vp_cell c (k, .inl (fun _ => 0)) := by
  show ({ cls := c, slots := Array.replicate k (.int 0), vm := .none } : Cell) = _
  rw [vp_cell_i]
  exact arrV_new _ _ _
theorem z_inlong (c : ClassId) (k : Nat) : Jvm.Free.Multi.innerC c k (defaultValue .long) = vp_cell c (k, .inr (.inl (fun _ => 0))) := by
  show ({ cls := c, slots := Array.replicate k (.long 0), vm := .none } : Cell) = _
  rw [vp_cell_l]
  exact arrV_new _ _ _
def eX3 (g : Nat → Nat) : va_E := .inr (3, [.ref (g 0), .int 3])
def nX3 (E : xE) (g : Nat → Nat) : va_W := [((g 0), .inl (E.2.1 0, 6, .inl (fun _ => 0)))]
theorem oi_X3 : Cond.methodLink RX3 3 Lib.objectInit ∈ xws := x_mem 109 (by decide +kernel) (by decide +kernel)
set_option maxRecDepth 20000 in
set_option maxHeartbeats 4000000 in
theorem i_X3 {l : Launch} {E : xE} (dep : Nat) : zInit l E mX3_init (dep + 1) 1 6 [] (.inr (3, [.null, .int 0])) (eX3) (nX3 E) := by
  refine z_spec RX3 (fun a => [some (.ref a)]) rfl rfl (by decide +kernel) (fun _ => rfl) (fun _ => rfl) (fun X A ws k a hX hk => ?_)
  refine z_aload_n dX3_init_0 rfl ?_
  refine z_obj oi_X3 oi_m oi_c (Nat.le_of_ble_eq_true rfl) (Nat.le_of_ble_eq_true rfl) dX3_init_1 ?_
  refine z_aload_n dX3_init_4 rfl ?_
  refine z_bipush (v := 6) dX3_init_5 (by decide) ?_
  refine z_newa (ty := .int) (t0 := 0) (N' := 6) (z := (6, .inl (fun _ => 0))) ac_int rfl rfl (fun _ _ h => h) (fun _ => rfl) (by decide) (by decide) (by decide) (Nat.le_of_ble_eq_true rfl) (Nat.le_of_ble_eq_true rfl) dX3_init_7 (fun q0 => ?_)
  refine z_putF (fs' := [.ref q0, .int 0]) rfl fl_X3_9 (fun _ h => by cases h; rfl) hk (Nat.le_of_ble_eq_true rfl) rfl rfl rfl dX3_init_9 ?_
  refine z_aload_n dX3_init_12 rfl ?_
  refine z_iconst (v := 3) dX3_init_13 (by decide) ?_
  refine z_put (fs' := [.ref q0, .int 3]) fl_X3_15 hk (Nat.le_of_ble_eq_true rfl) rfl rfl rfl dX3_init_14 ?_
  exact z_vret (fun i => [q0].getD i 0) rfl (Nat.le_of_ble_eq_true rfl) (Nat.le_of_ble_eq_true rfl) rfl rfl dX3_init_17
def eX4 : va_E := .inr (4, [.int 0, .int 0, .int 0, .int 0, .int 0])
theorem oi_X4 : Cond.methodLink RX4 1 Lib.objectInit ∈ xws := x_mem 163 (by decide +kernel) (by decide +kernel)
set_option maxRecDepth 20000 in
set_option maxHeartbeats 4000000 in
theorem i_X4 {l : Launch} {E : xE} (dep : Nat) : zInit l E mX4_init (dep + 1) 0 0 [] (.inr (4, [.int 0, .int 0, .int 0, .int 0, .int 0])) (fun _ : Unit => eX4) (fun _ : Unit => []) := by
  refine z_spec RX4 (fun a => [some (.ref a)]) rfl rfl (by decide +kernel) (fun _ => rfl) (fun _ => rfl) (fun X A ws k a hX hk => ?_)
  refine z_aload_n dX4_init_0 rfl ?_
  refine z_obj oi_X4 oi_m oi_c (Nat.le_of_ble_eq_true rfl) (Nat.le_of_ble_eq_true rfl) dX4_init_1 ?_
  refine z_aload_n dX4_init_4 rfl ?_
  refine z_iconst (v := 0) dX4_init_5 (by decide) ?_
  refine z_put (fs' := [.int 0, .int 0, .int 0, .int 0, .int 0]) fl_X4_9 hk (Nat.le_of_ble_eq_true rfl) rfl rfl rfl dX4_init_6 ?_
  refine z_aload_n dX4_init_9 rfl ?_
  refine z_iconst (v := 0) dX4_init_10 (by decide) ?_
  refine z_put (fs' := [.int 0, .int 0, .int 0, .int 0, .int 0]) fl_X4_13 hk (Nat.le_of_ble_eq_true rfl) rfl rfl rfl dX4_init_11 ?_
  refine z_aload_n dX4_init_14 rfl ?_
  refine z_iconst (v := 0) dX4_init_15 (by decide) ?_
  refine z_put (fs' := [.int 0, .int 0, .int 0, .int 0, .int 0]) fl_X4_16 hk (Nat.le_of_ble_eq_true rfl) rfl rfl rfl dX4_init_16 ?_
  refine z_aload_n dX4_init_19 rfl ?_
  refine z_iconst (v := 0) dX4_init_20 (by decide) ?_
  refine z_put (fs' := [.int 0, .int 0, .int 0, .int 0, .int 0]) fl_X4_19 hk (Nat.le_of_ble_eq_true rfl) rfl rfl rfl dX4_init_21 ?_
  refine z_aload_n dX4_init_24 rfl ?_
  refine z_iconst (v := 0) dX4_init_25 (by decide) ?_
  refine z_put (fs' := [.int 0, .int 0, .int 0, .int 0, .int 0]) fl_X4_22 hk (Nat.le_of_ble_eq_true rfl) rfl rfl rfl dX4_init_26 ?_
  exact z_vret () rfl (Nat.le_of_ble_eq_true rfl) (Nat.le_of_ble_eq_true rfl) rfl rfl dX4_init_29
def eX9 (g : Nat → Nat) : va_E := .inr (9, [.ref (g 0), .int 0])
def nX9 (E : xE) (g : Nat → Nat) : va_W := [((g 0), .inl (E.2.1 0, 24, .inl (fun _ => 0)))]
theorem oi_X9 : Cond.methodLink RX9 3 Lib.objectInit ∈ xws := x_mem 124 (by decide +kernel) (by decide +kernel)
set_option maxRecDepth 20000 in
set_option maxHeartbeats 4000000 in
theorem i_X9 {l : Launch} {E : xE} (dep : Nat) : zInit l E mX9_init (dep + 1) 1 24 [] (.inr (9, [.null, .int 0])) (eX9) (nX9 E) := by
  refine z_spec RX9 (fun a => [some (.ref a)]) rfl rfl (by decide +kernel) (fun _ => rfl) (fun _ => rfl) (fun X A ws k a hX hk => ?_)
  refine z_aload_n dX9_init_0 rfl ?_
  refine z_obj oi_X9 oi_m oi_c (Nat.le_of_ble_eq_true rfl) (Nat.le_of_ble_eq_true rfl) dX9_init_1 ?_
  refine z_aload_n dX9_init_4 rfl ?_
  refine z_bipush (v := 24) dX9_init_5 (by decide) ?_
  refine z_newa (ty := .int) (t0 := 0) (N' := 24) (z := (24, .inl (fun _ => 0))) ac_int rfl rfl (fun _ _ h => h) (fun _ => rfl) (by decide) (by decide) (by decide) (Nat.le_of_ble_eq_true rfl) (Nat.le_of_ble_eq_true rfl) dX9_init_7 (fun q0 => ?_)
  refine z_putF (fs' := [.ref q0, .int 0]) rfl fl_X9_9 (fun _ h => by cases h; rfl) hk (Nat.le_of_ble_eq_true rfl) rfl rfl rfl dX9_init_9 ?_
  refine z_aload_n dX9_init_12 rfl ?_
  refine z_iconst (v := 0) dX9_init_13 (by decide) ?_
  refine z_put (fs' := [.ref q0, .int 0]) fl_X9_15 hk (Nat.le_of_ble_eq_true rfl) rfl rfl rfl dX9_init_14 ?_
  exact z_vret (fun i => [q0].getD i 0) rfl (Nat.le_of_ble_eq_true rfl) (Nat.le_of_ble_eq_true rfl) rfl rfl dX9_init_17
def eX10 (g : Nat → Nat) : va_E := .inr (10, [.ref (g 0), .int 0, .int 0, .int 0])
def nX10 (E : xE) (g : Nat → Nat) : va_W := [((g 0), .inl (E.2.1 0, 160, .inl (fun _ => 0)))]
theorem oi_X10 : Cond.methodLink RX10 3 Lib.objectInit ∈ xws := x_mem 137 (by decide +kernel) (by decide +kernel)
set_option maxRecDepth 20000 in
set_option maxHeartbeats 4000000 in
theorem i_X10 {l : Launch} {E : xE} (dep : Nat) : zInit l E mX10_init (dep + 1) 1 160 [] (.inr (10, [.null, .int 0, .int 0, .int 0])) (eX10) (nX10 E) := by
  refine z_spec RX10 (fun a => [some (.ref a)]) rfl rfl (by decide +kernel) (fun _ => rfl) (fun _ => rfl) (fun X A ws k a hX hk => ?_)
  refine z_aload_n dX10_init_0 rfl ?_
  refine z_obj oi_X10 oi_m oi_c (Nat.le_of_ble_eq_true rfl) (Nat.le_of_ble_eq_true rfl) dX10_init_1 ?_
  refine z_aload_n dX10_init_4 rfl ?_
  refine z_sipush (v := 160) dX10_init_5 (by decide) ?_
  refine z_newa (ty := .int) (t0 := 0) (N' := 160) (z := (160, .inl (fun _ => 0))) ac_int rfl rfl (fun _ _ h => h) (fun _ => rfl) (by decide) (by decide) (by decide) (Nat.le_of_ble_eq_true rfl) (Nat.le_of_ble_eq_true rfl) dX10_init_8 (fun q0 => ?_)
  refine z_putF (fs' := [.ref q0, .int 0, .int 0, .int 0]) rfl fl_X10_9 (fun _ h => by cases h; rfl) hk (Nat.le_of_ble_eq_true rfl) rfl rfl rfl dX10_init_10 ?_
  refine z_aload_n dX10_init_13 rfl ?_
  refine z_iconst (v := 0) dX10_init_14 (by decide) ?_
  refine z_put (fs' := [.ref q0, .int 0, .int 0, .int 0]) fl_X10_15 hk (Nat.le_of_ble_eq_true rfl) rfl rfl rfl dX10_init_15 ?_
  refine z_aload_n dX10_init_18 rfl ?_
  refine z_iconst (v := 0) dX10_init_19 (by decide) ?_
  refine z_put (fs' := [.ref q0, .int 0, .int 0, .int 0]) fl_X10_19 hk (Nat.le_of_ble_eq_true rfl) rfl rfl rfl dX10_init_20 ?_
  refine z_aload_n dX10_init_23 rfl ?_
  refine z_iconst (v := 0) dX10_init_24 (by decide) ?_
  refine z_put (fs' := [.ref q0, .int 0, .int 0, .int 0]) fl_X10_22 hk (Nat.le_of_ble_eq_true rfl) rfl rfl rfl dX10_init_25 ?_
  exact z_vret (fun i => [q0].getD i 0) rfl (Nat.le_of_ble_eq_true rfl) (Nat.le_of_ble_eq_true rfl) rfl rfl dX10_init_28
def eX0 (lt : Nat) (g : (Nat → Nat) × (Nat → Nat)) : va_E := .inr (0, [.ref lt, .ref (g.1 0), .ref (g.1 1), .ref (g.1 2), .ref (g.1 3), .ref (g.1 4), .ref (g.1 5), .int 0, .int 0, .int 0])
def nX0 (E : xE) (g : (Nat → Nat) × (Nat → Nat)) : va_W := [((g.1 0), .inl (E.2.1 2, 15625, .inl (fun _ => 0))), ((g.1 1), .inl (E.2.1 0, 15625, .inl (fun _ => 0))), ((g.1 2), .inl (E.2.1 0, 6, .inl (fun _ => 0))), ((g.1 3), .inl (E.2.1 0, 6, .inl (fun _ => 0))), ((g.1 4), .inl (E.2.1 0, 6, .inl (fun _ => 0))), ((g.1 5), .inl (E.2.1 6, 144, .inr (.inr (.inr (.inr (fun i => if i < 144 then some (g.2 i) else none))))))] ++ (List.range 144).map (fun i => (g.2 i, .inl (E.2.1 0, (6, .inl (fun _ => 0)))))
theorem cl_X0_28 : Cond.classLink RX0 28 ("[" ++ (FieldType.array .int).toString) ∈ xws := x_mem 251 (by decide +kernel) (by decide +kernel)
theorem oi_X0 : Cond.methodLink RX0 3 Lib.objectInit ∈ xws := x_mem 250 (by decide +kernel) (by decide +kernel)
set_option maxRecDepth 20000 in
set_option maxHeartbeats 4000000 in
theorem i_X0 {l : Launch} {E : xE} (dep : Nat) (lt : Nat) : zInit l E mX0_init (dep + 1) 150 32276 [.ref lt] (.inr (0, [.null, .null, .null, .null, .null, .null, .null, .int 0, .int 0, .int 0])) (eX0 lt) (nX0 E) := by
  refine z_spec RX0 (fun a => [some (.ref a), some (.ref lt)]) rfl rfl (by decide +kernel) (fun _ => rfl) (fun _ => rfl) (fun X A ws k a hX hk => ?_)
  refine z_aload_n dX0_init_0 rfl ?_
  refine z_obj oi_X0 oi_m oi_c (Nat.le_of_ble_eq_true rfl) (Nat.le_of_ble_eq_true rfl) dX0_init_1 ?_
  refine z_aload_n dX0_init_4 rfl ?_
  refine z_sipush (v := 15625) dX0_init_5 (by decide) ?_
  refine z_newa (ty := .byte) (t0 := 2) (N' := 15625) (z := (15625, .inl (fun _ => 0))) ac_byte rfl rfl (fun _ _ h => h) (fun _ => rfl) (by decide) (by decide) (by decide) (Nat.le_of_ble_eq_true rfl) (Nat.le_of_ble_eq_true rfl) dX0_init_8 (fun q0 => ?_)
  refine z_putF (fs' := [.null, .ref q0, .null, .null, .null, .null, .null, .int 0, .int 0, .int 0]) rfl fl_X0_11 (fun _ h => by cases h; rfl) hk (Nat.le_of_ble_eq_true rfl) rfl rfl rfl dX0_init_10 ?_
  refine z_aload_n dX0_init_13 rfl ?_
  refine z_sipush (v := 15625) dX0_init_14 (by decide) ?_
  refine z_newa (ty := .int) (t0 := 0) (N' := 15625) (z := (15625, .inl (fun _ => 0))) ac_int rfl rfl (fun _ _ h => h) (fun _ => rfl) (by decide) (by decide) (by decide) (Nat.le_of_ble_eq_true rfl) (Nat.le_of_ble_eq_true rfl) dX0_init_17 (fun q1 => ?_)
  refine z_putF (fs' := [.null, .ref q0, .ref q1, .null, .null, .null, .null, .int 0, .int 0, .int 0]) rfl fl_X0_15 (fun _ h => by cases h; rfl) hk (Nat.le_of_ble_eq_true rfl) rfl rfl rfl dX0_init_19 ?_
  refine z_aload_n dX0_init_22 rfl ?_
  refine z_bipush (v := 6) dX0_init_23 (by decide) ?_
  refine z_newa (ty := .int) (t0 := 0) (N' := 6) (z := (6, .inl (fun _ => 0))) ac_int rfl rfl (fun _ _ h => h) (fun _ => rfl) (by decide) (by decide) (by decide) (Nat.le_of_ble_eq_true rfl) (Nat.le_of_ble_eq_true rfl) dX0_init_25 (fun q2 => ?_)
  refine z_putF (fs' := [.null, .ref q0, .ref q1, .ref q2, .null, .null, .null, .int 0, .int 0, .int 0]) rfl fl_X0_19 (fun _ h => by cases h; rfl) hk (Nat.le_of_ble_eq_true rfl) rfl rfl rfl dX0_init_27 ?_
  refine z_aload_n dX0_init_30 rfl ?_
  refine z_bipush (v := 6) dX0_init_31 (by decide) ?_
  refine z_newa (ty := .int) (t0 := 0) (N' := 6) (z := (6, .inl (fun _ => 0))) ac_int rfl rfl (fun _ _ h => h) (fun _ => rfl) (by decide) (by decide) (by decide) (Nat.le_of_ble_eq_true rfl) (Nat.le_of_ble_eq_true rfl) dX0_init_33 (fun q3 => ?_)
  refine z_putF (fs' := [.null, .ref q0, .ref q1, .ref q2, .ref q3, .null, .null, .int 0, .int 0, .int 0]) rfl fl_X0_22 (fun _ h => by cases h; rfl) hk (Nat.le_of_ble_eq_true rfl) rfl rfl rfl dX0_init_35 ?_
  refine z_aload_n dX0_init_38 rfl ?_
  refine z_bipush (v := 6) dX0_init_39 (by decide) ?_
  refine z_newa (ty := .int) (t0 := 0) (N' := 6) (z := (6, .inl (fun _ => 0))) ac_int rfl rfl (fun _ _ h => h) (fun _ => rfl) (by decide) (by decide) (by decide) (Nat.le_of_ble_eq_true rfl) (Nat.le_of_ble_eq_true rfl) dX0_init_41 (fun q4 => ?_)
  refine z_putF (fs' := [.null, .ref q0, .ref q1, .ref q2, .ref q3, .ref q4, .null, .int 0, .int 0, .int 0]) rfl fl_X0_25 (fun _ h => by cases h; rfl) hk (Nat.le_of_ble_eq_true rfl) rfl rfl rfl dX0_init_43 ?_
  refine z_aload_n dX0_init_46 rfl ?_
  refine z_sipush (v := 144) dX0_init_47 (by decide) ?_
  refine z_bipush (v := 6) dX0_init_50 (by decide) ?_
  refine z_mna (tO := 6) (tI := 0) (N' := 144) (K' := 6) (ty := .int) (z := (6, .inl (fun _ => 0))) cl_X0_28 (by simp) ac_int rfl rfl (fun _ _ h => h) (by decide) (by decide) (by decide) (by decide) (by decide) (by decide) (by decide) rfl rfl (fun c => z_inint c 6) (Nat.le_of_ble_eq_true rfl) (Nat.le_of_ble_eq_true rfl) dX0_init_52 (fun q5 r0 => ?_)
  refine z_putF (fs' := [.null, .ref q0, .ref q1, .ref q2, .ref q3, .ref q4, .ref q5, .int 0, .int 0, .int 0]) rfl fl_X0_30 (fun _ h => by cases h; rfl) hk (Nat.le_of_ble_eq_true rfl) rfl rfl rfl dX0_init_56 ?_
  refine z_aload_n dX0_init_59 rfl ?_
  refine z_iconst (v := 0) dX0_init_60 (by decide) ?_
  refine z_put (fs' := [.null, .ref q0, .ref q1, .ref q2, .ref q3, .ref q4, .ref q5, .int 0, .int 0, .int 0]) fl_X0_33 hk (Nat.le_of_ble_eq_true rfl) rfl rfl rfl dX0_init_61 ?_
  refine z_aload_n dX0_init_64 rfl ?_
  refine z_iconst (v := 0) dX0_init_65 (by decide) ?_
  refine z_put (fs' := [.null, .ref q0, .ref q1, .ref q2, .ref q3, .ref q4, .ref q5, .int 0, .int 0, .int 0]) fl_X0_37 hk (Nat.le_of_ble_eq_true rfl) rfl rfl rfl dX0_init_66 ?_
  refine z_aload_n dX0_init_69 rfl ?_
  refine z_iconst (v := 0) dX0_init_70 (by decide) ?_
  refine z_put (fs' := [.null, .ref q0, .ref q1, .ref q2, .ref q3, .ref q4, .ref q5, .int 0, .int 0, .int 0]) fl_X0_40 hk (Nat.le_of_ble_eq_true rfl) rfl rfl rfl dX0_init_71 ?_
  refine z_aload_n dX0_init_74 rfl ?_
  refine z_aload_n dX0_init_75 rfl ?_
  refine z_putF (fs' := [.ref lt, .ref q0, .ref q1, .ref q2, .ref q3, .ref q4, .ref q5, .int 0, .int 0, .int 0]) rfl fl_X0_43 (fun _ h => by cases h; rfl) hk (Nat.le_of_ble_eq_true rfl) rfl rfl rfl dX0_init_76 ?_
  exact z_vret (fun i => [q0, q1, q2, q3, q4, q5].getD i 0, r0) rfl (Nat.le_of_ble_eq_true rfl) (Nat.le_of_ble_eq_true rfl) rfl rfl dX0_init_79
def eX6 (lt : Nat) (g : (Nat → Nat) × (Nat → Nat)) : va_E := .inr (6, [.ref lt, .ref (g.1 0), .ref (g.1 1), .ref (g.1 2), .int 0, .long 0])
def nX6 (E : xE) (g : (Nat → Nat) × (Nat → Nat)) : va_W := [((g.1 0), .inl (E.2.1 7, 21, .inr (.inr (.inr (.inr (fun i => if i < 21 then some (g.2 i) else none))))))] ++ (List.range 21).map (fun i => (g.2 i, .inl (E.2.1 1, (64, .inr (.inl (fun _ => 0)))))) ++ [((g.1 1), .inl (E.2.1 1, 61, .inr (.inl (fun _ => 0)))), ((g.1 2), .inl (E.2.1 0, 7, .inl (fun _ => 0)))]
theorem cl_X6_9 : Cond.classLink RX6 9 ("[" ++ (FieldType.array .long).toString) ∈ xws := x_mem 322 (by decide +kernel) (by decide +kernel)
theorem oi_X6 : Cond.methodLink RX6 3 Lib.objectInit ∈ xws := x_mem 321 (by decide +kernel) (by decide +kernel)
set_option maxRecDepth 20000 in
set_option maxHeartbeats 4000000 in
theorem i_X6 {l : Launch} {E : xE} (dep : Nat) (lt : Nat) : zInit l E mX6_init (dep + 1) 24 1433 [.ref lt] (.inr (6, [.null, .null, .null, .null, .int 0, .long 0])) (eX6 lt) (nX6 E) := by
  refine z_spec RX6 (fun a => [some (.ref a), some (.ref lt)]) rfl rfl (by decide +kernel) (fun _ => rfl) (fun _ => rfl) (fun X A ws k a hX hk => ?_)
  refine z_aload_n dX6_init_0 rfl ?_
  refine z_obj oi_X6 oi_m oi_c (Nat.le_of_ble_eq_true rfl) (Nat.le_of_ble_eq_true rfl) dX6_init_1 ?_
  refine z_aload_n dX6_init_4 rfl ?_
  refine z_bipush (v := 21) dX6_init_5 (by decide) ?_
  refine z_bipush (v := 64) dX6_init_7 (by decide) ?_
  refine z_mna (tO := 7) (tI := 1) (N' := 21) (K' := 64) (ty := .long) (z := (64, .inr (.inl (fun _ => 0)))) cl_X6_9 (by simp) ac_long rfl rfl (fun _ _ h => h) (by decide) (by decide) (by decide) (by decide) (by decide) (by decide) (by decide) rfl rfl (fun c => z_inlong c 64) (Nat.le_of_ble_eq_true rfl) (Nat.le_of_ble_eq_true rfl) dX6_init_9 (fun q0 r0 => ?_)
  refine z_putF (fs' := [.null, .ref q0, .null, .null, .int 0, .long 0]) rfl fl_X6_11 (fun _ h => by cases h; rfl) hk (Nat.le_of_ble_eq_true rfl) rfl rfl rfl dX6_init_13 ?_
  refine z_aload_n dX6_init_16 rfl ?_
  refine z_bipush (v := 61) dX6_init_17 (by decide) ?_
  refine z_newa (ty := .long) (t0 := 1) (N' := 61) (z := (61, .inr (.inl (fun _ => 0)))) ac_long rfl rfl (fun _ _ h => h) (fun _ => rfl) (by decide) (by decide) (by decide) (Nat.le_of_ble_eq_true rfl) (Nat.le_of_ble_eq_true rfl) dX6_init_19 (fun q1 => ?_)
  refine z_putF (fs' := [.null, .ref q0, .ref q1, .null, .int 0, .long 0]) rfl fl_X6_16 (fun _ h => by cases h; rfl) hk (Nat.le_of_ble_eq_true rfl) rfl rfl rfl dX6_init_21 ?_
  refine z_aload_n dX6_init_24 rfl ?_
  refine z_bipush (v := 7) dX6_init_25 (by decide) ?_
  refine z_newa (ty := .int) (t0 := 0) (N' := 7) (z := (7, .inl (fun _ => 0))) ac_int rfl rfl (fun _ _ h => h) (fun _ => rfl) (by decide) (by decide) (by decide) (Nat.le_of_ble_eq_true rfl) (Nat.le_of_ble_eq_true rfl) dX6_init_27 (fun q2 => ?_)
  refine z_putF (fs' := [.null, .ref q0, .ref q1, .ref q2, .int 0, .long 0]) rfl fl_X6_20 (fun _ h => by cases h; rfl) hk (Nat.le_of_ble_eq_true rfl) rfl rfl rfl dX6_init_29 ?_
  refine z_aload_n dX6_init_32 rfl ?_
  refine z_iconst (v := 0) dX6_init_33 (by decide) ?_
  refine z_put (fs' := [.null, .ref q0, .ref q1, .ref q2, .int 0, .long 0]) fl_X6_24 hk (Nat.le_of_ble_eq_true rfl) rfl rfl rfl dX6_init_34 ?_
  refine z_aload_n dX6_init_37 rfl ?_
  refine z_lconst (v := 0) dX6_init_38 (by decide) ?_
  refine z_put (fs' := [.null, .ref q0, .ref q1, .ref q2, .int 0, .long 0]) fl_X6_28 hk (Nat.le_of_ble_eq_true rfl) rfl rfl rfl dX6_init_39 ?_
  refine z_aload_n dX6_init_42 rfl ?_
  refine z_aload_n dX6_init_43 rfl ?_
  refine z_putF (fs' := [.ref lt, .ref q0, .ref q1, .ref q2, .int 0, .long 0]) rfl fl_X6_32 (fun _ h => by cases h; rfl) hk (Nat.le_of_ble_eq_true rfl) rfl rfl rfl dX6_init_44 ?_
  exact z_vret (fun i => [q0, q1, q2].getD i 0, r0) rfl (Nat.le_of_ble_eq_true rfl) (Nat.le_of_ble_eq_true rfl) rfl rfl dX6_init_47
def eX8 (lt od : Nat) (g : (Nat → Nat) × (Nat → Nat)) : va_E := .inr (8, [.ref lt, .ref od, .ref (g.1 0), .ref (g.1 1), .ref (g.1 2), .int 1, .int 0])
def nX8 (E : xE) (g : (Nat → Nat) × (Nat → Nat)) : va_W := [((g.1 0), .inl (E.2.1 6, 5, .inr (.inr (.inr (.inr (fun i => if i < 5 then some (g.2 i) else none))))))] ++ (List.range 5).map (fun i => (g.2 i, .inl (E.2.1 0, (6, .inl (fun _ => 0))))) ++ [((g.1 1), .inl (E.2.1 0, 320, .inl (fun _ => 0))), ((g.1 2), .inl (E.2.1 0, 320, .inl (fun _ => 0)))]
theorem cl_X8_9 : Cond.classLink RX8 9 ("[" ++ (FieldType.array .int).toString) ∈ xws := x_mem 349 (by decide +kernel) (by decide +kernel)
theorem oi_X8 : Cond.methodLink RX8 3 Lib.objectInit ∈ xws := x_mem 348 (by decide +kernel) (by decide +kernel)
set_option maxRecDepth 20000 in
set_option maxHeartbeats 4000000 in
theorem i_X8 {l : Launch} {E : xE} (dep : Nat) (lt od : Nat) : zInit l E mX8_init (dep + 1) 8 675 [.ref lt, .ref od] (.inr (8, [.null, .null, .null, .null, .null, .int 0, .int 0])) (eX8 lt od) (nX8 E) := by
  refine z_spec RX8 (fun a => [some (.ref a), some (.ref lt), some (.ref od)]) rfl rfl (by decide +kernel) (fun _ => rfl) (fun _ => rfl) (fun X A ws k a hX hk => ?_)
  refine z_aload_n dX8_init_0 rfl ?_
  refine z_obj oi_X8 oi_m oi_c (Nat.le_of_ble_eq_true rfl) (Nat.le_of_ble_eq_true rfl) dX8_init_1 ?_
  refine z_aload_n dX8_init_4 rfl ?_
  refine z_iconst (v := 5) dX8_init_5 (by decide) ?_
  refine z_bipush (v := 6) dX8_init_6 (by decide) ?_
  refine z_mna (tO := 6) (tI := 0) (N' := 5) (K' := 6) (ty := .int) (z := (6, .inl (fun _ => 0))) cl_X8_9 (by simp) ac_int rfl rfl (fun _ _ h => h) (by decide) (by decide) (by decide) (by decide) (by decide) (by decide) (by decide) rfl rfl (fun c => z_inint c 6) (Nat.le_of_ble_eq_true rfl) (Nat.le_of_ble_eq_true rfl) dX8_init_8 (fun q0 r0 => ?_)
  refine z_putF (fs' := [.null, .null, .ref q0, .null, .null, .int 0, .int 0]) rfl fl_X8_11 (fun _ h => by cases h; rfl) hk (Nat.le_of_ble_eq_true rfl) rfl rfl rfl dX8_init_12 ?_
  refine z_aload_n dX8_init_15 rfl ?_
  refine z_sipush (v := 320) dX8_init_16 (by decide) ?_
  refine z_newa (ty := .int) (t0 := 0) (N' := 320) (z := (320, .inl (fun _ => 0))) ac_int rfl rfl (fun _ _ h => h) (fun _ => rfl) (by decide) (by decide) (by decide) (Nat.le_of_ble_eq_true rfl) (Nat.le_of_ble_eq_true rfl) dX8_init_19 (fun q1 => ?_)
  refine z_put (fs' := [.null, .null, .ref q0, .ref q1, .null, .int 0, .int 0]) fl_X8_16 hk (Nat.le_of_ble_eq_true rfl) rfl rfl rfl dX8_init_21 ?_
  refine z_aload_n dX8_init_24 rfl ?_
  refine z_sipush (v := 320) dX8_init_25 (by decide) ?_
  refine z_newa (ty := .int) (t0 := 0) (N' := 320) (z := (320, .inl (fun _ => 0))) ac_int rfl rfl (fun _ _ h => h) (fun _ => rfl) (by decide) (by decide) (by decide) (Nat.le_of_ble_eq_true rfl) (Nat.le_of_ble_eq_true rfl) dX8_init_28 (fun q2 => ?_)
  refine z_put (fs' := [.null, .null, .ref q0, .ref q1, .ref q2, .int 0, .int 0]) fl_X8_20 hk (Nat.le_of_ble_eq_true rfl) rfl rfl rfl dX8_init_30 ?_
  refine z_aload_n dX8_init_33 rfl ?_
  refine z_iconst (v := 1) dX8_init_34 (by decide) ?_
  refine z_put (fs' := [.null, .null, .ref q0, .ref q1, .ref q2, .int 1, .int 0]) fl_X8_23 hk (Nat.le_of_ble_eq_true rfl) rfl rfl rfl dX8_init_35 ?_
  refine z_aload_n dX8_init_38 rfl ?_
  refine z_iconst (v := 0) dX8_init_39 (by decide) ?_
  refine z_put (fs' := [.null, .null, .ref q0, .ref q1, .ref q2, .int 1, .int 0]) fl_X8_27 hk (Nat.le_of_ble_eq_true rfl) rfl rfl rfl dX8_init_40 ?_
  refine z_aload_n dX8_init_43 rfl ?_
  refine z_aload_n dX8_init_44 rfl ?_
  refine z_putF (fs' := [.ref lt, .null, .ref q0, .ref q1, .ref q2, .int 1, .int 0]) rfl fl_X8_30 (fun _ h => by cases h; rfl) hk (Nat.le_of_ble_eq_true rfl) rfl rfl rfl dX8_init_45 ?_
  refine z_aload_n dX8_init_48 rfl ?_
  refine z_aload_n dX8_init_49 rfl ?_
  refine z_putF (fs' := [.ref lt, .ref od, .ref q0, .ref q1, .ref q2, .int 1, .int 0]) rfl fl_X8_34 (fun _ h => by cases h; rfl) hk (Nat.le_of_ble_eq_true rfl) rfl rfl rfl dX8_init_50 ?_
  exact z_vret (fun i => [q0, q1, q2].getD i 0, r0) rfl (Nat.le_of_ble_eq_true rfl) (Nat.le_of_ble_eq_true rfl) rfl rfl dX8_init_53
def eX12 (g : Nat → Nat) : va_E := .inr (12, [.int 3, .ref (g 0), .ref (g 1), .ref (g 2), .int 0, .ref (g 3), .int 0, .int 0, .int 0, .int 0, .int 0, .int 0, .int 0, .ref (g 4), .ref (g 5), .ref (g 6), .ref (g 7), .ref (g 8), .ref (g 9), .ref (g 10), .ref (g 11), .ref (g 12), .ref (g 13), .ref (g 14), .int 0, .int 0, .ref (g 15), .int 0, .ref (g 16), .ref (g 17), .ref (g 18), .ref (g 19), .int 1, .int 0, .ref (g 20)])
def nX12 (E : xE) (g : Nat → Nat) : va_W := [((g 0), .inl (E.2.1 0, 6, .inl (fun _ => 0))), ((g 1), .inl (E.2.1 0, 4, .inl (fun _ => 0))), ((g 2), .inl (E.2.1 0, 96, .inl (fun _ => 0))), ((g 3), .inl (E.2.1 0, 160, .inl (fun _ => 0))), ((g 4), .inl (E.2.1 0, 64, .inl (fun _ => 0))), ((g 5), .inl (E.2.1 0, 48, .inl (fun _ => 0))), ((g 6), .inl (E.2.1 0, 48, .inl (fun _ => 0))), ((g 7), .inl (E.2.1 0, 48, .inl (fun _ => 0))), ((g 8), .inl (E.2.1 3, 48, .inl (fun _ => 0))), ((g 9), .inl (E.2.1 3, 576, .inl (fun _ => 0))), ((g 10), .inl (E.2.1 0, 20001, .inl (fun _ => 0))), ((g 11), .inl (E.2.1 1, 20001, .inr (.inl (fun _ => 0)))), ((g 12), .inl (E.2.1 0, 65536, .inl (fun _ => 0))), ((g 13), .inl (E.2.1 0, 6, .inl (fun _ => 0))), ((g 14), .inl (E.2.1 0, 6, .inl (fun _ => 0))), ((g 15), .inl (E.2.1 1, 2001, .inr (.inl (fun _ => 0)))), ((g 16), .inl (E.2.1 1, 1344, .inr (.inl (fun _ => 0)))), ((g 17), .inl (E.2.1 1, 320, .inr (.inl (fun _ => 0)))), ((g 18), .inl (E.2.1 1, 320, .inr (.inl (fun _ => 0)))), ((g 19), .inl (E.2.1 1, 61, .inr (.inl (fun _ => 0)))), ((g 20), .inl (E.2.1 0, 30, .inl (fun _ => 0)))]
theorem oi_X12 : Cond.methodLink RX12 1 Lib.objectInit ∈ xws := x_mem 1141 (by decide +kernel) (by decide +kernel)
set_option maxRecDepth 20000 in
set_option maxHeartbeats 4000000 in
theorem i_X12 {l : Launch} {E : xE} (dep : Nat) : zInit l E mX12_init (dep + 1) 21 110724 [] (.inr (12, [.int 0, .null, .null, .null, .int 0, .null, .int 0, .int 0, .int 0, .int 0, .int 0, .int 0, .int 0, .null, .null, .null, .null, .null, .null, .null, .null, .null, .null, .null, .int 0, .int 0, .null, .int 0, .null, .null, .null, .null, .int 0, .int 0, .null])) (eX12) (nX12 E) := by
  refine z_spec RX12 (fun a => [some (.ref a)]) rfl rfl (by decide +kernel) (fun _ => rfl) (fun _ => rfl) (fun X A ws k a hX hk => ?_)
  refine z_aload_n dX12_init_0 rfl ?_
  refine z_obj oi_X12 oi_m oi_c (Nat.le_of_ble_eq_true rfl) (Nat.le_of_ble_eq_true rfl) dX12_init_1 ?_
  refine z_aload_n dX12_init_4 rfl ?_
  refine z_iconst (v := 3) dX12_init_5 (by decide) ?_
  refine z_put (fs' := [.int 3, .null, .null, .null, .int 0, .null, .int 0, .int 0, .int 0, .int 0, .int 0, .int 0, .int 0, .null, .null, .null, .null, .null, .null, .null, .null, .null, .null, .null, .int 0, .int 0, .null, .int 0, .null, .null, .null, .null, .int 0, .int 0, .null]) fl_X12_7 hk (Nat.le_of_ble_eq_true rfl) rfl rfl rfl dX12_init_6 ?_
  refine z_aload_n dX12_init_9 rfl ?_
  refine z_bipush (v := 6) dX12_init_10 (by decide) ?_
  refine z_newa (ty := .int) (t0 := 0) (N' := 6) (z := (6, .inl (fun _ => 0))) ac_int rfl rfl (fun _ _ h => h) (fun _ => rfl) (by decide) (by decide) (by decide) (Nat.le_of_ble_eq_true rfl) (Nat.le_of_ble_eq_true rfl) dX12_init_12 (fun q0 => ?_)
  refine z_putF (fs' := [.int 3, .ref q0, .null, .null, .int 0, .null, .int 0, .int 0, .int 0, .int 0, .int 0, .int 0, .int 0, .null, .null, .null, .null, .null, .null, .null, .null, .null, .null, .null, .int 0, .int 0, .null, .int 0, .null, .null, .null, .null, .int 0, .int 0, .null]) rfl fl_X12_13 (fun _ h => by cases h; rfl) hk (Nat.le_of_ble_eq_true rfl) rfl rfl rfl dX12_init_14 ?_
  refine z_aload_n dX12_init_17 rfl ?_
  refine z_iconst (v := 4) dX12_init_18 (by decide) ?_
  refine z_newa (ty := .int) (t0 := 0) (N' := 4) (z := (4, .inl (fun _ => 0))) ac_int rfl rfl (fun _ _ h => h) (fun _ => rfl) (by decide) (by decide) (by decide) (Nat.le_of_ble_eq_true rfl) (Nat.le_of_ble_eq_true rfl) dX12_init_19 (fun q1 => ?_)
  refine z_putF (fs' := [.int 3, .ref q0, .ref q1, .null, .int 0, .null, .int 0, .int 0, .int 0, .int 0, .int 0, .int 0, .int 0, .null, .null, .null, .null, .null, .null, .null, .null, .null, .null, .null, .int 0, .int 0, .null, .int 0, .null, .null, .null, .null, .int 0, .int 0, .null]) rfl fl_X12_17 (fun _ h => by cases h; rfl) hk (Nat.le_of_ble_eq_true rfl) rfl rfl rfl dX12_init_21 ?_
  refine z_aload_n dX12_init_24 rfl ?_
  refine z_bipush (v := 96) dX12_init_25 (by decide) ?_
  refine z_newa (ty := .int) (t0 := 0) (N' := 96) (z := (96, .inl (fun _ => 0))) ac_int rfl rfl (fun _ _ h => h) (fun _ => rfl) (by decide) (by decide) (by decide) (Nat.le_of_ble_eq_true rfl) (Nat.le_of_ble_eq_true rfl) dX12_init_27 (fun q2 => ?_)
  refine z_putF (fs' := [.int 3, .ref q0, .ref q1, .ref q2, .int 0, .null, .int 0, .int 0, .int 0, .int 0, .int 0, .int 0, .int 0, .null, .null, .null, .null, .null, .null, .null, .null, .null, .null, .null, .int 0, .int 0, .null, .int 0, .null, .null, .null, .null, .int 0, .int 0, .null]) rfl fl_X12_20 (fun _ h => by cases h; rfl) hk (Nat.le_of_ble_eq_true rfl) rfl rfl rfl dX12_init_29 ?_
  refine z_aload_n dX12_init_32 rfl ?_
  refine z_sipush (v := 160) dX12_init_33 (by decide) ?_
  refine z_newa (ty := .int) (t0 := 0) (N' := 160) (z := (160, .inl (fun _ => 0))) ac_int rfl rfl (fun _ _ h => h) (fun _ => rfl) (by decide) (by decide) (by decide) (Nat.le_of_ble_eq_true rfl) (Nat.le_of_ble_eq_true rfl) dX12_init_36 (fun q3 => ?_)
  refine z_putF (fs' := [.int 3, .ref q0, .ref q1, .ref q2, .int 0, .ref q3, .int 0, .int 0, .int 0, .int 0, .int 0, .int 0, .int 0, .null, .null, .null, .null, .null, .null, .null, .null, .null, .null, .null, .int 0, .int 0, .null, .int 0, .null, .null, .null, .null, .int 0, .int 0, .null]) rfl fl_X12_23 (fun _ h => by cases h; rfl) hk (Nat.le_of_ble_eq_true rfl) rfl rfl rfl dX12_init_38 ?_
  refine z_aload_n dX12_init_41 rfl ?_
  refine z_bipush (v := 64) dX12_init_42 (by decide) ?_
  refine z_newa (ty := .int) (t0 := 0) (N' := 64) (z := (64, .inl (fun _ => 0))) ac_int rfl rfl (fun _ _ h => h) (fun _ => rfl) (by decide) (by decide) (by decide) (Nat.le_of_ble_eq_true rfl) (Nat.le_of_ble_eq_true rfl) dX12_init_44 (fun q4 => ?_)
  refine z_putF (fs' := [.int 3, .ref q0, .ref q1, .ref q2, .int 0, .ref q3, .int 0, .int 0, .int 0, .int 0, .int 0, .int 0, .int 0, .ref q4, .null, .null, .null, .null, .null, .null, .null, .null, .null, .null, .int 0, .int 0, .null, .int 0, .null, .null, .null, .null, .int 0, .int 0, .null]) rfl fl_X12_26 (fun _ h => by cases h; rfl) hk (Nat.le_of_ble_eq_true rfl) rfl rfl rfl dX12_init_46 ?_
  refine z_aload_n dX12_init_49 rfl ?_
  refine z_bipush (v := 48) dX12_init_50 (by decide) ?_
  refine z_newa (ty := .int) (t0 := 0) (N' := 48) (z := (48, .inl (fun _ => 0))) ac_int rfl rfl (fun _ _ h => h) (fun _ => rfl) (by decide) (by decide) (by decide) (Nat.le_of_ble_eq_true rfl) (Nat.le_of_ble_eq_true rfl) dX12_init_52 (fun q5 => ?_)
  refine z_putF (fs' := [.int 3, .ref q0, .ref q1, .ref q2, .int 0, .ref q3, .int 0, .int 0, .int 0, .int 0, .int 0, .int 0, .int 0, .ref q4, .ref q5, .null, .null, .null, .null, .null, .null, .null, .null, .null, .int 0, .int 0, .null, .int 0, .null, .null, .null, .null, .int 0, .int 0, .null]) rfl fl_X12_29 (fun _ h => by cases h; rfl) hk (Nat.le_of_ble_eq_true rfl) rfl rfl rfl dX12_init_54 ?_
  refine z_aload_n dX12_init_57 rfl ?_
  refine z_bipush (v := 48) dX12_init_58 (by decide) ?_
  refine z_newa (ty := .int) (t0 := 0) (N' := 48) (z := (48, .inl (fun _ => 0))) ac_int rfl rfl (fun _ _ h => h) (fun _ => rfl) (by decide) (by decide) (by decide) (Nat.le_of_ble_eq_true rfl) (Nat.le_of_ble_eq_true rfl) dX12_init_60 (fun q6 => ?_)
  refine z_putF (fs' := [.int 3, .ref q0, .ref q1, .ref q2, .int 0, .ref q3, .int 0, .int 0, .int 0, .int 0, .int 0, .int 0, .int 0, .ref q4, .ref q5, .ref q6, .null, .null, .null, .null, .null, .null, .null, .null, .int 0, .int 0, .null, .int 0, .null, .null, .null, .null, .int 0, .int 0, .null]) rfl fl_X12_32 (fun _ h => by cases h; rfl) hk (Nat.le_of_ble_eq_true rfl) rfl rfl rfl dX12_init_62 ?_
  refine z_aload_n dX12_init_65 rfl ?_
  refine z_bipush (v := 48) dX12_init_66 (by decide) ?_
  refine z_newa (ty := .int) (t0 := 0) (N' := 48) (z := (48, .inl (fun _ => 0))) ac_int rfl rfl (fun _ _ h => h) (fun _ => rfl) (by decide) (by decide) (by decide) (Nat.le_of_ble_eq_true rfl) (Nat.le_of_ble_eq_true rfl) dX12_init_68 (fun q7 => ?_)
  refine z_putF (fs' := [.int 3, .ref q0, .ref q1, .ref q2, .int 0, .ref q3, .int 0, .int 0, .int 0, .int 0, .int 0, .int 0, .int 0, .ref q4, .ref q5, .ref q6, .ref q7, .null, .null, .null, .null, .null, .null, .null, .int 0, .int 0, .null, .int 0, .null, .null, .null, .null, .int 0, .int 0, .null]) rfl fl_X12_35 (fun _ h => by cases h; rfl) hk (Nat.le_of_ble_eq_true rfl) rfl rfl rfl dX12_init_70 ?_
  refine z_aload_n dX12_init_73 rfl ?_
  refine z_bipush (v := 48) dX12_init_74 (by decide) ?_
  refine z_newa (ty := .boolean) (t0 := 3) (N' := 48) (z := (48, .inl (fun _ => 0))) ac_boolean rfl rfl (fun _ _ h => h) (fun _ => rfl) (by decide) (by decide) (by decide) (Nat.le_of_ble_eq_true rfl) (Nat.le_of_ble_eq_true rfl) dX12_init_76 (fun q8 => ?_)
  refine z_putF (fs' := [.int 3, .ref q0, .ref q1, .ref q2, .int 0, .ref q3, .int 0, .int 0, .int 0, .int 0, .int 0, .int 0, .int 0, .ref q4, .ref q5, .ref q6, .ref q7, .ref q8, .null, .null, .null, .null, .null, .null, .int 0, .int 0, .null, .int 0, .null, .null, .null, .null, .int 0, .int 0, .null]) rfl fl_X12_38 (fun _ h => by cases h; rfl) hk (Nat.le_of_ble_eq_true rfl) rfl rfl rfl dX12_init_78 ?_
  refine z_aload_n dX12_init_81 rfl ?_
  refine z_sipush (v := 576) dX12_init_82 (by decide) ?_
  refine z_newa (ty := .boolean) (t0 := 3) (N' := 576) (z := (576, .inl (fun _ => 0))) ac_boolean rfl rfl (fun _ _ h => h) (fun _ => rfl) (by decide) (by decide) (by decide) (Nat.le_of_ble_eq_true rfl) (Nat.le_of_ble_eq_true rfl) dX12_init_85 (fun q9 => ?_)
  refine z_putF (fs' := [.int 3, .ref q0, .ref q1, .ref q2, .int 0, .ref q3, .int 0, .int 0, .int 0, .int 0, .int 0, .int 0, .int 0, .ref q4, .ref q5, .ref q6, .ref q7, .ref q8, .ref q9, .null, .null, .null, .null, .null, .int 0, .int 0, .null, .int 0, .null, .null, .null, .null, .int 0, .int 0, .null]) rfl fl_X12_42 (fun _ h => by cases h; rfl) hk (Nat.le_of_ble_eq_true rfl) rfl rfl rfl dX12_init_87 ?_
  refine z_aload_n dX12_init_90 rfl ?_
  refine z_sipush (v := 20001) dX12_init_91 (by decide) ?_
  refine z_newa (ty := .int) (t0 := 0) (N' := 20001) (z := (20001, .inl (fun _ => 0))) ac_int rfl rfl (fun _ _ h => h) (fun _ => rfl) (by decide) (by decide) (by decide) (Nat.le_of_ble_eq_true rfl) (Nat.le_of_ble_eq_true rfl) dX12_init_94 (fun q10 => ?_)
  refine z_putF (fs' := [.int 3, .ref q0, .ref q1, .ref q2, .int 0, .ref q3, .int 0, .int 0, .int 0, .int 0, .int 0, .int 0, .int 0, .ref q4, .ref q5, .ref q6, .ref q7, .ref q8, .ref q9, .ref q10, .null, .null, .null, .null, .int 0, .int 0, .null, .int 0, .null, .null, .null, .null, .int 0, .int 0, .null]) rfl fl_X12_45 (fun _ h => by cases h; rfl) hk (Nat.le_of_ble_eq_true rfl) rfl rfl rfl dX12_init_96 ?_
  refine z_aload_n dX12_init_99 rfl ?_
  refine z_sipush (v := 20001) dX12_init_100 (by decide) ?_
  refine z_newa (ty := .long) (t0 := 1) (N' := 20001) (z := (20001, .inr (.inl (fun _ => 0)))) ac_long rfl rfl (fun _ _ h => h) (fun _ => rfl) (by decide) (by decide) (by decide) (Nat.le_of_ble_eq_true rfl) (Nat.le_of_ble_eq_true rfl) dX12_init_103 (fun q11 => ?_)
  refine z_putF (fs' := [.int 3, .ref q0, .ref q1, .ref q2, .int 0, .ref q3, .int 0, .int 0, .int 0, .int 0, .int 0, .int 0, .int 0, .ref q4, .ref q5, .ref q6, .ref q7, .ref q8, .ref q9, .ref q10, .ref q11, .null, .null, .null, .int 0, .int 0, .null, .int 0, .null, .null, .null, .null, .int 0, .int 0, .null]) rfl fl_X12_48 (fun _ h => by cases h; rfl) hk (Nat.le_of_ble_eq_true rfl) rfl rfl rfl dX12_init_105 ?_
  refine z_aload_n dX12_init_108 rfl ?_
  refine z_ldc ct_X12_52 dX12_init_109 ?_
  refine z_newa (ty := .int) (t0 := 0) (N' := 65536) (z := (65536, .inl (fun _ => 0))) ac_int rfl rfl (fun _ _ h => h) (fun _ => rfl) (by decide) (by decide) (by decide) (Nat.le_of_ble_eq_true rfl) (Nat.le_of_ble_eq_true rfl) dX12_init_111 (fun q12 => ?_)
  refine z_putF (fs' := [.int 3, .ref q0, .ref q1, .ref q2, .int 0, .ref q3, .int 0, .int 0, .int 0, .int 0, .int 0, .int 0, .int 0, .ref q4, .ref q5, .ref q6, .ref q7, .ref q8, .ref q9, .ref q10, .ref q11, .ref q12, .null, .null, .int 0, .int 0, .null, .int 0, .null, .null, .null, .null, .int 0, .int 0, .null]) rfl fl_X12_53 (fun _ h => by cases h; rfl) hk (Nat.le_of_ble_eq_true rfl) rfl rfl rfl dX12_init_113 ?_
  refine z_aload_n dX12_init_116 rfl ?_
  refine z_bipush (v := 6) dX12_init_117 (by decide) ?_
  refine z_newa (ty := .int) (t0 := 0) (N' := 6) (z := (6, .inl (fun _ => 0))) ac_int rfl rfl (fun _ _ h => h) (fun _ => rfl) (by decide) (by decide) (by decide) (Nat.le_of_ble_eq_true rfl) (Nat.le_of_ble_eq_true rfl) dX12_init_119 (fun q13 => ?_)
  refine z_putF (fs' := [.int 3, .ref q0, .ref q1, .ref q2, .int 0, .ref q3, .int 0, .int 0, .int 0, .int 0, .int 0, .int 0, .int 0, .ref q4, .ref q5, .ref q6, .ref q7, .ref q8, .ref q9, .ref q10, .ref q11, .ref q12, .ref q13, .null, .int 0, .int 0, .null, .int 0, .null, .null, .null, .null, .int 0, .int 0, .null]) rfl fl_X12_56 (fun _ h => by cases h; rfl) hk (Nat.le_of_ble_eq_true rfl) rfl rfl rfl dX12_init_121 ?_
  refine z_aload_n dX12_init_124 rfl ?_
  refine z_bipush (v := 6) dX12_init_125 (by decide) ?_
  refine z_newa (ty := .int) (t0 := 0) (N' := 6) (z := (6, .inl (fun _ => 0))) ac_int rfl rfl (fun _ _ h => h) (fun _ => rfl) (by decide) (by decide) (by decide) (Nat.le_of_ble_eq_true rfl) (Nat.le_of_ble_eq_true rfl) dX12_init_127 (fun q14 => ?_)
  refine z_putF (fs' := [.int 3, .ref q0, .ref q1, .ref q2, .int 0, .ref q3, .int 0, .int 0, .int 0, .int 0, .int 0, .int 0, .int 0, .ref q4, .ref q5, .ref q6, .ref q7, .ref q8, .ref q9, .ref q10, .ref q11, .ref q12, .ref q13, .ref q14, .int 0, .int 0, .null, .int 0, .null, .null, .null, .null, .int 0, .int 0, .null]) rfl fl_X12_59 (fun _ h => by cases h; rfl) hk (Nat.le_of_ble_eq_true rfl) rfl rfl rfl dX12_init_129 ?_
  refine z_aload_n dX12_init_132 rfl ?_
  refine z_sipush (v := 2001) dX12_init_133 (by decide) ?_
  refine z_newa (ty := .long) (t0 := 1) (N' := 2001) (z := (2001, .inr (.inl (fun _ => 0)))) ac_long rfl rfl (fun _ _ h => h) (fun _ => rfl) (by decide) (by decide) (by decide) (Nat.le_of_ble_eq_true rfl) (Nat.le_of_ble_eq_true rfl) dX12_init_136 (fun q15 => ?_)
  refine z_putF (fs' := [.int 3, .ref q0, .ref q1, .ref q2, .int 0, .ref q3, .int 0, .int 0, .int 0, .int 0, .int 0, .int 0, .int 0, .ref q4, .ref q5, .ref q6, .ref q7, .ref q8, .ref q9, .ref q10, .ref q11, .ref q12, .ref q13, .ref q14, .int 0, .int 0, .ref q15, .int 0, .null, .null, .null, .null, .int 0, .int 0, .null]) rfl fl_X12_62 (fun _ h => by cases h; rfl) hk (Nat.le_of_ble_eq_true rfl) rfl rfl rfl dX12_init_138 ?_
  refine z_aload_n dX12_init_141 rfl ?_
  refine z_sipush (v := 1344) dX12_init_142 (by decide) ?_
  refine z_newa (ty := .long) (t0 := 1) (N' := 1344) (z := (1344, .inr (.inl (fun _ => 0)))) ac_long rfl rfl (fun _ _ h => h) (fun _ => rfl) (by decide) (by decide) (by decide) (Nat.le_of_ble_eq_true rfl) (Nat.le_of_ble_eq_true rfl) dX12_init_145 (fun q16 => ?_)
  refine z_putF (fs' := [.int 3, .ref q0, .ref q1, .ref q2, .int 0, .ref q3, .int 0, .int 0, .int 0, .int 0, .int 0, .int 0, .int 0, .ref q4, .ref q5, .ref q6, .ref q7, .ref q8, .ref q9, .ref q10, .ref q11, .ref q12, .ref q13, .ref q14, .int 0, .int 0, .ref q15, .int 0, .ref q16, .null, .null, .null, .int 0, .int 0, .null]) rfl fl_X12_65 (fun _ h => by cases h; rfl) hk (Nat.le_of_ble_eq_true rfl) rfl rfl rfl dX12_init_147 ?_
  refine z_aload_n dX12_init_150 rfl ?_
  refine z_sipush (v := 320) dX12_init_151 (by decide) ?_
  refine z_newa (ty := .long) (t0 := 1) (N' := 320) (z := (320, .inr (.inl (fun _ => 0)))) ac_long rfl rfl (fun _ _ h => h) (fun _ => rfl) (by decide) (by decide) (by decide) (Nat.le_of_ble_eq_true rfl) (Nat.le_of_ble_eq_true rfl) dX12_init_154 (fun q17 => ?_)
  refine z_putF (fs' := [.int 3, .ref q0, .ref q1, .ref q2, .int 0, .ref q3, .int 0, .int 0, .int 0, .int 0, .int 0, .int 0, .int 0, .ref q4, .ref q5, .ref q6, .ref q7, .ref q8, .ref q9, .ref q10, .ref q11, .ref q12, .ref q13, .ref q14, .int 0, .int 0, .ref q15, .int 0, .ref q16, .ref q17, .null, .null, .int 0, .int 0, .null]) rfl fl_X12_68 (fun _ h => by cases h; rfl) hk (Nat.le_of_ble_eq_true rfl) rfl rfl rfl dX12_init_156 ?_
  refine z_aload_n dX12_init_159 rfl ?_
  refine z_sipush (v := 320) dX12_init_160 (by decide) ?_
  refine z_newa (ty := .long) (t0 := 1) (N' := 320) (z := (320, .inr (.inl (fun _ => 0)))) ac_long rfl rfl (fun _ _ h => h) (fun _ => rfl) (by decide) (by decide) (by decide) (Nat.le_of_ble_eq_true rfl) (Nat.le_of_ble_eq_true rfl) dX12_init_163 (fun q18 => ?_)
  refine z_putF (fs' := [.int 3, .ref q0, .ref q1, .ref q2, .int 0, .ref q3, .int 0, .int 0, .int 0, .int 0, .int 0, .int 0, .int 0, .ref q4, .ref q5, .ref q6, .ref q7, .ref q8, .ref q9, .ref q10, .ref q11, .ref q12, .ref q13, .ref q14, .int 0, .int 0, .ref q15, .int 0, .ref q16, .ref q17, .ref q18, .null, .int 0, .int 0, .null]) rfl fl_X12_71 (fun _ h => by cases h; rfl) hk (Nat.le_of_ble_eq_true rfl) rfl rfl rfl dX12_init_165 ?_
  refine z_aload_n dX12_init_168 rfl ?_
  refine z_bipush (v := 61) dX12_init_169 (by decide) ?_
  refine z_newa (ty := .long) (t0 := 1) (N' := 61) (z := (61, .inr (.inl (fun _ => 0)))) ac_long rfl rfl (fun _ _ h => h) (fun _ => rfl) (by decide) (by decide) (by decide) (Nat.le_of_ble_eq_true rfl) (Nat.le_of_ble_eq_true rfl) dX12_init_171 (fun q19 => ?_)
  refine z_putF (fs' := [.int 3, .ref q0, .ref q1, .ref q2, .int 0, .ref q3, .int 0, .int 0, .int 0, .int 0, .int 0, .int 0, .int 0, .ref q4, .ref q5, .ref q6, .ref q7, .ref q8, .ref q9, .ref q10, .ref q11, .ref q12, .ref q13, .ref q14, .int 0, .int 0, .ref q15, .int 0, .ref q16, .ref q17, .ref q18, .ref q19, .int 0, .int 0, .null]) rfl fl_X12_74 (fun _ h => by cases h; rfl) hk (Nat.le_of_ble_eq_true rfl) rfl rfl rfl dX12_init_173 ?_
  refine z_aload_n dX12_init_176 rfl ?_
  refine z_iconst (v := 1) dX12_init_177 (by decide) ?_
  refine z_put (fs' := [.int 3, .ref q0, .ref q1, .ref q2, .int 0, .ref q3, .int 0, .int 0, .int 0, .int 0, .int 0, .int 0, .int 0, .ref q4, .ref q5, .ref q6, .ref q7, .ref q8, .ref q9, .ref q10, .ref q11, .ref q12, .ref q13, .ref q14, .int 0, .int 0, .ref q15, .int 0, .ref q16, .ref q17, .ref q18, .ref q19, .int 1, .int 0, .null]) fl_X12_77 hk (Nat.le_of_ble_eq_true rfl) rfl rfl rfl dX12_init_178 ?_
  refine z_aload_n dX12_init_181 rfl ?_
  refine z_bipush (v := 30) dX12_init_182 (by decide) ?_
  refine z_newa (ty := .int) (t0 := 0) (N' := 30) (z := (30, .inl (fun _ => 0))) ac_int rfl rfl (fun _ _ h => h) (fun _ => rfl) (by decide) (by decide) (by decide) (Nat.le_of_ble_eq_true rfl) (Nat.le_of_ble_eq_true rfl) dX12_init_184 (fun q20 => ?_)
  refine z_putF (fs' := [.int 3, .ref q0, .ref q1, .ref q2, .int 0, .ref q3, .int 0, .int 0, .int 0, .int 0, .int 0, .int 0, .int 0, .ref q4, .ref q5, .ref q6, .ref q7, .ref q8, .ref q9, .ref q10, .ref q11, .ref q12, .ref q13, .ref q14, .int 0, .int 0, .ref q15, .int 0, .ref q16, .ref q17, .ref q18, .ref q19, .int 1, .int 0, .ref q20]) rfl fl_X12_80 (fun _ h => by cases h; rfl) hk (Nat.le_of_ble_eq_true rfl) rfl rfl rfl dX12_init_186 ?_
  exact z_vret (fun i => [q0, q1, q2, q3, q4, q5, q6, q7, q8, q9, q10, q11, q12, q13, q14, q15, q16, q17, q18, q19, q20].getD i 0) rfl (Nat.le_of_ble_eq_true rfl) (Nat.le_of_ble_eq_true rfl) rfl rfl dX12_init_189
def eX5 (tx : Nat) (g : Nat → Nat) : va_E := .inr (5, [.ref tx, .ref (g 0), .int 0, .int 0])
def nX5 (E : xE) (g : Nat → Nat) : va_W := [((g 0), .inl (E.2.1 5, 16, .inr (.inr (.inr (.inr (fun i => [(g 1), (g 2), (g 3), (g 4), (g 5), (g 6), (g 7), (g 8), (g 9), (g 10), (g 11), (g 12), (g 13), (g 14), (g 15), (g 16)][i]?)))))), ((g 1), eX4), ((g 2), eX4), ((g 3), eX4), ((g 4), eX4), ((g 5), eX4), ((g 6), eX4), ((g 7), eX4), ((g 8), eX4), ((g 9), eX4), ((g 10), eX4), ((g 11), eX4), ((g 12), eX4), ((g 13), eX4), ((g 14), eX4), ((g 15), eX4), ((g 16), eX4)]
theorem ci_X5_28 : xCI RX5 28 mX4_init 0 := ⟨x_mem 162 (by decide +kernel) (by decide +kernel), x_mem 81 (by decide +kernel) (by decide +kernel), Or.inr ⟨"SwapSteps", x_nw 160 (by decide +kernel) rfl⟩, by decide +kernel, by decide +kernel, by decide +kernel, by decide, rfl, rfl, x_mem 161 (by decide +kernel) (by decide +kernel)⟩
theorem xn_X5_11 : xNew RX5 11 4 (RX4, TX4, 5) tyX4 := ⟨cl_4, x_mem 157 (by decide +kernel) (by decide +kernel), x_mem 159 (by decide +kernel) (by decide +kernel), x_mem 81 (by decide +kernel) (by decide +kernel)⟩
theorem cl_X5_11 : Cond.classLink RX5 11 RX4 ∈ xws := x_mem 157 (by decide +kernel) (by decide +kernel)
theorem oi_X5 : Cond.methodLink RX5 3 Lib.objectInit ∈ xws := x_mem 156 (by decide +kernel) (by decide +kernel)
set_option maxRecDepth 20000 in
set_option maxHeartbeats 4000000 in
theorem i_X5 {l : Launch} {E : xE} (dep : Nat) (tx : Nat) : zInit l E mX5_init (dep + 2) 17 96 [.ref tx] (.inr (5, [.null, .null, .int 0, .int 0])) (eX5 tx) (nX5 E) := by
  refine z_spec RX5 (fun a => [some (.ref a), some (.ref tx), none]) rfl rfl (by decide +kernel) (fun _ => rfl) (fun _ => rfl) (fun X A ws k a hX hk => ?_)
  refine z_aload_n dX5_init_0 rfl ?_
  refine z_obj oi_X5 oi_m oi_c (Nat.le_of_ble_eq_true rfl) (Nat.le_of_ble_eq_true rfl) dX5_init_1 ?_
  refine z_aload_n dX5_init_4 rfl ?_
  refine z_bipush (v := 16) dX5_init_5 (by decide) ?_
  refine z_anewa (t0 := 5) (N' := 16) (C := RX4) cl_X5_11 (by simp) rfl (by decide) (by decide) (by decide) (Nat.le_of_ble_eq_true rfl) (Nat.le_of_ble_eq_true rfl) dX5_init_7 (fun q0 => ?_)
  refine z_putF (fs' := [.null, .ref q0, .int 0, .int 0]) rfl fl_X5_13 (fun _ h => by cases h; rfl) hk (Nat.le_of_ble_eq_true rfl) rfl rfl rfl dX5_init_10 ?_
  refine z_aload_n dX5_init_13 rfl ?_
  refine z_iconst (v := 0) dX5_init_14 (by decide) ?_
  refine z_put (fs' := [.null, .ref q0, .int 0, .int 0]) fl_X5_17 hk (Nat.le_of_ble_eq_true rfl) rfl rfl rfl dX5_init_15 ?_
  refine z_aload_n dX5_init_18 rfl ?_
  refine z_iconst (v := 0) dX5_init_19 (by decide) ?_
  refine z_put (fs' := [.null, .ref q0, .int 0, .int 0]) fl_X5_21 hk (Nat.le_of_ble_eq_true rfl) rfl rfl rfl dX5_init_20 ?_
  refine z_aload_n dX5_init_23 rfl ?_
  refine z_aload_n dX5_init_24 rfl ?_
  refine z_putF (fs' := [.ref tx, .ref q0, .int 0, .int 0]) rfl fl_X5_24 (fun _ h => by cases h; rfl) hk (Nat.le_of_ble_eq_true rfl) rfl rfl rfl dX5_init_25 ?_
  refine z_iconst (v := 0) dX5_init_28 (by decide) ?_
  refine z_istore_n dX5_init_29 (Nat.le_of_ble_eq_true rfl) rfl ?_
  refine z_iload_n dX5_init_30 rfl ?_
  refine z_aload_n dX5_init_31 rfl ?_
  refine z_get fl_X5_13 hk rfl dX5_init_32 ?_
  refine z_alen (j := 0) (t0 := 5) (v := 16) rfl rfl (by first | rfl | decide) dX5_init_35 ?_
  refine z_icmp_ge 58 dX5_init_36 (by decide) (fun c => absurd c (by decide)) (fun _ => ?_)
  refine z_aload_n dX5_init_39 rfl ?_
  refine z_get fl_X5_13 hk rfl dX5_init_40 ?_
  refine z_iload_n dX5_init_43 rfl ?_
  refine z_new xn_X5_11 df_X4 (Nat.le_of_ble_eq_true rfl) (Nat.le_of_ble_eq_true rfl) dX5_init_44 (fun q1 => ?_)
  refine z_dup dX5_init_47 rfl ?_
  refine z_init (i_X4 dep) ci_X5_28 rfl rfl (Nat.le_of_ble_eq_true rfl) (Nat.le_of_ble_eq_true rfl) (Nat.le_of_ble_eq_true rfl) dX5_init_48 (fun _ => ?_)
  refine z_aastU [] (q0 := 0) (qk := 1) (t0 := 5) (ci := 4) (r := (RX4, TX4, 5)) rfl rfl rfl rfl (by unfold vp_in; decide) (by show _ = 0; decide) dX5_init_51 ?_
  refine z_N (N' := [(q0, .inl (E.2.1 5, 16, .inr (.inr (.inr (.inr (fun i => [q1][i]?)))))), (q1, eX4)]) rfl ?_
  refine z_iinc dX5_init_52 rfl rfl ?_
  refine z_goto 30 dX5_init_55 (by decide) ?_
  refine z_iload_n dX5_init_30 rfl ?_
  refine z_aload_n dX5_init_31 rfl ?_
  refine z_get fl_X5_13 hk rfl dX5_init_32 ?_
  refine z_alen (j := 0) (t0 := 5) (v := 16) rfl rfl (by first | rfl | decide) dX5_init_35 ?_
  refine z_icmp_ge 58 dX5_init_36 (by decide) (fun c => absurd c (by decide)) (fun _ => ?_)
  refine z_aload_n dX5_init_39 rfl ?_
  refine z_get fl_X5_13 hk rfl dX5_init_40 ?_
  refine z_iload_n dX5_init_43 rfl ?_
  refine z_new xn_X5_11 df_X4 (Nat.le_of_ble_eq_true rfl) (Nat.le_of_ble_eq_true rfl) dX5_init_44 (fun q2 => ?_)
  refine z_dup dX5_init_47 rfl ?_
  refine z_init (i_X4 dep) ci_X5_28 rfl rfl (Nat.le_of_ble_eq_true rfl) (Nat.le_of_ble_eq_true rfl) (Nat.le_of_ble_eq_true rfl) dX5_init_48 (fun _ => ?_)
  refine z_aastU [q1] (q0 := 0) (qk := 2) (t0 := 5) (ci := 4) (r := (RX4, TX4, 5)) rfl rfl rfl rfl (by unfold vp_in; decide) (by show _ = 1; decide) dX5_init_51 ?_
  refine z_N (N' := [(q0, .inl (E.2.1 5, 16, .inr (.inr (.inr (.inr (fun i => [q1, q2][i]?)))))), (q1, eX4), (q2, eX4)]) rfl ?_
  refine z_iinc dX5_init_52 rfl rfl ?_
  refine z_goto 30 dX5_init_55 (by decide) ?_
  refine z_iload_n dX5_init_30 rfl ?_
  refine z_aload_n dX5_init_31 rfl ?_
  refine z_get fl_X5_13 hk rfl dX5_init_32 ?_
  refine z_alen (j := 0) (t0 := 5) (v := 16) rfl rfl (by first | rfl | decide) dX5_init_35 ?_
  refine z_icmp_ge 58 dX5_init_36 (by decide) (fun c => absurd c (by decide)) (fun _ => ?_)
  refine z_aload_n dX5_init_39 rfl ?_
  refine z_get fl_X5_13 hk rfl dX5_init_40 ?_
  refine z_iload_n dX5_init_43 rfl ?_
  refine z_new xn_X5_11 df_X4 (Nat.le_of_ble_eq_true rfl) (Nat.le_of_ble_eq_true rfl) dX5_init_44 (fun q3 => ?_)
  refine z_dup dX5_init_47 rfl ?_
  refine z_init (i_X4 dep) ci_X5_28 rfl rfl (Nat.le_of_ble_eq_true rfl) (Nat.le_of_ble_eq_true rfl) (Nat.le_of_ble_eq_true rfl) dX5_init_48 (fun _ => ?_)
  refine z_aastU [q1, q2] (q0 := 0) (qk := 3) (t0 := 5) (ci := 4) (r := (RX4, TX4, 5)) rfl rfl rfl rfl (by unfold vp_in; decide) (by show _ = 2; decide) dX5_init_51 ?_
  refine z_N (N' := [(q0, .inl (E.2.1 5, 16, .inr (.inr (.inr (.inr (fun i => [q1, q2, q3][i]?)))))), (q1, eX4), (q2, eX4), (q3, eX4)]) rfl ?_
  refine z_iinc dX5_init_52 rfl rfl ?_
  refine z_goto 30 dX5_init_55 (by decide) ?_
  refine z_iload_n dX5_init_30 rfl ?_
  refine z_aload_n dX5_init_31 rfl ?_
  refine z_get fl_X5_13 hk rfl dX5_init_32 ?_
  refine z_alen (j := 0) (t0 := 5) (v := 16) rfl rfl (by first | rfl | decide) dX5_init_35 ?_
  refine z_icmp_ge 58 dX5_init_36 (by decide) (fun c => absurd c (by decide)) (fun _ => ?_)
  refine z_aload_n dX5_init_39 rfl ?_
  refine z_get fl_X5_13 hk rfl dX5_init_40 ?_
  refine z_iload_n dX5_init_43 rfl ?_
  refine z_new xn_X5_11 df_X4 (Nat.le_of_ble_eq_true rfl) (Nat.le_of_ble_eq_true rfl) dX5_init_44 (fun q4 => ?_)
  refine z_dup dX5_init_47 rfl ?_
  refine z_init (i_X4 dep) ci_X5_28 rfl rfl (Nat.le_of_ble_eq_true rfl) (Nat.le_of_ble_eq_true rfl) (Nat.le_of_ble_eq_true rfl) dX5_init_48 (fun _ => ?_)
  refine z_aastU [q1, q2, q3] (q0 := 0) (qk := 4) (t0 := 5) (ci := 4) (r := (RX4, TX4, 5)) rfl rfl rfl rfl (by unfold vp_in; decide) (by show _ = 3; decide) dX5_init_51 ?_
  refine z_N (N' := [(q0, .inl (E.2.1 5, 16, .inr (.inr (.inr (.inr (fun i => [q1, q2, q3, q4][i]?)))))), (q1, eX4), (q2, eX4), (q3, eX4), (q4, eX4)]) rfl ?_
  refine z_iinc dX5_init_52 rfl rfl ?_
  refine z_goto 30 dX5_init_55 (by decide) ?_
  refine z_iload_n dX5_init_30 rfl ?_
  refine z_aload_n dX5_init_31 rfl ?_
  refine z_get fl_X5_13 hk rfl dX5_init_32 ?_
  refine z_alen (j := 0) (t0 := 5) (v := 16) rfl rfl (by first | rfl | decide) dX5_init_35 ?_
  refine z_icmp_ge 58 dX5_init_36 (by decide) (fun c => absurd c (by decide)) (fun _ => ?_)
  refine z_aload_n dX5_init_39 rfl ?_
  refine z_get fl_X5_13 hk rfl dX5_init_40 ?_
  refine z_iload_n dX5_init_43 rfl ?_
  refine z_new xn_X5_11 df_X4 (Nat.le_of_ble_eq_true rfl) (Nat.le_of_ble_eq_true rfl) dX5_init_44 (fun q5 => ?_)
  refine z_dup dX5_init_47 rfl ?_
  refine z_init (i_X4 dep) ci_X5_28 rfl rfl (Nat.le_of_ble_eq_true rfl) (Nat.le_of_ble_eq_true rfl) (Nat.le_of_ble_eq_true rfl) dX5_init_48 (fun _ => ?_)
  refine z_aastU [q1, q2, q3, q4] (q0 := 0) (qk := 5) (t0 := 5) (ci := 4) (r := (RX4, TX4, 5)) rfl rfl rfl rfl (by unfold vp_in; decide) (by show _ = 4; decide) dX5_init_51 ?_
  refine z_N (N' := [(q0, .inl (E.2.1 5, 16, .inr (.inr (.inr (.inr (fun i => [q1, q2, q3, q4, q5][i]?)))))), (q1, eX4), (q2, eX4), (q3, eX4), (q4, eX4), (q5, eX4)]) rfl ?_
  refine z_iinc dX5_init_52 rfl rfl ?_
  refine z_goto 30 dX5_init_55 (by decide) ?_
  refine z_iload_n dX5_init_30 rfl ?_
  refine z_aload_n dX5_init_31 rfl ?_
  refine z_get fl_X5_13 hk rfl dX5_init_32 ?_
  refine z_alen (j := 0) (t0 := 5) (v := 16) rfl rfl (by first | rfl | decide) dX5_init_35 ?_
  refine z_icmp_ge 58 dX5_init_36 (by decide) (fun c => absurd c (by decide)) (fun _ => ?_)
  refine z_aload_n dX5_init_39 rfl ?_
  refine z_get fl_X5_13 hk rfl dX5_init_40 ?_
  refine z_iload_n dX5_init_43 rfl ?_
  refine z_new xn_X5_11 df_X4 (Nat.le_of_ble_eq_true rfl) (Nat.le_of_ble_eq_true rfl) dX5_init_44 (fun q6 => ?_)
  refine z_dup dX5_init_47 rfl ?_
  refine z_init (i_X4 dep) ci_X5_28 rfl rfl (Nat.le_of_ble_eq_true rfl) (Nat.le_of_ble_eq_true rfl) (Nat.le_of_ble_eq_true rfl) dX5_init_48 (fun _ => ?_)
  refine z_aastU [q1, q2, q3, q4, q5] (q0 := 0) (qk := 6) (t0 := 5) (ci := 4) (r := (RX4, TX4, 5)) rfl rfl rfl rfl (by unfold vp_in; decide) (by show _ = 5; decide) dX5_init_51 ?_
  refine z_N (N' := [(q0, .inl (E.2.1 5, 16, .inr (.inr (.inr (.inr (fun i => [q1, q2, q3, q4, q5, q6][i]?)))))), (q1, eX4), (q2, eX4), (q3, eX4), (q4, eX4), (q5, eX4), (q6, eX4)]) rfl ?_
  refine z_iinc dX5_init_52 rfl rfl ?_
  refine z_goto 30 dX5_init_55 (by decide) ?_
  refine z_iload_n dX5_init_30 rfl ?_
  refine z_aload_n dX5_init_31 rfl ?_
  refine z_get fl_X5_13 hk rfl dX5_init_32 ?_
  refine z_alen (j := 0) (t0 := 5) (v := 16) rfl rfl (by first | rfl | decide) dX5_init_35 ?_
  refine z_icmp_ge 58 dX5_init_36 (by decide) (fun c => absurd c (by decide)) (fun _ => ?_)
  refine z_aload_n dX5_init_39 rfl ?_
  refine z_get fl_X5_13 hk rfl dX5_init_40 ?_
  refine z_iload_n dX5_init_43 rfl ?_
  refine z_new xn_X5_11 df_X4 (Nat.le_of_ble_eq_true rfl) (Nat.le_of_ble_eq_true rfl) dX5_init_44 (fun q7 => ?_)
  refine z_dup dX5_init_47 rfl ?_
  refine z_init (i_X4 dep) ci_X5_28 rfl rfl (Nat.le_of_ble_eq_true rfl) (Nat.le_of_ble_eq_true rfl) (Nat.le_of_ble_eq_true rfl) dX5_init_48 (fun _ => ?_)
  refine z_aastU [q1, q2, q3, q4, q5, q6] (q0 := 0) (qk := 7) (t0 := 5) (ci := 4) (r := (RX4, TX4, 5)) rfl rfl rfl rfl (by unfold vp_in; decide) (by show _ = 6; decide) dX5_init_51 ?_
  refine z_N (N' := [(q0, .inl (E.2.1 5, 16, .inr (.inr (.inr (.inr (fun i => [q1, q2, q3, q4, q5, q6, q7][i]?)))))), (q1, eX4), (q2, eX4), (q3, eX4), (q4, eX4), (q5, eX4), (q6, eX4), (q7, eX4)]) rfl ?_
  refine z_iinc dX5_init_52 rfl rfl ?_
  refine z_goto 30 dX5_init_55 (by decide) ?_
  refine z_iload_n dX5_init_30 rfl ?_
  refine z_aload_n dX5_init_31 rfl ?_
  refine z_get fl_X5_13 hk rfl dX5_init_32 ?_
  refine z_alen (j := 0) (t0 := 5) (v := 16) rfl rfl (by first | rfl | decide) dX5_init_35 ?_
  refine z_icmp_ge 58 dX5_init_36 (by decide) (fun c => absurd c (by decide)) (fun _ => ?_)
  refine z_aload_n dX5_init_39 rfl ?_
  refine z_get fl_X5_13 hk rfl dX5_init_40 ?_
  refine z_iload_n dX5_init_43 rfl ?_
  refine z_new xn_X5_11 df_X4 (Nat.le_of_ble_eq_true rfl) (Nat.le_of_ble_eq_true rfl) dX5_init_44 (fun q8 => ?_)
  refine z_dup dX5_init_47 rfl ?_
  refine z_init (i_X4 dep) ci_X5_28 rfl rfl (Nat.le_of_ble_eq_true rfl) (Nat.le_of_ble_eq_true rfl) (Nat.le_of_ble_eq_true rfl) dX5_init_48 (fun _ => ?_)
  refine z_aastU [q1, q2, q3, q4, q5, q6, q7] (q0 := 0) (qk := 8) (t0 := 5) (ci := 4) (r := (RX4, TX4, 5)) rfl rfl rfl rfl (by unfold vp_in; decide) (by show _ = 7; decide) dX5_init_51 ?_
  refine z_N (N' := [(q0, .inl (E.2.1 5, 16, .inr (.inr (.inr (.inr (fun i => [q1, q2, q3, q4, q5, q6, q7, q8][i]?)))))), (q1, eX4), (q2, eX4), (q3, eX4), (q4, eX4), (q5, eX4), (q6, eX4), (q7, eX4), (q8, eX4)]) rfl ?_
  refine z_iinc dX5_init_52 rfl rfl ?_
  refine z_goto 30 dX5_init_55 (by decide) ?_
  refine z_iload_n dX5_init_30 rfl ?_
  refine z_aload_n dX5_init_31 rfl ?_
  refine z_get fl_X5_13 hk rfl dX5_init_32 ?_
  refine z_alen (j := 0) (t0 := 5) (v := 16) rfl rfl (by first | rfl | decide) dX5_init_35 ?_
  refine z_icmp_ge 58 dX5_init_36 (by decide) (fun c => absurd c (by decide)) (fun _ => ?_)
  refine z_aload_n dX5_init_39 rfl ?_
  refine z_get fl_X5_13 hk rfl dX5_init_40 ?_
  refine z_iload_n dX5_init_43 rfl ?_
  refine z_new xn_X5_11 df_X4 (Nat.le_of_ble_eq_true rfl) (Nat.le_of_ble_eq_true rfl) dX5_init_44 (fun q9 => ?_)
  refine z_dup dX5_init_47 rfl ?_
  refine z_init (i_X4 dep) ci_X5_28 rfl rfl (Nat.le_of_ble_eq_true rfl) (Nat.le_of_ble_eq_true rfl) (Nat.le_of_ble_eq_true rfl) dX5_init_48 (fun _ => ?_)
  refine z_aastU [q1, q2, q3, q4, q5, q6, q7, q8] (q0 := 0) (qk := 9) (t0 := 5) (ci := 4) (r := (RX4, TX4, 5)) rfl rfl rfl rfl (by unfold vp_in; decide) (by show _ = 8; decide) dX5_init_51 ?_
  refine z_N (N' := [(q0, .inl (E.2.1 5, 16, .inr (.inr (.inr (.inr (fun i => [q1, q2, q3, q4, q5, q6, q7, q8, q9][i]?)))))), (q1, eX4), (q2, eX4), (q3, eX4), (q4, eX4), (q5, eX4), (q6, eX4), (q7, eX4), (q8, eX4), (q9, eX4)]) rfl ?_
  refine z_iinc dX5_init_52 rfl rfl ?_
  refine z_goto 30 dX5_init_55 (by decide) ?_
  refine z_iload_n dX5_init_30 rfl ?_
  refine z_aload_n dX5_init_31 rfl ?_
  refine z_get fl_X5_13 hk rfl dX5_init_32 ?_
  refine z_alen (j := 0) (t0 := 5) (v := 16) rfl rfl (by first | rfl | decide) dX5_init_35 ?_
  refine z_icmp_ge 58 dX5_init_36 (by decide) (fun c => absurd c (by decide)) (fun _ => ?_)
  refine z_aload_n dX5_init_39 rfl ?_
  refine z_get fl_X5_13 hk rfl dX5_init_40 ?_
  refine z_iload_n dX5_init_43 rfl ?_
  refine z_new xn_X5_11 df_X4 (Nat.le_of_ble_eq_true rfl) (Nat.le_of_ble_eq_true rfl) dX5_init_44 (fun q10 => ?_)
  refine z_dup dX5_init_47 rfl ?_
  refine z_init (i_X4 dep) ci_X5_28 rfl rfl (Nat.le_of_ble_eq_true rfl) (Nat.le_of_ble_eq_true rfl) (Nat.le_of_ble_eq_true rfl) dX5_init_48 (fun _ => ?_)
  refine z_aastU [q1, q2, q3, q4, q5, q6, q7, q8, q9] (q0 := 0) (qk := 10) (t0 := 5) (ci := 4) (r := (RX4, TX4, 5)) rfl rfl rfl rfl (by unfold vp_in; decide) (by show _ = 9; decide) dX5_init_51 ?_
  refine z_N (N' := [(q0, .inl (E.2.1 5, 16, .inr (.inr (.inr (.inr (fun i => [q1, q2, q3, q4, q5, q6, q7, q8, q9, q10][i]?)))))), (q1, eX4), (q2, eX4), (q3, eX4), (q4, eX4), (q5, eX4), (q6, eX4), (q7, eX4), (q8, eX4), (q9, eX4), (q10, eX4)]) rfl ?_
  refine z_iinc dX5_init_52 rfl rfl ?_
  refine z_goto 30 dX5_init_55 (by decide) ?_
  refine z_iload_n dX5_init_30 rfl ?_
  refine z_aload_n dX5_init_31 rfl ?_
  refine z_get fl_X5_13 hk rfl dX5_init_32 ?_
  refine z_alen (j := 0) (t0 := 5) (v := 16) rfl rfl (by first | rfl | decide) dX5_init_35 ?_
  refine z_icmp_ge 58 dX5_init_36 (by decide) (fun c => absurd c (by decide)) (fun _ => ?_)
  refine z_aload_n dX5_init_39 rfl ?_
  refine z_get fl_X5_13 hk rfl dX5_init_40 ?_
  refine z_iload_n dX5_init_43 rfl ?_
  refine z_new xn_X5_11 df_X4 (Nat.le_of_ble_eq_true rfl) (Nat.le_of_ble_eq_true rfl) dX5_init_44 (fun q11 => ?_)
  refine z_dup dX5_init_47 rfl ?_
  refine z_init (i_X4 dep) ci_X5_28 rfl rfl (Nat.le_of_ble_eq_true rfl) (Nat.le_of_ble_eq_true rfl) (Nat.le_of_ble_eq_true rfl) dX5_init_48 (fun _ => ?_)
  refine z_aastU [q1, q2, q3, q4, q5, q6, q7, q8, q9, q10] (q0 := 0) (qk := 11) (t0 := 5) (ci := 4) (r := (RX4, TX4, 5)) rfl rfl rfl rfl (by unfold vp_in; decide) (by show _ = 10; decide) dX5_init_51 ?_
  refine z_N (N' := [(q0, .inl (E.2.1 5, 16, .inr (.inr (.inr (.inr (fun i => [q1, q2, q3, q4, q5, q6, q7, q8, q9, q10, q11][i]?)))))), (q1, eX4), (q2, eX4), (q3, eX4), (q4, eX4), (q5, eX4), (q6, eX4), (q7, eX4), (q8, eX4), (q9, eX4), (q10, eX4), (q11, eX4)]) rfl ?_
  refine z_iinc dX5_init_52 rfl rfl ?_
  refine z_goto 30 dX5_init_55 (by decide) ?_
  refine z_iload_n dX5_init_30 rfl ?_
  refine z_aload_n dX5_init_31 rfl ?_
  refine z_get fl_X5_13 hk rfl dX5_init_32 ?_
  refine z_alen (j := 0) (t0 := 5) (v := 16) rfl rfl (by first | rfl | decide) dX5_init_35 ?_
  refine z_icmp_ge 58 dX5_init_36 (by decide) (fun c => absurd c (by decide)) (fun _ => ?_)
  refine z_aload_n dX5_init_39 rfl ?_
  refine z_get fl_X5_13 hk rfl dX5_init_40 ?_
  refine z_iload_n dX5_init_43 rfl ?_
  refine z_new xn_X5_11 df_X4 (Nat.le_of_ble_eq_true rfl) (Nat.le_of_ble_eq_true rfl) dX5_init_44 (fun q12 => ?_)
  refine z_dup dX5_init_47 rfl ?_
  refine z_init (i_X4 dep) ci_X5_28 rfl rfl (Nat.le_of_ble_eq_true rfl) (Nat.le_of_ble_eq_true rfl) (Nat.le_of_ble_eq_true rfl) dX5_init_48 (fun _ => ?_)
  refine z_aastU [q1, q2, q3, q4, q5, q6, q7, q8, q9, q10, q11] (q0 := 0) (qk := 12) (t0 := 5) (ci := 4) (r := (RX4, TX4, 5)) rfl rfl rfl rfl (by unfold vp_in; decide) (by show _ = 11; decide) dX5_init_51 ?_
  refine z_N (N' := [(q0, .inl (E.2.1 5, 16, .inr (.inr (.inr (.inr (fun i => [q1, q2, q3, q4, q5, q6, q7, q8, q9, q10, q11, q12][i]?)))))), (q1, eX4), (q2, eX4), (q3, eX4), (q4, eX4), (q5, eX4), (q6, eX4), (q7, eX4), (q8, eX4), (q9, eX4), (q10, eX4), (q11, eX4), (q12, eX4)]) rfl ?_
  refine z_iinc dX5_init_52 rfl rfl ?_
  refine z_goto 30 dX5_init_55 (by decide) ?_
  refine z_iload_n dX5_init_30 rfl ?_
  refine z_aload_n dX5_init_31 rfl ?_
  refine z_get fl_X5_13 hk rfl dX5_init_32 ?_
  refine z_alen (j := 0) (t0 := 5) (v := 16) rfl rfl (by first | rfl | decide) dX5_init_35 ?_
  refine z_icmp_ge 58 dX5_init_36 (by decide) (fun c => absurd c (by decide)) (fun _ => ?_)
  refine z_aload_n dX5_init_39 rfl ?_
  refine z_get fl_X5_13 hk rfl dX5_init_40 ?_
  refine z_iload_n dX5_init_43 rfl ?_
  refine z_new xn_X5_11 df_X4 (Nat.le_of_ble_eq_true rfl) (Nat.le_of_ble_eq_true rfl) dX5_init_44 (fun q13 => ?_)
  refine z_dup dX5_init_47 rfl ?_
  refine z_init (i_X4 dep) ci_X5_28 rfl rfl (Nat.le_of_ble_eq_true rfl) (Nat.le_of_ble_eq_true rfl) (Nat.le_of_ble_eq_true rfl) dX5_init_48 (fun _ => ?_)
  refine z_aastU [q1, q2, q3, q4, q5, q6, q7, q8, q9, q10, q11, q12] (q0 := 0) (qk := 13) (t0 := 5) (ci := 4) (r := (RX4, TX4, 5)) rfl rfl rfl rfl (by unfold vp_in; decide) (by show _ = 12; decide) dX5_init_51 ?_
  refine z_N (N' := [(q0, .inl (E.2.1 5, 16, .inr (.inr (.inr (.inr (fun i => [q1, q2, q3, q4, q5, q6, q7, q8, q9, q10, q11, q12, q13][i]?)))))), (q1, eX4), (q2, eX4), (q3, eX4), (q4, eX4), (q5, eX4), (q6, eX4), (q7, eX4), (q8, eX4), (q9, eX4), (q10, eX4), (q11, eX4), (q12, eX4), (q13, eX4)]) rfl ?_
  refine z_iinc dX5_init_52 rfl rfl ?_
  refine z_goto 30 dX5_init_55 (by decide) ?_
  refine z_iload_n dX5_init_30 rfl ?_
  refine z_aload_n dX5_init_31 rfl ?_
  refine z_get fl_X5_13 hk rfl dX5_init_32 ?_
  refine z_alen (j := 0) (t0 := 5) (v := 16) rfl rfl (by first | rfl | decide) dX5_init_35 ?_
  refine z_icmp_ge 58 dX5_init_36 (by decide) (fun c => absurd c (by decide)) (fun _ => ?_)
  refine z_aload_n dX5_init_39 rfl ?_
  refine z_get fl_X5_13 hk rfl dX5_init_40 ?_
  refine z_iload_n dX5_init_43 rfl ?_
  refine z_new xn_X5_11 df_X4 (Nat.le_of_ble_eq_true rfl) (Nat.le_of_ble_eq_true rfl) dX5_init_44 (fun q14 => ?_)
  refine z_dup dX5_init_47 rfl ?_
  refine z_init (i_X4 dep) ci_X5_28 rfl rfl (Nat.le_of_ble_eq_true rfl) (Nat.le_of_ble_eq_true rfl) (Nat.le_of_ble_eq_true rfl) dX5_init_48 (fun _ => ?_)
  refine z_aastU [q1, q2, q3, q4, q5, q6, q7, q8, q9, q10, q11, q12, q13] (q0 := 0) (qk := 14) (t0 := 5) (ci := 4) (r := (RX4, TX4, 5)) rfl rfl rfl rfl (by unfold vp_in; decide) (by show _ = 13; decide) dX5_init_51 ?_
  refine z_N (N' := [(q0, .inl (E.2.1 5, 16, .inr (.inr (.inr (.inr (fun i => [q1, q2, q3, q4, q5, q6, q7, q8, q9, q10, q11, q12, q13, q14][i]?)))))), (q1, eX4), (q2, eX4), (q3, eX4), (q4, eX4), (q5, eX4), (q6, eX4), (q7, eX4), (q8, eX4), (q9, eX4), (q10, eX4), (q11, eX4), (q12, eX4), (q13, eX4), (q14, eX4)]) rfl ?_
  refine z_iinc dX5_init_52 rfl rfl ?_
  refine z_goto 30 dX5_init_55 (by decide) ?_
  refine z_iload_n dX5_init_30 rfl ?_
  refine z_aload_n dX5_init_31 rfl ?_
  refine z_get fl_X5_13 hk rfl dX5_init_32 ?_
  refine z_alen (j := 0) (t0 := 5) (v := 16) rfl rfl (by first | rfl | decide) dX5_init_35 ?_
  refine z_icmp_ge 58 dX5_init_36 (by decide) (fun c => absurd c (by decide)) (fun _ => ?_)
  refine z_aload_n dX5_init_39 rfl ?_
  refine z_get fl_X5_13 hk rfl dX5_init_40 ?_
  refine z_iload_n dX5_init_43 rfl ?_
  refine z_new xn_X5_11 df_X4 (Nat.le_of_ble_eq_true rfl) (Nat.le_of_ble_eq_true rfl) dX5_init_44 (fun q15 => ?_)
  refine z_dup dX5_init_47 rfl ?_
  refine z_init (i_X4 dep) ci_X5_28 rfl rfl (Nat.le_of_ble_eq_true rfl) (Nat.le_of_ble_eq_true rfl) (Nat.le_of_ble_eq_true rfl) dX5_init_48 (fun _ => ?_)
  refine z_aastU [q1, q2, q3, q4, q5, q6, q7, q8, q9, q10, q11, q12, q13, q14] (q0 := 0) (qk := 15) (t0 := 5) (ci := 4) (r := (RX4, TX4, 5)) rfl rfl rfl rfl (by unfold vp_in; decide) (by show _ = 14; decide) dX5_init_51 ?_
  refine z_N (N' := [(q0, .inl (E.2.1 5, 16, .inr (.inr (.inr (.inr (fun i => [q1, q2, q3, q4, q5, q6, q7, q8, q9, q10, q11, q12, q13, q14, q15][i]?)))))), (q1, eX4), (q2, eX4), (q3, eX4), (q4, eX4), (q5, eX4), (q6, eX4), (q7, eX4), (q8, eX4), (q9, eX4), (q10, eX4), (q11, eX4), (q12, eX4), (q13, eX4), (q14, eX4), (q15, eX4)]) rfl ?_
  refine z_iinc dX5_init_52 rfl rfl ?_
  refine z_goto 30 dX5_init_55 (by decide) ?_
  refine z_iload_n dX5_init_30 rfl ?_
  refine z_aload_n dX5_init_31 rfl ?_
  refine z_get fl_X5_13 hk rfl dX5_init_32 ?_
  refine z_alen (j := 0) (t0 := 5) (v := 16) rfl rfl (by first | rfl | decide) dX5_init_35 ?_
  refine z_icmp_ge 58 dX5_init_36 (by decide) (fun c => absurd c (by decide)) (fun _ => ?_)
  refine z_aload_n dX5_init_39 rfl ?_
  refine z_get fl_X5_13 hk rfl dX5_init_40 ?_
  refine z_iload_n dX5_init_43 rfl ?_
  refine z_new xn_X5_11 df_X4 (Nat.le_of_ble_eq_true rfl) (Nat.le_of_ble_eq_true rfl) dX5_init_44 (fun q16 => ?_)
  refine z_dup dX5_init_47 rfl ?_
  refine z_init (i_X4 dep) ci_X5_28 rfl rfl (Nat.le_of_ble_eq_true rfl) (Nat.le_of_ble_eq_true rfl) (Nat.le_of_ble_eq_true rfl) dX5_init_48 (fun _ => ?_)
  refine z_aastU [q1, q2, q3, q4, q5, q6, q7, q8, q9, q10, q11, q12, q13, q14, q15] (q0 := 0) (qk := 16) (t0 := 5) (ci := 4) (r := (RX4, TX4, 5)) rfl rfl rfl rfl (by unfold vp_in; decide) (by show _ = 15; decide) dX5_init_51 ?_
  refine z_N (N' := [(q0, .inl (E.2.1 5, 16, .inr (.inr (.inr (.inr (fun i => [q1, q2, q3, q4, q5, q6, q7, q8, q9, q10, q11, q12, q13, q14, q15, q16][i]?)))))), (q1, eX4), (q2, eX4), (q3, eX4), (q4, eX4), (q5, eX4), (q6, eX4), (q7, eX4), (q8, eX4), (q9, eX4), (q10, eX4), (q11, eX4), (q12, eX4), (q13, eX4), (q14, eX4), (q15, eX4), (q16, eX4)]) rfl ?_
  refine z_iinc dX5_init_52 rfl rfl ?_
  refine z_goto 30 dX5_init_55 (by decide) ?_
  refine z_iload_n dX5_init_30 rfl ?_
  refine z_aload_n dX5_init_31 rfl ?_
  refine z_get fl_X5_13 hk rfl dX5_init_32 ?_
  refine z_alen (j := 0) (t0 := 5) (v := 16) rfl rfl (by first | rfl | decide) dX5_init_35 ?_
  refine z_icmp_ge 58 dX5_init_36 (by decide) (fun _ => ?_) (fun c => absurd (by decide) c)
  exact z_vret (fun i => [q0, q1, q2, q3, q4, q5, q6, q7, q8, q9, q10, q11, q12, q13, q14, q15, q16].getD i 0) rfl (Nat.le_of_ble_eq_true rfl) (Nat.le_of_ble_eq_true rfl) rfl rfl dX5_init_58
def eX2 (lt : Nat) (g : (Nat → Nat) × (Nat → Nat) × (Nat → Nat) × (Nat → Nat)) : va_E := .inr (2, [.ref lt, .ref (g.1 0), .ref (g.1 1), .ref (g.1 2)])
def nX2 (E : xE) (g : (Nat → Nat) × (Nat → Nat) × (Nat → Nat) × (Nat → Nat)) : va_W := [((g.1 0), eX9 g.2.1)] ++ nX9 E g.2.1 ++ [((g.1 1), eX9 g.2.2.1)] ++ nX9 E g.2.2.1 ++ [((g.1 2), eX9 g.2.2.2)] ++ nX9 E g.2.2.2
theorem ci_X2_11 : xCI RX2 11 mX9_init 0 := ⟨x_mem 123 (by decide +kernel) (by decide +kernel), x_mem 78 (by decide +kernel) (by decide +kernel), Or.inr ⟨"SwapSteps", x_nw 210 (by decide +kernel) rfl⟩, by decide +kernel, by decide +kernel, by decide +kernel, by decide, rfl, rfl, x_mem 122 (by decide +kernel) (by decide +kernel)⟩
theorem xn_X2_9 : xNew RX2 9 9 (RX9, TX9, 2) tyX9 := ⟨cl_9, x_mem 209 (by decide +kernel) (by decide +kernel), x_mem 120 (by decide +kernel) (by decide +kernel), x_mem 78 (by decide +kernel) (by decide +kernel)⟩
theorem oi_X2 : Cond.methodLink RX2 3 Lib.objectInit ∈ xws := x_mem 208 (by decide +kernel) (by decide +kernel)
set_option maxRecDepth 20000 in
set_option maxHeartbeats 4000000 in
theorem i_X2 {l : Launch} {E : xE} (dep : Nat) (lt : Nat) : zInit l E mX2_init (dep + 2) 6 78 [.ref lt] (.inr (2, [.null, .null, .null, .null])) (eX2 lt) (nX2 E) := by
  refine z_spec RX2 (fun a => [some (.ref a), some (.ref lt)]) rfl rfl (by decide +kernel) (fun _ => rfl) (fun _ => rfl) (fun X A ws k a hX hk => ?_)
  refine z_aload_n dX2_init_0 rfl ?_
  refine z_obj oi_X2 oi_m oi_c (Nat.le_of_ble_eq_true rfl) (Nat.le_of_ble_eq_true rfl) dX2_init_1 ?_
  refine z_aload_n dX2_init_4 rfl ?_
  refine z_new xn_X2_9 df_X9 (Nat.le_of_ble_eq_true rfl) (Nat.le_of_ble_eq_true rfl) dX2_init_5 (fun q0 => ?_)
  refine z_dup dX2_init_8 rfl ?_
  refine z_init (i_X9 dep) ci_X2_11 rfl rfl (Nat.le_of_ble_eq_true rfl) (Nat.le_of_ble_eq_true rfl) (Nat.le_of_ble_eq_true rfl) dX2_init_9 (fun g0 => ?_)
  refine z_putF (fs' := [.null, .ref q0, .null, .null]) rfl fl_X2_12 (fun _ h => by cases h; rfl) hk (Nat.le_of_ble_eq_true rfl) rfl rfl rfl dX2_init_12 ?_
  refine z_aload_n dX2_init_15 rfl ?_
  refine z_new xn_X2_9 df_X9 (Nat.le_of_ble_eq_true rfl) (Nat.le_of_ble_eq_true rfl) dX2_init_16 (fun q1 => ?_)
  refine z_dup dX2_init_19 rfl ?_
  refine z_init (i_X9 dep) ci_X2_11 rfl rfl (Nat.le_of_ble_eq_true rfl) (Nat.le_of_ble_eq_true rfl) (Nat.le_of_ble_eq_true rfl) dX2_init_20 (fun g1 => ?_)
  refine z_putF (fs' := [.null, .ref q0, .ref q1, .null]) rfl fl_X2_18 (fun _ h => by cases h; rfl) hk (Nat.le_of_ble_eq_true rfl) rfl rfl rfl dX2_init_23 ?_
  refine z_aload_n dX2_init_26 rfl ?_
  refine z_new xn_X2_9 df_X9 (Nat.le_of_ble_eq_true rfl) (Nat.le_of_ble_eq_true rfl) dX2_init_27 (fun q2 => ?_)
  refine z_dup dX2_init_30 rfl ?_
  refine z_init (i_X9 dep) ci_X2_11 rfl rfl (Nat.le_of_ble_eq_true rfl) (Nat.le_of_ble_eq_true rfl) (Nat.le_of_ble_eq_true rfl) dX2_init_31 (fun g2 => ?_)
  refine z_putF (fs' := [.null, .ref q0, .ref q1, .ref q2]) rfl fl_X2_21 (fun _ h => by cases h; rfl) hk (Nat.le_of_ble_eq_true rfl) rfl rfl rfl dX2_init_34 ?_
  refine z_aload_n dX2_init_37 rfl ?_
  refine z_aload_n dX2_init_38 rfl ?_
  refine z_putF (fs' := [.ref lt, .ref q0, .ref q1, .ref q2]) rfl fl_X2_24 (fun _ h => by cases h; rfl) hk (Nat.le_of_ble_eq_true rfl) rfl rfl rfl dX2_init_39 ?_
  exact z_vret (fun i => [q0, q1, q2].getD i 0, g0, g1, g2) rfl (Nat.le_of_ble_eq_true rfl) (Nat.le_of_ble_eq_true rfl) rfl rfl dX2_init_42
def eX7 (hp : Nat) (g : (Nat → Nat) × (Nat → Nat) × (Nat → Nat) × (Nat → Nat)) : va_E := .inr (7, [.ref hp, .ref (g.1 0), .ref (g.1 1), .ref (g.1 2)])
def nX7 (E : xE) (g : (Nat → Nat) × (Nat → Nat) × (Nat → Nat) × (Nat → Nat)) : va_W := [((g.1 0), eX9 g.2.1)] ++ nX9 E g.2.1 ++ [((g.1 1), eX9 g.2.2.1)] ++ nX9 E g.2.2.1 ++ [((g.1 2), eX9 g.2.2.2)] ++ nX9 E g.2.2.2
theorem ci_X7_11 : xCI RX7 11 mX9_init 0 := ⟨x_mem 123 (by decide +kernel) (by decide +kernel), x_mem 78 (by decide +kernel) (by decide +kernel), Or.inr ⟨"SwapSteps", x_nw 231 (by decide +kernel) rfl⟩, by decide +kernel, by decide +kernel, by decide +kernel, by decide, rfl, rfl, x_mem 122 (by decide +kernel) (by decide +kernel)⟩
theorem xn_X7_9 : xNew RX7 9 9 (RX9, TX9, 2) tyX9 := ⟨cl_9, x_mem 230 (by decide +kernel) (by decide +kernel), x_mem 120 (by decide +kernel) (by decide +kernel), x_mem 78 (by decide +kernel) (by decide +kernel)⟩
theorem oi_X7 : Cond.methodLink RX7 3 Lib.objectInit ∈ xws := x_mem 229 (by decide +kernel) (by decide +kernel)
set_option maxRecDepth 20000 in
set_option maxHeartbeats 4000000 in
theorem i_X7 {l : Launch} {E : xE} (dep : Nat) (hp : Nat) : zInit l E mX7_init (dep + 2) 6 78 [.ref hp] (.inr (7, [.null, .null, .null, .null])) (eX7 hp) (nX7 E) := by
  refine z_spec RX7 (fun a => [some (.ref a), some (.ref hp)]) rfl rfl (by decide +kernel) (fun _ => rfl) (fun _ => rfl) (fun X A ws k a hX hk => ?_)
  refine z_aload_n dX7_init_0 rfl ?_
  refine z_obj oi_X7 oi_m oi_c (Nat.le_of_ble_eq_true rfl) (Nat.le_of_ble_eq_true rfl) dX7_init_1 ?_
  refine z_aload_n dX7_init_4 rfl ?_
  refine z_new xn_X7_9 df_X9 (Nat.le_of_ble_eq_true rfl) (Nat.le_of_ble_eq_true rfl) dX7_init_5 (fun q0 => ?_)
  refine z_dup dX7_init_8 rfl ?_
  refine z_init (i_X9 dep) ci_X7_11 rfl rfl (Nat.le_of_ble_eq_true rfl) (Nat.le_of_ble_eq_true rfl) (Nat.le_of_ble_eq_true rfl) dX7_init_9 (fun g0 => ?_)
  refine z_putF (fs' := [.null, .ref q0, .null, .null]) rfl fl_X7_12 (fun _ h => by cases h; rfl) hk (Nat.le_of_ble_eq_true rfl) rfl rfl rfl dX7_init_12 ?_
  refine z_aload_n dX7_init_15 rfl ?_
  refine z_new xn_X7_9 df_X9 (Nat.le_of_ble_eq_true rfl) (Nat.le_of_ble_eq_true rfl) dX7_init_16 (fun q1 => ?_)
  refine z_dup dX7_init_19 rfl ?_
  refine z_init (i_X9 dep) ci_X7_11 rfl rfl (Nat.le_of_ble_eq_true rfl) (Nat.le_of_ble_eq_true rfl) (Nat.le_of_ble_eq_true rfl) dX7_init_20 (fun g1 => ?_)
  refine z_putF (fs' := [.null, .ref q0, .ref q1, .null]) rfl fl_X7_18 (fun _ h => by cases h; rfl) hk (Nat.le_of_ble_eq_true rfl) rfl rfl rfl dX7_init_23 ?_
  refine z_aload_n dX7_init_26 rfl ?_
  refine z_new xn_X7_9 df_X9 (Nat.le_of_ble_eq_true rfl) (Nat.le_of_ble_eq_true rfl) dX7_init_27 (fun q2 => ?_)
  refine z_dup dX7_init_30 rfl ?_
  refine z_init (i_X9 dep) ci_X7_11 rfl rfl (Nat.le_of_ble_eq_true rfl) (Nat.le_of_ble_eq_true rfl) (Nat.le_of_ble_eq_true rfl) dX7_init_31 (fun g2 => ?_)
  refine z_putF (fs' := [.null, .ref q0, .ref q1, .ref q2]) rfl fl_X7_21 (fun _ h => by cases h; rfl) hk (Nat.le_of_ble_eq_true rfl) rfl rfl rfl dX7_init_34 ?_
  refine z_aload_n dX7_init_37 rfl ?_
  refine z_aload_n dX7_init_38 rfl ?_
  refine z_putF (fs' := [.ref hp, .ref q0, .ref q1, .ref q2]) rfl fl_X7_24 (fun _ h => by cases h; rfl) hk (Nat.le_of_ble_eq_true rfl) rfl rfl rfl dX7_init_39 ?_
  exact z_vret (fun i => [q0, q1, q2].getD i 0, g0, g1, g2) rfl (Nat.le_of_ble_eq_true rfl) (Nat.le_of_ble_eq_true rfl) rfl rfl dX7_init_42
def eX1 (lt hp : Nat) (g : (Nat → Nat) × (Nat → Nat) × (Nat → Nat)) : va_E := .inr (1, [.ref lt, .ref hp, .ref (g.1 0), .ref (g.1 1), .ref (g.1 2), .ref (g.1 3), .int 0])
def nX1 (E : xE) (g : (Nat → Nat) × (Nat → Nat) × (Nat → Nat)) : va_W := [((g.1 0), .inl (E.2.1 1, 2000, .inr (.inl (fun _ => 0)))), ((g.1 1), .inl (E.2.1 1, 4096, .inr (.inl (fun _ => 0)))), ((g.1 2), eX9 g.2.1)] ++ nX9 E g.2.1 ++ [((g.1 3), eX9 g.2.2)] ++ nX9 E g.2.2
theorem ci_X1_20 : xCI RX1 20 mX9_init 0 := ⟨x_mem 123 (by decide +kernel) (by decide +kernel), x_mem 78 (by decide +kernel) (by decide +kernel), Or.inr ⟨"SwapSteps", x_nw 292 (by decide +kernel) rfl⟩, by decide +kernel, by decide +kernel, by decide +kernel, by decide, rfl, rfl, x_mem 122 (by decide +kernel) (by decide +kernel)⟩
theorem xn_X1_18 : xNew RX1 18 9 (RX9, TX9, 2) tyX9 := ⟨cl_9, x_mem 291 (by decide +kernel) (by decide +kernel), x_mem 120 (by decide +kernel) (by decide +kernel), x_mem 78 (by decide +kernel) (by decide +kernel)⟩
theorem oi_X1 : Cond.methodLink RX1 3 Lib.objectInit ∈ xws := x_mem 290 (by decide +kernel) (by decide +kernel)
set_option maxRecDepth 20000 in
set_option maxHeartbeats 4000000 in
theorem i_X1 {l : Launch} {E : xE} (dep : Nat) (lt hp : Nat) : zInit l E mX1_init (dep + 2) 6 6148 [.ref lt, .ref hp] (.inr (1, [.null, .null, .null, .null, .null, .null, .int 0])) (eX1 lt hp) (nX1 E) := by
  refine z_spec RX1 (fun a => [some (.ref a), some (.ref lt), some (.ref hp)]) rfl rfl (by decide +kernel) (fun _ => rfl) (fun _ => rfl) (fun X A ws k a hX hk => ?_)
  refine z_aload_n dX1_init_0 rfl ?_
  refine z_obj oi_X1 oi_m oi_c (Nat.le_of_ble_eq_true rfl) (Nat.le_of_ble_eq_true rfl) dX1_init_1 ?_
  refine z_aload_n dX1_init_4 rfl ?_
  refine z_sipush (v := 2000) dX1_init_5 (by decide) ?_
  refine z_newa (ty := .long) (t0 := 1) (N' := 2000) (z := (2000, .inr (.inl (fun _ => 0)))) ac_long rfl rfl (fun _ _ h => h) (fun _ => rfl) (by decide) (by decide) (by decide) (Nat.le_of_ble_eq_true rfl) (Nat.le_of_ble_eq_true rfl) dX1_init_8 (fun q0 => ?_)
  refine z_putF (fs' := [.null, .null, .ref q0, .null, .null, .null, .int 0]) rfl fl_X1_11 (fun _ h => by cases h; rfl) hk (Nat.le_of_ble_eq_true rfl) rfl rfl rfl dX1_init_10 ?_
  refine z_aload_n dX1_init_13 rfl ?_
  refine z_sipush (v := 4096) dX1_init_14 (by decide) ?_
  refine z_newa (ty := .long) (t0 := 1) (N' := 4096) (z := (4096, .inr (.inl (fun _ => 0)))) ac_long rfl rfl (fun _ _ h => h) (fun _ => rfl) (by decide) (by decide) (by decide) (Nat.le_of_ble_eq_true rfl) (Nat.le_of_ble_eq_true rfl) dX1_init_17 (fun q1 => ?_)
  refine z_putF (fs' := [.null, .null, .ref q0, .ref q1, .null, .null, .int 0]) rfl fl_X1_15 (fun _ h => by cases h; rfl) hk (Nat.le_of_ble_eq_true rfl) rfl rfl rfl dX1_init_19 ?_
  refine z_aload_n dX1_init_22 rfl ?_
  refine z_new xn_X1_18 df_X9 (Nat.le_of_ble_eq_true rfl) (Nat.le_of_ble_eq_true rfl) dX1_init_23 (fun q2 => ?_)
  refine z_dup dX1_init_26 rfl ?_
  refine z_init (i_X9 dep) ci_X1_20 rfl rfl (Nat.le_of_ble_eq_true rfl) (Nat.le_of_ble_eq_true rfl) (Nat.le_of_ble_eq_true rfl) dX1_init_27 (fun g0 => ?_)
  refine z_putF (fs' := [.null, .null, .ref q0, .ref q1, .ref q2, .null, .int 0]) rfl fl_X1_21 (fun _ h => by cases h; rfl) hk (Nat.le_of_ble_eq_true rfl) rfl rfl rfl dX1_init_30 ?_
  refine z_aload_n dX1_init_33 rfl ?_
  refine z_new xn_X1_18 df_X9 (Nat.le_of_ble_eq_true rfl) (Nat.le_of_ble_eq_true rfl) dX1_init_34 (fun q3 => ?_)
  refine z_dup dX1_init_37 rfl ?_
  refine z_init (i_X9 dep) ci_X1_20 rfl rfl (Nat.le_of_ble_eq_true rfl) (Nat.le_of_ble_eq_true rfl) (Nat.le_of_ble_eq_true rfl) dX1_init_38 (fun g1 => ?_)
  refine z_putF (fs' := [.null, .null, .ref q0, .ref q1, .ref q2, .ref q3, .int 0]) rfl fl_X1_25 (fun _ h => by cases h; rfl) hk (Nat.le_of_ble_eq_true rfl) rfl rfl rfl dX1_init_41 ?_
  refine z_aload_n dX1_init_44 rfl ?_
  refine z_iconst (v := 0) dX1_init_45 (by decide) ?_
  refine z_put (fs' := [.null, .null, .ref q0, .ref q1, .ref q2, .ref q3, .int 0]) fl_X1_28 hk (Nat.le_of_ble_eq_true rfl) rfl rfl rfl dX1_init_46 ?_
  refine z_aload_n dX1_init_49 rfl ?_
  refine z_aload_n dX1_init_50 rfl ?_
  refine z_putF (fs' := [.ref lt, .null, .ref q0, .ref q1, .ref q2, .ref q3, .int 0]) rfl fl_X1_32 (fun _ h => by cases h; rfl) hk (Nat.le_of_ble_eq_true rfl) rfl rfl rfl dX1_init_51 ?_
  refine z_aload_n dX1_init_54 rfl ?_
  refine z_aload_n dX1_init_55 rfl ?_
  refine z_putF (fs' := [.ref lt, .ref hp, .ref q0, .ref q1, .ref q2, .ref q3, .int 0]) rfl fl_X1_36 (fun _ h => by cases h; rfl) hk (Nat.le_of_ble_eq_true rfl) rfl rfl rfl dX1_init_56 ?_
  exact z_vret (fun i => [q0, q1, q2, q3].getD i 0, g0, g1) rfl (Nat.le_of_ble_eq_true rfl) (Nat.le_of_ble_eq_true rfl) rfl rfl dX1_init_59
