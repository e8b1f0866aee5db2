/-! from the list of cells that the two constructors made to the numbered cells -/
/-- the cells' numbers in the order in which they are made -/
def wP : List Nat := [0, 1, 2, 3, 4, 17, 5, 18, 6, 19, 7, 20, 8, 21, 30, 31, 32, 33, 34, 35, 36, 37, 38, 39, 40, 41, 42, 43, 44, 45, 46, 47, 48, 49, 50, 9, 22, 10, 23, 11, 24, 51, 12, 25, 13, 26, 14, 27, 52, 53, 54, 55, 56, 57, 58] ++ ((List.range 144).map (fun i => i + 96) ++ ([59, 60, 61, 15, 28, 16, 29, 62, 63] ++ ((List.range 21).map (fun i => i + 75) ++ ([64, 65, 66, 67] ++ ((List.range 5).map (fun i => i + 70) ++ ([68, 69, 240, 241, 242, 243, 244, 245, 246, 247, 248, 249, 250, 251, 252, 253, 254, 255, 256, 257, 258, 259, 260, 261]))))))
theorem wP_at : ∀ n, n < 262 → wP[wP.idxOf n]? = some n := by decide +kernel
/-- the start's numbers -/
def d0 : xD := (fun o => if o = 1 then (fun k => if k = 1 then 3 else 0) else if o = 66 then (fun k => if k = 4 then 1 else if k = 5 then 1 else 0) else if o = 240 then (fun k => if k = 0 then 3 else if k = 32 then 1 else 0) else (fun _ => 0), fun _ _ => 0)
theorem d0_z {o : Nat} (h1 : o ≠ 1) (h2 : o ≠ 66) (h3 : o ≠ 240) : d0.1 o = fun _ => 0 := by
  show (if o = 1 then _ else if o = 66 then _ else if o = 240 then _ else _) = _
  rw [if_neg h1, if_neg h2, if_neg h3]
theorem y_to_x {E : xE} {X : xC} {A : Nat → Prop} {Z : State → Prop} {cc : ByteArray} {own nm : String} {ret : Option FieldType} {rm : Nat × Nat × Nat} {ws : va_W} {cu su pc : Nat} {loc : List (Option Value)} {stk : List Value} (d0 : xD) (ad : Nat → Nat)
    (hadr : ws.map (fun q => q.1) = wP.map ad) (hcell : ∀ T : xT, T.1.1 = ad → ws = wP.map (fun n => (ad n, cellOf (E, T) d0 n)))
    (kk : ∀ T : xT, T.1.1 = ad → xG E X A Z cc own nm ret rm (xLs (E, T)) (xHs (E, T) d0) cu su pc loc stk) : yG E X A Z cc own nm ret rm ws cu su pc loc stk := by
  obtain ⟨l, p, e, R, s, m, args, below, meth, c⟩ := X
  intro hO hN H locs ls hP hD hS hl hml
  have hadr2 : ∀ n, n < 262 → ∃ x, ws[wP.idxOf n]? = some x ∧ x.1 = ad n := fun n hn => by
    have h1 : (ws.map (fun q => q.1))[wP.idxOf n]? = some (ad n) := by rw [hadr, List.getElem?_map, wP_at n hn]; rfl
    rw [List.getElem?_map] at h1
    exact Option.map_eq_some_iff.mp h1
  have hpos : ∀ i j : Nat, i < 262 → j < 262 → wP.idxOf i = wP.idxOf j → i = j := fun i j hi hj he => by
    have h1 := wP_at i hi
    rw [he, wP_at j hj] at h1
    exact (Option.some.inj h1).symm
  have hinj : ∀ i j : Nat, i < 262 → j < 262 → ad i = ad j → i = j := fun i j hi hj he => by
    obtain ⟨x, hx, hx1⟩ := hadr2 i hi
    obtain ⟨y, hy, hy1⟩ := hadr2 j hj
    exact hpos i j hi hj (hD.1 _ _ x y hx hy (by rw [hx1, hy1, he]))
  obtain ⟨T, hT⟩ : ∃ T : xT, T.1.1 = ad := by
    refine ⟨⟨(ad, fun a => Classical.epsilon (fun i => i < 262 ∧ ad i = a)), fun i hi => ?_⟩, rfl⟩
    have h := Classical.epsilon_spec (p := fun j => j < 262 ∧ ad j = ad i) ⟨i, hi, rfl⟩
    exact hinj _ _ h.1 hi h.2
  have hc := hcell T hT
  have had : ∀ n, xad (E, T) n = ad n := fun n => congrFun hT n
  have hrow : ∀ (k : Nat) (x : Nat × va_E), (va_pl (xLs (E, T)) (xHs (E, T) d0))[k]? = some x → k < 262 ∧ ws[wP.idxOf k]? = some x := fun k x hx => by
    have hk : k < 262 := by
      have := (List.getElem?_eq_some_iff.mp hx).1
      simpa [va_pl, xLs] using this
    refine ⟨hk, ?_⟩
    simp only [va_pl, xLs, List.map_map, List.getElem?_map, List.getElem?_range hk, Option.map_some, Function.comp] at hx
    rw [xHs_at _ _ hk, had] at hx
    rw [hc, List.getElem?_map, wP_at k hk]
    exact hx
  refine kk T hT hO H locs ls (fun k x hx => hP _ x (hrow k x hx).2) ⟨fun i j x y hx hy hxy => ?_, fun k x hx => hD.2 _ x (hrow k x hx).2⟩ hS hl hml
  have h1 := hrow i x hx
  have h2 := hrow j y hy
  exact hpos i j h1.1 h2.1 (hD.1 _ _ x y h1.2 h2.2 hxy)
def adr (a0 : Nat) (q gl r0 r1 r2 r3 rl tx ln : Nat → Nat) (hp pr : (Nat → Nat) × (Nat → Nat) × (Nat → Nat) × (Nat → Nat)) (bg : (Nat → Nat) × (Nat → Nat)) (ci : (Nat → Nat) × (Nat → Nat) × (Nat → Nat)) (od rd : (Nat → Nat) × (Nat → Nat)) (a1 : Nat) (h : Nat → Nat) : Nat → Nat := fun n => if n < 70 then [a0, q 0, gl 0, q 1, q 2, q 3, q 4, q 5, q 6, hp.1 0, hp.1 1, hp.1 2, pr.1 0, pr.1 1, pr.1 2, ci.1 2, ci.1 3, r0 0, r1 0, r2 0, r3 0, rl 0, hp.2.1 0, hp.2.2.1 0, hp.2.2.2 0, pr.2.1 0, pr.2.2.1 0, pr.2.2.2 0, ci.2.1 0, ci.2.2 0, q 7, tx 0, q 8, ln 0, ln 1, ln 2, ln 3, ln 4, ln 5, ln 6, ln 7, ln 8, ln 9, ln 10, ln 11, ln 12, ln 13, ln 14, ln 15, ln 16, q 9, q 10, q 11, bg.1 0, bg.1 1, bg.1 2, bg.1 3, bg.1 4, bg.1 5, q 12, ci.1 0, ci.1 1, q 13, od.1 0, od.1 1, od.1 2, q 14, rd.1 0, rd.1 1, rd.1 2].getD n 0 else if n < 75 then rd.2 (n - 70) else if n < 96 then od.2 (n - 75) else if n < 240 then bg.2 (n - 96) else if n = 240 then a1 else h (n - 241)
theorem w_c {α : Type} {a b : α} {l m : List α} (h : a = b) (t : l = m) : a :: l = b :: m := by rw [h, t]
theorem w_a {α : Type} {l l' m m' : List α} (h : l = l') (t : m = m') : l ++ m = l' ++ m' := by rw [h, t]
theorem w_r {α : Type} {n o : Nat} {f g : Nat → α} (h : ∀ i, i < n → f i = g (i + o)) : (List.range n).map f = ((List.range n).map (fun i => i + o)).map g := by
  rw [List.map_map]
  exact List.map_congr_left (fun i hi => h i (List.mem_range.mp hi))
section WA
variable {a0 : Nat} {q gl r0 r1 r2 r3 rl tx ln : Nat → Nat} {hp pr : (Nat → Nat) × (Nat → Nat) × (Nat → Nat) × (Nat → Nat)} {bg : (Nat → Nat) × (Nat → Nat)} {ci : (Nat → Nat) × (Nat → Nat) × (Nat → Nat)} {od rd : (Nat → Nat) × (Nat → Nat)} {a1 : Nat} {h : Nat → Nat}
theorem adr_mv {i : Nat} (hi : i < 5) : adr a0 q gl r0 r1 r2 r3 rl tx ln hp pr bg ci od rd a1 h (i + 70) = rd.2 i := by
  unfold adr
  rw [if_neg (by omega), if_pos (by omega), Nat.add_sub_cancel]
theorem adr_fo {i : Nat} (hi : i < 21) : adr a0 q gl r0 r1 r2 r3 rl tx ln hp pr bg ci od rd a1 h (i + 75) = od.2 i := by
  unfold adr
  rw [if_neg (by omega), if_neg (by omega), if_pos (by omega), Nat.add_sub_cancel]
theorem adr_ne {i : Nat} (hi : i < 144) : adr a0 q gl r0 r1 r2 r3 rl tx ln hp pr bg ci od rd a1 h (i + 96) = bg.2 i := by
  unfold adr
  rw [if_neg (by omega), if_neg (by omega), if_neg (by omega), if_pos (by omega), Nat.add_sub_cancel]
def wG (E : xE) (a0 : Nat) (q gl r0 r1 r2 r3 rl tx ln : Nat → Nat) (hp pr : (Nat → Nat) × (Nat → Nat) × (Nat → Nat) × (Nat → Nat)) (bg : (Nat → Nat) × (Nat → Nat)) (ci : (Nat → Nat) × (Nat → Nat) × (Nat → Nat)) (od rd : (Nat → Nat) × (Nat → Nat)) (a1 : Nat) (h : Nat → Nat) : va_W := (a0, eX11 (q, gl, r0, r1, r2, r3, rl, tx, ln, hp, pr, bg, ci, od, rd)) :: (nX11 E (q, gl, r0, r1, r2, r3, rl, tx, ln, hp, pr, bg, ci, od, rd) ++ (a1, eX12 h) :: nX12 E h)
/-- the same list, written out -/
theorem wG_eq {E : xE} : wG E a0 q gl r0 r1 r2 r3 rl tx ln hp pr bg ci od rd a1 h = ((a0, eX11 (q, gl, r0, r1, r2, r3, rl, tx, ln, hp, pr, bg, ci, od, rd)) :: (q 0, eX3 gl) :: (gl 0, .inl (E.2.1 0, 6, .inl (fun _ => 0))) :: (q 1, .inl (E.2.1 4, 4, .inr (.inr (.inr (.inr (fun i => [q 2, q 3, q 4, q 5][i]?)))))) :: (q 2, eX9 r0) :: (r0 0, .inl (E.2.1 0, 24, .inl (fun _ => 0))) :: (q 3, eX9 r1) :: (r1 0, .inl (E.2.1 0, 24, .inl (fun _ => 0))) :: (q 4, eX9 r2) :: (r2 0, .inl (E.2.1 0, 24, .inl (fun _ => 0))) :: (q 5, eX9 r3) :: (r3 0, .inl (E.2.1 0, 24, .inl (fun _ => 0))) :: (q 6, eX9 rl) :: (rl 0, .inl (E.2.1 0, 24, .inl (fun _ => 0))) :: (q 7, eX10 tx) :: (tx 0, .inl (E.2.1 0, 160, .inl (fun _ => 0))) :: (q 8, eX5 (q 7) ln) :: (ln 0, .inl (E.2.1 5, 16, .inr (.inr (.inr (.inr (fun i => [ln 1, ln 2, ln 3, ln 4, ln 5, ln 6, ln 7, ln 8, ln 9, ln 10, ln 11, ln 12, ln 13, ln 14, ln 15, ln 16][i]?)))))) :: (ln 1, eX4) :: (ln 2, eX4) :: (ln 3, eX4) :: (ln 4, eX4) :: (ln 5, eX4) :: (ln 6, eX4) :: (ln 7, eX4) :: (ln 8, eX4) :: (ln 9, eX4) :: (ln 10, eX4) :: (ln 11, eX4) :: (ln 12, eX4) :: (ln 13, eX4) :: (ln 14, eX4) :: (ln 15, eX4) :: (ln 16, eX4) :: (q 9, eX2 (q 0) hp) :: (hp.1 0, eX9 hp.2.1) :: (hp.2.1 0, .inl (E.2.1 0, 24, .inl (fun _ => 0))) :: (hp.1 1, eX9 hp.2.2.1) :: (hp.2.2.1 0, .inl (E.2.1 0, 24, .inl (fun _ => 0))) :: (hp.1 2, eX9 hp.2.2.2) :: (hp.2.2.2 0, .inl (E.2.1 0, 24, .inl (fun _ => 0))) :: (q 10, eX7 (q 9) pr) :: (pr.1 0, eX9 pr.2.1) :: (pr.2.1 0, .inl (E.2.1 0, 24, .inl (fun _ => 0))) :: (pr.1 1, eX9 pr.2.2.1) :: (pr.2.2.1 0, .inl (E.2.1 0, 24, .inl (fun _ => 0))) :: (pr.1 2, eX9 pr.2.2.2) :: (pr.2.2.2 0, .inl (E.2.1 0, 24, .inl (fun _ => 0))) :: (q 11, eX0 (q 0) bg) :: (bg.1 0, .inl (E.2.1 2, 15625, .inl (fun _ => 0))) :: (bg.1 1, .inl (E.2.1 0, 15625, .inl (fun _ => 0))) :: (bg.1 2, .inl (E.2.1 0, 6, .inl (fun _ => 0))) :: (bg.1 3, .inl (E.2.1 0, 6, .inl (fun _ => 0))) :: (bg.1 4, .inl (E.2.1 0, 6, .inl (fun _ => 0))) :: (bg.1 5, .inl (E.2.1 6, 144, .inr (.inr (.inr (.inr (fun i => if i < 144 then some (bg.2 i) else none)))))) :: ((List.range 144).map (fun i => (bg.2 i, .inl (E.2.1 0, (6, .inl (fun _ => 0))))) ++ ((q 12, eX1 (q 0) (q 9) ci) :: (ci.1 0, .inl (E.2.1 1, 2000, .inr (.inl (fun _ => 0)))) :: (ci.1 1, .inl (E.2.1 1, 4096, .inr (.inl (fun _ => 0)))) :: (ci.1 2, eX9 ci.2.1) :: (ci.2.1 0, .inl (E.2.1 0, 24, .inl (fun _ => 0))) :: (ci.1 3, eX9 ci.2.2) :: (ci.2.2 0, .inl (E.2.1 0, 24, .inl (fun _ => 0))) :: (q 13, eX6 (q 0) od) :: (od.1 0, .inl (E.2.1 7, 21, .inr (.inr (.inr (.inr (fun i => if i < 21 then some (od.2 i) else none)))))) :: ((List.range 21).map (fun i => (od.2 i, .inl (E.2.1 1, (64, .inr (.inl (fun _ => 0)))))) ++ ((od.1 1, .inl (E.2.1 1, 61, .inr (.inl (fun _ => 0)))) :: (od.1 2, .inl (E.2.1 0, 7, .inl (fun _ => 0))) :: (q 14, eX8 (q 0) (q 13) rd) :: (rd.1 0, .inl (E.2.1 6, 5, .inr (.inr (.inr (.inr (fun i => if i < 5 then some (rd.2 i) else none)))))) :: ((List.range 5).map (fun i => (rd.2 i, .inl (E.2.1 0, (6, .inl (fun _ => 0))))) ++ ((rd.1 1, .inl (E.2.1 0, 320, .inl (fun _ => 0))) :: (rd.1 2, .inl (E.2.1 0, 320, .inl (fun _ => 0))) :: (a1, eX12 h) :: (h 0, .inl (E.2.1 0, 6, .inl (fun _ => 0))) :: (h 1, .inl (E.2.1 0, 4, .inl (fun _ => 0))) :: (h 2, .inl (E.2.1 0, 96, .inl (fun _ => 0))) :: (h 3, .inl (E.2.1 0, 160, .inl (fun _ => 0))) :: (h 4, .inl (E.2.1 0, 64, .inl (fun _ => 0))) :: (h 5, .inl (E.2.1 0, 48, .inl (fun _ => 0))) :: (h 6, .inl (E.2.1 0, 48, .inl (fun _ => 0))) :: (h 7, .inl (E.2.1 0, 48, .inl (fun _ => 0))) :: (h 8, .inl (E.2.1 3, 48, .inl (fun _ => 0))) :: (h 9, .inl (E.2.1 3, 576, .inl (fun _ => 0))) :: (h 10, .inl (E.2.1 0, 20001, .inl (fun _ => 0))) :: (h 11, .inl (E.2.1 1, 20001, .inr (.inl (fun _ => 0)))) :: (h 12, .inl (E.2.1 0, 65536, .inl (fun _ => 0))) :: (h 13, .inl (E.2.1 0, 6, .inl (fun _ => 0))) :: (h 14, .inl (E.2.1 0, 6, .inl (fun _ => 0))) :: (h 15, .inl (E.2.1 1, 2001, .inr (.inl (fun _ => 0)))) :: (h 16, .inl (E.2.1 1, 1344, .inr (.inl (fun _ => 0)))) :: (h 17, .inl (E.2.1 1, 320, .inr (.inl (fun _ => 0)))) :: (h 18, .inl (E.2.1 1, 320, .inr (.inl (fun _ => 0)))) :: (h 19, .inl (E.2.1 1, 61, .inr (.inl (fun _ => 0)))) :: (h 20, .inl (E.2.1 0, 30, .inl (fun _ => 0))) :: [])))))) : va_W) := by
  delta wG nX11 nX3 nX9 nX10 nX5 nX2 nX7 nX0 nX1 nX6 nX8 nX12
  (simp only [List.append_assoc, List.cons_append, List.nil_append]) <;> rfl
theorem wG_adr {E : xE} : (wG E a0 q gl r0 r1 r2 r3 rl tx ln hp pr bg ci od rd a1 h).map (fun q => q.1) = wP.map (adr a0 q gl r0 r1 r2 r3 rl tx ln hp pr bg ci od rd a1 h) := by
  rw [wG_eq]
  simp only [wP, List.map_append, List.map_cons, List.map_nil, List.cons_append, List.nil_append]
  refine w_c (rfl) ?_
  refine w_c (rfl) ?_
  refine w_c (rfl) ?_
  refine w_c (rfl) ?_
  refine w_c (rfl) ?_
  refine w_c (rfl) ?_
  refine w_c (rfl) ?_
  refine w_c (rfl) ?_
  refine w_c (rfl) ?_
  refine w_c (rfl) ?_
  refine w_c (rfl) ?_
  refine w_c (rfl) ?_
  refine w_c (rfl) ?_
  refine w_c (rfl) ?_
  refine w_c (rfl) ?_
  refine w_c (rfl) ?_
  refine w_c (rfl) ?_
  refine w_c (rfl) ?_
  refine w_c (rfl) ?_
  refine w_c (rfl) ?_
  refine w_c (rfl) ?_
  refine w_c (rfl) ?_
  refine w_c (rfl) ?_
  refine w_c (rfl) ?_
  refine w_c (rfl) ?_
  refine w_c (rfl) ?_
  refine w_c (rfl) ?_
  refine w_c (rfl) ?_
  refine w_c (rfl) ?_
  refine w_c (rfl) ?_
  refine w_c (rfl) ?_
  refine w_c (rfl) ?_
  refine w_c (rfl) ?_
  refine w_c (rfl) ?_
  refine w_c (rfl) ?_
  refine w_c (rfl) ?_
  refine w_c (rfl) ?_
  refine w_c (rfl) ?_
  refine w_c (rfl) ?_
  refine w_c (rfl) ?_
  refine w_c (rfl) ?_
  refine w_c (rfl) ?_
  refine w_c (rfl) ?_
  refine w_c (rfl) ?_
  refine w_c (rfl) ?_
  refine w_c (rfl) ?_
  refine w_c (rfl) ?_
  refine w_c (rfl) ?_
  refine w_c (rfl) ?_
  refine w_c (rfl) ?_
  refine w_c (rfl) ?_
  refine w_c (rfl) ?_
  refine w_c (rfl) ?_
  refine w_c (rfl) ?_
  refine w_c (rfl) ?_
  refine w_a ((List.map_map ..).trans (w_r (fun i hi => (adr_ne hi).symm))) ?_
  refine w_c (rfl) ?_
  refine w_c (rfl) ?_
  refine w_c (rfl) ?_
  refine w_c (rfl) ?_
  refine w_c (rfl) ?_
  refine w_c (rfl) ?_
  refine w_c (rfl) ?_
  refine w_c (rfl) ?_
  refine w_c (rfl) ?_
  refine w_a ((List.map_map ..).trans (w_r (fun i hi => (adr_fo hi).symm))) ?_
  refine w_c (rfl) ?_
  refine w_c (rfl) ?_
  refine w_c (rfl) ?_
  refine w_c (rfl) ?_
  refine w_a ((List.map_map ..).trans (w_r (fun i hi => (adr_mv hi).symm))) ?_
  refine w_c (rfl) ?_
  refine w_c (rfl) ?_
  refine w_c (rfl) ?_
  refine w_c (rfl) ?_
  refine w_c (rfl) ?_
  refine w_c (rfl) ?_
  refine w_c (rfl) ?_
  refine w_c (rfl) ?_
  refine w_c (rfl) ?_
  refine w_c (rfl) ?_
  refine w_c (rfl) ?_
  refine w_c (rfl) ?_
  refine w_c (rfl) ?_
  refine w_c (rfl) ?_
  refine w_c (rfl) ?_
  refine w_c (rfl) ?_
  refine w_c (rfl) ?_
  refine w_c (rfl) ?_
  refine w_c (rfl) ?_
  refine w_c (rfl) ?_
  refine w_c (rfl) ?_
  refine w_c (rfl) ?_
  refine w_c (rfl) ?_
  refine w_c (rfl) ?_
  rfl
theorem wc_0 {E : xE} {inv' : Nat → Nat} {p : ∀ i : Nat, i < 262 → inv' (adr a0 q gl r0 r1 r2 r3 rl tx ln hp pr bg ci od rd a1 h i) = i} : ((a0, eX11 (q, gl, r0, r1, r2, r3, rl, tx, ln, hp, pr, bg, ci, od, rd)) : Nat × va_E) = (adr a0 q gl r0 r1 r2 r3 rl tx ln hp pr bg ci od rd a1 h 0, cellOf (E, ⟨(adr a0 q gl r0 r1 r2 r3 rl tx ln hp pr bg ci od rd a1 h, inv'), p⟩) d0 0) := rfl
theorem wc_1 {E : xE} {inv' : Nat → Nat} {p : ∀ i : Nat, i < 262 → inv' (adr a0 q gl r0 r1 r2 r3 rl tx ln hp pr bg ci od rd a1 h i) = i} : ((q 0, eX3 gl) : Nat × va_E) = (adr a0 q gl r0 r1 r2 r3 rl tx ln hp pr bg ci od rd a1 h 1, cellOf (E, ⟨(adr a0 q gl r0 r1 r2 r3 rl tx ln hp pr bg ci od rd a1 h, inv'), p⟩) d0 1) := rfl
theorem wc_2 {E : xE} {inv' : Nat → Nat} {p : ∀ i : Nat, i < 262 → inv' (adr a0 q gl r0 r1 r2 r3 rl tx ln hp pr bg ci od rd a1 h i) = i} : ((gl 0, .inl (E.2.1 0, 6, .inl (fun _ => 0))) : Nat × va_E) = (adr a0 q gl r0 r1 r2 r3 rl tx ln hp pr bg ci od rd a1 h 2, cellOf (E, ⟨(adr a0 q gl r0 r1 r2 r3 rl tx ln hp pr bg ci od rd a1 h, inv'), p⟩) d0 2) := rfl
theorem wc_3 {E : xE} {inv' : Nat → Nat} {p : ∀ i : Nat, i < 262 → inv' (adr a0 q gl r0 r1 r2 r3 rl tx ln hp pr bg ci od rd a1 h i) = i} : ((q 1, .inl (E.2.1 4, 4, .inr (.inr (.inr (.inr (fun i => [q 2, q 3, q 4, q 5][i]?)))))) : Nat × va_E) = (adr a0 q gl r0 r1 r2 r3 rl tx ln hp pr bg ci od rd a1 h 3, cellOf (E, ⟨(adr a0 q gl r0 r1 r2 r3 rl tx ln hp pr bg ci od rd a1 h, inv'), p⟩) d0 3) := by
  have e : (fun i => [q 2, q 3, q 4, q 5][i]?) = (fun i => if i < 4 then some (adr a0 q gl r0 r1 r2 r3 rl tx ln hp pr bg ci od rd a1 h (i + 4)) else none) := by
    funext i
    match i with
    | 0 => rfl
    | 1 => rfl
    | 2 => rfl
    | 3 => rfl
    | i + 4 => rw [if_neg (by omega)]; rfl
  rw [e]
  rfl
theorem wc_4 {E : xE} {inv' : Nat → Nat} {p : ∀ i : Nat, i < 262 → inv' (adr a0 q gl r0 r1 r2 r3 rl tx ln hp pr bg ci od rd a1 h i) = i} : ((q 2, eX9 r0) : Nat × va_E) = (adr a0 q gl r0 r1 r2 r3 rl tx ln hp pr bg ci od rd a1 h 4, cellOf (E, ⟨(adr a0 q gl r0 r1 r2 r3 rl tx ln hp pr bg ci od rd a1 h, inv'), p⟩) d0 4) := rfl
theorem wc_5 {E : xE} {inv' : Nat → Nat} {p : ∀ i : Nat, i < 262 → inv' (adr a0 q gl r0 r1 r2 r3 rl tx ln hp pr bg ci od rd a1 h i) = i} : ((q 3, eX9 r1) : Nat × va_E) = (adr a0 q gl r0 r1 r2 r3 rl tx ln hp pr bg ci od rd a1 h 5, cellOf (E, ⟨(adr a0 q gl r0 r1 r2 r3 rl tx ln hp pr bg ci od rd a1 h, inv'), p⟩) d0 5) := rfl
theorem wc_6 {E : xE} {inv' : Nat → Nat} {p : ∀ i : Nat, i < 262 → inv' (adr a0 q gl r0 r1 r2 r3 rl tx ln hp pr bg ci od rd a1 h i) = i} : ((q 4, eX9 r2) : Nat × va_E) = (adr a0 q gl r0 r1 r2 r3 rl tx ln hp pr bg ci od rd a1 h 6, cellOf (E, ⟨(adr a0 q gl r0 r1 r2 r3 rl tx ln hp pr bg ci od rd a1 h, inv'), p⟩) d0 6) := rfl
theorem wc_7 {E : xE} {inv' : Nat → Nat} {p : ∀ i : Nat, i < 262 → inv' (adr a0 q gl r0 r1 r2 r3 rl tx ln hp pr bg ci od rd a1 h i) = i} : ((q 5, eX9 r3) : Nat × va_E) = (adr a0 q gl r0 r1 r2 r3 rl tx ln hp pr bg ci od rd a1 h 7, cellOf (E, ⟨(adr a0 q gl r0 r1 r2 r3 rl tx ln hp pr bg ci od rd a1 h, inv'), p⟩) d0 7) := rfl
theorem wc_8 {E : xE} {inv' : Nat → Nat} {p : ∀ i : Nat, i < 262 → inv' (adr a0 q gl r0 r1 r2 r3 rl tx ln hp pr bg ci od rd a1 h i) = i} : ((q 6, eX9 rl) : Nat × va_E) = (adr a0 q gl r0 r1 r2 r3 rl tx ln hp pr bg ci od rd a1 h 8, cellOf (E, ⟨(adr a0 q gl r0 r1 r2 r3 rl tx ln hp pr bg ci od rd a1 h, inv'), p⟩) d0 8) := rfl
theorem wc_9 {E : xE} {inv' : Nat → Nat} {p : ∀ i : Nat, i < 262 → inv' (adr a0 q gl r0 r1 r2 r3 rl tx ln hp pr bg ci od rd a1 h i) = i} : ((hp.1 0, eX9 hp.2.1) : Nat × va_E) = (adr a0 q gl r0 r1 r2 r3 rl tx ln hp pr bg ci od rd a1 h 9, cellOf (E, ⟨(adr a0 q gl r0 r1 r2 r3 rl tx ln hp pr bg ci od rd a1 h, inv'), p⟩) d0 9) := rfl
theorem wc_10 {E : xE} {inv' : Nat → Nat} {p : ∀ i : Nat, i < 262 → inv' (adr a0 q gl r0 r1 r2 r3 rl tx ln hp pr bg ci od rd a1 h i) = i} : ((hp.1 1, eX9 hp.2.2.1) : Nat × va_E) = (adr a0 q gl r0 r1 r2 r3 rl tx ln hp pr bg ci od rd a1 h 10, cellOf (E, ⟨(adr a0 q gl r0 r1 r2 r3 rl tx ln hp pr bg ci od rd a1 h, inv'), p⟩) d0 10) := rfl
theorem wc_11 {E : xE} {inv' : Nat → Nat} {p : ∀ i : Nat, i < 262 → inv' (adr a0 q gl r0 r1 r2 r3 rl tx ln hp pr bg ci od rd a1 h i) = i} : ((hp.1 2, eX9 hp.2.2.2) : Nat × va_E) = (adr a0 q gl r0 r1 r2 r3 rl tx ln hp pr bg ci od rd a1 h 11, cellOf (E, ⟨(adr a0 q gl r0 r1 r2 r3 rl tx ln hp pr bg ci od rd a1 h, inv'), p⟩) d0 11) := rfl
theorem wc_12 {E : xE} {inv' : Nat → Nat} {p : ∀ i : Nat, i < 262 → inv' (adr a0 q gl r0 r1 r2 r3 rl tx ln hp pr bg ci od rd a1 h i) = i} : ((pr.1 0, eX9 pr.2.1) : Nat × va_E) = (adr a0 q gl r0 r1 r2 r3 rl tx ln hp pr bg ci od rd a1 h 12, cellOf (E, ⟨(adr a0 q gl r0 r1 r2 r3 rl tx ln hp pr bg ci od rd a1 h, inv'), p⟩) d0 12) := rfl
theorem wc_13 {E : xE} {inv' : Nat → Nat} {p : ∀ i : Nat, i < 262 → inv' (adr a0 q gl r0 r1 r2 r3 rl tx ln hp pr bg ci od rd a1 h i) = i} : ((pr.1 1, eX9 pr.2.2.1) : Nat × va_E) = (adr a0 q gl r0 r1 r2 r3 rl tx ln hp pr bg ci od rd a1 h 13, cellOf (E, ⟨(adr a0 q gl r0 r1 r2 r3 rl tx ln hp pr bg ci od rd a1 h, inv'), p⟩) d0 13) := rfl
theorem wc_14 {E : xE} {inv' : Nat → Nat} {p : ∀ i : Nat, i < 262 → inv' (adr a0 q gl r0 r1 r2 r3 rl tx ln hp pr bg ci od rd a1 h i) = i} : ((pr.1 2, eX9 pr.2.2.2) : Nat × va_E) = (adr a0 q gl r0 r1 r2 r3 rl tx ln hp pr bg ci od rd a1 h 14, cellOf (E, ⟨(adr a0 q gl r0 r1 r2 r3 rl tx ln hp pr bg ci od rd a1 h, inv'), p⟩) d0 14) := rfl
theorem wc_15 {E : xE} {inv' : Nat → Nat} {p : ∀ i : Nat, i < 262 → inv' (adr a0 q gl r0 r1 r2 r3 rl tx ln hp pr bg ci od rd a1 h i) = i} : ((ci.1 2, eX9 ci.2.1) : Nat × va_E) = (adr a0 q gl r0 r1 r2 r3 rl tx ln hp pr bg ci od rd a1 h 15, cellOf (E, ⟨(adr a0 q gl r0 r1 r2 r3 rl tx ln hp pr bg ci od rd a1 h, inv'), p⟩) d0 15) := rfl
theorem wc_16 {E : xE} {inv' : Nat → Nat} {p : ∀ i : Nat, i < 262 → inv' (adr a0 q gl r0 r1 r2 r3 rl tx ln hp pr bg ci od rd a1 h i) = i} : ((ci.1 3, eX9 ci.2.2) : Nat × va_E) = (adr a0 q gl r0 r1 r2 r3 rl tx ln hp pr bg ci od rd a1 h 16, cellOf (E, ⟨(adr a0 q gl r0 r1 r2 r3 rl tx ln hp pr bg ci od rd a1 h, inv'), p⟩) d0 16) := rfl
theorem wc_17 {E : xE} {inv' : Nat → Nat} {p : ∀ i : Nat, i < 262 → inv' (adr a0 q gl r0 r1 r2 r3 rl tx ln hp pr bg ci od rd a1 h i) = i} : ((r0 0, .inl (E.2.1 0, 24, .inl (fun _ => 0))) : Nat × va_E) = (adr a0 q gl r0 r1 r2 r3 rl tx ln hp pr bg ci od rd a1 h 17, cellOf (E, ⟨(adr a0 q gl r0 r1 r2 r3 rl tx ln hp pr bg ci od rd a1 h, inv'), p⟩) d0 17) := rfl
theorem wc_18 {E : xE} {inv' : Nat → Nat} {p : ∀ i : Nat, i < 262 → inv' (adr a0 q gl r0 r1 r2 r3 rl tx ln hp pr bg ci od rd a1 h i) = i} : ((r1 0, .inl (E.2.1 0, 24, .inl (fun _ => 0))) : Nat × va_E) = (adr a0 q gl r0 r1 r2 r3 rl tx ln hp pr bg ci od rd a1 h 18, cellOf (E, ⟨(adr a0 q gl r0 r1 r2 r3 rl tx ln hp pr bg ci od rd a1 h, inv'), p⟩) d0 18) := rfl
theorem wc_19 {E : xE} {inv' : Nat → Nat} {p : ∀ i : Nat, i < 262 → inv' (adr a0 q gl r0 r1 r2 r3 rl tx ln hp pr bg ci od rd a1 h i) = i} : ((r2 0, .inl (E.2.1 0, 24, .inl (fun _ => 0))) : Nat × va_E) = (adr a0 q gl r0 r1 r2 r3 rl tx ln hp pr bg ci od rd a1 h 19, cellOf (E, ⟨(adr a0 q gl r0 r1 r2 r3 rl tx ln hp pr bg ci od rd a1 h, inv'), p⟩) d0 19) := rfl
theorem wc_20 {E : xE} {inv' : Nat → Nat} {p : ∀ i : Nat, i < 262 → inv' (adr a0 q gl r0 r1 r2 r3 rl tx ln hp pr bg ci od rd a1 h i) = i} : ((r3 0, .inl (E.2.1 0, 24, .inl (fun _ => 0))) : Nat × va_E) = (adr a0 q gl r0 r1 r2 r3 rl tx ln hp pr bg ci od rd a1 h 20, cellOf (E, ⟨(adr a0 q gl r0 r1 r2 r3 rl tx ln hp pr bg ci od rd a1 h, inv'), p⟩) d0 20) := rfl
theorem wc_21 {E : xE} {inv' : Nat → Nat} {p : ∀ i : Nat, i < 262 → inv' (adr a0 q gl r0 r1 r2 r3 rl tx ln hp pr bg ci od rd a1 h i) = i} : ((rl 0, .inl (E.2.1 0, 24, .inl (fun _ => 0))) : Nat × va_E) = (adr a0 q gl r0 r1 r2 r3 rl tx ln hp pr bg ci od rd a1 h 21, cellOf (E, ⟨(adr a0 q gl r0 r1 r2 r3 rl tx ln hp pr bg ci od rd a1 h, inv'), p⟩) d0 21) := rfl
theorem wc_22 {E : xE} {inv' : Nat → Nat} {p : ∀ i : Nat, i < 262 → inv' (adr a0 q gl r0 r1 r2 r3 rl tx ln hp pr bg ci od rd a1 h i) = i} : ((hp.2.1 0, .inl (E.2.1 0, 24, .inl (fun _ => 0))) : Nat × va_E) = (adr a0 q gl r0 r1 r2 r3 rl tx ln hp pr bg ci od rd a1 h 22, cellOf (E, ⟨(adr a0 q gl r0 r1 r2 r3 rl tx ln hp pr bg ci od rd a1 h, inv'), p⟩) d0 22) := rfl
theorem wc_23 {E : xE} {inv' : Nat → Nat} {p : ∀ i : Nat, i < 262 → inv' (adr a0 q gl r0 r1 r2 r3 rl tx ln hp pr bg ci od rd a1 h i) = i} : ((hp.2.2.1 0, .inl (E.2.1 0, 24, .inl (fun _ => 0))) : Nat × va_E) = (adr a0 q gl r0 r1 r2 r3 rl tx ln hp pr bg ci od rd a1 h 23, cellOf (E, ⟨(adr a0 q gl r0 r1 r2 r3 rl tx ln hp pr bg ci od rd a1 h, inv'), p⟩) d0 23) := rfl
theorem wc_24 {E : xE} {inv' : Nat → Nat} {p : ∀ i : Nat, i < 262 → inv' (adr a0 q gl r0 r1 r2 r3 rl tx ln hp pr bg ci od rd a1 h i) = i} : ((hp.2.2.2 0, .inl (E.2.1 0, 24, .inl (fun _ => 0))) : Nat × va_E) = (adr a0 q gl r0 r1 r2 r3 rl tx ln hp pr bg ci od rd a1 h 24, cellOf (E, ⟨(adr a0 q gl r0 r1 r2 r3 rl tx ln hp pr bg ci od rd a1 h, inv'), p⟩) d0 24) := rfl
theorem wc_25 {E : xE} {inv' : Nat → Nat} {p : ∀ i : Nat, i < 262 → inv' (adr a0 q gl r0 r1 r2 r3 rl tx ln hp pr bg ci od rd a1 h i) = i} : ((pr.2.1 0, .inl (E.2.1 0, 24, .inl (fun _ => 0))) : Nat × va_E) = (adr a0 q gl r0 r1 r2 r3 rl tx ln hp pr bg ci od rd a1 h 25, cellOf (E, ⟨(adr a0 q gl r0 r1 r2 r3 rl tx ln hp pr bg ci od rd a1 h, inv'), p⟩) d0 25) := rfl
theorem wc_26 {E : xE} {inv' : Nat → Nat} {p : ∀ i : Nat, i < 262 → inv' (adr a0 q gl r0 r1 r2 r3 rl tx ln hp pr bg ci od rd a1 h i) = i} : ((pr.2.2.1 0, .inl (E.2.1 0, 24, .inl (fun _ => 0))) : Nat × va_E) = (adr a0 q gl r0 r1 r2 r3 rl tx ln hp pr bg ci od rd a1 h 26, cellOf (E, ⟨(adr a0 q gl r0 r1 r2 r3 rl tx ln hp pr bg ci od rd a1 h, inv'), p⟩) d0 26) := rfl
theorem wc_27 {E : xE} {inv' : Nat → Nat} {p : ∀ i : Nat, i < 262 → inv' (adr a0 q gl r0 r1 r2 r3 rl tx ln hp pr bg ci od rd a1 h i) = i} : ((pr.2.2.2 0, .inl (E.2.1 0, 24, .inl (fun _ => 0))) : Nat × va_E) = (adr a0 q gl r0 r1 r2 r3 rl tx ln hp pr bg ci od rd a1 h 27, cellOf (E, ⟨(adr a0 q gl r0 r1 r2 r3 rl tx ln hp pr bg ci od rd a1 h, inv'), p⟩) d0 27) := rfl
theorem wc_28 {E : xE} {inv' : Nat → Nat} {p : ∀ i : Nat, i < 262 → inv' (adr a0 q gl r0 r1 r2 r3 rl tx ln hp pr bg ci od rd a1 h i) = i} : ((ci.2.1 0, .inl (E.2.1 0, 24, .inl (fun _ => 0))) : Nat × va_E) = (adr a0 q gl r0 r1 r2 r3 rl tx ln hp pr bg ci od rd a1 h 28, cellOf (E, ⟨(adr a0 q gl r0 r1 r2 r3 rl tx ln hp pr bg ci od rd a1 h, inv'), p⟩) d0 28) := rfl
theorem wc_29 {E : xE} {inv' : Nat → Nat} {p : ∀ i : Nat, i < 262 → inv' (adr a0 q gl r0 r1 r2 r3 rl tx ln hp pr bg ci od rd a1 h i) = i} : ((ci.2.2 0, .inl (E.2.1 0, 24, .inl (fun _ => 0))) : Nat × va_E) = (adr a0 q gl r0 r1 r2 r3 rl tx ln hp pr bg ci od rd a1 h 29, cellOf (E, ⟨(adr a0 q gl r0 r1 r2 r3 rl tx ln hp pr bg ci od rd a1 h, inv'), p⟩) d0 29) := rfl
theorem wc_30 {E : xE} {inv' : Nat → Nat} {p : ∀ i : Nat, i < 262 → inv' (adr a0 q gl r0 r1 r2 r3 rl tx ln hp pr bg ci od rd a1 h i) = i} : ((q 7, eX10 tx) : Nat × va_E) = (adr a0 q gl r0 r1 r2 r3 rl tx ln hp pr bg ci od rd a1 h 30, cellOf (E, ⟨(adr a0 q gl r0 r1 r2 r3 rl tx ln hp pr bg ci od rd a1 h, inv'), p⟩) d0 30) := rfl
theorem wc_31 {E : xE} {inv' : Nat → Nat} {p : ∀ i : Nat, i < 262 → inv' (adr a0 q gl r0 r1 r2 r3 rl tx ln hp pr bg ci od rd a1 h i) = i} : ((tx 0, .inl (E.2.1 0, 160, .inl (fun _ => 0))) : Nat × va_E) = (adr a0 q gl r0 r1 r2 r3 rl tx ln hp pr bg ci od rd a1 h 31, cellOf (E, ⟨(adr a0 q gl r0 r1 r2 r3 rl tx ln hp pr bg ci od rd a1 h, inv'), p⟩) d0 31) := rfl
theorem wc_32 {E : xE} {inv' : Nat → Nat} {p : ∀ i : Nat, i < 262 → inv' (adr a0 q gl r0 r1 r2 r3 rl tx ln hp pr bg ci od rd a1 h i) = i} : ((q 8, eX5 (q 7) ln) : Nat × va_E) = (adr a0 q gl r0 r1 r2 r3 rl tx ln hp pr bg ci od rd a1 h 32, cellOf (E, ⟨(adr a0 q gl r0 r1 r2 r3 rl tx ln hp pr bg ci od rd a1 h, inv'), p⟩) d0 32) := rfl
theorem wc_33 {E : xE} {inv' : Nat → Nat} {p : ∀ i : Nat, i < 262 → inv' (adr a0 q gl r0 r1 r2 r3 rl tx ln hp pr bg ci od rd a1 h i) = i} : ((ln 0, .inl (E.2.1 5, 16, .inr (.inr (.inr (.inr (fun i => [ln 1, ln 2, ln 3, ln 4, ln 5, ln 6, ln 7, ln 8, ln 9, ln 10, ln 11, ln 12, ln 13, ln 14, ln 15, ln 16][i]?)))))) : Nat × va_E) = (adr a0 q gl r0 r1 r2 r3 rl tx ln hp pr bg ci od rd a1 h 33, cellOf (E, ⟨(adr a0 q gl r0 r1 r2 r3 rl tx ln hp pr bg ci od rd a1 h, inv'), p⟩) d0 33) := by
  have e : (fun i => [ln 1, ln 2, ln 3, ln 4, ln 5, ln 6, ln 7, ln 8, ln 9, ln 10, ln 11, ln 12, ln 13, ln 14, ln 15, ln 16][i]?) = (fun i => if i < 16 then some (adr a0 q gl r0 r1 r2 r3 rl tx ln hp pr bg ci od rd a1 h (i + 34)) else none) := by
    funext i
    match i with
    | 0 => rfl
    | 1 => rfl
    | 2 => rfl
    | 3 => rfl
    | 4 => rfl
    | 5 => rfl
    | 6 => rfl
    | 7 => rfl
    | 8 => rfl
    | 9 => rfl
    | 10 => rfl
    | 11 => rfl
    | 12 => rfl
    | 13 => rfl
    | 14 => rfl
    | 15 => rfl
    | i + 16 => rw [if_neg (by omega)]; rfl
  rw [e]
  rfl
theorem wc_34 {E : xE} {inv' : Nat → Nat} {p : ∀ i : Nat, i < 262 → inv' (adr a0 q gl r0 r1 r2 r3 rl tx ln hp pr bg ci od rd a1 h i) = i} : ((ln 1, eX4) : Nat × va_E) = (adr a0 q gl r0 r1 r2 r3 rl tx ln hp pr bg ci od rd a1 h 34, cellOf (E, ⟨(adr a0 q gl r0 r1 r2 r3 rl tx ln hp pr bg ci od rd a1 h, inv'), p⟩) d0 34) := rfl
theorem wc_35 {E : xE} {inv' : Nat → Nat} {p : ∀ i : Nat, i < 262 → inv' (adr a0 q gl r0 r1 r2 r3 rl tx ln hp pr bg ci od rd a1 h i) = i} : ((ln 2, eX4) : Nat × va_E) = (adr a0 q gl r0 r1 r2 r3 rl tx ln hp pr bg ci od rd a1 h 35, cellOf (E, ⟨(adr a0 q gl r0 r1 r2 r3 rl tx ln hp pr bg ci od rd a1 h, inv'), p⟩) d0 35) := rfl
theorem wc_36 {E : xE} {inv' : Nat → Nat} {p : ∀ i : Nat, i < 262 → inv' (adr a0 q gl r0 r1 r2 r3 rl tx ln hp pr bg ci od rd a1 h i) = i} : ((ln 3, eX4) : Nat × va_E) = (adr a0 q gl r0 r1 r2 r3 rl tx ln hp pr bg ci od rd a1 h 36, cellOf (E, ⟨(adr a0 q gl r0 r1 r2 r3 rl tx ln hp pr bg ci od rd a1 h, inv'), p⟩) d0 36) := rfl
theorem wc_37 {E : xE} {inv' : Nat → Nat} {p : ∀ i : Nat, i < 262 → inv' (adr a0 q gl r0 r1 r2 r3 rl tx ln hp pr bg ci od rd a1 h i) = i} : ((ln 4, eX4) : Nat × va_E) = (adr a0 q gl r0 r1 r2 r3 rl tx ln hp pr bg ci od rd a1 h 37, cellOf (E, ⟨(adr a0 q gl r0 r1 r2 r3 rl tx ln hp pr bg ci od rd a1 h, inv'), p⟩) d0 37) := rfl
theorem wc_38 {E : xE} {inv' : Nat → Nat} {p : ∀ i : Nat, i < 262 → inv' (adr a0 q gl r0 r1 r2 r3 rl tx ln hp pr bg ci od rd a1 h i) = i} : ((ln 5, eX4) : Nat × va_E) = (adr a0 q gl r0 r1 r2 r3 rl tx ln hp pr bg ci od rd a1 h 38, cellOf (E, ⟨(adr a0 q gl r0 r1 r2 r3 rl tx ln hp pr bg ci od rd a1 h, inv'), p⟩) d0 38) := rfl
theorem wc_39 {E : xE} {inv' : Nat → Nat} {p : ∀ i : Nat, i < 262 → inv' (adr a0 q gl r0 r1 r2 r3 rl tx ln hp pr bg ci od rd a1 h i) = i} : ((ln 6, eX4) : Nat × va_E) = (adr a0 q gl r0 r1 r2 r3 rl tx ln hp pr bg ci od rd a1 h 39, cellOf (E, ⟨(adr a0 q gl r0 r1 r2 r3 rl tx ln hp pr bg ci od rd a1 h, inv'), p⟩) d0 39) := rfl
theorem wc_40 {E : xE} {inv' : Nat → Nat} {p : ∀ i : Nat, i < 262 → inv' (adr a0 q gl r0 r1 r2 r3 rl tx ln hp pr bg ci od rd a1 h i) = i} : ((ln 7, eX4) : Nat × va_E) = (adr a0 q gl r0 r1 r2 r3 rl tx ln hp pr bg ci od rd a1 h 40, cellOf (E, ⟨(adr a0 q gl r0 r1 r2 r3 rl tx ln hp pr bg ci od rd a1 h, inv'), p⟩) d0 40) := rfl
theorem wc_41 {E : xE} {inv' : Nat → Nat} {p : ∀ i : Nat, i < 262 → inv' (adr a0 q gl r0 r1 r2 r3 rl tx ln hp pr bg ci od rd a1 h i) = i} : ((ln 8, eX4) : Nat × va_E) = (adr a0 q gl r0 r1 r2 r3 rl tx ln hp pr bg ci od rd a1 h 41, cellOf (E, ⟨(adr a0 q gl r0 r1 r2 r3 rl tx ln hp pr bg ci od rd a1 h, inv'), p⟩) d0 41) := rfl
theorem wc_42 {E : xE} {inv' : Nat → Nat} {p : ∀ i : Nat, i < 262 → inv' (adr a0 q gl r0 r1 r2 r3 rl tx ln hp pr bg ci od rd a1 h i) = i} : ((ln 9, eX4) : Nat × va_E) = (adr a0 q gl r0 r1 r2 r3 rl tx ln hp pr bg ci od rd a1 h 42, cellOf (E, ⟨(adr a0 q gl r0 r1 r2 r3 rl tx ln hp pr bg ci od rd a1 h, inv'), p⟩) d0 42) := rfl
theorem wc_43 {E : xE} {inv' : Nat → Nat} {p : ∀ i : Nat, i < 262 → inv' (adr a0 q gl r0 r1 r2 r3 rl tx ln hp pr bg ci od rd a1 h i) = i} : ((ln 10, eX4) : Nat × va_E) = (adr a0 q gl r0 r1 r2 r3 rl tx ln hp pr bg ci od rd a1 h 43, cellOf (E, ⟨(adr a0 q gl r0 r1 r2 r3 rl tx ln hp pr bg ci od rd a1 h, inv'), p⟩) d0 43) := rfl
theorem wc_44 {E : xE} {inv' : Nat → Nat} {p : ∀ i : Nat, i < 262 → inv' (adr a0 q gl r0 r1 r2 r3 rl tx ln hp pr bg ci od rd a1 h i) = i} : ((ln 11, eX4) : Nat × va_E) = (adr a0 q gl r0 r1 r2 r3 rl tx ln hp pr bg ci od rd a1 h 44, cellOf (E, ⟨(adr a0 q gl r0 r1 r2 r3 rl tx ln hp pr bg ci od rd a1 h, inv'), p⟩) d0 44) := rfl
theorem wc_45 {E : xE} {inv' : Nat → Nat} {p : ∀ i : Nat, i < 262 → inv' (adr a0 q gl r0 r1 r2 r3 rl tx ln hp pr bg ci od rd a1 h i) = i} : ((ln 12, eX4) : Nat × va_E) = (adr a0 q gl r0 r1 r2 r3 rl tx ln hp pr bg ci od rd a1 h 45, cellOf (E, ⟨(adr a0 q gl r0 r1 r2 r3 rl tx ln hp pr bg ci od rd a1 h, inv'), p⟩) d0 45) := rfl
theorem wc_46 {E : xE} {inv' : Nat → Nat} {p : ∀ i : Nat, i < 262 → inv' (adr a0 q gl r0 r1 r2 r3 rl tx ln hp pr bg ci od rd a1 h i) = i} : ((ln 13, eX4) : Nat × va_E) = (adr a0 q gl r0 r1 r2 r3 rl tx ln hp pr bg ci od rd a1 h 46, cellOf (E, ⟨(adr a0 q gl r0 r1 r2 r3 rl tx ln hp pr bg ci od rd a1 h, inv'), p⟩) d0 46) := rfl
theorem wc_47 {E : xE} {inv' : Nat → Nat} {p : ∀ i : Nat, i < 262 → inv' (adr a0 q gl r0 r1 r2 r3 rl tx ln hp pr bg ci od rd a1 h i) = i} : ((ln 14, eX4) : Nat × va_E) = (adr a0 q gl r0 r1 r2 r3 rl tx ln hp pr bg ci od rd a1 h 47, cellOf (E, ⟨(adr a0 q gl r0 r1 r2 r3 rl tx ln hp pr bg ci od rd a1 h, inv'), p⟩) d0 47) := rfl
theorem wc_48 {E : xE} {inv' : Nat → Nat} {p : ∀ i : Nat, i < 262 → inv' (adr a0 q gl r0 r1 r2 r3 rl tx ln hp pr bg ci od rd a1 h i) = i} : ((ln 15, eX4) : Nat × va_E) = (adr a0 q gl r0 r1 r2 r3 rl tx ln hp pr bg ci od rd a1 h 48, cellOf (E, ⟨(adr a0 q gl r0 r1 r2 r3 rl tx ln hp pr bg ci od rd a1 h, inv'), p⟩) d0 48) := rfl
theorem wc_49 {E : xE} {inv' : Nat → Nat} {p : ∀ i : Nat, i < 262 → inv' (adr a0 q gl r0 r1 r2 r3 rl tx ln hp pr bg ci od rd a1 h i) = i} : ((ln 16, eX4) : Nat × va_E) = (adr a0 q gl r0 r1 r2 r3 rl tx ln hp pr bg ci od rd a1 h 49, cellOf (E, ⟨(adr a0 q gl r0 r1 r2 r3 rl tx ln hp pr bg ci od rd a1 h, inv'), p⟩) d0 49) := rfl
theorem wc_50 {E : xE} {inv' : Nat → Nat} {p : ∀ i : Nat, i < 262 → inv' (adr a0 q gl r0 r1 r2 r3 rl tx ln hp pr bg ci od rd a1 h i) = i} : ((q 9, eX2 (q 0) hp) : Nat × va_E) = (adr a0 q gl r0 r1 r2 r3 rl tx ln hp pr bg ci od rd a1 h 50, cellOf (E, ⟨(adr a0 q gl r0 r1 r2 r3 rl tx ln hp pr bg ci od rd a1 h, inv'), p⟩) d0 50) := rfl
theorem wc_51 {E : xE} {inv' : Nat → Nat} {p : ∀ i : Nat, i < 262 → inv' (adr a0 q gl r0 r1 r2 r3 rl tx ln hp pr bg ci od rd a1 h i) = i} : ((q 10, eX7 (q 9) pr) : Nat × va_E) = (adr a0 q gl r0 r1 r2 r3 rl tx ln hp pr bg ci od rd a1 h 51, cellOf (E, ⟨(adr a0 q gl r0 r1 r2 r3 rl tx ln hp pr bg ci od rd a1 h, inv'), p⟩) d0 51) := rfl
theorem wc_52 {E : xE} {inv' : Nat → Nat} {p : ∀ i : Nat, i < 262 → inv' (adr a0 q gl r0 r1 r2 r3 rl tx ln hp pr bg ci od rd a1 h i) = i} : ((q 11, eX0 (q 0) bg) : Nat × va_E) = (adr a0 q gl r0 r1 r2 r3 rl tx ln hp pr bg ci od rd a1 h 52, cellOf (E, ⟨(adr a0 q gl r0 r1 r2 r3 rl tx ln hp pr bg ci od rd a1 h, inv'), p⟩) d0 52) := rfl
theorem wc_53 {E : xE} {inv' : Nat → Nat} {p : ∀ i : Nat, i < 262 → inv' (adr a0 q gl r0 r1 r2 r3 rl tx ln hp pr bg ci od rd a1 h i) = i} : ((bg.1 0, .inl (E.2.1 2, 15625, .inl (fun _ => 0))) : Nat × va_E) = (adr a0 q gl r0 r1 r2 r3 rl tx ln hp pr bg ci od rd a1 h 53, cellOf (E, ⟨(adr a0 q gl r0 r1 r2 r3 rl tx ln hp pr bg ci od rd a1 h, inv'), p⟩) d0 53) := rfl
theorem wc_54 {E : xE} {inv' : Nat → Nat} {p : ∀ i : Nat, i < 262 → inv' (adr a0 q gl r0 r1 r2 r3 rl tx ln hp pr bg ci od rd a1 h i) = i} : ((bg.1 1, .inl (E.2.1 0, 15625, .inl (fun _ => 0))) : Nat × va_E) = (adr a0 q gl r0 r1 r2 r3 rl tx ln hp pr bg ci od rd a1 h 54, cellOf (E, ⟨(adr a0 q gl r0 r1 r2 r3 rl tx ln hp pr bg ci od rd a1 h, inv'), p⟩) d0 54) := rfl
theorem wc_55 {E : xE} {inv' : Nat → Nat} {p : ∀ i : Nat, i < 262 → inv' (adr a0 q gl r0 r1 r2 r3 rl tx ln hp pr bg ci od rd a1 h i) = i} : ((bg.1 2, .inl (E.2.1 0, 6, .inl (fun _ => 0))) : Nat × va_E) = (adr a0 q gl r0 r1 r2 r3 rl tx ln hp pr bg ci od rd a1 h 55, cellOf (E, ⟨(adr a0 q gl r0 r1 r2 r3 rl tx ln hp pr bg ci od rd a1 h, inv'), p⟩) d0 55) := rfl
theorem wc_56 {E : xE} {inv' : Nat → Nat} {p : ∀ i : Nat, i < 262 → inv' (adr a0 q gl r0 r1 r2 r3 rl tx ln hp pr bg ci od rd a1 h i) = i} : ((bg.1 3, .inl (E.2.1 0, 6, .inl (fun _ => 0))) : Nat × va_E) = (adr a0 q gl r0 r1 r2 r3 rl tx ln hp pr bg ci od rd a1 h 56, cellOf (E, ⟨(adr a0 q gl r0 r1 r2 r3 rl tx ln hp pr bg ci od rd a1 h, inv'), p⟩) d0 56) := rfl
theorem wc_57 {E : xE} {inv' : Nat → Nat} {p : ∀ i : Nat, i < 262 → inv' (adr a0 q gl r0 r1 r2 r3 rl tx ln hp pr bg ci od rd a1 h i) = i} : ((bg.1 4, .inl (E.2.1 0, 6, .inl (fun _ => 0))) : Nat × va_E) = (adr a0 q gl r0 r1 r2 r3 rl tx ln hp pr bg ci od rd a1 h 57, cellOf (E, ⟨(adr a0 q gl r0 r1 r2 r3 rl tx ln hp pr bg ci od rd a1 h, inv'), p⟩) d0 57) := rfl
theorem wc_58 {E : xE} {inv' : Nat → Nat} {p : ∀ i : Nat, i < 262 → inv' (adr a0 q gl r0 r1 r2 r3 rl tx ln hp pr bg ci od rd a1 h i) = i} : ((bg.1 5, .inl (E.2.1 6, 144, .inr (.inr (.inr (.inr (fun i => if i < 144 then some (bg.2 i) else none)))))) : Nat × va_E) = (adr a0 q gl r0 r1 r2 r3 rl tx ln hp pr bg ci od rd a1 h 58, cellOf (E, ⟨(adr a0 q gl r0 r1 r2 r3 rl tx ln hp pr bg ci od rd a1 h, inv'), p⟩) d0 58) := by
  have e : (fun i => if i < 144 then some (bg.2 i) else none) = (fun i => if i < 144 then some (adr a0 q gl r0 r1 r2 r3 rl tx ln hp pr bg ci od rd a1 h (i + 96)) else none) := by
    funext i
    by_cases hi : i < 144
    · rw [if_pos hi, if_pos hi, adr_ne hi]
    · rw [if_neg hi, if_neg hi]
  rw [e]
  rfl
theorem wc_59 {E : xE} {inv' : Nat → Nat} {p : ∀ i : Nat, i < 262 → inv' (adr a0 q gl r0 r1 r2 r3 rl tx ln hp pr bg ci od rd a1 h i) = i} : ((q 12, eX1 (q 0) (q 9) ci) : Nat × va_E) = (adr a0 q gl r0 r1 r2 r3 rl tx ln hp pr bg ci od rd a1 h 59, cellOf (E, ⟨(adr a0 q gl r0 r1 r2 r3 rl tx ln hp pr bg ci od rd a1 h, inv'), p⟩) d0 59) := rfl
theorem wc_60 {E : xE} {inv' : Nat → Nat} {p : ∀ i : Nat, i < 262 → inv' (adr a0 q gl r0 r1 r2 r3 rl tx ln hp pr bg ci od rd a1 h i) = i} : ((ci.1 0, .inl (E.2.1 1, 2000, .inr (.inl (fun _ => 0)))) : Nat × va_E) = (adr a0 q gl r0 r1 r2 r3 rl tx ln hp pr bg ci od rd a1 h 60, cellOf (E, ⟨(adr a0 q gl r0 r1 r2 r3 rl tx ln hp pr bg ci od rd a1 h, inv'), p⟩) d0 60) := rfl
theorem wc_61 {E : xE} {inv' : Nat → Nat} {p : ∀ i : Nat, i < 262 → inv' (adr a0 q gl r0 r1 r2 r3 rl tx ln hp pr bg ci od rd a1 h i) = i} : ((ci.1 1, .inl (E.2.1 1, 4096, .inr (.inl (fun _ => 0)))) : Nat × va_E) = (adr a0 q gl r0 r1 r2 r3 rl tx ln hp pr bg ci od rd a1 h 61, cellOf (E, ⟨(adr a0 q gl r0 r1 r2 r3 rl tx ln hp pr bg ci od rd a1 h, inv'), p⟩) d0 61) := rfl
theorem wc_62 {E : xE} {inv' : Nat → Nat} {p : ∀ i : Nat, i < 262 → inv' (adr a0 q gl r0 r1 r2 r3 rl tx ln hp pr bg ci od rd a1 h i) = i} : ((q 13, eX6 (q 0) od) : Nat × va_E) = (adr a0 q gl r0 r1 r2 r3 rl tx ln hp pr bg ci od rd a1 h 62, cellOf (E, ⟨(adr a0 q gl r0 r1 r2 r3 rl tx ln hp pr bg ci od rd a1 h, inv'), p⟩) d0 62) := rfl
theorem wc_63 {E : xE} {inv' : Nat → Nat} {p : ∀ i : Nat, i < 262 → inv' (adr a0 q gl r0 r1 r2 r3 rl tx ln hp pr bg ci od rd a1 h i) = i} : ((od.1 0, .inl (E.2.1 7, 21, .inr (.inr (.inr (.inr (fun i => if i < 21 then some (od.2 i) else none)))))) : Nat × va_E) = (adr a0 q gl r0 r1 r2 r3 rl tx ln hp pr bg ci od rd a1 h 63, cellOf (E, ⟨(adr a0 q gl r0 r1 r2 r3 rl tx ln hp pr bg ci od rd a1 h, inv'), p⟩) d0 63) := by
  have e : (fun i => if i < 21 then some (od.2 i) else none) = (fun i => if i < 21 then some (adr a0 q gl r0 r1 r2 r3 rl tx ln hp pr bg ci od rd a1 h (i + 75)) else none) := by
    funext i
    by_cases hi : i < 21
    · rw [if_pos hi, if_pos hi, adr_fo hi]
    · rw [if_neg hi, if_neg hi]
  rw [e]
  rfl
theorem wc_64 {E : xE} {inv' : Nat → Nat} {p : ∀ i : Nat, i < 262 → inv' (adr a0 q gl r0 r1 r2 r3 rl tx ln hp pr bg ci od rd a1 h i) = i} : ((od.1 1, .inl (E.2.1 1, 61, .inr (.inl (fun _ => 0)))) : Nat × va_E) = (adr a0 q gl r0 r1 r2 r3 rl tx ln hp pr bg ci od rd a1 h 64, cellOf (E, ⟨(adr a0 q gl r0 r1 r2 r3 rl tx ln hp pr bg ci od rd a1 h, inv'), p⟩) d0 64) := rfl
theorem wc_65 {E : xE} {inv' : Nat → Nat} {p : ∀ i : Nat, i < 262 → inv' (adr a0 q gl r0 r1 r2 r3 rl tx ln hp pr bg ci od rd a1 h i) = i} : ((od.1 2, .inl (E.2.1 0, 7, .inl (fun _ => 0))) : Nat × va_E) = (adr a0 q gl r0 r1 r2 r3 rl tx ln hp pr bg ci od rd a1 h 65, cellOf (E, ⟨(adr a0 q gl r0 r1 r2 r3 rl tx ln hp pr bg ci od rd a1 h, inv'), p⟩) d0 65) := rfl
theorem wc_66 {E : xE} {inv' : Nat → Nat} {p : ∀ i : Nat, i < 262 → inv' (adr a0 q gl r0 r1 r2 r3 rl tx ln hp pr bg ci od rd a1 h i) = i} : ((q 14, eX8 (q 0) (q 13) rd) : Nat × va_E) = (adr a0 q gl r0 r1 r2 r3 rl tx ln hp pr bg ci od rd a1 h 66, cellOf (E, ⟨(adr a0 q gl r0 r1 r2 r3 rl tx ln hp pr bg ci od rd a1 h, inv'), p⟩) d0 66) := rfl
theorem wc_67 {E : xE} {inv' : Nat → Nat} {p : ∀ i : Nat, i < 262 → inv' (adr a0 q gl r0 r1 r2 r3 rl tx ln hp pr bg ci od rd a1 h i) = i} : ((rd.1 0, .inl (E.2.1 6, 5, .inr (.inr (.inr (.inr (fun i => if i < 5 then some (rd.2 i) else none)))))) : Nat × va_E) = (adr a0 q gl r0 r1 r2 r3 rl tx ln hp pr bg ci od rd a1 h 67, cellOf (E, ⟨(adr a0 q gl r0 r1 r2 r3 rl tx ln hp pr bg ci od rd a1 h, inv'), p⟩) d0 67) := by
  have e : (fun i => if i < 5 then some (rd.2 i) else none) = (fun i => if i < 5 then some (adr a0 q gl r0 r1 r2 r3 rl tx ln hp pr bg ci od rd a1 h (i + 70)) else none) := by
    funext i
    by_cases hi : i < 5
    · rw [if_pos hi, if_pos hi, adr_mv hi]
    · rw [if_neg hi, if_neg hi]
  rw [e]
  rfl
theorem wc_68 {E : xE} {inv' : Nat → Nat} {p : ∀ i : Nat, i < 262 → inv' (adr a0 q gl r0 r1 r2 r3 rl tx ln hp pr bg ci od rd a1 h i) = i} : ((rd.1 1, .inl (E.2.1 0, 320, .inl (fun _ => 0))) : Nat × va_E) = (adr a0 q gl r0 r1 r2 r3 rl tx ln hp pr bg ci od rd a1 h 68, cellOf (E, ⟨(adr a0 q gl r0 r1 r2 r3 rl tx ln hp pr bg ci od rd a1 h, inv'), p⟩) d0 68) := rfl
theorem wc_69 {E : xE} {inv' : Nat → Nat} {p : ∀ i : Nat, i < 262 → inv' (adr a0 q gl r0 r1 r2 r3 rl tx ln hp pr bg ci od rd a1 h i) = i} : ((rd.1 2, .inl (E.2.1 0, 320, .inl (fun _ => 0))) : Nat × va_E) = (adr a0 q gl r0 r1 r2 r3 rl tx ln hp pr bg ci od rd a1 h 69, cellOf (E, ⟨(adr a0 q gl r0 r1 r2 r3 rl tx ln hp pr bg ci od rd a1 h, inv'), p⟩) d0 69) := rfl
theorem wc_240 {E : xE} {inv' : Nat → Nat} {p : ∀ i : Nat, i < 262 → inv' (adr a0 q gl r0 r1 r2 r3 rl tx ln hp pr bg ci od rd a1 h i) = i} : ((a1, eX12 h) : Nat × va_E) = (adr a0 q gl r0 r1 r2 r3 rl tx ln hp pr bg ci od rd a1 h 240, cellOf (E, ⟨(adr a0 q gl r0 r1 r2 r3 rl tx ln hp pr bg ci od rd a1 h, inv'), p⟩) d0 240) := rfl
theorem wc_241 {E : xE} {inv' : Nat → Nat} {p : ∀ i : Nat, i < 262 → inv' (adr a0 q gl r0 r1 r2 r3 rl tx ln hp pr bg ci od rd a1 h i) = i} : ((h 0, .inl (E.2.1 0, 6, .inl (fun _ => 0))) : Nat × va_E) = (adr a0 q gl r0 r1 r2 r3 rl tx ln hp pr bg ci od rd a1 h 241, cellOf (E, ⟨(adr a0 q gl r0 r1 r2 r3 rl tx ln hp pr bg ci od rd a1 h, inv'), p⟩) d0 241) := rfl
theorem wc_242 {E : xE} {inv' : Nat → Nat} {p : ∀ i : Nat, i < 262 → inv' (adr a0 q gl r0 r1 r2 r3 rl tx ln hp pr bg ci od rd a1 h i) = i} : ((h 1, .inl (E.2.1 0, 4, .inl (fun _ => 0))) : Nat × va_E) = (adr a0 q gl r0 r1 r2 r3 rl tx ln hp pr bg ci od rd a1 h 242, cellOf (E, ⟨(adr a0 q gl r0 r1 r2 r3 rl tx ln hp pr bg ci od rd a1 h, inv'), p⟩) d0 242) := rfl
theorem wc_243 {E : xE} {inv' : Nat → Nat} {p : ∀ i : Nat, i < 262 → inv' (adr a0 q gl r0 r1 r2 r3 rl tx ln hp pr bg ci od rd a1 h i) = i} : ((h 2, .inl (E.2.1 0, 96, .inl (fun _ => 0))) : Nat × va_E) = (adr a0 q gl r0 r1 r2 r3 rl tx ln hp pr bg ci od rd a1 h 243, cellOf (E, ⟨(adr a0 q gl r0 r1 r2 r3 rl tx ln hp pr bg ci od rd a1 h, inv'), p⟩) d0 243) := rfl
theorem wc_244 {E : xE} {inv' : Nat → Nat} {p : ∀ i : Nat, i < 262 → inv' (adr a0 q gl r0 r1 r2 r3 rl tx ln hp pr bg ci od rd a1 h i) = i} : ((h 3, .inl (E.2.1 0, 160, .inl (fun _ => 0))) : Nat × va_E) = (adr a0 q gl r0 r1 r2 r3 rl tx ln hp pr bg ci od rd a1 h 244, cellOf (E, ⟨(adr a0 q gl r0 r1 r2 r3 rl tx ln hp pr bg ci od rd a1 h, inv'), p⟩) d0 244) := rfl
theorem wc_245 {E : xE} {inv' : Nat → Nat} {p : ∀ i : Nat, i < 262 → inv' (adr a0 q gl r0 r1 r2 r3 rl tx ln hp pr bg ci od rd a1 h i) = i} : ((h 4, .inl (E.2.1 0, 64, .inl (fun _ => 0))) : Nat × va_E) = (adr a0 q gl r0 r1 r2 r3 rl tx ln hp pr bg ci od rd a1 h 245, cellOf (E, ⟨(adr a0 q gl r0 r1 r2 r3 rl tx ln hp pr bg ci od rd a1 h, inv'), p⟩) d0 245) := rfl
theorem wc_246 {E : xE} {inv' : Nat → Nat} {p : ∀ i : Nat, i < 262 → inv' (adr a0 q gl r0 r1 r2 r3 rl tx ln hp pr bg ci od rd a1 h i) = i} : ((h 5, .inl (E.2.1 0, 48, .inl (fun _ => 0))) : Nat × va_E) = (adr a0 q gl r0 r1 r2 r3 rl tx ln hp pr bg ci od rd a1 h 246, cellOf (E, ⟨(adr a0 q gl r0 r1 r2 r3 rl tx ln hp pr bg ci od rd a1 h, inv'), p⟩) d0 246) := rfl
theorem wc_247 {E : xE} {inv' : Nat → Nat} {p : ∀ i : Nat, i < 262 → inv' (adr a0 q gl r0 r1 r2 r3 rl tx ln hp pr bg ci od rd a1 h i) = i} : ((h 6, .inl (E.2.1 0, 48, .inl (fun _ => 0))) : Nat × va_E) = (adr a0 q gl r0 r1 r2 r3 rl tx ln hp pr bg ci od rd a1 h 247, cellOf (E, ⟨(adr a0 q gl r0 r1 r2 r3 rl tx ln hp pr bg ci od rd a1 h, inv'), p⟩) d0 247) := rfl
theorem wc_248 {E : xE} {inv' : Nat → Nat} {p : ∀ i : Nat, i < 262 → inv' (adr a0 q gl r0 r1 r2 r3 rl tx ln hp pr bg ci od rd a1 h i) = i} : ((h 7, .inl (E.2.1 0, 48, .inl (fun _ => 0))) : Nat × va_E) = (adr a0 q gl r0 r1 r2 r3 rl tx ln hp pr bg ci od rd a1 h 248, cellOf (E, ⟨(adr a0 q gl r0 r1 r2 r3 rl tx ln hp pr bg ci od rd a1 h, inv'), p⟩) d0 248) := rfl
theorem wc_249 {E : xE} {inv' : Nat → Nat} {p : ∀ i : Nat, i < 262 → inv' (adr a0 q gl r0 r1 r2 r3 rl tx ln hp pr bg ci od rd a1 h i) = i} : ((h 8, .inl (E.2.1 3, 48, .inl (fun _ => 0))) : Nat × va_E) = (adr a0 q gl r0 r1 r2 r3 rl tx ln hp pr bg ci od rd a1 h 249, cellOf (E, ⟨(adr a0 q gl r0 r1 r2 r3 rl tx ln hp pr bg ci od rd a1 h, inv'), p⟩) d0 249) := rfl
theorem wc_250 {E : xE} {inv' : Nat → Nat} {p : ∀ i : Nat, i < 262 → inv' (adr a0 q gl r0 r1 r2 r3 rl tx ln hp pr bg ci od rd a1 h i) = i} : ((h 9, .inl (E.2.1 3, 576, .inl (fun _ => 0))) : Nat × va_E) = (adr a0 q gl r0 r1 r2 r3 rl tx ln hp pr bg ci od rd a1 h 250, cellOf (E, ⟨(adr a0 q gl r0 r1 r2 r3 rl tx ln hp pr bg ci od rd a1 h, inv'), p⟩) d0 250) := rfl
theorem wc_251 {E : xE} {inv' : Nat → Nat} {p : ∀ i : Nat, i < 262 → inv' (adr a0 q gl r0 r1 r2 r3 rl tx ln hp pr bg ci od rd a1 h i) = i} : ((h 10, .inl (E.2.1 0, 20001, .inl (fun _ => 0))) : Nat × va_E) = (adr a0 q gl r0 r1 r2 r3 rl tx ln hp pr bg ci od rd a1 h 251, cellOf (E, ⟨(adr a0 q gl r0 r1 r2 r3 rl tx ln hp pr bg ci od rd a1 h, inv'), p⟩) d0 251) := rfl
theorem wc_252 {E : xE} {inv' : Nat → Nat} {p : ∀ i : Nat, i < 262 → inv' (adr a0 q gl r0 r1 r2 r3 rl tx ln hp pr bg ci od rd a1 h i) = i} : ((h 11, .inl (E.2.1 1, 20001, .inr (.inl (fun _ => 0)))) : Nat × va_E) = (adr a0 q gl r0 r1 r2 r3 rl tx ln hp pr bg ci od rd a1 h 252, cellOf (E, ⟨(adr a0 q gl r0 r1 r2 r3 rl tx ln hp pr bg ci od rd a1 h, inv'), p⟩) d0 252) := rfl
theorem wc_253 {E : xE} {inv' : Nat → Nat} {p : ∀ i : Nat, i < 262 → inv' (adr a0 q gl r0 r1 r2 r3 rl tx ln hp pr bg ci od rd a1 h i) = i} : ((h 12, .inl (E.2.1 0, 65536, .inl (fun _ => 0))) : Nat × va_E) = (adr a0 q gl r0 r1 r2 r3 rl tx ln hp pr bg ci od rd a1 h 253, cellOf (E, ⟨(adr a0 q gl r0 r1 r2 r3 rl tx ln hp pr bg ci od rd a1 h, inv'), p⟩) d0 253) := rfl
theorem wc_254 {E : xE} {inv' : Nat → Nat} {p : ∀ i : Nat, i < 262 → inv' (adr a0 q gl r0 r1 r2 r3 rl tx ln hp pr bg ci od rd a1 h i) = i} : ((h 13, .inl (E.2.1 0, 6, .inl (fun _ => 0))) : Nat × va_E) = (adr a0 q gl r0 r1 r2 r3 rl tx ln hp pr bg ci od rd a1 h 254, cellOf (E, ⟨(adr a0 q gl r0 r1 r2 r3 rl tx ln hp pr bg ci od rd a1 h, inv'), p⟩) d0 254) := rfl
theorem wc_255 {E : xE} {inv' : Nat → Nat} {p : ∀ i : Nat, i < 262 → inv' (adr a0 q gl r0 r1 r2 r3 rl tx ln hp pr bg ci od rd a1 h i) = i} : ((h 14, .inl (E.2.1 0, 6, .inl (fun _ => 0))) : Nat × va_E) = (adr a0 q gl r0 r1 r2 r3 rl tx ln hp pr bg ci od rd a1 h 255, cellOf (E, ⟨(adr a0 q gl r0 r1 r2 r3 rl tx ln hp pr bg ci od rd a1 h, inv'), p⟩) d0 255) := rfl
theorem wc_256 {E : xE} {inv' : Nat → Nat} {p : ∀ i : Nat, i < 262 → inv' (adr a0 q gl r0 r1 r2 r3 rl tx ln hp pr bg ci od rd a1 h i) = i} : ((h 15, .inl (E.2.1 1, 2001, .inr (.inl (fun _ => 0)))) : Nat × va_E) = (adr a0 q gl r0 r1 r2 r3 rl tx ln hp pr bg ci od rd a1 h 256, cellOf (E, ⟨(adr a0 q gl r0 r1 r2 r3 rl tx ln hp pr bg ci od rd a1 h, inv'), p⟩) d0 256) := rfl
theorem wc_257 {E : xE} {inv' : Nat → Nat} {p : ∀ i : Nat, i < 262 → inv' (adr a0 q gl r0 r1 r2 r3 rl tx ln hp pr bg ci od rd a1 h i) = i} : ((h 16, .inl (E.2.1 1, 1344, .inr (.inl (fun _ => 0)))) : Nat × va_E) = (adr a0 q gl r0 r1 r2 r3 rl tx ln hp pr bg ci od rd a1 h 257, cellOf (E, ⟨(adr a0 q gl r0 r1 r2 r3 rl tx ln hp pr bg ci od rd a1 h, inv'), p⟩) d0 257) := rfl
theorem wc_258 {E : xE} {inv' : Nat → Nat} {p : ∀ i : Nat, i < 262 → inv' (adr a0 q gl r0 r1 r2 r3 rl tx ln hp pr bg ci od rd a1 h i) = i} : ((h 17, .inl (E.2.1 1, 320, .inr (.inl (fun _ => 0)))) : Nat × va_E) = (adr a0 q gl r0 r1 r2 r3 rl tx ln hp pr bg ci od rd a1 h 258, cellOf (E, ⟨(adr a0 q gl r0 r1 r2 r3 rl tx ln hp pr bg ci od rd a1 h, inv'), p⟩) d0 258) := rfl
theorem wc_259 {E : xE} {inv' : Nat → Nat} {p : ∀ i : Nat, i < 262 → inv' (adr a0 q gl r0 r1 r2 r3 rl tx ln hp pr bg ci od rd a1 h i) = i} : ((h 18, .inl (E.2.1 1, 320, .inr (.inl (fun _ => 0)))) : Nat × va_E) = (adr a0 q gl r0 r1 r2 r3 rl tx ln hp pr bg ci od rd a1 h 259, cellOf (E, ⟨(adr a0 q gl r0 r1 r2 r3 rl tx ln hp pr bg ci od rd a1 h, inv'), p⟩) d0 259) := rfl
theorem wc_260 {E : xE} {inv' : Nat → Nat} {p : ∀ i : Nat, i < 262 → inv' (adr a0 q gl r0 r1 r2 r3 rl tx ln hp pr bg ci od rd a1 h i) = i} : ((h 19, .inl (E.2.1 1, 61, .inr (.inl (fun _ => 0)))) : Nat × va_E) = (adr a0 q gl r0 r1 r2 r3 rl tx ln hp pr bg ci od rd a1 h 260, cellOf (E, ⟨(adr a0 q gl r0 r1 r2 r3 rl tx ln hp pr bg ci od rd a1 h, inv'), p⟩) d0 260) := rfl
theorem wc_261 {E : xE} {inv' : Nat → Nat} {p : ∀ i : Nat, i < 262 → inv' (adr a0 q gl r0 r1 r2 r3 rl tx ln hp pr bg ci od rd a1 h i) = i} : ((h 20, .inl (E.2.1 0, 30, .inl (fun _ => 0))) : Nat × va_E) = (adr a0 q gl r0 r1 r2 r3 rl tx ln hp pr bg ci od rd a1 h 261, cellOf (E, ⟨(adr a0 q gl r0 r1 r2 r3 rl tx ln hp pr bg ci od rd a1 h, inv'), p⟩) d0 261) := rfl
theorem wG_cell {E : xE} (T : xT) (hT : T.1.1 = adr a0 q gl r0 r1 r2 r3 rl tx ln hp pr bg ci od rd a1 h) : wG E a0 q gl r0 r1 r2 r3 rl tx ln hp pr bg ci od rd a1 h = wP.map (fun n => (adr a0 q gl r0 r1 r2 r3 rl tx ln hp pr bg ci od rd a1 h n, cellOf (E, T) d0 n)) := by
  obtain ⟨⟨ad', inv'⟩, p⟩ := T
  have hT' : ad' = adr a0 q gl r0 r1 r2 r3 rl tx ln hp pr bg ci od rd a1 h := hT
  subst hT'
  rw [wG_eq]
  simp only [wP, List.map_append, List.map_cons, List.map_nil, List.cons_append, List.nil_append]
  refine w_c (wc_0 (E := E) (p := p)) ?_
  refine w_c (wc_1 (E := E) (p := p)) ?_
  refine w_c (wc_2 (E := E) (p := p)) ?_
  refine w_c (wc_3 (E := E) (p := p)) ?_
  refine w_c (wc_4 (E := E) (p := p)) ?_
  refine w_c (wc_17 (E := E) (p := p)) ?_
  refine w_c (wc_5 (E := E) (p := p)) ?_
  refine w_c (wc_18 (E := E) (p := p)) ?_
  refine w_c (wc_6 (E := E) (p := p)) ?_
  refine w_c (wc_19 (E := E) (p := p)) ?_
  refine w_c (wc_7 (E := E) (p := p)) ?_
  refine w_c (wc_20 (E := E) (p := p)) ?_
  refine w_c (wc_8 (E := E) (p := p)) ?_
  refine w_c (wc_21 (E := E) (p := p)) ?_
  refine w_c (wc_30 (E := E) (p := p)) ?_
  refine w_c (wc_31 (E := E) (p := p)) ?_
  refine w_c (wc_32 (E := E) (p := p)) ?_
  refine w_c (wc_33 (E := E) (p := p)) ?_
  refine w_c (wc_34 (E := E) (p := p)) ?_
  refine w_c (wc_35 (E := E) (p := p)) ?_
  refine w_c (wc_36 (E := E) (p := p)) ?_
  refine w_c (wc_37 (E := E) (p := p)) ?_
  refine w_c (wc_38 (E := E) (p := p)) ?_
  refine w_c (wc_39 (E := E) (p := p)) ?_
  refine w_c (wc_40 (E := E) (p := p)) ?_
  refine w_c (wc_41 (E := E) (p := p)) ?_
  refine w_c (wc_42 (E := E) (p := p)) ?_
  refine w_c (wc_43 (E := E) (p := p)) ?_
  refine w_c (wc_44 (E := E) (p := p)) ?_
  refine w_c (wc_45 (E := E) (p := p)) ?_
  refine w_c (wc_46 (E := E) (p := p)) ?_
  refine w_c (wc_47 (E := E) (p := p)) ?_
  refine w_c (wc_48 (E := E) (p := p)) ?_
  refine w_c (wc_49 (E := E) (p := p)) ?_
  refine w_c (wc_50 (E := E) (p := p)) ?_
  refine w_c (wc_9 (E := E) (p := p)) ?_
  refine w_c (wc_22 (E := E) (p := p)) ?_
  refine w_c (wc_10 (E := E) (p := p)) ?_
  refine w_c (wc_23 (E := E) (p := p)) ?_
  refine w_c (wc_11 (E := E) (p := p)) ?_
  refine w_c (wc_24 (E := E) (p := p)) ?_
  refine w_c (wc_51 (E := E) (p := p)) ?_
  refine w_c (wc_12 (E := E) (p := p)) ?_
  refine w_c (wc_25 (E := E) (p := p)) ?_
  refine w_c (wc_13 (E := E) (p := p)) ?_
  refine w_c (wc_26 (E := E) (p := p)) ?_
  refine w_c (wc_14 (E := E) (p := p)) ?_
  refine w_c (wc_27 (E := E) (p := p)) ?_
  refine w_c (wc_52 (E := E) (p := p)) ?_
  refine w_c (wc_53 (E := E) (p := p)) ?_
  refine w_c (wc_54 (E := E) (p := p)) ?_
  refine w_c (wc_55 (E := E) (p := p)) ?_
  refine w_c (wc_56 (E := E) (p := p)) ?_
  refine w_c (wc_57 (E := E) (p := p)) ?_
  refine w_c (wc_58 (E := E) (p := p)) ?_
  refine w_a (w_r (fun i hi => by rw [xcell_ne _ _ hi, adr_ne hi, d0_z (by omega) (by omega) (by omega)])) ?_
  refine w_c (wc_59 (E := E) (p := p)) ?_
  refine w_c (wc_60 (E := E) (p := p)) ?_
  refine w_c (wc_61 (E := E) (p := p)) ?_
  refine w_c (wc_15 (E := E) (p := p)) ?_
  refine w_c (wc_28 (E := E) (p := p)) ?_
  refine w_c (wc_16 (E := E) (p := p)) ?_
  refine w_c (wc_29 (E := E) (p := p)) ?_
  refine w_c (wc_62 (E := E) (p := p)) ?_
  refine w_c (wc_63 (E := E) (p := p)) ?_
  refine w_a (w_r (fun i hi => by rw [xcell_fo _ _ hi, adr_fo hi]; rfl)) ?_
  refine w_c (wc_64 (E := E) (p := p)) ?_
  refine w_c (wc_65 (E := E) (p := p)) ?_
  refine w_c (wc_66 (E := E) (p := p)) ?_
  refine w_c (wc_67 (E := E) (p := p)) ?_
  refine w_a (w_r (fun i hi => by rw [xcell_mv _ _ hi, adr_mv hi, d0_z (by omega) (by omega) (by omega)])) ?_
  refine w_c (wc_68 (E := E) (p := p)) ?_
  refine w_c (wc_69 (E := E) (p := p)) ?_
  refine w_c (wc_240 (E := E) (p := p)) ?_
  refine w_c (wc_241 (E := E) (p := p)) ?_
  refine w_c (wc_242 (E := E) (p := p)) ?_
  refine w_c (wc_243 (E := E) (p := p)) ?_
  refine w_c (wc_244 (E := E) (p := p)) ?_
  refine w_c (wc_245 (E := E) (p := p)) ?_
  refine w_c (wc_246 (E := E) (p := p)) ?_
  refine w_c (wc_247 (E := E) (p := p)) ?_
  refine w_c (wc_248 (E := E) (p := p)) ?_
  refine w_c (wc_249 (E := E) (p := p)) ?_
  refine w_c (wc_250 (E := E) (p := p)) ?_
  refine w_c (wc_251 (E := E) (p := p)) ?_
  refine w_c (wc_252 (E := E) (p := p)) ?_
  refine w_c (wc_253 (E := E) (p := p)) ?_
  refine w_c (wc_254 (E := E) (p := p)) ?_
  refine w_c (wc_255 (E := E) (p := p)) ?_
  refine w_c (wc_256 (E := E) (p := p)) ?_
  refine w_c (wc_257 (E := E) (p := p)) ?_
  refine w_c (wc_258 (E := E) (p := p)) ?_
  refine w_c (wc_259 (E := E) (p := p)) ?_
  refine w_c (wc_260 (E := E) (p := p)) ?_
  refine w_c (wc_261 (E := E) (p := p)) ?_
  rfl
end WA
