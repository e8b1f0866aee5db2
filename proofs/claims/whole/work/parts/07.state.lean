/-! THE STATE: 262 cells by number; what they hold is read off d: ints (d.1 cell place) and longs (d.2 cell place) -/
abbrev xT : Type := { q : (Nat → Nat) × (Nat → Nat) // ∀ i : Nat, i < 262 → q.2 (q.1 i) = i }
abbrev xW : Type := xE × xT
def xad (W : xW) (o : Nat) : Nat := W.2.1.1 o
abbrev xD : Type := (Nat → Nat → Int32) × (Nat → Nat → Int64)
def seI (d : xD) (o k : Nat) (x : Int32) : xD := (va_up d.1 o (upd (d.1 o) k x), d.2)
def seL (d : xD) (o k : Nat) (x : Int64) : xD := (d.1, va_up d.2 o (vp_updL (d.2 o) k x))
def xcells (W : xW) (d : xD) : List va_E := [
  .inr (11, [.ref (xad W 1), .ref (xad W 3), .ref (xad W 8), .ref (xad W 30), .ref (xad W 32), .ref (xad W 50), .ref (xad W 51), .ref (xad W 52), .ref (xad W 59), .ref (xad W 62), .ref (xad W 66)]),
  .inr (3, [.ref (xad W 2), .int (d.1 1 1)]),
  .inl (W.1.2.1 0, 6, .inl (d.1 2)),
  .inl (W.1.2.1 4, 4, .inr (.inr (.inr (.inr (fun i => if i < 4 then some (xad W (i + 4)) else none))))),
  .inr (9, [.ref (xad W 17), .int (d.1 4 1)]),
  .inr (9, [.ref (xad W 18), .int (d.1 5 1)]),
  .inr (9, [.ref (xad W 19), .int (d.1 6 1)]),
  .inr (9, [.ref (xad W 20), .int (d.1 7 1)]),
  .inr (9, [.ref (xad W 21), .int (d.1 8 1)]),
  .inr (9, [.ref (xad W 22), .int (d.1 9 1)]),
  .inr (9, [.ref (xad W 23), .int (d.1 10 1)]),
  .inr (9, [.ref (xad W 24), .int (d.1 11 1)]),
  .inr (9, [.ref (xad W 25), .int (d.1 12 1)]),
  .inr (9, [.ref (xad W 26), .int (d.1 13 1)]),
  .inr (9, [.ref (xad W 27), .int (d.1 14 1)]),
  .inr (9, [.ref (xad W 28), .int (d.1 15 1)]),
  .inr (9, [.ref (xad W 29), .int (d.1 16 1)]),
  .inl (W.1.2.1 0, 24, .inl (d.1 17)),
  .inl (W.1.2.1 0, 24, .inl (d.1 18)),
  .inl (W.1.2.1 0, 24, .inl (d.1 19)),
  .inl (W.1.2.1 0, 24, .inl (d.1 20)),
  .inl (W.1.2.1 0, 24, .inl (d.1 21)),
  .inl (W.1.2.1 0, 24, .inl (d.1 22)),
  .inl (W.1.2.1 0, 24, .inl (d.1 23)),
  .inl (W.1.2.1 0, 24, .inl (d.1 24)),
  .inl (W.1.2.1 0, 24, .inl (d.1 25)),
  .inl (W.1.2.1 0, 24, .inl (d.1 26)),
  .inl (W.1.2.1 0, 24, .inl (d.1 27)),
  .inl (W.1.2.1 0, 24, .inl (d.1 28)),
  .inl (W.1.2.1 0, 24, .inl (d.1 29)),
  .inr (10, [.ref (xad W 31), .int (d.1 30 1), .int (d.1 30 2), .int (d.1 30 3)]),
  .inl (W.1.2.1 0, 160, .inl (d.1 31)),
  .inr (5, [.ref (xad W 30), .ref (xad W 33), .int (d.1 32 2), .int (d.1 32 3)]),
  .inl (W.1.2.1 5, 16, .inr (.inr (.inr (.inr (fun i => if i < 16 then some (xad W (i + 34)) else none))))),
  .inr (4, [.int (d.1 34 0), .int (d.1 34 1), .int (d.1 34 2), .int (d.1 34 3), .int (d.1 34 4)]),
  .inr (4, [.int (d.1 35 0), .int (d.1 35 1), .int (d.1 35 2), .int (d.1 35 3), .int (d.1 35 4)]),
  .inr (4, [.int (d.1 36 0), .int (d.1 36 1), .int (d.1 36 2), .int (d.1 36 3), .int (d.1 36 4)]),
  .inr (4, [.int (d.1 37 0), .int (d.1 37 1), .int (d.1 37 2), .int (d.1 37 3), .int (d.1 37 4)]),
  .inr (4, [.int (d.1 38 0), .int (d.1 38 1), .int (d.1 38 2), .int (d.1 38 3), .int (d.1 38 4)]),
  .inr (4, [.int (d.1 39 0), .int (d.1 39 1), .int (d.1 39 2), .int (d.1 39 3), .int (d.1 39 4)]),
  .inr (4, [.int (d.1 40 0), .int (d.1 40 1), .int (d.1 40 2), .int (d.1 40 3), .int (d.1 40 4)]),
  .inr (4, [.int (d.1 41 0), .int (d.1 41 1), .int (d.1 41 2), .int (d.1 41 3), .int (d.1 41 4)]),
  .inr (4, [.int (d.1 42 0), .int (d.1 42 1), .int (d.1 42 2), .int (d.1 42 3), .int (d.1 42 4)]),
  .inr (4, [.int (d.1 43 0), .int (d.1 43 1), .int (d.1 43 2), .int (d.1 43 3), .int (d.1 43 4)]),
  .inr (4, [.int (d.1 44 0), .int (d.1 44 1), .int (d.1 44 2), .int (d.1 44 3), .int (d.1 44 4)]),
  .inr (4, [.int (d.1 45 0), .int (d.1 45 1), .int (d.1 45 2), .int (d.1 45 3), .int (d.1 45 4)]),
  .inr (4, [.int (d.1 46 0), .int (d.1 46 1), .int (d.1 46 2), .int (d.1 46 3), .int (d.1 46 4)]),
  .inr (4, [.int (d.1 47 0), .int (d.1 47 1), .int (d.1 47 2), .int (d.1 47 3), .int (d.1 47 4)]),
  .inr (4, [.int (d.1 48 0), .int (d.1 48 1), .int (d.1 48 2), .int (d.1 48 3), .int (d.1 48 4)]),
  .inr (4, [.int (d.1 49 0), .int (d.1 49 1), .int (d.1 49 2), .int (d.1 49 3), .int (d.1 49 4)]),
  .inr (2, [.ref (xad W 1), .ref (xad W 9), .ref (xad W 10), .ref (xad W 11)]),
  .inr (7, [.ref (xad W 50), .ref (xad W 12), .ref (xad W 13), .ref (xad W 14)]),
  .inr (0, [.ref (xad W 1), .ref (xad W 53), .ref (xad W 54), .ref (xad W 55), .ref (xad W 56), .ref (xad W 57), .ref (xad W 58), .int (d.1 52 7), .int (d.1 52 8), .int (d.1 52 9)]),
  .inl (W.1.2.1 2, 15625, .inl (d.1 53)),
  .inl (W.1.2.1 0, 15625, .inl (d.1 54)),
  .inl (W.1.2.1 0, 6, .inl (d.1 55)),
  .inl (W.1.2.1 0, 6, .inl (d.1 56)),
  .inl (W.1.2.1 0, 6, .inl (d.1 57)),
  .inl (W.1.2.1 6, 144, .inr (.inr (.inr (.inr (fun i => if i < 144 then some (xad W (i + 96)) else none))))),
  .inr (1, [.ref (xad W 1), .ref (xad W 50), .ref (xad W 60), .ref (xad W 61), .ref (xad W 15), .ref (xad W 16), .int (d.1 59 6)]),
  .inl (W.1.2.1 1, 2000, .inr (.inl (d.2 60))),
  .inl (W.1.2.1 1, 4096, .inr (.inl (d.2 61))),
  .inr (6, [.ref (xad W 1), .ref (xad W 63), .ref (xad W 64), .ref (xad W 65), .int (d.1 62 4), .long (d.2 62 5)]),
  .inl (W.1.2.1 7, 21, .inr (.inr (.inr (.inr (fun i => if i < 21 then some (xad W (i + 75)) else none))))),
  .inl (W.1.2.1 1, 61, .inr (.inl (d.2 64))),
  .inl (W.1.2.1 0, 7, .inl (d.1 65)),
  .inr (8, [.ref (xad W 1), .ref (xad W 62), .ref (xad W 67), .ref (xad W (if d.1 66 3 = 0 then 68 else 69)), .ref (xad W (if d.1 66 4 = 0 then 68 else 69)), .int (d.1 66 5), .int (d.1 66 6)]),
  .inl (W.1.2.1 6, 5, .inr (.inr (.inr (.inr (fun i => if i < 5 then some (xad W (i + 70)) else none))))),
  .inl (W.1.2.1 0, 320, .inl (d.1 68)),
  .inl (W.1.2.1 0, 320, .inl (d.1 69))]
def xcellsM (W : xW) (d : xD) : List va_E := [
  .inr (12, [.int (d.1 240 0), .ref (xad W 241), .ref (xad W 242), .ref (xad W 243), .int (d.1 240 4), .ref (xad W 244), .int (d.1 240 6), .int (d.1 240 7), .int (d.1 240 8), .int (d.1 240 9), .int (d.1 240 10), .int (d.1 240 11), .int (d.1 240 12), .ref (xad W 245), .ref (xad W 246), .ref (xad W 247), .ref (xad W 248), .ref (xad W 249), .ref (xad W 250), .ref (xad W 251), .ref (xad W 252), .ref (xad W 253), .ref (xad W 254), .ref (xad W 255), .int (d.1 240 24), .int (d.1 240 25), .ref (xad W 256), .int (d.1 240 27), .ref (xad W 257), .ref (xad W 258), .ref (xad W 259), .ref (xad W 260), .int (d.1 240 32), .int (d.1 240 33), .ref (xad W 261)]),
  .inl (W.1.2.1 0, 6, .inl (d.1 241)),
  .inl (W.1.2.1 0, 4, .inl (d.1 242)),
  .inl (W.1.2.1 0, 96, .inl (d.1 243)),
  .inl (W.1.2.1 0, 160, .inl (d.1 244)),
  .inl (W.1.2.1 0, 64, .inl (d.1 245)),
  .inl (W.1.2.1 0, 48, .inl (d.1 246)),
  .inl (W.1.2.1 0, 48, .inl (d.1 247)),
  .inl (W.1.2.1 0, 48, .inl (d.1 248)),
  .inl (W.1.2.1 3, 48, .inl (d.1 249)),
  .inl (W.1.2.1 3, 576, .inl (d.1 250)),
  .inl (W.1.2.1 0, 20001, .inl (d.1 251)),
  .inl (W.1.2.1 1, 20001, .inr (.inl (d.2 252))),
  .inl (W.1.2.1 0, 65536, .inl (d.1 253)),
  .inl (W.1.2.1 0, 6, .inl (d.1 254)),
  .inl (W.1.2.1 0, 6, .inl (d.1 255)),
  .inl (W.1.2.1 1, 2001, .inr (.inl (d.2 256))),
  .inl (W.1.2.1 1, 1344, .inr (.inl (d.2 257))),
  .inl (W.1.2.1 1, 320, .inr (.inl (d.2 258))),
  .inl (W.1.2.1 1, 320, .inr (.inl (d.2 259))),
  .inl (W.1.2.1 1, 61, .inr (.inl (d.2 260))),
  .inl (W.1.2.1 0, 30, .inl (d.1 261))]
def cellOf (W : xW) (d : xD) (o : Nat) : va_E :=
  if o < 70 then (xcells W d).getD o (.inr (0, [])) else if o < 75 then .inl (W.1.2.1 0, 6, .inl (d.1 o)) else if o < 96 then .inl (W.1.2.1 1, 64, .inr (.inl (d.2 o))) else if o < 240 then .inl (W.1.2.1 0, 6, .inl (d.1 o)) else (xcellsM W d).getD (o - 240) (.inr (0, []))
def xLs (W : xW) : List Nat := (List.range 262).map (xad W)
def xHs (W : xW) (d : xD) : Nat → va_E := fun a => cellOf W d (W.2.1.2 a)
theorem xad_in (W : xW) {o : Nat} (h : o < 262) : xad W o ∈ xLs W := List.mem_map.mpr ⟨o, List.mem_range.mpr h, rfl⟩
theorem xHs_at (W : xW) (d : xD) {o : Nat} (h : o < 262) : xHs W d (xad W o) = cellOf W d o := by
  show cellOf W d (W.2.1.2 (W.2.1.1 o)) = _
  rw [W.2.2 o h]
theorem xad_inj (W : xW) {o o' : Nat} (h : o < 262) (h' : o' < 262) (e : xad W o = xad W o') : o = o' := by
  have e2 : W.2.1.2 (W.2.1.1 o) = W.2.1.2 (W.2.1.1 o') := congrArg W.2.1.2 e
  rw [W.2.2 o h, W.2.2 o' h'] at e2
  exact e2
theorem xcell_row (W : xW) (d : xD) : ∀ j : Nat, j < 13 → cellOf W d (j + 4) = .inr (9, [.ref (xad W (j + 17)), .int (d.1 (j + 4) 1)])
  | 0, _ => rfl
  | 1, _ => rfl
  | 2, _ => rfl
  | 3, _ => rfl
  | 4, _ => rfl
  | 5, _ => rfl
  | 6, _ => rfl
  | 7, _ => rfl
  | 8, _ => rfl
  | 9, _ => rfl
  | 10, _ => rfl
  | 11, _ => rfl
  | 12, _ => rfl
theorem xcell_arr (W : xW) (d : xD) : ∀ j : Nat, j < 13 → cellOf W d (j + 17) = .inl (W.1.2.1 0, 24, .inl (d.1 (j + 17)))
  | 0, _ => rfl
  | 1, _ => rfl
  | 2, _ => rfl
  | 3, _ => rfl
  | 4, _ => rfl
  | 5, _ => rfl
  | 6, _ => rfl
  | 7, _ => rfl
  | 8, _ => rfl
  | 9, _ => rfl
  | 10, _ => rfl
  | 11, _ => rfl
  | 12, _ => rfl
theorem xcell_line (W : xW) (d : xD) : ∀ j : Nat, j < 16 → cellOf W d (j + 34) = .inr (4, [.int (d.1 (j + 34) 0), .int (d.1 (j + 34) 1), .int (d.1 (j + 34) 2), .int (d.1 (j + 34) 3), .int (d.1 (j + 34) 4)])
  | 0, _ => rfl
  | 1, _ => rfl
  | 2, _ => rfl
  | 3, _ => rfl
  | 4, _ => rfl
  | 5, _ => rfl
  | 6, _ => rfl
  | 7, _ => rfl
  | 8, _ => rfl
  | 9, _ => rfl
  | 10, _ => rfl
  | 11, _ => rfl
  | 12, _ => rfl
  | 13, _ => rfl
  | 14, _ => rfl
  | 15, _ => rfl
  | n + 16, h => absurd h (by omega)
theorem xcell_mv (W : xW) (d : xD) {j : Nat} (h : j < 5) : cellOf W d (j + 70) = .inl (W.1.2.1 0, 6, .inl (d.1 (j + 70))) := by
  unfold cellOf
  rw [if_neg (by omega), if_pos (by omega)]
theorem xcell_fo (W : xW) (d : xD) {j : Nat} (h : j < 21) : cellOf W d (j + 75) = .inl (W.1.2.1 1, 64, .inr (.inl (d.2 (j + 75)))) := by
  unfold cellOf
  rw [if_neg (by omega), if_neg (by omega), if_pos (by omega)]
theorem xcell_ne (W : xW) (d : xD) {j : Nat} (h : j < 144) : cellOf W d (j + 96) = .inl (W.1.2.1 0, 6, .inl (d.1 (j + 96))) := by
  unfold cellOf
  rw [if_neg (by omega), if_neg (by omega), if_neg (by omega), if_pos (by omega)]
/-- a cell is read off its own part of d -/
theorem xcell_congr (W : xW) (d d' : xD) (o : Nat) (h1 : d.1 o = d'.1 o) (h2 : d.2 o = d'.2 o) : cellOf W d o = cellOf W d' o := by
  unfold cellOf
  by_cases a : o < 70
  · rw [if_pos a, if_pos a]
    match o, a, h1, h2 with
    | 0, _, h1, h2 => simp only [xcells, List.getD_cons_succ, List.getD_cons_zero, h1, h2]
    | 1, _, h1, h2 => simp only [xcells, List.getD_cons_succ, List.getD_cons_zero, h1, h2]
    | 2, _, h1, h2 => simp only [xcells, List.getD_cons_succ, List.getD_cons_zero, h1, h2]
    | 3, _, h1, h2 => simp only [xcells, List.getD_cons_succ, List.getD_cons_zero, h1, h2]
    | 4, _, h1, h2 => simp only [xcells, List.getD_cons_succ, List.getD_cons_zero, h1, h2]
    | 5, _, h1, h2 => simp only [xcells, List.getD_cons_succ, List.getD_cons_zero, h1, h2]
    | 6, _, h1, h2 => simp only [xcells, List.getD_cons_succ, List.getD_cons_zero, h1, h2]
    | 7, _, h1, h2 => simp only [xcells, List.getD_cons_succ, List.getD_cons_zero, h1, h2]
    | 8, _, h1, h2 => simp only [xcells, List.getD_cons_succ, List.getD_cons_zero, h1, h2]
    | 9, _, h1, h2 => simp only [xcells, List.getD_cons_succ, List.getD_cons_zero, h1, h2]
    | 10, _, h1, h2 => simp only [xcells, List.getD_cons_succ, List.getD_cons_zero, h1, h2]
    | 11, _, h1, h2 => simp only [xcells, List.getD_cons_succ, List.getD_cons_zero, h1, h2]
    | 12, _, h1, h2 => simp only [xcells, List.getD_cons_succ, List.getD_cons_zero, h1, h2]
    | 13, _, h1, h2 => simp only [xcells, List.getD_cons_succ, List.getD_cons_zero, h1, h2]
    | 14, _, h1, h2 => simp only [xcells, List.getD_cons_succ, List.getD_cons_zero, h1, h2]
    | 15, _, h1, h2 => simp only [xcells, List.getD_cons_succ, List.getD_cons_zero, h1, h2]
    | 16, _, h1, h2 => simp only [xcells, List.getD_cons_succ, List.getD_cons_zero, h1, h2]
    | 17, _, h1, h2 => simp only [xcells, List.getD_cons_succ, List.getD_cons_zero, h1, h2]
    | 18, _, h1, h2 => simp only [xcells, List.getD_cons_succ, List.getD_cons_zero, h1, h2]
    | 19, _, h1, h2 => simp only [xcells, List.getD_cons_succ, List.getD_cons_zero, h1, h2]
    | 20, _, h1, h2 => simp only [xcells, List.getD_cons_succ, List.getD_cons_zero, h1, h2]
    | 21, _, h1, h2 => simp only [xcells, List.getD_cons_succ, List.getD_cons_zero, h1, h2]
    | 22, _, h1, h2 => simp only [xcells, List.getD_cons_succ, List.getD_cons_zero, h1, h2]
    | 23, _, h1, h2 => simp only [xcells, List.getD_cons_succ, List.getD_cons_zero, h1, h2]
    | 24, _, h1, h2 => simp only [xcells, List.getD_cons_succ, List.getD_cons_zero, h1, h2]
    | 25, _, h1, h2 => simp only [xcells, List.getD_cons_succ, List.getD_cons_zero, h1, h2]
    | 26, _, h1, h2 => simp only [xcells, List.getD_cons_succ, List.getD_cons_zero, h1, h2]
    | 27, _, h1, h2 => simp only [xcells, List.getD_cons_succ, List.getD_cons_zero, h1, h2]
    | 28, _, h1, h2 => simp only [xcells, List.getD_cons_succ, List.getD_cons_zero, h1, h2]
    | 29, _, h1, h2 => simp only [xcells, List.getD_cons_succ, List.getD_cons_zero, h1, h2]
    | 30, _, h1, h2 => simp only [xcells, List.getD_cons_succ, List.getD_cons_zero, h1, h2]
    | 31, _, h1, h2 => simp only [xcells, List.getD_cons_succ, List.getD_cons_zero, h1, h2]
    | 32, _, h1, h2 => simp only [xcells, List.getD_cons_succ, List.getD_cons_zero, h1, h2]
    | 33, _, h1, h2 => simp only [xcells, List.getD_cons_succ, List.getD_cons_zero, h1, h2]
    | 34, _, h1, h2 => simp only [xcells, List.getD_cons_succ, List.getD_cons_zero, h1, h2]
    | 35, _, h1, h2 => simp only [xcells, List.getD_cons_succ, List.getD_cons_zero, h1, h2]
    | 36, _, h1, h2 => simp only [xcells, List.getD_cons_succ, List.getD_cons_zero, h1, h2]
    | 37, _, h1, h2 => simp only [xcells, List.getD_cons_succ, List.getD_cons_zero, h1, h2]
    | 38, _, h1, h2 => simp only [xcells, List.getD_cons_succ, List.getD_cons_zero, h1, h2]
    | 39, _, h1, h2 => simp only [xcells, List.getD_cons_succ, List.getD_cons_zero, h1, h2]
    | 40, _, h1, h2 => simp only [xcells, List.getD_cons_succ, List.getD_cons_zero, h1, h2]
    | 41, _, h1, h2 => simp only [xcells, List.getD_cons_succ, List.getD_cons_zero, h1, h2]
    | 42, _, h1, h2 => simp only [xcells, List.getD_cons_succ, List.getD_cons_zero, h1, h2]
    | 43, _, h1, h2 => simp only [xcells, List.getD_cons_succ, List.getD_cons_zero, h1, h2]
    | 44, _, h1, h2 => simp only [xcells, List.getD_cons_succ, List.getD_cons_zero, h1, h2]
    | 45, _, h1, h2 => simp only [xcells, List.getD_cons_succ, List.getD_cons_zero, h1, h2]
    | 46, _, h1, h2 => simp only [xcells, List.getD_cons_succ, List.getD_cons_zero, h1, h2]
    | 47, _, h1, h2 => simp only [xcells, List.getD_cons_succ, List.getD_cons_zero, h1, h2]
    | 48, _, h1, h2 => simp only [xcells, List.getD_cons_succ, List.getD_cons_zero, h1, h2]
    | 49, _, h1, h2 => simp only [xcells, List.getD_cons_succ, List.getD_cons_zero, h1, h2]
    | 50, _, h1, h2 => simp only [xcells, List.getD_cons_succ, List.getD_cons_zero, h1, h2]
    | 51, _, h1, h2 => simp only [xcells, List.getD_cons_succ, List.getD_cons_zero, h1, h2]
    | 52, _, h1, h2 => simp only [xcells, List.getD_cons_succ, List.getD_cons_zero, h1, h2]
    | 53, _, h1, h2 => simp only [xcells, List.getD_cons_succ, List.getD_cons_zero, h1, h2]
    | 54, _, h1, h2 => simp only [xcells, List.getD_cons_succ, List.getD_cons_zero, h1, h2]
    | 55, _, h1, h2 => simp only [xcells, List.getD_cons_succ, List.getD_cons_zero, h1, h2]
    | 56, _, h1, h2 => simp only [xcells, List.getD_cons_succ, List.getD_cons_zero, h1, h2]
    | 57, _, h1, h2 => simp only [xcells, List.getD_cons_succ, List.getD_cons_zero, h1, h2]
    | 58, _, h1, h2 => simp only [xcells, List.getD_cons_succ, List.getD_cons_zero, h1, h2]
    | 59, _, h1, h2 => simp only [xcells, List.getD_cons_succ, List.getD_cons_zero, h1, h2]
    | 60, _, h1, h2 => simp only [xcells, List.getD_cons_succ, List.getD_cons_zero, h1, h2]
    | 61, _, h1, h2 => simp only [xcells, List.getD_cons_succ, List.getD_cons_zero, h1, h2]
    | 62, _, h1, h2 => simp only [xcells, List.getD_cons_succ, List.getD_cons_zero, h1, h2]
    | 63, _, h1, h2 => simp only [xcells, List.getD_cons_succ, List.getD_cons_zero, h1, h2]
    | 64, _, h1, h2 => simp only [xcells, List.getD_cons_succ, List.getD_cons_zero, h1, h2]
    | 65, _, h1, h2 => simp only [xcells, List.getD_cons_succ, List.getD_cons_zero, h1, h2]
    | 66, _, h1, h2 => simp only [xcells, List.getD_cons_succ, List.getD_cons_zero, h1, h2]
    | 67, _, h1, h2 => simp only [xcells, List.getD_cons_succ, List.getD_cons_zero, h1, h2]
    | 68, _, h1, h2 => simp only [xcells, List.getD_cons_succ, List.getD_cons_zero, h1, h2]
    | 69, _, h1, h2 => simp only [xcells, List.getD_cons_succ, List.getD_cons_zero, h1, h2]
    | n + 70, a, _, _ => exact absurd a (by omega)
  rw [if_neg a, if_neg a]
  by_cases b : o < 75
  · rw [if_pos b, if_pos b, h1]
  rw [if_neg b, if_neg b]
  by_cases c : o < 96
  · rw [if_pos c, if_pos c, h2]
  rw [if_neg c, if_neg c]
  by_cases e : o < 240
  · rw [if_pos e, if_pos e, h1]
  rw [if_neg e, if_neg e]
  by_cases g : o < 262
  · obtain ⟨j, rfl⟩ : ∃ j, o = 240 + j := ⟨o - 240, by omega⟩
    rw [show 240 + j - 240 = j by omega]
    match j, g, h1, h2 with
    | 0, _, h1, h2 => simp only [xcellsM, List.getD_cons_succ, List.getD_cons_zero, Nat.reduceAdd] at h1 h2 ⊢; simp only [h1, h2]
    | 1, _, h1, h2 => simp only [xcellsM, List.getD_cons_succ, List.getD_cons_zero, Nat.reduceAdd] at h1 h2 ⊢; simp only [h1, h2]
    | 2, _, h1, h2 => simp only [xcellsM, List.getD_cons_succ, List.getD_cons_zero, Nat.reduceAdd] at h1 h2 ⊢; simp only [h1, h2]
    | 3, _, h1, h2 => simp only [xcellsM, List.getD_cons_succ, List.getD_cons_zero, Nat.reduceAdd] at h1 h2 ⊢; simp only [h1, h2]
    | 4, _, h1, h2 => simp only [xcellsM, List.getD_cons_succ, List.getD_cons_zero, Nat.reduceAdd] at h1 h2 ⊢; simp only [h1, h2]
    | 5, _, h1, h2 => simp only [xcellsM, List.getD_cons_succ, List.getD_cons_zero, Nat.reduceAdd] at h1 h2 ⊢; simp only [h1, h2]
    | 6, _, h1, h2 => simp only [xcellsM, List.getD_cons_succ, List.getD_cons_zero, Nat.reduceAdd] at h1 h2 ⊢; simp only [h1, h2]
    | 7, _, h1, h2 => simp only [xcellsM, List.getD_cons_succ, List.getD_cons_zero, Nat.reduceAdd] at h1 h2 ⊢; simp only [h1, h2]
    | 8, _, h1, h2 => simp only [xcellsM, List.getD_cons_succ, List.getD_cons_zero, Nat.reduceAdd] at h1 h2 ⊢; simp only [h1, h2]
    | 9, _, h1, h2 => simp only [xcellsM, List.getD_cons_succ, List.getD_cons_zero, Nat.reduceAdd] at h1 h2 ⊢; simp only [h1, h2]
    | 10, _, h1, h2 => simp only [xcellsM, List.getD_cons_succ, List.getD_cons_zero, Nat.reduceAdd] at h1 h2 ⊢; simp only [h1, h2]
    | 11, _, h1, h2 => simp only [xcellsM, List.getD_cons_succ, List.getD_cons_zero, Nat.reduceAdd] at h1 h2 ⊢; simp only [h1, h2]
    | 12, _, h1, h2 => simp only [xcellsM, List.getD_cons_succ, List.getD_cons_zero, Nat.reduceAdd] at h1 h2 ⊢; simp only [h1, h2]
    | 13, _, h1, h2 => simp only [xcellsM, List.getD_cons_succ, List.getD_cons_zero, Nat.reduceAdd] at h1 h2 ⊢; simp only [h1, h2]
    | 14, _, h1, h2 => simp only [xcellsM, List.getD_cons_succ, List.getD_cons_zero, Nat.reduceAdd] at h1 h2 ⊢; simp only [h1, h2]
    | 15, _, h1, h2 => simp only [xcellsM, List.getD_cons_succ, List.getD_cons_zero, Nat.reduceAdd] at h1 h2 ⊢; simp only [h1, h2]
    | 16, _, h1, h2 => simp only [xcellsM, List.getD_cons_succ, List.getD_cons_zero, Nat.reduceAdd] at h1 h2 ⊢; simp only [h1, h2]
    | 17, _, h1, h2 => simp only [xcellsM, List.getD_cons_succ, List.getD_cons_zero, Nat.reduceAdd] at h1 h2 ⊢; simp only [h1, h2]
    | 18, _, h1, h2 => simp only [xcellsM, List.getD_cons_succ, List.getD_cons_zero, Nat.reduceAdd] at h1 h2 ⊢; simp only [h1, h2]
    | 19, _, h1, h2 => simp only [xcellsM, List.getD_cons_succ, List.getD_cons_zero, Nat.reduceAdd] at h1 h2 ⊢; simp only [h1, h2]
    | 20, _, h1, h2 => simp only [xcellsM, List.getD_cons_succ, List.getD_cons_zero, Nat.reduceAdd] at h1 h2 ⊢; simp only [h1, h2]
    | 21, _, h1, h2 => simp only [xcellsM, List.getD_cons_succ, List.getD_cons_zero, Nat.reduceAdd] at h1 h2 ⊢; simp only [h1, h2]
    | n + 22, g, _, _ => exact absurd g (by omega)
  · have e1 : ∀ D : xD, (xcellsM W D).getD (o - 240) (.inr (0, [])) = .inr (0, []) := fun D => by
      rw [List.getD_eq_getElem?_getD, List.getElem?_eq_none (by show 22 ≤ _; omega)]
      rfl
    rw [e1, e1]
