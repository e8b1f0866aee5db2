/-! rows of letters: B l is the set of the letters that are not free with l, by bits -/
def front (B : Nat → Nat) : List Nat → Nat → Option Nat
  | [], _ => none
  | x :: xs, l => if (B l).testBit x then (if x = l then some 0 else none) else (front B xs l).map (· + 1)
theorem front_at {B : Nat → Nat} {l : Nat} : ∀ (xs : List Nat) (i : Nat) (hi : i < xs.length), (∀ q (hq : q < i), (B l).testBit (xs[q]'(by omega)) = false) → (B l).testBit xs[i] = true → front B xs l = if xs[i] = l then some i else none
  | [], i, hi, _, _ => absurd hi (Nat.not_lt_zero _)
  | x :: xs, 0, hi, _, h2 => by
    unfold front
    rw [if_pos (by simpa using h2)]
    simp
  | x :: xs, i + 1, hi, h1, h2 => by
    unfold front
    have hx : (B l).testBit x = false := h1 0 (Nat.succ_pos i)
    rw [if_neg (by rw [hx]; decide), front_at xs i (by simpa using hi) (fun q hq => h1 (q + 1) (by omega)) (by simpa using h2)]
    simp only [List.getElem_cons_succ]
    split <;> rfl
theorem front_no {B : Nat → Nat} {l : Nat} : ∀ (xs : List Nat), (∀ x ∈ xs, (B l).testBit x = false) → front B xs l = none
  | [], _ => rfl
  | x :: xs, h => by
    unfold front
    rw [if_neg (by rw [h x List.mem_cons_self]; decide), front_no xs (fun y hy => h y (List.mem_cons_of_mem _ hy))]
    rfl
theorem front_some {B : Nat → Nat} {l : Nat} : ∀ (xs : List Nat) (i : Nat), front B xs l = some i → ∃ hi : i < xs.length, xs[i] = l ∧ (B l).testBit l = true ∧ ∀ q (hq : q < i), (B l).testBit (xs[q]'(by omega)) = false
  | [], i, h => by cases h
  | x :: xs, i, h => by
    unfold front at h
    by_cases hx : (B l).testBit x = true
    · rw [if_pos hx] at h
      by_cases e : x = l
      · rw [if_pos e] at h
        cases h
        subst e
        exact ⟨by simp, rfl, hx, fun q hq => absurd hq (Nat.not_lt_zero q)⟩
      · rw [if_neg e] at h; cases h
    · rw [if_neg hx] at h
      cases hf : front B xs l with
      | none => rw [hf] at h; cases h
      | some k =>
        rw [hf] at h
        simp only [Option.map_some, Option.some.injEq] at h
        subst h
        obtain ⟨h1, h2, h3, h4⟩ := front_some xs k hf
        refine ⟨by simp; omega, by simpa using h2, h3, fun q hq => ?_⟩
        match q, hq with
        | 0, _ => simpa using hx
        | q + 1, hq => exact h4 q (by omega)
theorem front_lt {B : Nat → Nat} {l i : Nat} {xs : List Nat} (h : front B xs l = some i) : i < xs.length := (front_some xs i h).1
/-- the answer for a place that may be wanting -/
def optI (o : Option Nat) : Int32 := match o with
  | some i => nI i
  | none => -1
/-- the least letter that can come to the front -/
def leastL (B : Nat → Nat) (xs : List Nat) : Option Nat := (List.range 6).find? (fun l => (front B xs l).isSome)
def least (B : Nat → Nat) : Nat → List Nat → List Nat
  | 0, _ => []
  | n + 1, xs => match leastL B xs with
    | none => []
    | some l => l :: least B n (xs.eraseIdx ((front B xs l).getD 0))
/-- the LEAST ROW -/
def leastR (B : Nat → Nat) (xs : List Nat) : List Nat := least B xs.length xs
theorem find_range {p : Nat → Bool} : ∀ (n m : Nat), m < n → p m = true → (∀ q, q < m → p q = false) → (List.range n).find? p = some m := by
  intro n m hm h1 h2
  rw [List.find?_eq_some_iff_append]
  refine ⟨h1, List.range m, List.range' (m + 1) (n - m - 1), ?_, fun a ha => by rw [h2 a (List.mem_range.mp ha)]; rfl⟩
  rw [List.range_eq_range', List.range_eq_range', show n = m + (1 + (n - m - 1)) by omega, ← List.range'_append_1, ← List.range'_append_1]
  simp
theorem leastL_of {B : Nat → Nat} {xs : List Nat} {l i : Nat} (h6 : l < 6) (h : front B xs l = some i) (hm : ∀ q, q < l → front B xs q = none) : leastL B xs = some l :=
  find_range 6 l h6 (by rw [h]; rfl) (fun q hq => by rw [hm q hq]; rfl)
theorem leastL_some {B : Nat → Nat} {xs : List Nat} {l : Nat} (h : leastL B xs = some l) : l < 6 ∧ ∃ i, front B xs l = some i := by
  have h1 := List.find?_some h
  exact ⟨List.mem_range.mp (List.mem_of_find?_eq_some h), Option.isSome_iff_exists.mp h1⟩
/-- B as it is for letters: alike from both sides, and each with itself -/
def bOk (B : Nat → Nat) (xs : List Nat) : Prop := (∀ x ∈ xs, ∀ y ∈ xs, (B x).testBit y = (B y).testBit x) ∧ ∀ x ∈ xs, x < 6 ∧ (B x).testBit x = true
theorem bOk.sub {B : Nat → Nat} {xs ys : List Nat} (h : bOk B xs) (hs : ∀ y ∈ ys, y ∈ xs) : bOk B ys := ⟨fun x hx y hy => h.1 x (hs x hx) y (hs y hy), fun x hx => h.2 x (hs x hx)⟩
theorem leastL_ne {B : Nat → Nat} {xs : List Nat} (h : bOk B xs) (hn : xs ≠ []) : ∃ l, leastL B xs = some l := by
  cases xs with
  | nil => exact absurd rfl hn
  | cons x t =>
    have hx := h.2 x List.mem_cons_self
    have hf : front B (x :: t) x = some 0 := by
      unfold front
      rw [if_pos hx.2, if_pos rfl]
    cases hl : leastL B (x :: t) with
    | some l => exact ⟨l, rfl⟩
    | none =>
      have := List.find?_eq_none.mp hl x (List.mem_range.mpr hx.1)
      rw [hf] at this
      simp at this
theorem least_len {B : Nat → Nat} : ∀ (n : Nat) (xs : List Nat), bOk B xs → xs.length = n → (least B n xs).length = n := by
  intro n
  induction n with
  | zero => intro xs _ _; rfl
  | succ n ih =>
    intro xs h hl
    obtain ⟨l, hl2⟩ := leastL_ne h (fun e => by subst e; simp at hl)
    obtain ⟨h6, i, hi⟩ := leastL_some hl2
    unfold least
    rw [hl2]
    simp only [hi, Option.getD_some, List.length_cons]
    rw [ih _ (h.sub (fun y hy => List.mem_of_mem_eraseIdx hy)) (by rw [List.length_eraseIdx_of_lt (front_lt hi)]; omega)]
theorem leastR_len {B : Nat → Nat} {xs : List Nat} (h : bOk B xs) : (leastR B xs).length = xs.length := least_len _ xs h rfl
theorem least_mem {B : Nat → Nat} : ∀ (n : Nat) (xs : List Nat) (x : Nat), x ∈ least B n xs → x ∈ xs := by
  intro n
  induction n with
  | zero => intro xs x h; cases h
  | succ n ih =>
    intro xs x h
    unfold least at h
    cases hl : leastL B xs with
    | none => rw [hl] at h; cases h
    | some l =>
      rw [hl] at h
      obtain ⟨h6, i, hi⟩ := leastL_some hl
      obtain ⟨h1, h2, -⟩ := front_some xs i hi
      simp only [hi, Option.getD_some] at h
      rcases List.mem_cons.mp h with rfl | h
      · exact h2 ▸ List.getElem_mem h1
      · exact List.mem_of_mem_eraseIdx (ih _ x h)
theorem leastR_mem {B : Nat → Nat} {xs : List Nat} {x : Nat} (h : x ∈ leastR B xs) : x ∈ xs := least_mem _ xs x h
/-- place r is a front place of the least letter -/
theorem leastL_place {B : Nat → Nat} {xs : List Nat} {r : Nat} (h : bOk B xs) (hr : r < xs.length) (h1 : ∀ q (hq : q < r), (B xs[r]).testBit (xs[q]'(by omega)) = false) (h2 : ∀ s (hs : s < xs.length), (∀ q (hq : q < s), (B xs[s]).testBit (xs[q]'(by omega)) = false) → xs[r] ≤ xs[s]) : leastL B xs = some xs[r] ∧ front B xs xs[r] = some r := by
  have hb := h.2 xs[r] (List.getElem_mem hr)
  have hf : front B xs xs[r] = some r := by rw [front_at xs r hr h1 hb.2, if_pos rfl]
  refine ⟨leastL_of hb.1 hf (fun q hq => ?_), hf⟩
  cases hq2 : front B xs q with
  | none => rfl
  | some s =>
    obtain ⟨a1, a2, a3, a4⟩ := front_some xs s hq2
    have := h2 s a1 (fun t ht => by rw [a2]; exact a4 t ht)
    omega
/-- the look at the letters of s -/
def look (xs : List Nat) (s : Nat) : List Nat := xs.filter (fun x => s.testBit x)
theorem look_app (xs ys : List Nat) (s : Nat) : look (xs ++ ys) s = look xs s ++ look ys s := List.filter_append ..
/-- the first place from n on that is seen -/
def nxt (s : Nat) (ys : List Nat) (n : Nat) : Nat := n + (ys.drop n).findIdx (fun x => s.testBit x)
theorem nxt_eq {s n r : Nat} {ys : List Nat} (hr : r ≤ ys.length) (hn : n ≤ r) (h1 : ∀ q (hq : q < r), n ≤ q → s.testBit (ys[q]'(by omega)) = false) (h2 : ∀ h : r < ys.length, s.testBit ys[r] = true) : nxt s ys n = r := by
  unfold nxt
  have : (ys.drop n).findIdx (fun x => s.testBit x) = r - n := by
    by_cases e : r < ys.length
    · rw [List.findIdx_eq (by rw [List.length_drop]; omega)]
      refine ⟨?_, fun j hj => ?_⟩
      · rw [List.getElem_drop]
        have := h2 e
        simpa [show n + (r - n) = r by omega] using this
      · rw [List.getElem_drop]
        exact h1 (n + j) (by omega) (by omega)
    · have hr2 : r = ys.length := by omega
      rw [List.findIdx_eq_length.mpr ?_, List.length_drop, hr2]
      intro x hx
      obtain ⟨j, hj, rfl⟩ := List.getElem_of_mem hx
      rw [List.length_drop] at hj
      rw [List.getElem_drop]
      exact h1 (n + j) (by omega) (by omega)
  omega
theorem look_no {ys : List Nat} {s : Nat} (h : ∀ y ∈ ys, s.testBit y = false) : look ys s = [] := by
  unfold look
  rw [List.filter_eq_nil_iff]
  intro y hy
  rw [h y hy]
  decide
theorem drop_c {xs : List Nat} {i : Nat} (h : i < xs.length) : xs.drop i = xs[i] :: xs.drop (i + 1) := List.drop_eq_getElem_cons h
/-- the first pair (p <= q < k) at which U holds -/
def apIs (k : Nat) (U : Nat → Nat → Bool) (r : Int32) : Prop := (r = -1 ∧ ∀ p q, p ≤ q → q < k → U p q = false) ∨ ∃ p q, p ≤ q ∧ q < k ∧ U p q = true ∧ (∀ p' q', p' ≤ q' → q' < k → (p' < p ∨ p' = p ∧ q' < q) → U p' q' = false) ∧ r = nI (8 * p + q)
theorem apIs.uniq {k : Nat} {U : Nat → Nat → Bool} {r r' : Int32} (h : apIs k U r) (h' : apIs k U r') : r = r' := by
  rcases h with ⟨h1, h2⟩ | ⟨p, q, h1, h2, h3, h4, h5⟩ <;> rcases h' with ⟨g1, g2⟩ | ⟨p', q', g1, g2, g3, g4, g5⟩
  · rw [h1, g1]
  · rw [h2 p' q' g1 g2] at g3; cases g3
  · rw [g2 p q h1 h2] at h3; cases h3
  · have n1 : ¬ (p' < p ∨ p' = p ∧ q' < q) := fun z => by rw [h4 p' q' g1 g2 z] at g3; cases g3
    have n2 : ¬ (p < p' ∨ p = p' ∧ q < q') := fun z => by rw [g4 p q h1 h2 z] at h3; cases h3
    have e1 : p = p' := by omega
    have e2 : q = q' := by omega
    rw [h5, g5, e1, e2]
