/-! what is not marked; marks against taking off -/
def live (off : Nat → Bool) : List Nat → Nat → List Nat
  | [], _ => []
  | x :: xs, i => if off i = true then live off xs (i + 1) else x :: live off xs (i + 1)
theorem live_s (off : Nat → Bool) (x : Nat) (xs : List Nat) (i : Nat) : live off (x :: xs) i = if off i = true then live off xs (i + 1) else x :: live off xs (i + 1) := rfl
def setOff (off : Nat → Bool) (m : Nat) : Nat → Bool := fun i => if i = m then true else off i
theorem live_cg {off off' : Nat → Bool} : ∀ (xs : List Nat) (i : Nat), (∀ q, i ≤ q → off q = off' q) → live off xs i = live off' xs i
  | [], _, _ => rfl
  | x :: xs, i, h => by
    rw [live_s, live_s, h i (Nat.le_refl i), live_cg xs (i + 1) (fun q hq => h q (by omega))]
theorem live_all {off : Nat → Bool} : ∀ (xs : List Nat) (i : Nat), (∀ q, i ≤ q → q < i + xs.length → off q = false) → live off xs i = xs
  | [], _, _ => rfl
  | x :: xs, i, h => by
    rw [live_s, if_neg (by rw [h i (Nat.le_refl i) (by simp)]; decide), live_all xs (i + 1) (fun q h1 h2 => h q (by omega) (by simp; omega))]
theorem live_mem {off : Nat → Bool} : ∀ (xs : List Nat) (i x : Nat), x ∈ live off xs i → x ∈ xs
  | [], _, _, h => h
  | y :: xs, i, x, h => by
    rw [live_s] at h
    split at h
    · exact List.mem_cons_of_mem _ (live_mem xs (i + 1) x h)
    · rcases List.mem_cons.mp h with rfl | h
      · exact List.mem_cons_self
      · exact List.mem_cons_of_mem _ (live_mem xs (i + 1) x h)
theorem live_len {off : Nat → Bool} : ∀ (xs : List Nat) (i : Nat), (live off xs i).length ≤ xs.length
  | [], _ => Nat.le_refl _
  | y :: xs, i => by
    rw [live_s]
    have := live_len (off := off) xs (i + 1)
    split <;> simp only [List.length_cons] <;> omega
/-- what fo finds is the front -/
theorem fo_front {fb B : Nat → Nat} {l : Nat} {off : Nat → Bool} (hd : (fb l).testBit l = false) : ∀ (xs : List Nat) (i : Nat), (∀ x ∈ xs, (B l).testBit x = !(fb x).testBit l) → (fo fb l off xs i = none ∧ front B (live off xs i) l = none) ∨ ∃ m j, fo fb l off xs i = some m ∧ i ≤ m ∧ m < i + xs.length ∧ off m = false ∧ front B (live off xs i) l = some j ∧ live (setOff off m) xs i = (live off xs i).eraseIdx j
  | [], i, _ => Or.inl ⟨rfl, rfl⟩
  | x :: xs, i, hB => by
    have ih := fo_front (off := off) hd xs (i + 1) (fun y hy => hB y (List.mem_cons_of_mem _ hy))
    rw [fo_s]
    by_cases ho : off i = true
    · rw [if_pos ho, live_s, if_pos ho]
      rcases ih with h | ⟨m, j, h1, h2, h3, h4, h5, h6⟩
      · exact Or.inl h
      · refine Or.inr ⟨m, j, h1, by omega, by simp; omega, h4, h5, ?_⟩
        rw [live_s, if_pos (by unfold setOff; split <;> simp_all), h6]
    · rw [if_neg ho, live_s, if_neg ho]
      have hx := hB x List.mem_cons_self
      by_cases e : x = l
      · subst e
        rw [if_pos rfl]
        have hf : front B (x :: live off xs (i + 1)) x = some 0 := by
          unfold front
          rw [if_pos (by rw [hx, hd]; rfl), if_pos rfl]
        refine Or.inr ⟨i, 0, rfl, Nat.le_refl i, by simp, by simpa using ho, hf, ?_⟩
        rw [live_s, if_pos (by unfold setOff; simp), List.eraseIdx_cons_zero]
        exact live_cg xs (i + 1) (fun q hq => by unfold setOff; rw [if_neg (by omega)])
      · rw [if_neg e]
        by_cases ht : (fb x).testBit l = true
        · rw [if_pos ht]
          have hf : front B (x :: live off xs (i + 1)) l = (front B (live off xs (i + 1)) l).map (· + 1) := by
            conv => lhs; unfold front
            rw [if_neg (by rw [hx, ht]; decide)]
          rw [hf]
          rcases ih with ⟨h1, h2⟩ | ⟨m, j, h1, h2, h3, h4, h5, h6⟩
          · exact Or.inl ⟨h1, by rw [h2]; rfl⟩
          · refine Or.inr ⟨m, j + 1, h1, by omega, by simp; omega, h4, by rw [h5]; rfl, ?_⟩
            rw [live_s, if_neg (by unfold setOff; rw [if_neg (by omega)]; exact ho), h6, List.eraseIdx_cons_succ]
        · rw [if_neg ht]
          refine Or.inl ⟨rfl, ?_⟩
          unfold front
          rw [if_pos (by rw [hx]; simpa using ht), if_neg e]
/-- for the letters' own free bits -/
theorem bw_not {k l x : Nat} {fb : Nat → Nat} (h : fbOk k fb) (hl : l < 6) (hx : x < k) : (bw k fb l).testBit x = !(fb x).testBit l := by
  have hk := h.2.1
  rw [bw_tb h hl, h.2.2.2.1 l x hl (by omega)]
  simp [hx]
theorem fo_bw {k l : Nat} {fb : Nat → Nat} {off : Nat → Bool} {xs : List Nat} (h : fbOk k fb) (hl : l < 6) (hx : ∀ x ∈ xs, x < k) : (fo fb l off xs 0 = none ∧ front (bw k fb) (live off xs 0) l = none) ∨ ∃ m j, fo fb l off xs 0 = some m ∧ m < xs.length ∧ off m = false ∧ front (bw k fb) (live off xs 0) l = some j ∧ live (setOff off m) xs 0 = (live off xs 0).eraseIdx j := by
  rcases fo_front (off := off) (h.2.2.2.2 l hl) xs 0 (fun x hx2 => bw_not h hl (hx x hx2)) with h1 | ⟨m, j, h1, h2, h3, h4, h5, h6⟩
  · exact Or.inl h1
  · exact Or.inr ⟨m, j, h1, by omega, h4, h5, h6⟩
theorem offIs.set {d : xD} {n m : Nat} {off : Nat → Bool} (h : offIs d n off) : offIs (seI d 249 m (nI 1)) n (setOff off m) := fun i hi => by
  unfold setOff
  by_cases e : i = m
  · subst e
    rw [se_s]
    simp
    rfl
  · rw [se_n _ _ e, h i hi]
    simp [e]
