/-! BEGINNINGS, by how many there are of each letter -/
/-- v's next letter may be p: the place of that p has only letters ahead of it, of those not free with p, that are in v -/
def opn (B : Nat → Nat) (xs : List Nat) (v : Nat → Nat) (p : Nat) : Bool := (List.range xs.length).any (fun i => decide (xs.getD i 0 = p) && decide ((xs.take i).count p = v p) && (List.range 6).all (fun q => !(B p).testBit q || decide ((xs.take i).count q ≤ v q)))
theorem opn_iff {B : Nat → Nat} {xs : List Nat} {v : Nat → Nat} {p : Nat} : opn B xs v p = true ↔ ∃ i, ∃ hi : i < xs.length, xs[i] = p ∧ (xs.take i).count p = v p ∧ ∀ q, q < 6 → (B p).testBit q = true → (xs.take i).count q ≤ v q := by
  unfold opn
  rw [List.any_eq_true]
  constructor
  · rintro ⟨i, hi, h⟩
    have hi := List.mem_range.mp hi
    simp only [Bool.and_eq_true, decide_eq_true_eq, List.all_eq_true, Bool.or_eq_true, Bool.not_eq_true'] at h
    obtain ⟨⟨h1, h2⟩, h3⟩ := h
    refine ⟨i, hi, by rw [getD_at hi] at h1; exact h1, h2, fun q hq hb => ?_⟩
    rcases h3 q (List.mem_range.mpr hq) with h | h
    · rw [hb] at h; cases h
    · exact h
  · rintro ⟨i, hi, h1, h2, h3⟩
    refine ⟨i, List.mem_range.mpr hi, ?_⟩
    simp only [Bool.and_eq_true, decide_eq_true_eq, List.all_eq_true, Bool.or_eq_true, Bool.not_eq_true']
    refine ⟨⟨by rw [getD_at hi]; exact h1, h2⟩, fun q hq => ?_⟩
    cases hb : (B p).testBit q with
    | false => exact Or.inl rfl
    | true => exact Or.inr (h3 q (List.mem_range.mp hq) hb)
theorem occ_ex {p : Nat} : ∀ (xs : List Nat) (n : Nat), n < xs.count p → ∃ i, ∃ hi : i < xs.length, xs[i] = p ∧ (xs.take i).count p = n
  | [], n, h => by simp at h
  | x :: t, n, h => by
    rw [List.count_cons] at h
    by_cases e : x = p
    · subst e
      match n, h with
      | 0, _ => exact ⟨0, by simp, rfl, by simp⟩
      | n + 1, h =>
        obtain ⟨i, hi, h1, h2⟩ := occ_ex t n (by simp at h; omega)
        exact ⟨i + 1, by simp; omega, by simpa using h1, by rw [List.take_succ_cons, List.count_cons, h2]; simp⟩
    · have e2 : (x == p) = false := by simpa using e
      rw [e2] at h
      obtain ⟨i, hi, h1, h2⟩ := occ_ex t n (by simpa using h)
      exact ⟨i + 1, by simp; omega, by simpa using h1, by rw [List.take_succ_cons, List.count_cons, h2, e2]; simp⟩
theorem cnt_lt {p i : Nat} {xs : List Nat} (hi : i < xs.length) (h : xs[i] = p) : (xs.take i).count p < xs.count p := by
  conv => rhs; rw [← List.take_append_drop i xs]
  rw [List.count_append, drop_c hi, List.count_cons, h]
  simp
theorem occ_un {p i i' : Nat} {xs : List Nat} (hi : i < xs.length) (hi' : i' < xs.length) (h : xs[i] = p) (h' : xs[i'] = p) (hc : (xs.take i).count p = (xs.take i').count p) : i = i' := by
  have key : ∀ a b (ha : a < xs.length) (hb : b < xs.length), xs[a] = p → a < b → (xs.take a).count p < (xs.take b).count p := by
    intro a b ha hb h1 h2
    have e : xs.take a = (xs.take b).take a := by rw [List.take_take, Nat.min_eq_left (by omega)]
    rw [e]
    exact cnt_lt (xs := xs.take b) (by simp; omega) (by simpa using h1)
  rcases Nat.lt_trichotomy i i' with z | z | z
  · have := key i i' hi hi' h z; omega
  · exact z
  · have := key i' i hi' hi h' z; omega
theorem opn_at {B : Nat → Nat} {xs : List Nat} {v : Nat → Nat} {p i : Nat} (hi : i < xs.length) (h1 : xs[i] = p) (h2 : (xs.take i).count p = v p) : opn B xs v p = true ↔ ∀ q, q < 6 → (B p).testBit q = true → (xs.take i).count q ≤ v q := by
  rw [opn_iff]
  constructor
  · rintro ⟨i', hi', g1, g2, g3⟩
    have := occ_un hi hi' h1 g1 (h2.trans g2.symm)
    subst this
    exact g3
  · exact fun h => ⟨i, hi, h1, h2, h⟩
theorem opn_lt {B : Nat → Nat} {xs : List Nat} {v : Nat → Nat} {p : Nat} (h : opn B xs v p = true) : v p < xs.count p := by
  obtain ⟨i, hi, h1, h2, -⟩ := opn_iff.mp h
  rw [← h2]
  exact cnt_lt hi h1
def sum6 (f : Nat → Nat) : Nat := f 0 + f 1 + f 2 + f 3 + f 4 + f 5
def decV (v : Nat → Nat) (p : Nat) : Nat → Nat := fun q => if q = p then v q - 1 else v q
def incV (v : Nat → Nat) (p : Nat) : Nat → Nat := fun q => if q = p then v q + 1 else v q
theorem dec_inc (v : Nat → Nat) (p : Nat) : decV (incV v p) p = v := by
  funext q
  unfold decV incV
  by_cases e : q = p <;> simp [e]
theorem inc_dec {v : Nat → Nat} {p : Nat} (h : 0 < v p) : incV (decV v p) p = v := by
  funext q
  unfold decV incV
  by_cases e : q = p
  · subst e; simp; omega
  · simp [e]
theorem sum6_inc {v : Nat → Nat} {p : Nat} (hp : p < 6) : sum6 (incV v p) = sum6 v + 1 := by
  unfold sum6 incV
  rcases (show p = 0 ∨ p = 1 ∨ p = 2 ∨ p = 3 ∨ p = 4 ∨ p = 5 by omega) with rfl | rfl | rfl | rfl | rfl | rfl <;> simp <;> omega
theorem sum6_dec {v : Nat → Nat} {p : Nat} (hp : p < 6) (h : 0 < v p) : sum6 (decV v p) + 1 = sum6 v := by
  rw [← sum6_inc (v := decV v p) hp, inc_dec h]
/-- how many ways there are to v, letter by letter -/
def wayN (B : Nat → Nat) (xs : List Nat) : Nat → (Nat → Nat) → Nat
  | 0, _ => 1
  | n + 1, v => sum6 (fun p => if 0 < v p ∧ opn B xs (decV v p) p = true then wayN B xs n (decV v p) else 0)
def ways (B : Nat → Nat) (xs : List Nat) (v : Nat → Nat) : Nat := wayN B xs (sum6 v) v
theorem ways_0 {B : Nat → Nat} {xs : List Nat} {v : Nat → Nat} (h : sum6 v = 0) : ways B xs v = 1 := by unfold ways; rw [h]; rfl
theorem sum6_le {f g : Nat → Nat} (h : ∀ p, p < 6 → f p = g p) : sum6 f = sum6 g := by
  unfold sum6
  rw [h 0 (by decide), h 1 (by decide), h 2 (by decide), h 3 (by decide), h 4 (by decide), h 5 (by decide)]
theorem ways_s {B : Nat → Nat} {xs : List Nat} {v : Nat → Nat} (h : 0 < sum6 v) : ways B xs v = sum6 (fun p => if 0 < v p ∧ opn B xs (decV v p) p = true then ways B xs (decV v p) else 0) := by
  unfold ways
  obtain ⟨n, hn⟩ : ∃ n, sum6 v = n + 1 := ⟨sum6 v - 1, by omega⟩
  rw [hn]
  show sum6 _ = _
  refine sum6_le (fun p hp => ?_)
  by_cases e : 0 < v p ∧ opn B xs (decV v p) p = true
  · rw [if_pos e, if_pos e]
    have := sum6_dec hp e.1
    rw [show sum6 (decV v p) = n by omega]
  · rw [if_neg e, if_neg e]
/-- how many letters can go on behind v -/
def wideV (B : Nat → Nat) (xs : List Nat) (v : Nat → Nat) : Nat := sum6 (fun p => if opn B xs v p then 1 else 0)
/-! numbers with digits of their own bases -/
def strd (c : Nat → Nat) : Nat → Nat
  | 0 => 1
  | p + 1 => strd c p * (c p + 1)
theorem strd_pos (c : Nat → Nat) : ∀ p, 0 < strd c p := by
  intro p
  induction p with
  | zero => exact Nat.one_pos
  | succ p ih => exact Nat.mul_pos ih (Nat.succ_pos _)
def dig (c : Nat → Nat) (t p : Nat) : Nat := t / strd c p % (c p + 1)
theorem dig_le (c : Nat → Nat) (t p : Nat) : dig c t p ≤ c p := by
  exact Nat.le_of_lt_succ (Nat.mod_lt (t / strd c p) (Nat.succ_pos (c p)))
theorem strd_dvd (c : Nat → Nat) {p q : Nat} (h : p ≤ q) : strd c p ∣ strd c q := by
  induction q with
  | zero => rw [show p = 0 by omega]; exact Nat.dvd_refl _
  | succ q ih =>
    by_cases e : p = q + 1
    · rw [e]; exact Nat.dvd_refl _
    · exact Nat.dvd_trans (ih (by omega)) (Nat.dvd_mul_right _ _)
theorem mod_strd_s (c : Nat → Nat) (t p : Nat) : t % strd c (p + 1) = t % strd c p + strd c p * dig c t p := by
  show t % (strd c p * (c p + 1)) = _
  rw [Nat.mod_mul]
  rfl
theorem dig_add {c : Nat → Nat} {t p : Nat} (h : dig c t p < c p) (q : Nat) : dig c (t + strd c p) q = if q = p then dig c t q + 1 else dig c t q := by
  have hp0 := strd_pos c p
  by_cases e : q = p
  · subst e
    rw [if_pos rfl]
    unfold dig at h ⊢
    rw [Nat.add_div_right _ hp0]
    have h2 := Nat.div_add_mod (t / strd c q) (c q + 1)
    have e3 : t / strd c q + 1 = (c q + 1) * (t / strd c q / (c q + 1)) + (t / strd c q % (c q + 1) + 1) := by omega
    rw [e3, Nat.mul_add_mod]
    exact Nat.mod_eq_of_lt (by omega)
  · rw [if_neg e]
    by_cases hlt : q < p
    · obtain ⟨m, hm⟩ := strd_dvd c (p := q + 1) (q := p) hlt
      unfold dig
      rw [hm, show strd c (q + 1) = strd c q * (c q + 1) from rfl, Nat.mul_assoc, Nat.add_mul_div_left _ _ (strd_pos c q), Nat.add_mul_mod_self_left]
    · obtain ⟨m, hm⟩ := strd_dvd c (p := p + 1) (q := q) (by omega)
      have hlow : t % strd c (p + 1) + strd c p < strd c (p + 1) := by
        rw [mod_strd_s]
        have h1 := Nat.mod_lt t hp0
        have h2 : strd c (p + 1) = strd c p * c p + strd c p := by show strd c p * (c p + 1) = _; rw [Nat.mul_succ]
        have h3 : strd c p * (dig c t p + 1) ≤ strd c p * c p := Nat.mul_le_mul_left _ h
        rw [Nat.mul_succ] at h3
        omega
      have hdiv : (t + strd c p) / strd c q = t / strd c q := by
        rw [hm, ← Nat.div_div_eq_div_mul, ← Nat.div_div_eq_div_mul]
        have h2 := Nat.div_add_mod t (strd c (p + 1))
        have e4 : t + strd c p = strd c (p + 1) * (t / strd c (p + 1)) + (t % strd c (p + 1) + strd c p) := by omega
        rw [e4, Nat.mul_add_div (strd_pos c (p + 1)), Nat.div_eq_of_lt hlow, Nat.add_zero]
      unfold dig
      rw [hdiv]
theorem dig_sub {c : Nat → Nat} {t p : Nat} (h : 0 < dig c t p) : strd c p ≤ t ∧ dig c (t - strd c p) p < c p ∧ dig c (t - strd c p) p + 1 = dig c t p := by
  have hp0 := strd_pos c p
  have hle : strd c p ≤ t := by
    refine Decidable.byContradiction (fun z => ?_)
    unfold dig at h
    rw [Nat.div_eq_of_lt (by omega)] at h
    simp at h
  have e1 : (t - strd c p) / strd c p + 1 = t / strd c p := by
    have := Nat.add_div_right (t - strd c p) hp0
    rw [show t - strd c p + strd c p = t by omega] at this
    omega
  have e2 : dig c (t - strd c p) p + 1 = dig c t p := by
    unfold dig at h ⊢
    rw [← e1] at h ⊢
    have h2 := Nat.div_add_mod ((t - strd c p) / strd c p) (c p + 1)
    have h3 : (t - strd c p) / strd c p % (c p + 1) < c p + 1 := Nat.mod_lt _ (Nat.succ_pos (c p))
    by_cases e : (t - strd c p) / strd c p % (c p + 1) = c p
    · have e3 : (t - strd c p) / strd c p + 1 = (c p + 1) * ((t - strd c p) / strd c p / (c p + 1) + 1) := by rw [Nat.mul_succ]; omega
      rw [e3, Nat.mul_mod_right] at h
      omega
    · have e3 : (t - strd c p) / strd c p + 1 = (c p + 1) * ((t - strd c p) / strd c p / (c p + 1)) + ((t - strd c p) / strd c p % (c p + 1) + 1) := by omega
      rw [e3, Nat.mul_add_mod]
      exact (Nat.mod_eq_of_lt (by omega)).symm
  have := dig_le c t p
  exact ⟨hle, by omega, e2⟩
/-- the odometer -/
theorem mod_max {c : Nat → Nat} {t : Nat} : ∀ p, (∀ q, q < p → dig c t q = c q) → t % strd c p + 1 = strd c p := by
  intro p
  induction p with
  | zero => intro _; show t % 1 + 1 = 1; omega
  | succ p ih =>
    intro h
    have h1 := ih (fun q hq => h q (by omega))
    rw [mod_strd_s, h p (by omega)]
    show _ = strd c p * (c p + 1)
    rw [Nat.mul_succ]
    omega
theorem dig_succ_low {c : Nat → Nat} {t p q : Nat} (h : ∀ q, q < p → dig c t q = c q) (hq : q < p) : dig c (t + 1) q = 0 := by
  have h1 := mod_max p h
  have h2 := Nat.div_add_mod t (strd c p)
  obtain ⟨m, hm⟩ := strd_dvd c (p := q + 1) (q := p) hq
  have e : t + 1 = strd c q * ((c q + 1) * (m * (t / strd c p + 1))) := by
    have : t + 1 = strd c p * (t / strd c p + 1) := by rw [Nat.mul_succ]; omega
    rw [this]
    generalize t / strd c p + 1 = X
    rw [hm, show strd c (q + 1) = strd c q * (c q + 1) from rfl, Nat.mul_assoc, Nat.mul_assoc]
  unfold dig
  rw [e, Nat.mul_div_cancel_left _ (strd_pos c q), Nat.mul_mod_right]
theorem dig_succ_hi {c : Nat → Nat} {t p q : Nat} (h : ∀ q, q < p → dig c t q = c q) (hp : dig c t p < c p) (hq : p ≤ q) : dig c (t + 1) q = if q = p then dig c t q + 1 else dig c t q := by
  have h1 := mod_max p h
  have hp0 := strd_pos c p
  -- t + 1 = u + strd p where u = t less its low part, that has the same digits from p on
  have hu : ∀ r, p ≤ r → dig c (t - t % strd c p) r = dig c t r := by
    intro r hr
    obtain ⟨m, hm⟩ := strd_dvd c (p := p) (q := r) hr
    have h2 := Nat.div_add_mod t (strd c p)
    unfold dig
    rw [hm, ← Nat.div_div_eq_div_mul, ← Nat.div_div_eq_div_mul, show t - t % strd c p = strd c p * (t / strd c p) by omega, Nat.mul_div_cancel_left _ hp0]
  have h3 := dig_add (c := c) (t := t - t % strd c p) (p := p) (by rw [hu p (Nat.le_refl _)]; exact hp) q
  have hm := Nat.mod_le t (strd c p)
  rw [show t - t % strd c p + strd c p = t + 1 by omega, hu q hq] at h3
  exact h3
theorem dig_lt_size {c : Nat → Nat} {t p : Nat} (hp : p < 6) (h : dig c t p < c p) (ht : t < strd c 6) : t + strd c p < strd c 6 := by
  -- the top part: strd 6 = strd (p+1) * m, t / strd (p+1) < m
  obtain ⟨m, hm⟩ := strd_dvd c (p := p + 1) (q := 6) (by omega)
  have hlow : t % strd c (p + 1) + strd c p < strd c (p + 1) := by
    rw [mod_strd_s]
    have h1 := Nat.mod_lt t (strd_pos c p)
    have h2 : strd c (p + 1) = strd c p * c p + strd c p := by show strd c p * (c p + 1) = _; rw [Nat.mul_succ]
    have h3 : strd c p * (dig c t p + 1) ≤ strd c p * c p := Nat.mul_le_mul_left _ h
    rw [Nat.mul_succ] at h3
    omega
  have h2 := Nat.div_add_mod t (strd c (p + 1))
  have h3 : t / strd c (p + 1) < m := by
    rw [hm] at ht
    exact Nat.div_lt_of_lt_mul ht
  have h4 : strd c (p + 1) * (t / strd c (p + 1) + 1) ≤ strd c (p + 1) * m := Nat.mul_le_mul_left _ h3
  rw [Nat.mul_succ] at h4
  rw [hm]
  omega
theorem am2 (a b : Nat) : 4 * ((a + 1) * (b + 1)) ≤ (a + b + 2) * (a + b + 2) := by
  have h : ∀ a b : Nat, a ≤ b → 4 * ((a + 1) * (b + 1)) ≤ (a + b + 2) * (a + b + 2) := by
    intro a b hab
    obtain ⟨t, rfl⟩ : ∃ t, b = a + t := ⟨b - a, by omega⟩
    have e : (a + (a + t) + 2) * (a + (a + t) + 2) = 4 * ((a + 1) * (a + t + 1)) + t * t := by
      grind
    rw [e]
    exact Nat.le_add_right _ _
  rcases Nat.le_total a b with z | z
  · exact h a b z
  · have := h b a z
    rw [Nat.mul_comm (b + 1), Nat.add_comm b a] at this
    exact this
theorem am3 : ∀ x, x < 31 → ∀ y, y < 31 → x * (y * (30 - x - y)) ≤ 1000 := by decide +kernel
theorem am6 {a b c e f g : Nat} (h : a + b + c + e + f + g ≤ 24) : (a + 1) * (b + 1) * (c + 1) * (e + 1) * (f + 1) * (g + 1) ≤ 15625 := by
  have h1 := am2 a b
  have h2 := am2 c e
  have h3 := am2 f g
  have h4 := am3 (a + b + 2) (by omega) (c + e + 2) (by omega)
  have h5 : (a + b + 2) * ((c + e + 2) * (f + g + 2)) ≤ 1000 := Nat.le_trans (Nat.mul_le_mul_left _ (Nat.mul_le_mul_left _ (by omega))) h4
  have h6 : (4 * ((a + 1) * (b + 1))) * ((4 * ((c + 1) * (e + 1))) * (4 * ((f + 1) * (g + 1)))) ≤ ((a + b + 2) * (a + b + 2)) * (((c + e + 2) * (c + e + 2)) * ((f + g + 2) * (f + g + 2))) := Nat.mul_le_mul h1 (Nat.mul_le_mul h2 h3)
  have h7 : ((a + b + 2) * (a + b + 2)) * (((c + e + 2) * (c + e + 2)) * ((f + g + 2) * (f + g + 2))) = ((a + b + 2) * ((c + e + 2) * (f + g + 2))) * ((a + b + 2) * ((c + e + 2) * (f + g + 2))) := by ac_rfl
  have h8 : ((a + b + 2) * ((c + e + 2) * (f + g + 2))) * ((a + b + 2) * ((c + e + 2) * (f + g + 2))) ≤ 1000 * 1000 := Nat.mul_le_mul h5 h5
  have h9 : (4 * ((a + 1) * (b + 1))) * ((4 * ((c + 1) * (e + 1))) * (4 * ((f + 1) * (g + 1)))) = 64 * ((a + 1) * (b + 1) * (c + 1) * (e + 1) * (f + 1) * (g + 1)) := by
    have : (64 : Nat) = 4 * (4 * 4) := rfl
    rw [this]; ac_rfl
  omega
theorem strd6 (c : Nat → Nat) : strd c 6 = (c 0 + 1) * (c 1 + 1) * (c 2 + 1) * (c 3 + 1) * (c 4 + 1) * (c 5 + 1) := by
  show 1 * (c 0 + 1) * (c 1 + 1) * (c 2 + 1) * (c 3 + 1) * (c 4 + 1) * (c 5 + 1) = _
  rw [Nat.one_mul]
theorem strd_le {c : Nat → Nat} (h : sum6 c ≤ 24) {p : Nat} (hp : p ≤ 6) : strd c p ≤ 15625 := by
  have h1 : strd c 6 ≤ 15625 := by rw [strd6]; exact am6 h
  exact Nat.le_trans (Nat.le_of_dvd (strd_pos c 6) (strd_dvd c hp)) h1
