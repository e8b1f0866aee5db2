/-! class Circle -/
theorem wb_inj {a b : Int64} (h : a.toBitVec = b.toBitVec) : a = b := Int64.toBitVec_inj.mp h
theorem wb_tb (n : Nat) : (lN n).toBitVec = BitVec.ofNat 64 n := rfl
theorem wb_c : ∀ k, k < 64 → ((nI k).toInt64 &&& 63) = lN k := by decide +kernel
theorem wb_sm : ∀ k, k < 64 → (BitVec.ofNat 64 k).smod 64 = BitVec.ofNat 64 k := by decide +kernel
theorem wb_shl (n : Nat) {k : Nat} (hk : k < 64) : lN n <<< ((nI k).toInt64 &&& 63) = lN (n * 2 ^ k) := by
  rw [wb_c k hk]
  apply wb_inj
  rw [Int64.toBitVec_shiftLeft, wb_tb, wb_tb, wb_tb, wb_sm k hk]
  apply BitVec.eq_of_toNat_eq
  rw [BitVec.shiftLeft_eq', BitVec.toNat_shiftLeft, BitVec.toNat_ofNat, BitVec.toNat_ofNat, BitVec.toNat_ofNat, Nat.mod_eq_of_lt (show k < 2 ^ 64 by omega), Nat.shiftLeft_eq, Nat.mul_mod, Nat.mod_mod, ← Nat.mul_mod]
theorem pf_lI {a : Nat} (h : a < 2 ^ 63) : (lN a).toInt = (a : Int) := lg_ofNat_toInt h
theorem wb_shr {a k : Nat} (hk : k < 64) (h : a < 2 ^ 62) : lN a >>> ((nI k).toInt64 &&& 63) = lN (a / 2 ^ k) := by
  have hd : a / 2 ^ k ≤ a := Nat.div_le_self _ _
  have hD : ((((nI k).toInt64 &&& 63)).toBitVec.smod 64).toNat = k := by
    rw [wb_c k hk, wb_tb, wb_sm k hk, BitVec.toNat_ofNat, Nat.mod_eq_of_lt (by omega)]
  apply Int64.toInt_inj.mp
  have e : (lN a >>> ((nI k).toInt64 &&& 63)).toInt = (lN a).toInt >>> k := by
    conv => rhs; rw [← hD]
    exact BitVec.toInt_sshiftRight ..
  rw [e, Int.shiftRight_eq_div_pow, pf_lI (by omega), pf_lI (by omega)]
  rfl
theorem wb_and {a b : Nat} (ha : a < 2 ^ 64) (hb : b < 2 ^ 64) : lN a &&& lN b = lN (a &&& b) := by
  apply wb_inj
  rw [Int64.toBitVec_and, wb_tb, wb_tb, wb_tb]
  apply BitVec.eq_of_toNat_eq
  rw [BitVec.toNat_and, BitVec.toNat_ofNat, BitVec.toNat_ofNat, BitVec.toNat_ofNat, Nat.mod_eq_of_lt ha, Nat.mod_eq_of_lt hb, Nat.mod_eq_of_lt (Nat.and_lt_two_pow _ hb)]
theorem wb_or {a b : Nat} (ha : a < 2 ^ 64) (hb : b < 2 ^ 64) : lN a ||| lN b = lN (a ||| b) := by
  apply wb_inj
  rw [Int64.toBitVec_or, wb_tb, wb_tb, wb_tb]
  apply BitVec.eq_of_toNat_eq
  rw [BitVec.toNat_or, BitVec.toNat_ofNat, BitVec.toNat_ofNat, BitVec.toNat_ofNat, Nat.mod_eq_of_lt ha, Nat.mod_eq_of_lt hb, Nat.mod_eq_of_lt (Nat.or_lt_two_pow ha hb)]
theorem or8 {a x : Nat} (hx : x < 8) (ha : a < 2 ^ 50) : lN (a * 2 ^ 3) ||| lN x = lN (a * 8 + x) := by
  rw [wb_or (by omega) (by omega), ← Nat.shiftLeft_eq, ← Nat.shiftLeft_add_eq_or_of_lt (by omega : x < 2 ^ 3), Nat.shiftLeft_eq]
theorem p8_pos : ∀ n : Nat, 0 < 8 ^ n := by
  intro n
  induction n with
  | zero => decide
  | succ n ih => rw [Nat.pow_succ]; omega
/-- three bits a letter behind a first 1 -/
def num (xs : List Nat) : Nat := xs.foldl (fun n x => n * 8 + x) 1
theorem num_s (xs : List Nat) (x : Nat) : num (xs ++ [x]) = num xs * 8 + x := by
  unfold num
  rw [List.foldl_append]; rfl
theorem num_bd : ∀ (n : Nat) (xs : List Nat), xs.length = n → (∀ x ∈ xs, x < 8) → 8 ^ n ≤ num xs ∧ num xs < 2 * 8 ^ n := by
  intro n
  induction n with
  | zero => intro xs h _; rw [List.eq_nil_of_length_eq_zero h]; exact ⟨Nat.le_refl _, by decide⟩
  | succ n ih =>
    intro xs h hx
    have hne : xs ≠ [] := fun e => by subst e; simp at h
    have e := List.dropLast_concat_getLast hne
    have h1 := ih xs.dropLast (by rw [List.length_dropLast]; omega) (fun x hx1 => hx x (List.dropLast_subset xs hx1))
    have h2 := hx _ (List.getLast_mem hne)
    rw [← e, num_s, Nat.pow_succ]
    omega
theorem num_lt {xs : List Nat} (h : xs.length ≤ 12) (hx : ∀ x ∈ xs, x < 8) : num xs < 2 ^ 37 := by
  have h1 := (num_bd xs.length xs rfl hx).2
  have h2 : 8 ^ xs.length ≤ 8 ^ 12 := Nat.pow_le_pow_right (by decide) h
  have h3 : (8 : Nat) ^ 12 * 2 = 2 ^ 37 := by decide
  omega
theorem num_div : ∀ (s : Nat) (xs : List Nat), (∀ x ∈ xs, x < 8) → s ≤ xs.length → num xs / 8 ^ s = num (xs.take (xs.length - s)) := by
  intro s
  induction s with
  | zero => intro xs _ _; rw [Nat.pow_zero, Nat.div_one, Nat.sub_zero, List.take_length]
  | succ s ih =>
    intro xs hx hs
    have hi : xs.length - (s + 1) < xs.length := by omega
    have e := ih xs hx (by omega)
    rw [Nat.pow_succ, ← Nat.div_div_eq_div_mul, e, show xs.length - s = xs.length - (s + 1) + 1 by omega, take_s hi, num_s]
    have := hx _ (List.getElem_mem hi)
    omega
theorem num_div0 {xs : List Nat} {s : Nat} (hx : ∀ x ∈ xs, x < 8) (h : xs.length < s) : num xs / 8 ^ s = 0 := by
  refine Nat.div_eq_of_lt ?_
  have h1 := (num_bd xs.length xs rfl hx).2
  have h2 : 8 ^ (xs.length + 1) ≤ 8 ^ s := Nat.pow_le_pow_right (by decide) h
  rw [Nat.pow_succ] at h2
  omega
theorem num_inj : ∀ (n : Nat) (xs ys : List Nat), xs.length = n → (∀ x ∈ xs, x < 8) → (∀ y ∈ ys, y < 8) → num xs = num ys → xs = ys := by
  intro n
  induction n with
  | zero =>
    intro xs ys h hx hy e
    have hx0 := List.eq_nil_of_length_eq_zero h
    subst hx0
    have h1 := (num_bd ys.length ys rfl hy).1
    rw [← e] at h1
    have h2 : num [] = 1 := rfl
    cases ys with
    | nil => rfl
    | cons y t =>
      rw [List.length_cons, Nat.pow_succ] at h1
      have := p8_pos (t.length)
      omega
  | succ n ih =>
    intro xs ys h hx hy e
    have hne : xs ≠ [] := fun z => by subst z; simp at h
    have hny : ys ≠ [] := fun z => by
      subst z
      have h1 := (num_bd xs.length xs rfl hx).1
      rw [e, h, Nat.pow_succ] at h1
      have := p8_pos (n)
      have h2 : num [] = 1 := rfl
      omega
    have e1 := List.dropLast_concat_getLast hne
    have e2 := List.dropLast_concat_getLast hny
    have b1 := hx _ (List.getLast_mem hne)
    have b2 := hy _ (List.getLast_mem hny)
    rw [← e1, ← e2, num_s, num_s] at e
    have hl : xs.getLast hne = ys.getLast hny := by omega
    have hd := ih xs.dropLast ys.dropLast (by rw [List.length_dropLast]; omega) (fun x hx1 => hx x (List.dropLast_subset xs hx1)) (fun y hy1 => hy y (List.dropLast_subset ys hy1)) (by omega)
    rw [← e1, ← e2, hd, hl]
theorem num_pos {xs : List Nat} (hx : ∀ x ∈ xs, x < 8) : 0 < num xs := by
  have h1 := (num_bd xs.length xs rfl hx).1
  have := p8_pos (xs.length)
  omega
/-! a table with open places -/
theorem php {f : Nat → Nat} : ∀ (l ns : List Nat), l.Nodup → (∀ a ∈ l, ∀ b ∈ l, f a = f b → a = b) → (∀ a ∈ l, f a ∈ ns) → l.length ≤ ns.length
  | [], ns, _, _, _ => Nat.zero_le _
  | a :: l, ns, hn, hi, hm => by
    rw [List.nodup_cons] at hn
    have ha := hm a List.mem_cons_self
    have := php l (ns.erase (f a)) hn.2 (fun x hx y hy e => hi x (List.mem_cons_of_mem _ hx) y (List.mem_cons_of_mem _ hy) e) (fun b hb => by
      have hne : f b ≠ f a := fun e => by
        have := hi b (List.mem_cons_of_mem _ hb) a List.mem_cons_self e
        subst this
        exact hn.1 hb
      exact (List.mem_erase_of_ne hne).mpr (hm b (List.mem_cons_of_mem _ hb)))
    rw [List.length_erase_of_mem ha] at this
    have hpos : 0 < ns.length := List.length_pos_of_mem ha
    rw [List.length_cons]
    omega
/-- T is a table of N places that holds ns (numbers above 0), h tells where the search for one begins -/
def tabOk (N : Nat) (h : Nat → Nat) (T : Nat → Nat) (ns : List Nat) : Prop := (∀ a, a < N → T a ≠ 0 → T a ∈ ns) ∧ (∀ a b, a < N → b < N → T a ≠ 0 → T a = T b → a = b) ∧ ∀ v ∈ ns, v ≠ 0 ∧ ∃ i, i < N ∧ T ((h v + i) % N) = v ∧ ∀ i', i' < i → T ((h v + i') % N) ≠ 0 ∧ T ((h v + i') % N) ≠ v
theorem tab_end {N : Nat} {h T : Nat → Nat} {ns : List Nat} (ht : tabOk N h T ns) (hl : ns.length < N) (v : Nat) : ∃ i, i < N ∧ (T ((h v + i) % N) = 0 ∨ T ((h v + i) % N) = v) ∧ ∀ i', i' < i → T ((h v + i') % N) ≠ 0 ∧ T ((h v + i') % N) ≠ v := by
  have hex : ∃ i, i < N ∧ T ((h v + i) % N) = 0 := by
    refine Classical.byContradiction (fun z => ?_)
    have hz : ∀ a, a < N → T a ≠ 0 := fun a ha e => z (by
      refine ⟨(a + N - h v % N) % N, Nat.mod_lt _ (by omega), ?_⟩
      have hm := Nat.mod_lt (h v) (show N > 0 by omega)
      have : (h v + (a + N - h v % N) % N) % N = a := by
        rw [Nat.add_mod_mod]
        have h9 := Nat.div_add_mod (h v) N
        have e1 : h v + (a + N - h v % N) = a + N * (h v / N + 1) := by rw [Nat.mul_succ]; omega
        rw [e1, Nat.add_mul_mod_self_left, Nat.mod_eq_of_lt ha]
      rw [this]; exact e)
    have := php (f := T) (List.range N) ns List.nodup_range (fun a ha b hb e => ht.2.1 a b (List.mem_range.mp ha) (List.mem_range.mp hb) (hz a (List.mem_range.mp ha)) e) (fun a ha => ht.1 a (List.mem_range.mp ha) (hz a (List.mem_range.mp ha)))
    rw [List.length_range] at this
    omega
  obtain ⟨i0, hi0, h0⟩ := hex
  obtain ⟨i, hi, hmin⟩ := pk_least (fun i => T ((h v + i) % N) = 0 ∨ T ((h v + i) % N) = v) ⟨i0, Or.inl h0⟩
  have hle : i ≤ i0 := Nat.not_lt.mp (fun z => hmin i0 z (Or.inl h0))
  exact ⟨i, by omega, hi, fun i' hi' => ⟨fun e => hmin i' hi' (Or.inl e), fun e => hmin i' hi' (Or.inr e)⟩⟩
/-- where the search for v ends -/
theorem tab_has {N : Nat} {h T : Nat → Nat} {ns : List Nat} (ht : tabOk N h T ns) {v i : Nat} (hv0 : v ≠ 0) (hi : i < N) (h1 : T ((h v + i) % N) = 0 ∨ T ((h v + i) % N) = v) (h2 : ∀ i', i' < i → T ((h v + i') % N) ≠ 0 ∧ T ((h v + i') % N) ≠ v) : T ((h v + i) % N) = v ↔ v ∈ ns := by
  have hN : (h v + i) % N < N := Nat.mod_lt _ (by omega)
  constructor
  · intro e
    have := ht.1 _ hN (by rw [e]; exact hv0)
    rw [e] at this; exact this
  · intro hm
    obtain ⟨-, i0, g0, g1, g2⟩ := ht.2.2 v hm
    rcases h1 with e | e
    · exfalso
      rcases Nat.lt_trichotomy i i0 with z | z | z
      · exact (g2 i z).1 e
      · subst z; rw [g1] at e; exact hv0 e
      · exact (h2 i0 z).2 g1
    · exact e
theorem tab_put {N : Nat} {h T : Nat → Nat} {ns : List Nat} (ht : tabOk N h T ns) {v i : Nat} (hv0 : v ≠ 0) (hi : i < N) (hn : v ∉ ns) (h1 : T ((h v + i) % N) = 0) (h2 : ∀ i', i' < i → T ((h v + i') % N) ≠ 0 ∧ T ((h v + i') % N) ≠ v) {T' : Nat → Nat} (hT : ∀ a, a < N → T' a = if a = (h v + i) % N then v else T a) : tabOk N h T' (ns ++ [v]) := by
  have hN : (h v + i) % N < N := Nat.mod_lt _ (by omega)
  refine ⟨fun a ha hz => ?_, fun a b ha hb hz e => ?_, fun w hw => ?_⟩
  · rw [hT a ha] at hz ⊢
    split
    · simp
    next hne => rw [if_neg hne] at hz; exact List.mem_append_left _ (ht.1 a ha hz)
  · rw [hT a ha] at hz e
    rw [hT b hb] at e
    by_cases ea : a = (h v + i) % N
    · by_cases eb : b = (h v + i) % N
      · rw [ea, eb]
      · rw [if_pos ea, if_neg eb] at e
        exact absurd (ht.1 b hb (by rw [← e]; exact hv0)) (by rw [← e]; exact hn)
    · by_cases eb : b = (h v + i) % N
      · rw [if_neg ea, if_pos eb] at e
        rw [if_neg ea] at hz
        exact absurd (ht.1 a ha hz) (by rw [e]; exact hn)
      · rw [if_neg ea, if_neg eb] at e
        rw [if_neg ea] at hz
        exact ht.2.1 a b ha hb hz e
  · rcases List.mem_append.mp hw with hw | hw
    · obtain ⟨g0, i0, g1, g2, g3⟩ := ht.2.2 w hw
      have hwv : w ≠ v := fun e => hn (e ▸ hw)
      have hm : ∀ x, (h w + x) % N < N := fun x => Nat.mod_lt _ (by omega)
      refine ⟨g0, i0, g1, ?_, fun i' hi' => ?_⟩
      · rw [hT _ (hm _), if_neg]
        · exact g2
        · intro e; rw [e, h1] at g2; exact g0 g2.symm
      · rw [hT _ (hm _)]
        split
        · exact ⟨hv0, Ne.symm hwv⟩
        · exact g3 i' hi'
    · have hwv := List.mem_singleton.mp hw
      subst hwv
      have hm : ∀ x, (h w + x) % N < N := fun x => Nat.mod_lt _ (by omega)
      refine ⟨hv0, i, hi, by rw [hT _ (hm _), if_pos rfl], fun i' hi' => ?_⟩
      rw [hT _ (hm _), if_neg]
      · exact h2 i' hi'
      · intro e
        have := (h2 i' hi').1
        rw [e] at this
        exact this h1
