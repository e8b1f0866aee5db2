/-! sets of letters that hang together; looks against taking off -/
def sub (s t : Nat) : Prop := ∀ i, s.testBit i = true → t.testBit i = true
theorem sub.tr {a b c : Nat} (h : sub a b) (h' : sub b c) : sub a c := fun i hi => h' i (h i hi)
theorem sub.eq {a b : Nat} (h : sub a b) (h' : sub b a) : a = b := Nat.eq_of_testBit_eq (fun i => Bool.eq_iff_iff.mpr ⟨h i, h' i⟩)
theorem or2_tb {s q i : Nat} : (s ||| 2 ^ q).testBit i = true ↔ s.testBit i = true ∨ i = q := by
  rw [Nat.testBit_or, Nat.testBit_two_pow, Bool.or_eq_true, decide_eq_true_iff, eq_comm (a := q)]
/-- C is closed for what is in A -/
def clo (fb : Nat → Nat) (A C : Nat) : Prop := ∀ p q, p < 6 → q < 6 → C.testBit p = true → A.testBit q = true → (fb p).testBit q = false → C.testBit q = true
def cntB (s : Nat) : Nat → Nat
  | 0 => 0
  | n + 1 => cntB s n + (s.testBit n).toNat
theorem cntB_s (s n : Nat) : cntB s (n + 1) = cntB s n + (s.testBit n).toNat := rfl
theorem cntB_le (s : Nat) : ∀ n, cntB s n ≤ n := by
  intro n
  induction n with
  | zero => exact Nat.le_refl _
  | succ n ih =>
    have := Bool.toNat_lt (s.testBit n)
    rw [cntB_s]; omega
theorem cntB_mono {s t : Nat} (h : sub s t) : ∀ n, cntB s n ≤ cntB t n ∧ (cntB s n = cntB t n → ∀ i, i < n → s.testBit i = t.testBit i) := by
  intro n
  induction n with
  | zero => exact ⟨Nat.le_refl _, fun _ i hi => absurd hi (Nat.not_lt_zero i)⟩
  | succ n ih =>
    rw [cntB_s, cntB_s]
    have h1 : (s.testBit n).toNat ≤ (t.testBit n).toNat := by
      cases hs : s.testBit n with
      | false => exact Nat.zero_le _
      | true => rw [h n hs]; exact Nat.le_refl _
    refine ⟨by omega, fun he i hi => ?_⟩
    by_cases e : i = n
    · subst e
      have h2 : (s.testBit i).toNat = (t.testBit i).toNat := by omega
      cases hs : s.testBit i <;> cases ht : t.testBit i <;> simp_all
    · exact ih.2 (by omega) i (by omega)
theorem cntB_pos {s i : Nat} (h : s.testBit i = true) : ∀ n, i < n → 0 < cntB s n := by
  intro n
  induction n with
  | zero => intro hi; omega
  | succ n ih =>
    intro hi
    rw [cntB_s]
    by_cases e : i = n
    · subst e; rw [h]; simp
    · have := ih (by omega); omega
def itF (F : Nat → Nat) (s : Nat) : Nat → Nat
  | 0 => s
  | n + 1 => F (itF F s n)
/-- what is not yet closed grows; so it is closed behind as many rounds as there are letters -/
theorem itF_end {F : Nat → Nat} {A s l : Nat} (n : Nat) (hA : ∀ i, A.testBit i = true → i < n) (hs : sub s A) (hl : s.testBit l = true) (hF : ∀ t, sub t A → sub t (F t) ∧ sub (F t) A) : F (itF F s n) = itF F s n ∧ sub (itF F s n) A ∧ (itF F s n).testBit l = true := by
  have h1 : ∀ m, sub (itF F s m) A ∧ (itF F s m).testBit l = true := by
    intro m
    induction m with
    | zero => exact ⟨hs, hl⟩
    | succ m ih => exact ⟨(hF _ ih.1).2, (hF _ ih.1).1 l ih.2⟩
  have h2 : ∀ m, F (itF F s m) = itF F s m ∨ m + 1 ≤ cntB (itF F s m) n := by
    intro m
    induction m with
    | zero => exact Or.inr (cntB_pos hl n (hA l (hs l hl)))
    | succ m ih =>
      have same : F (itF F s m) = itF F s m → F (itF F s (m + 1)) = itF F s (m + 1) := fun h => by
        show F (F (itF F s m)) = F (itF F s m)
        rw [h, h]
      rcases ih with ih | ih
      · exact Or.inl (same ih)
      · have hsub := (hF _ (h1 m).1).1
        have hc := cntB_mono hsub n
        by_cases e : cntB (itF F s m) n = cntB (F (itF F s m)) n
        · refine Or.inl (same (Nat.eq_of_testBit_eq (fun i => ?_)).symm)
          by_cases hi : i < n
          · exact hc.2 e i hi
          · have z1 : (itF F s m).testBit i = false := Bool.eq_false_iff.mpr (fun z => hi (hA i ((h1 m).1 i z)))
            have z2 : (F (itF F s m)).testBit i = false := Bool.eq_false_iff.mpr (fun z => hi (hA i ((hF _ (h1 m).1).2 i z)))
            rw [z1, z2]
        · refine Or.inr ?_
          show m + 1 + 1 ≤ cntB (F (itF F s m)) n
          omega
  refine ⟨(h2 n).resolve_right (fun z => ?_), h1 n⟩
  have := cntB_le (itF F s n) n
  omega
theorem itF_min {F : Nat → Nat} {C : Nat} (hF : ∀ t, sub t C → sub (F t) C) {s : Nat} (hs : sub s C) : ∀ n, sub (itF F s n) C := by
  intro n
  induction n with
  | zero => exact hs
  | succ n ih => exact hF _ ih
/-- T is what hangs together with l in A -/
def comp (fb : Nat → Nat) (A l T : Nat) : Prop := T.testBit l = true ∧ sub T A ∧ clo fb A T ∧ ∀ C, clo fb A C → C.testBit l = true → sub T C
theorem comp.uniq {fb : Nat → Nat} {A l T T' : Nat} (h : comp fb A l T) (h' : comp fb A l T') : T = T' := (h.2.2.2 T' h'.2.2.1 h'.1).eq (h'.2.2.2 T h.2.2.1 h.1)
theorem comp.up {fb : Nat → Nat} {A P l T : Nat} (h : comp fb A l T) (hA : sub A P) (hP : ∀ i, P.testBit i = true → i < 6) (hc : clo fb P A) : comp fb P l T := by
  refine ⟨h.1, h.2.1.tr hA, fun p q hp hq h1 h2 h3 => h.2.2.1 p q hp hq h1 (hc p q hp hq (h.2.1 p h1) h2 h3) h3, fun C hC hl => h.2.2.2 C (fun p q hp hq h1 h2 h3 => hC p q hp hq h1 (hA q h2) h3) hl⟩
theorem sub_p2 {l A : Nat} (h : A.testBit l = true) : sub (2 ^ l) A := fun i hi => by
  rw [Nat.testBit_two_pow] at hi
  rw [← of_decide_eq_true hi]; exact h
theorem p2_tb (l : Nat) : (2 ^ l).testBit l = true := by rw [Nat.testBit_two_pow]; simp
/-- the class's rounds -/
theorem hang1_tb {k pr s q : Nat} {fb : Nat → Nat} : hang1 k fb pr s q = s ∨ (pr.testBit q = true ∧ (∃ p, (bw k fb q).testBit p = true ∧ s.testBit p = true) ∧ hang1 k fb pr s q = s ||| 2 ^ q) := by
  unfold hang1
  by_cases h : (pr.testBit q && decide (bw k fb q &&& s ≠ 0)) = true
  · rw [if_pos h]
    rw [Bool.and_eq_true, decide_eq_true_iff] at h
    refine Or.inr ⟨h.1, ?_, rfl⟩
    refine Classical.byContradiction (fun z => h.2 (Nat.eq_of_testBit_eq (fun i => ?_)))
    rw [Nat.zero_testBit, Nat.testBit_and]
    cases h1 : (bw k fb q).testBit i with
    | false => rfl
    | true =>
      cases h2 : s.testBit i with
      | false => rfl
      | true => exact absurd ⟨i, h1, h2⟩ z
  · rw [if_neg h]; exact Or.inl rfl
theorem hangR_up {k pr s : Nat} {fb : Nat → Nat} {n m : Nat} (h : n ≤ m) : sub (hangR k fb pr s n) (hangR k fb pr s m) := by
  induction m with
  | zero => rw [show n = 0 by omega]; exact fun i hi => hi
  | succ m ih =>
    by_cases e : n = m + 1
    · rw [e]; exact fun i hi => hi
    · refine (ih (by omega)).tr ?_
      rw [hangR_s]
      rcases hang1_tb (k := k) (fb := fb) (pr := pr) (s := hangR k fb pr s m) (q := m) with h1 | ⟨-, -, h1⟩
      · rw [h1]; exact fun i hi => hi
      · rw [h1]; exact fun i hi => or2_tb.mpr (Or.inl hi)
theorem hangR_min {k pr s C : Nat} {fb : Nat → Nat} (hf : fbOk k fb) (hC : clo fb pr C) (hs : sub s C) : ∀ n, n ≤ k → sub (hangR k fb pr s n) C := by
  have hk := hf.2.1
  intro n
  induction n with
  | zero => intro _; exact hs
  | succ n ih =>
    intro hn
    rw [hangR_s]
    rcases hang1_tb (k := k) (fb := fb) (pr := pr) (s := hangR k fb pr s n) (q := n) with h1 | ⟨h2, ⟨p, h3, h4⟩, h1⟩
    · rw [h1]; exact ih (by omega)
    · rw [h1]
      intro i hi
      rcases or2_tb.mp hi with hi | rfl
      · exact ih (by omega) i hi
      · rw [bw_tb hf (by omega), Bool.and_eq_true, decide_eq_true_iff] at h3
        refine hC p i (by omega) (by omega) (ih (by omega) p h4) h2 ?_
        rw [hf.2.2.2.1 p i (by omega) (by omega)]
        simpa using h3.2
theorem hangR_clo {k pr s : Nat} {fb : Nat → Nat} (hf : fbOk k fb) (hpr : ∀ i, pr.testBit i = true → i < k) (hs : sub s pr) (he : hangR k fb pr s k = s) : clo fb pr s := by
  have hk := hf.2.1
  intro p q hp hq h1 h2 h3
  have hqk := hpr q h2
  have hpk := hpr p (hs p h1)
  have h4 : (hangR k fb pr s q).testBit p = true := hangR_up (n := 0) (Nat.zero_le q) p h1
  have h5 : (hangR k fb pr s (q + 1)).testBit q = true := by
    rw [hangR_s]
    unfold hang1
    rw [if_pos ?_]
    · exact or2_tb.mpr (Or.inr rfl)
    · rw [Bool.and_eq_true, decide_eq_true_iff]
      refine ⟨h2, fun z => ?_⟩
      have h6 : (bw k fb q &&& hangR k fb pr s q).testBit p = true := by
        rw [Nat.testBit_and, h4, bw_tb hf hq, hf.2.2.2.1 q p hq hp, h3]
        simp [hpk]
      rw [z, Nat.zero_testBit] at h6
      cases h6
  have h7 := hangR_up (k := k) (fb := fb) (pr := pr) (s := s) (show q + 1 ≤ k by omega) q h5
  rw [he] at h7
  exact h7
theorem hangN_it {k pr s : Nat} {fb : Nat → Nat} : ∀ n, hangN k fb pr s n = itF (fun t => hangR k fb pr t k) s n := by
  intro n
  induction n with
  | zero => rfl
  | succ n ih => show hangR k fb pr (hangN k fb pr s n) k = _; rw [ih]; rfl
theorem hang_comp {k pr l : Nat} {fb : Nat → Nat} (hf : fbOk k fb) (hpr : ∀ i, pr.testBit i = true → i < k) (hl : pr.testBit l = true) : comp fb pr l (hang k fb pr l) := by
  have hpp : clo fb pr pr := fun p q _ _ _ h _ => h
  obtain ⟨h1, h2, h3⟩ := itF_end (F := fun t => hangR k fb pr t k) k hpr (sub_p2 hl) (p2_tb l) (fun t ht => ⟨hangR_up (n := 0) (Nat.zero_le k), hangR_min hf hpp ht k (Nat.le_refl k)⟩)
  unfold hang
  rw [hangN_it]
  exact ⟨h3, h2, hangR_clo hf hpr h2 h1, fun C hC hCl => itF_min (fun t ht => hangR_min hf hC ht k (Nat.le_refl k)) (sub_p2 hCl) k⟩
/-- the model's rounds -/
def trnQ (fb : Nat → Nat) (A p s : Nat) (n : Nat) : Nat := (List.range n).foldl (fun s q => if s.testBit p && A.testBit q && !(fb p).testBit q then s ||| 2 ^ q else s) s
def trnP (fb : Nat → Nat) (A s : Nat) (n : Nat) : Nat := (List.range n).foldl (fun s p => trnQ fb A p s 6) s
theorem trnQ_s (fb : Nat → Nat) (A p s n : Nat) : trnQ fb A p s (n + 1) = if (trnQ fb A p s n).testBit p && A.testBit n && !(fb p).testBit n then trnQ fb A p s n ||| 2 ^ n else trnQ fb A p s n := by
  unfold trnQ
  rw [List.range_succ, List.foldl_append]; rfl
theorem trnP_s (fb : Nat → Nat) (A s n : Nat) : trnP fb A s (n + 1) = trnQ fb A n (trnP fb A s n) 6 := by
  unfold trnP
  rw [List.range_succ, List.foldl_append]; rfl
theorem trnQ_up {fb : Nat → Nat} {A p s n m : Nat} (h : n ≤ m) : sub (trnQ fb A p s n) (trnQ fb A p s m) := by
  induction m with
  | zero => rw [show n = 0 by omega]; exact fun i hi => hi
  | succ m ih =>
    by_cases e : n = m + 1
    · rw [e]; exact fun i hi => hi
    · refine (ih (by omega)).tr ?_
      rw [trnQ_s]
      split
      · exact fun i hi => or2_tb.mpr (Or.inl hi)
      · exact fun i hi => hi
theorem trnP_up {fb : Nat → Nat} {A s n m : Nat} (h : n ≤ m) : sub (trnP fb A s n) (trnP fb A s m) := by
  induction m with
  | zero => rw [show n = 0 by omega]; exact fun i hi => hi
  | succ m ih =>
    by_cases e : n = m + 1
    · rw [e]; exact fun i hi => hi
    · refine (ih (by omega)).tr ?_
      rw [trnP_s]
      exact trnQ_up (n := 0) (Nat.zero_le 6)
theorem trnQ_min {fb : Nat → Nat} {A p s C : Nat} (hp : p < 6) (hC : clo fb A C) (hs : sub s C) : ∀ n, n ≤ 6 → sub (trnQ fb A p s n) C := by
  intro n
  induction n with
  | zero => intro _; exact hs
  | succ n ih =>
    intro hn
    rw [trnQ_s]
    split
    · rename_i h
      rw [Bool.and_eq_true, Bool.and_eq_true] at h
      intro i hi
      rcases or2_tb.mp hi with hi | rfl
      · exact ih (by omega) i hi
      · exact hC p i hp (by omega) (ih (by omega) p h.1.1) h.1.2 (by simpa using h.2)
    · exact ih (by omega)
theorem trnP_min {fb : Nat → Nat} {A s C : Nat} (hC : clo fb A C) (hs : sub s C) : ∀ n, n ≤ 6 → sub (trnP fb A s n) C := by
  intro n
  induction n with
  | zero => intro _; exact hs
  | succ n ih =>
    intro hn
    rw [trnP_s]
    exact trnQ_min (by omega) hC (ih (by omega)) 6 (Nat.le_refl 6)
theorem trnP_clo {fb : Nat → Nat} {A s : Nat} (he : trnP fb A s 6 = s) : clo fb A s := by
  intro p q hp hq h1 h2 h3
  have h4 : (trnP fb A s p).testBit p = true := trnP_up (n := 0) (Nat.zero_le p) p h1
  have h5 : (trnQ fb A p (trnP fb A s p) q).testBit p = true := trnQ_up (n := 0) (Nat.zero_le q) p h4
  have h6 : (trnQ fb A p (trnP fb A s p) (q + 1)).testBit q = true := by
    rw [trnQ_s, if_pos (by rw [h5, h2, h3]; rfl)]
    exact or2_tb.mpr (Or.inr rfl)
  have h7 := trnQ_up (fb := fb) (A := A) (p := p) (s := trnP fb A s p) (show q + 1 ≤ 6 by omega) q h6
  rw [← trnP_s] at h7
  have h8 := trnP_up (fb := fb) (A := A) (s := s) (show p + 1 ≤ 6 by omega) q h7
  rw [he] at h8
  exact h8
theorem trn_comp {fb : Nat → Nat} {A l : Nat} (hA : ∀ i, A.testBit i = true → i < 6) (hl : A.testBit l = true) : comp fb A l (itF (fun t => trnP fb A t 6) (2 ^ l) 6) := by
  have hpp : clo fb A A := fun p q _ _ _ h _ => h
  obtain ⟨h1, h2, h3⟩ := itF_end (F := fun t => trnP fb A t 6) 6 hA (sub_p2 hl) (p2_tb l) (fun t ht => ⟨trnP_up (n := 0) (Nat.zero_le 6), trnP_min hpp ht 6 (Nat.le_refl 6)⟩)
  exact ⟨h3, h2, trnP_clo h1, fun C hC hCl => itF_min (fun t ht => trnP_min hC ht 6 (Nat.le_refl 6)) (sub_p2 hCl) 6⟩
/-- what is left of the letters when parts have been told -/
def leftP (fb : Nat → Nat) (pr seen A : Nat) : Prop := (∀ i, A.testBit i = (pr.testBit i && !seen.testBit i)) ∧ clo fb pr A
theorem leftP.set {k pr seen A l : Nat} {fb : Nat → Nat} (hf : fbOk k fb) (hpr : ∀ i, pr.testBit i = true → i < k) (h : leftP fb pr seen A) (hl : A.testBit l = true) : itF (fun t => trnP fb A t 6) (2 ^ l) 6 = hang k fb pr l := by
  have hk := hf.2.1
  have hsub : sub A pr := fun i hi => by rw [h.1, Bool.and_eq_true] at hi; exact hi.1
  exact ((trn_comp (fb := fb) (fun i hi => by have := hpr i (hsub i hi); omega) hl).up hsub (fun i hi => by have := hpr i hi; omega) h.2).uniq (hang_comp hf hpr (hsub l hl))
theorem leftP.next {k pr seen A A' l : Nat} {fb : Nat → Nat} (hf : fbOk k fb) (hpr : ∀ i, pr.testBit i = true → i < k) (h : leftP fb pr seen A) (hl : A.testBit l = true) (hA' : ∀ i, A'.testBit i = (A.testBit i && !(hang k fb pr l).testBit i)) : leftP fb pr (seen ||| hang k fb pr l) A' := by
  have hsub : sub A pr := fun i hi => by rw [h.1, Bool.and_eq_true] at hi; exact hi.1
  have hc := hang_comp hf hpr (hsub l hl)
  refine ⟨fun i => ?_, fun p q hp hq h1 h2 h3 => ?_⟩
  · rw [hA', h.1, Nat.testBit_or]
    cases pr.testBit i <;> cases seen.testBit i <;> cases (hang k fb pr l).testBit i <;> rfl
  · rw [hA', Bool.and_eq_true] at h1 ⊢
    have h4 := h.2 p q hp hq h1.1 h2 h3
    refine ⟨h4, ?_⟩
    cases hq2 : (hang k fb pr l).testBit q with
    | false => rfl
    | true =>
      have := hc.2.2.1 q p hq hp hq2 (hsub p h1.1) (by rw [hf.2.2.2.1 q p hq hp]; exact h3)
      rw [this] at h1
      exact absurd h1.2 (by decide)
theorem partsF_k {k pr : Nat} {fb : Nat → Nat} (hpr : ∀ i, pr.testBit i = true → i < k) : ∀ n, partsF k fb pr (k + n) = partsF k fb pr k := by
  intro n
  induction n with
  | zero => rfl
  | succ n ih =>
    rw [show k + (n + 1) = (k + n) + 1 by omega, partsF_s, ih]
    unfold parts1
    rw [show pr.testBit (k + n) = false from Bool.eq_false_iff.mpr (fun z => by have := hpr _ z; omega)]
    rfl
/-! looks against taking off -/
def eqvP (k : Nat) (fb : Nat → Nat) (xs ys : List Nat) : Prop := ∀ p q, p < k → q < k → (fb p).testBit q = false → look xs (2 ^ p ||| 2 ^ q) = look ys (2 ^ p ||| 2 ^ q)
theorem eqvB_iff {k : Nat} {fb : Nat → Nat} {xs ys : List Nat} (hf : fbOk k fb) : eqvB k fb xs ys = true ↔ eqvP k fb xs ys := by
  have hk := hf.2.1
  constructor
  · intro h p q hp hq hn
    have key : ∀ p q, p ≤ q → p < k → q < k → (fb p).testBit q = false → look xs (2 ^ p ||| 2 ^ q) = look ys (2 ^ p ||| 2 ^ q) := fun p q hle hp hq hn => by
      unfold eqvB at h
      have h1 := List.all_eq_true.mp (List.all_eq_true.mp h p (List.mem_range.mpr hp)) q (List.mem_range.mpr hq)
      refine Classical.byContradiction (fun z => ?_)
      unfold unl at h1
      rw [hn, decide_eq_true hle, decide_eq_true z] at h1
      exact absurd h1 (by decide)
    rcases Nat.le_total p q with hle | hle
    · exact key p q hle hp hq hn
    · have := key q p hle hq hp (by rw [hf.2.2.2.1 q p (by omega) (by omega)]; exact hn)
      rw [Nat.or_comm (2 ^ p)]
      exact this
  · intro h
    refine eqvB_t (fun p q hle hq => ?_)
    unfold unl
    cases hn : (fb p).testBit q with
    | true => rfl
    | false =>
      rw [h p q (by omega) hq hn]
      simp
theorem look_c {y s : Nat} {ys : List Nat} : look (y :: ys) s = if s.testBit y = true then y :: look ys s else look ys s := by
  unfold look
  rw [List.filter_cons]
theorem erase_td {xs : List Nat} {i : Nat} (h : i < xs.length) : xs = xs.take i ++ xs[i] :: xs.drop (i + 1) ∧ xs.eraseIdx i = xs.take i ++ xs.drop (i + 1) := by
  refine ⟨?_, List.eraseIdx_eq_take_drop_succ ..⟩
  rw [← drop_c h, List.take_append_drop]
theorem front_none {B : Nat → Nat} {l : Nat} : ∀ (xs : List Nat), front B xs l = none → (∀ x ∈ xs, (B l).testBit x = false) ∨ ∃ pre x post, xs = pre ++ x :: post ∧ (∀ z ∈ pre, (B l).testBit z = false) ∧ (B l).testBit x = true ∧ x ≠ l
  | [], _ => Or.inl (fun x hx => by cases hx)
  | x :: xs, h => by
    unfold front at h
    by_cases hx : (B l).testBit x = true
    · rw [if_pos hx] at h
      refine Or.inr ⟨[], x, xs, rfl, fun z hz => absurd hz List.not_mem_nil, hx, fun e => by rw [if_pos e] at h; cases h⟩
    · rw [if_neg hx] at h
      have h2 : front B xs l = none := by
        cases hf : front B xs l with
        | none => rfl
        | some i => rw [hf] at h; cases h
      rcases front_none xs h2 with h3 | ⟨pre, z, post, e, h4, h5⟩
      · exact Or.inl (fun y hy => by
          rcases List.mem_cons.mp hy with rfl | hy
          · simpa using hx
          · exact h3 y hy)
      · refine Or.inr ⟨x :: pre, z, post, by rw [e]; rfl, fun y hy => ?_, h5⟩
        rcases List.mem_cons.mp hy with rfl | hy
        · simpa using hx
        · exact h4 y hy
/-- dependent letters do not stand ahead of a front place -/
theorem look_pre {k y p q : Nat} {fb : Nat → Nat} {pre : List Nat} (hf : fbOk k fb) (hy : y < k) (hp : p < k) (hq : q < k) (hn : (fb p).testBit q = false) (hpre : ∀ z ∈ pre, (bw k fb y).testBit z = false) (hyp : y = p ∨ y = q) : look pre (2 ^ p ||| 2 ^ q) = [] := by
  have hk := hf.2.1
  refine look_no (fun z hz => ?_)
  rw [pq_tb]
  refine decide_eq_false (fun hzz => ?_)
  have h1 := hpre z hz
  have hz6 : z < k := by omega
  rw [bw_tb hf (by omega), decide_eq_true hz6, Bool.true_and] at h1
  have h2 : (fb y).testBit z = false := by
    rcases hyp with rfl | rfl <;> rcases hzz with rfl | rfl
    · exact hf.2.2.2.2 _ (by omega)
    · exact hn
    · rw [hf.2.2.2.1 _ _ (by omega) (by omega)]; exact hn
    · exact hf.2.2.2.2 _ (by omega)
  rw [h2] at h1
  cases h1
theorem eqvP_front {k y i : Nat} {fb : Nat → Nat} {xs ys : List Nat} (hf : fbOk k fb) (hy : y < k) (hfr : front (bw k fb) xs y = some i) : eqvP k fb xs (y :: ys) ↔ eqvP k fb (xs.eraseIdx i) ys := by
  obtain ⟨h1, h2, h3, h4⟩ := front_some xs i hfr
  obtain ⟨e1, e2⟩ := erase_td h1
  rw [h2] at e1
  have hpre : ∀ z ∈ xs.take i, (bw k fb y).testBit z = false := fun z hz => by
    obtain ⟨q, hq, rfl⟩ := List.getElem_of_mem hz
    rw [List.length_take] at hq
    rw [List.getElem_take]
    exact h4 q (by omega)
  have key : ∀ p q, p < k → q < k → (fb p).testBit q = false → (look xs (2 ^ p ||| 2 ^ q) = look (y :: ys) (2 ^ p ||| 2 ^ q) ↔ look (xs.eraseIdx i) (2 ^ p ||| 2 ^ q) = look ys (2 ^ p ||| 2 ^ q)) := fun p q hp hq hn => by
    rw [e2]
    conv => lhs; rw [e1]
    rw [look_app, look_app, look_c, look_c]
    by_cases hyp : y = p ∨ y = q
    · rw [look_pre hf hy hp hq hn hpre hyp]
      have ht : (2 ^ p ||| 2 ^ q).testBit y = true := by rw [pq_tb]; exact decide_eq_true hyp
      rw [if_pos ht, if_pos ht]
      simp
    · have ht : ¬ (2 ^ p ||| 2 ^ q).testBit y = true := by rw [pq_tb]; simpa using hyp
      rw [if_neg ht, if_neg ht]
  constructor
  · intro h p q hp hq hn; exact (key p q hp hq hn).mp (h p q hp hq hn)
  · intro h p q hp hq hn; exact (key p q hp hq hn).mpr (h p q hp hq hn)
theorem eqvP_some {k y : Nat} {fb : Nat → Nat} {xs ys : List Nat} (hf : fbOk k fb) (hx : ∀ x ∈ xs, x < k) (hy : y < k) (h : eqvP k fb xs (y :: ys)) : ∃ i, front (bw k fb) xs y = some i := by
  have hk := hf.2.1
  cases hfr : front (bw k fb) xs y with
  | some i => exact ⟨i, rfl⟩
  | none =>
    exfalso
    have hyy := hf.2.2.2.2 y (by omega)
    rcases front_none xs hfr with h1 | ⟨pre, z, post, e, h2, h3, h4⟩
    · have h5 := h y y hy hy hyy
      rw [look_no (ys := xs), look_c, if_pos (by rw [pq_tb]; simp)] at h5
      · cases h5
      · intro z hz
        rw [pq_tb]
        refine decide_eq_false (fun e => ?_)
        have e2 : z = y := e.elim id id
        have h6 := h1 z hz
        rw [e2, bw_tb hf (by omega), hyy, decide_eq_true hy] at h6
        cases h6
    · have hz : z < k := hx z (by rw [e]; simp)
      have hyz : (fb y).testBit z = false := by
        rw [bw_tb hf (by omega), Bool.and_eq_true] at h3
        simpa using h3.2
      have h5 := h y z hy hz hyz
      rw [e, look_app, look_pre hf hy hy hz hyz h2 (Or.inl rfl), List.nil_append, look_c, if_pos (by rw [pq_tb]; simp), look_c, if_pos (by rw [pq_tb]; simp)] at h5
      exact h4 (List.cons.inj h5).1
theorem eqv_tk {k : Nat} {fb : Nat → Nat} (hf : fbOk k fb) : ∀ (ys xs : List Nat), (∀ x ∈ xs, x < k) → (∀ y ∈ ys, y < k) → (eqvP k fb xs ys ↔ tkL (bw k fb) xs ys = some [])
  | [], xs, hx, _ => by
    constructor
    · intro h
      cases xs with
      | nil => rfl
      | cons x t =>
        exfalso
        have hxk := hx x List.mem_cons_self
        have hk := hf.2.1
        have := h x x hxk hxk (hf.2.2.2.2 x (by omega))
        rw [look_c, if_pos (by rw [pq_tb]; simp)] at this
        cases this
    · intro h
      cases h
      exact fun _ _ _ _ _ => rfl
  | y :: ys, xs, hx, hy => by
    rw [tkL_s]
    cases hfr : front (bw k fb) xs y with
    | none =>
      constructor
      · intro h
        obtain ⟨i, hi⟩ := eqvP_some hf hx (hy y List.mem_cons_self) h
        rw [hfr] at hi; cases hi
      · intro h; cases h
    | some i =>
      rw [eqvP_front hf (hy y List.mem_cons_self) hfr]
      exact eqv_tk hf ys (xs.eraseIdx i) (fun x hx2 => hx x (List.mem_of_mem_eraseIdx hx2)) (fun z hz => hy z (List.mem_cons_of_mem _ hz))
theorem tkL_len {B : Nat → Nat} : ∀ (ys xs zs : List Nat), tkL B xs ys = some zs → zs.length + ys.length = xs.length
  | [], xs, zs, h => by cases h; rfl
  | y :: ys, xs, zs, h => by
    rw [tkL_s] at h
    cases hf : front B xs y with
    | none => rw [hf] at h; cases h
    | some i =>
      rw [hf] at h
      have h1 := tkL_len ys _ zs h
      have h2 := front_lt hf
      rw [List.length_eraseIdx_of_lt h2] at h1
      rw [List.length_cons]; omega
