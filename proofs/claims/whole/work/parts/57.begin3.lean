/-! the law's walk over beginnings: numbers in base 25, what has gone on, what is complete -/
def khT (f : Nat → Nat) : Nat → Nat
  | 0 => f 0 + 25 * (f 1 + 25 * (f 2 + 25 * (f 3 + 25 * (f 4 + 25 * f 5))))
  | 1 => f 1 + 25 * (f 2 + 25 * (f 3 + 25 * (f 4 + 25 * f 5)))
  | 2 => f 2 + 25 * (f 3 + 25 * (f 4 + 25 * f 5))
  | 3 => f 3 + 25 * (f 4 + 25 * f 5)
  | 4 => f 4 + 25 * f 5
  | 5 => f 5
  | _ => 0
theorem khT_step {f : Nat → Nat} : ∀ l, l < 6 → f l ≤ 24 → khT f l % 25 = f l ∧ khT f l / 25 = khT f (l + 1)
  | 0, _, _ => by simp only [khT]; omega
  | 1, _, _ => by simp only [khT]; omega
  | 2, _, _ => by simp only [khT]; omega
  | 3, _, _ => by simp only [khT]; omega
  | 4, _, _ => by simp only [khT]; omega
  | 5, _, _ => by simp only [khT]; omega
  | n + 6, h, _ => by omega
theorem khT_inc {f : Nat → Nat} : ∀ p, p < 6 → khT (incV f p) 0 = khT f 0 + 25 ^ p
  | 0, _ => by simp [khT, incV]; omega
  | 1, _ => by simp [khT, incV]; omega
  | 2, _ => by simp [khT, incV]; omega
  | 3, _ => by simp [khT, incV]; omega
  | 4, _ => by simp [khT, incV]; omega
  | 5, _ => by simp [khT, incV]; omega
  | n + 6, h => by omega
theorem khT_lt {f : Nat → Nat} (h : ∀ q, q < 6 → f q ≤ 24) : ∀ l, l ≤ 6 → khT f l < 244140625
  | 0, _ => by have := h 0 (by decide); have := h 1 (by decide); have := h 2 (by decide); have := h 3 (by decide); have := h 4 (by decide); have := h 5 (by decide); simp only [khT]; omega
  | 1, _ => by have := h 1 (by decide); have := h 2 (by decide); have := h 3 (by decide); have := h 4 (by decide); have := h 5 (by decide); simp only [khT]; omega
  | 2, _ => by have := h 2 (by decide); have := h 3 (by decide); have := h 4 (by decide); have := h 5 (by decide); simp only [khT]; omega
  | 3, _ => by have := h 3 (by decide); have := h 4 (by decide); have := h 5 (by decide); simp only [khT]; omega
  | 4, _ => by have := h 4 (by decide); have := h 5 (by decide); simp only [khT]; omega
  | 5, _ => by have := h 5 (by decide); simp only [khT]; omega
  | 6, _ => by simp only [khT]; omega
  | n + 7, h => by omega
theorem khT_inj {f g : Nat → Nat} (hf : ∀ q, q < 6 → f q ≤ 24) (hg : ∀ q, q < 6 → g q ≤ 24) (h : khT f 0 = khT g 0) : ∀ q, q < 6 → f q = g q := by
  have h1 : ∀ l, l ≤ 6 → khT f l = khT g l := by
    intro l
    induction l with
    | zero => intro _; exact h
    | succ l ih =>
      intro hl
      rw [← (khT_step l (by omega) (hf l (by omega))).2, ← (khT_step l (by omega) (hg l (by omega))).2, ih (by omega)]
  intro q hq
  rw [← (khT_step q hq (hf q hq)).1, ← (khT_step q hq (hg q hq)).1, h1 q (by omega)]
theorem dig_uniq {c : Nat → Nat} {t u : Nat} (ht : t < strd c 6) (hu : u < strd c 6) (h : ∀ q, q < 6 → dig c t q = dig c u q) : t = u := by
  have h1 : ∀ p, p ≤ 6 → t % strd c p = u % strd c p := by
    intro p
    induction p with
    | zero => intro _; show t % 1 = u % 1; rw [Nat.mod_one, Nat.mod_one]
    | succ p ih => intro hp; rw [mod_strd_s, mod_strd_s, ih (by omega), h p (by omega)]
  have := h1 6 (Nat.le_refl 6)
  rwa [Nat.mod_eq_of_lt ht, Nat.mod_eq_of_lt hu] at this
theorem dig_full (c : Nat → Nat) : ∀ q, q < 6 → dig c (strd c 6 - 1) q = c q := by
  have hp := strd_pos c
  have h1 : ∀ p, p ≤ 6 → (strd c 6 - 1) % strd c p + 1 = strd c p := by
    intro p hp6
    obtain ⟨m, hm⟩ := strd_dvd c hp6
    have h6 := hp 6
    have hpp := hp p
    rw [hm] at h6 ⊢
    have hm0 : 0 < m := Nat.pos_of_ne_zero (fun z => by rw [z] at h6; simp at h6)
    obtain ⟨m', rfl⟩ : ∃ m', m = m' + 1 := ⟨m - 1, by omega⟩
    rw [Nat.mul_succ, show strd c p * m' + strd c p - 1 = strd c p * m' + (strd c p - 1) by omega, Nat.mul_add_mod, Nat.mod_eq_of_lt (by omega)]
    omega
  intro q hq
  have a1 := h1 q (by omega)
  have a2 := h1 (q + 1) (by omega)
  have hs : strd c (q + 1) = strd c q * (c q + 1) := rfl
  rw [mod_strd_s, hs, Nat.mul_succ] at a2
  have hpq := hp q
  have a3 : strd c q * dig c (strd c 6 - 1) q = strd c q * c q := by omega
  exact Nat.eq_of_mul_eq_mul_left hpq a3
def lev (c : Nat → Nat) (u : Nat) : Nat := sum6 (dig c u)
theorem lev_full {c : Nat → Nat} {u : Nat} (hu : u < strd c 6) (h : sum6 c ≤ lev c u) : u = strd c 6 - 1 := by
  have hp := strd_pos c 6
  refine dig_uniq hu (by omega) (fun q hq => ?_)
  rw [dig_full c q hq]
  have a := fun q => dig_le c u q
  unfold lev sum6 at h
  have a0 := a 0
  have a1 := a 1
  have a2 := a 2
  have a3 := a 3
  have a4 := a 4
  have a5 := a 5
  rcases (show q = 0 ∨ q = 1 ∨ q = 2 ∨ q = 3 ∨ q = 4 ∨ q = 5 by omega) with rfl | rfl | rfl | rfl | rfl | rfl <;> omega
theorem lev_0 {c : Nat → Nat} {u : Nat} (hu : u < strd c 6) (h : lev c u = 0) : u = 0 := by
  unfold lev sum6 at h
  have := dig_zero (c := c) (t := u) 6 (fun q hq => by
    rcases (show q = 0 ∨ q = 1 ∨ q = 2 ∨ q = 3 ∨ q = 4 ∨ q = 5 by omega) with rfl | rfl | rfl | rfl | rfl | rfl <;> omega)
  rwa [Nat.mod_eq_of_lt hu] at this
theorem sum6_zero {f : Nat → Nat} (h : ∀ q, q < 6 → f q = 0) : sum6 f = 0 := by
  unfold sum6
  rw [h 0 (by decide), h 1 (by decide), h 2 (by decide), h 3 (by decide), h 4 (by decide), h 5 (by decide)]
theorem sum6_ge {f : Nat → Nat} {p : Nat} (hp : p < 6) : f p ≤ sum6 f := by
  unfold sum6
  rcases (show p = 0 ∨ p = 1 ∨ p = 2 ∨ p = 3 ∨ p = 4 ∨ p = 5 by omega) with rfl | rfl | rfl | rfl | rfl | rfl <;> omega
/-- what has come to number i, when the steps told by D have been gone -/
def wayD (B : Nat → Nat) (xs : List Nat) (c : Nat → Nat) (D : Nat → Nat → Bool) (i : Nat) : Nat := (if i = 0 then 1 else 0) + sum6 (fun q => if 0 < dig c i q ∧ D q (i - strd c q) = true ∧ opn B xs (decV (dig c i) q) q = true then ways B xs (decV (dig c i) q) else 0)
theorem wayD_cg {B : Nat → Nat} {xs : List Nat} {c : Nat → Nat} {D D' : Nat → Nat → Bool} {i : Nat} (h : ∀ q, q < 6 → ∀ u, D q u = D' q u) : wayD B xs c D i = wayD B xs c D' i := by
  unfold wayD
  congr 1
  exact sum6_le (fun q hq => by rw [h q hq])
theorem wayD_self {B : Nat → Nat} {xs : List Nat} {c : Nat → Nat} {D : Nat → Nat → Bool} {t : Nat} (ht : t < strd c 6) (hD : ∀ q, q < 6 → 0 < dig c t q → opn B xs (decV (dig c t) q) q = true → 0 < ways B xs (decV (dig c t) q) → D q (t - strd c q) = true) : wayD B xs c D t = ways B xs (dig c t) := by
  by_cases e : t = 0
  · subst e
    rw [ways_0 (by unfold sum6; simp [dig_0])]
    unfold wayD
    rw [if_pos rfl, show sum6 _ = 0 from ?_]
    unfold sum6
    simp [dig_0]
  · have hpos : 0 < sum6 (dig c t) := Nat.pos_of_ne_zero (fun z => e (lev_0 ht z))
    rw [ways_s hpos]
    unfold wayD
    rw [if_neg e, Nat.zero_add]
    refine sum6_le (fun q hq => ?_)
    by_cases h : 0 < dig c t q ∧ opn B xs (decV (dig c t) q) q = true
    · rw [if_pos h]
      by_cases hw : 0 < ways B xs (decV (dig c t) q)
      · rw [if_pos ⟨h.1, hD q hq h.1 h.2 hw, h.2⟩]
      · rw [show ways B xs (decV (dig c t) q) = 0 by omega]; exact ite_self 0
    · rw [if_neg h, if_neg (fun z => h ⟨z.1, z.2.2⟩)]
theorem wayD_0 {B : Nat → Nat} {xs : List Nat} {c : Nat → Nat} {D : Nat → Nat → Bool} {t : Nat} (ht : t ≠ 0) (hD : ∀ q, q < 6 → 0 < dig c t q → opn B xs (decV (dig c t) q) q = true → D q (t - strd c q) = false) : wayD B xs c D t = 0 := by
  unfold wayD
  rw [if_neg ht, Nat.zero_add]
  exact sum6_zero (fun q hq => if_neg (fun z => by rw [hD q hq z.1 z.2.2] at z; exact absurd z.2.1 (by decide)))
theorem wayD_s {B : Nat → Nat} {xs : List Nat} {c : Nat → Nat} {D D' : Nat → Nat → Bool} {t p i : Nat} (hc : c = cntV xs) (hp : p < 6) (h0 : D p t = false) (hD : ∀ q u, D' q u = (D q u || (decide (q = p) && decide (u = t)))) : wayD B xs c D' i = wayD B xs c D i + (if i = t + strd c p ∧ opn B xs (dig c t) p = true then ways B xs (dig c t) else 0) := by
  unfold wayD
  rw [Nat.add_assoc]
  congr 1
  refine sum6_add hp ?_ (fun q hq hne => ?_)
  · by_cases e : i = t + strd c p ∧ opn B xs (dig c t) p = true
    · have hlt : dig c t p < c p := by rw [hc]; exact opn_lt (B := B) (v := dig (cntV xs) t) (by rw [← hc]; exact e.2)
      have hpos : 0 < dig c i p := by rw [e.1, dig_add hlt p, if_pos rfl]; omega
      have hi : i - strd c p = t := by omega
      have hdec : decV (dig c i) p = dig c t := by rw [dig_dec hpos, hi]
      rw [if_pos e, if_pos ⟨hpos, by rw [hD, hi]; simp, by rw [hdec]; exact e.2⟩, if_neg (fun z => by rw [hi, h0] at z; exact absurd z.2.1 (by decide)), hdec]
      omega
    · rw [if_neg e, Nat.add_zero]
      by_cases g : 0 < dig c i p ∧ D p (i - strd c p) = true ∧ opn B xs (decV (dig c i) p) p = true
      · rw [if_pos g, if_pos ⟨g.1, by rw [hD, g.2.1]; rfl, g.2.2⟩]
      · rw [if_neg g, if_neg]
        rintro ⟨z1, z2, z3⟩
        rw [hD, Bool.or_eq_true] at z2
        rcases z2 with z2 | z2
        · exact g ⟨z1, z2, z3⟩
        · rw [Bool.and_eq_true, decide_eq_true_iff, decide_eq_true_iff] at z2
          have hs := (dig_sub z1).1
          refine e ⟨by omega, ?_⟩
          rw [dig_dec z1, z2.2] at z3
          exact z3
  · rw [hD, show decide (q = p) = false from decide_eq_false hne]
    simp
/-! the walk -/
def edgeD (ms : List Nat) (a l : Nat) (q u : Nat) : Bool := decide (u ∈ ms.take a) || (decide (ms[a]? = some u) && decide (q < l))
def bfs (B : Nat → Nat) (xs : List Nat) (c : Nat → Nat) (ms : List Nat) (a l : Nat) : Prop :=
  ms.Nodup ∧ (∀ u ∈ ms, u < strd c 6 ∧ 0 < ways B xs (dig c u)) ∧ ms[0]? = some 0 ∧ (∀ i j u v : Nat, ms[i]? = some u → ms[j]? = some v → i ≤ j → lev c u ≤ lev c v) ∧ (∀ v : Nat, ms[a]? = some v → ∀ u ∈ ms, lev c u ≤ lev c v + 1) ∧ (∀ i v : Nat, ms[i]? = some v → i < a → ∀ q, q < 6 → opn B xs (dig c v) q = true → v + strd c q ∈ ms) ∧ (∀ v : Nat, ms[a]? = some v → ∀ q, q < l → opn B xs (dig c v) q = true → v + strd c q ∈ ms)
section BFS
variable {B : Nat → Nat} {xs : List Nat} {c : Nat → Nat} {ms : List Nat} {a l t : Nat}
theorem ways_st (hc : c = cntV xs) {p : Nat} (hp : p < 6) (ho : opn B xs (dig c t) p = true) (hw : 0 < ways B xs (dig c t)) (ht : t < strd c 6) : t + strd c p < strd c 6 ∧ 0 < ways B xs (dig c (t + strd c p)) ∧ lev c (t + strd c p) = lev c t + 1 := by
  have hlt : dig c t p < c p := by rw [hc]; exact opn_lt (B := B) (v := dig (cntV xs) t) (by rw [← hc]; exact ho)
  have e := dig_inc hlt
  have hl : lev c (t + strd c p) = lev c t + 1 := by unfold lev; rw [e, sum6_inc hp]
  refine ⟨dig_lt_size hp hlt ht, ?_, hl⟩
  rw [ways_s (by unfold lev at hl; omega), e]
  refine Nat.lt_of_lt_of_le ?_ (sum6_ge hp)
  show 0 < (if _ then _ else _)
  rw [dec_inc, if_pos ⟨by unfold incV; rw [if_pos rfl]; omega, ho⟩]
  exact hw
theorem ways_pre (ht : t < strd c 6) (hw : 0 < ways B xs (dig c t)) (hl : 0 < lev c t) : ∃ q, q < 6 ∧ 0 < dig c t q ∧ opn B xs (decV (dig c t) q) q = true ∧ 0 < ways B xs (decV (dig c t) q) := by
  rw [ways_s hl] at hw
  refine Classical.byContradiction (fun z => ?_)
  rw [sum6_zero (fun q hq => ?_)] at hw
  · exact Nat.lt_irrefl _ hw
  · split
    · rename_i h
      exact Nat.eq_zero_of_not_pos (fun hp => z ⟨q, hq, h.1, h.2, hp⟩)
    · rfl
theorem pre_info {q : Nat} (hq : q < 6) (h : 0 < dig c t q) : decV (dig c t) q = dig c (t - strd c q) ∧ strd c q ≤ t ∧ lev c (t - strd c q) + 1 = lev c t := by
  refine ⟨dig_dec h, (dig_sub h).1, ?_⟩
  unfold lev
  rw [← dig_dec h]
  exact sum6_dec hq h
theorem bfs.complete (h : bfs B xs c ms a l) : ∀ n u, u < strd c 6 → 0 < ways B xs (dig c u) → lev c u = n → (∀ v, ms[a]? = some v → n ≤ lev c v) → u ∈ ms := by
  obtain ⟨h1, h2, h3, h4, h5, h6, h7⟩ := h
  intro n
  induction n with
  | zero =>
    intro u hu hw hl _
    rw [lev_0 hu hl]
    exact List.mem_of_getElem? h3
  | succ n ih =>
    intro u hu hw hl hb
    obtain ⟨q, hq, p1, p2, p3⟩ := ways_pre hu hw (by omega)
    obtain ⟨i1, i2, i3⟩ := pre_info hq p1
    rw [i1] at p2 p3
    have hm := ih (u - strd c q) (by omega) p3 (by omega) (fun v hv => by have := hb v hv; omega)
    obtain ⟨j, hj, e⟩ := List.getElem_of_mem hm
    have ej : ms[j]? = some (u - strd c q) := by rw [List.getElem?_eq_getElem hj, e]
    have hja : j < a := Nat.not_le.mp (fun z => by
      have : a < ms.length := by omega
      have hv := List.getElem?_eq_getElem this
      have h8 := hb _ hv
      have h9 := h4 a j _ _ hv ej z
      omega)
    have := h6 j _ ej hja q hq p2
    rwa [show u - strd c q + strd c q = u by omega] at this
theorem bfs.self (h : bfs B xs c ms a l) {v : Nat} (hv : ms[a]? = some v) (l' : Nat) : wayD B xs c (edgeD ms a l') v = ways B xs (dig c v) := by
  have hmem := List.mem_of_getElem? hv
  have h2 := h.2.1 v hmem
  refine wayD_self h2.1 (fun q hq p1 p2 p3 => ?_)
  obtain ⟨i1, i2, i3⟩ := pre_info hq p1
  rw [i1] at p2 p3
  have hm := h.complete _ (v - strd c q) (by have := h2.1; omega) p3 rfl (fun v' hv' => by rw [hv] at hv'; cases hv'; omega)
  obtain ⟨j, hj, e⟩ := List.getElem_of_mem hm
  have ej : ms[j]? = some (v - strd c q) := by rw [List.getElem?_eq_getElem hj, e]
  have hja : j < a := Nat.not_le.mp (fun z => by
    have h9 := h.2.2.2.1 a j _ _ hv ej z
    omega)
  unfold edgeD
  rw [show decide (v - strd c q ∈ ms.take a) = true from decide_eq_true (List.mem_of_getElem? (i := j) (by rw [List.getElem?_take, if_pos hja]; exact ej))]
  rfl
theorem nodup_take (h : ms.Nodup) {v : Nat} (hv : ms[a]? = some v) : v ∉ ms.take a := fun z => by
  rw [← List.take_append_drop a ms] at h
  refine (List.nodup_append.mp h).2.2 v z v (List.mem_of_getElem? (i := 0) ?_) rfl
  rw [List.getElem?_drop, Nat.add_zero]
  exact hv
theorem nodup_ix (h : ms.Nodup) {i j v : Nat} (hi : ms[i]? = some v) (hj : ms[j]? = some v) : i = j := by
  rcases Nat.lt_trichotomy i j with e | e | e
  · exact absurd (List.mem_of_getElem? (i := i) (by rw [List.getElem?_take, if_pos e]; exact hi)) (nodup_take h hj)
  · exact e
  · exact absurd (List.mem_of_getElem? (i := j) (by rw [List.getElem?_take, if_pos e]; exact hj)) (nodup_take h hi)
theorem edge_new (h : bfs B xs c ms a l) {v : Nat} (hv : ms[a]? = some v) : edgeD ms a l l v = false := by
  unfold edgeD
  rw [show decide (v ∈ ms.take a) = false from decide_eq_false (nodup_take h.1 hv)]
  simp
theorem edge_s {v : Nat} (hv : ms[a]? = some v) (q u : Nat) : edgeD ms a (l + 1) q u = (edgeD ms a l q u || (decide (q = l) && decide (u = v))) := by
  unfold edgeD
  rw [hv]
  by_cases e1 : u = v
  · subst e1
    by_cases e2 : q < l
    · have e3 : q < l + 1 := by omega
      have e4 : ¬ q = l := by omega
      simp [e2, e3, e4]
    · by_cases e3 : q = l
      · subst e3; simp
      · have e4 : ¬ q < l + 1 := by omega
        simp [e2, e3, e4]
  · have e2 : ¬ v = u := fun z => e1 z.symm
    simp [e1, e2]
theorem edge_up {v : Nat} (hv : ms[a]? = some v) {q : Nat} (hq : q < 6) (u : Nat) : edgeD ms (a + 1) 0 q u = edgeD ms a 6 q u := by
  have ha : a < ms.length := (List.getElem?_eq_some_iff.mp hv).1
  have e2 : ms[a] = v := (List.getElem?_eq_some_iff.mp hv).2
  unfold edgeD
  rw [take_s ha, e2, hv]
  have : decide (u ∈ ms.take a ++ [v]) = (decide (u ∈ ms.take a) || decide (v = u)) := by
    simp [List.mem_append, eq_comm]
  rw [this]
  simp [hq]
theorem edge_app {v w : Nat} (hv : ms[a]? = some v) (q u : Nat) : edgeD (ms ++ [w]) a l q u = edgeD ms a l q u := by
  have ha : a < ms.length := (List.getElem?_eq_some_iff.mp hv).1
  unfold edgeD
  rw [List.take_append_of_le_length (by omega), List.getElem?_append_left ha]
theorem bfs.done (h : bfs B xs c ms a 6) {v : Nat} (hv : ms[a]? = some v) : bfs B xs c ms (a + 1) 0 := by
  obtain ⟨h1, h2, h3, h4, h5, h6, h7⟩ := h
  refine ⟨h1, h2, h3, h4, fun w hw u hu => ?_, fun i w hw hi q hq ho => ?_, fun w hw q hq => absurd hq (Nat.not_lt_zero q)⟩
  · have a1 := h5 v hv u hu
    have a2 := h4 a (a + 1) v w hv hw (by omega)
    omega
  · by_cases e : i = a
    · subst e
      rw [hv] at hw
      cases hw
      exact h7 v hv q hq ho
    · exact h6 i w hw (by omega) q hq ho
theorem bfs.no (h : bfs B xs c ms a l) {v : Nat} (hv : ms[a]? = some v) (ho : opn B xs (dig c v) l = true → v + strd c l ∈ ms) : bfs B xs c ms a (l + 1) := by
  obtain ⟨h1, h2, h3, h4, h5, h6, h7⟩ := h
  refine ⟨h1, h2, h3, h4, h5, h6, fun w hw q hq ho2 => ?_⟩
  by_cases e : q = l
  · subst e
    rw [hv] at hw
    cases hw
    exact ho ho2
  · exact h7 w hw q (by omega) ho2
theorem bfs.new (hc : c = cntV xs) (h : bfs B xs c ms a l) (hl : l < 6) {v : Nat} (hv : ms[a]? = some v) (ho : opn B xs (dig c v) l = true) (hn : v + strd c l ∉ ms) : bfs B xs c (ms ++ [v + strd c l]) a (l + 1) := by
  obtain ⟨h1, h2, h3, h4, h5, h6, h7⟩ := h
  have ha : a < ms.length := (List.getElem?_eq_some_iff.mp hv).1
  obtain ⟨g1, g2, g3⟩ := ways_st hc hl ho (h2 v (List.mem_of_getElem? hv)).2 (h2 v (List.mem_of_getElem? hv)).1
  have hv2 : (ms ++ [v + strd c l])[a]? = some v := by rw [List.getElem?_append_left ha]; exact hv
  have hold : ∀ i w, (ms ++ [v + strd c l])[i]? = some w → (ms[i]? = some w ∨ (i = ms.length ∧ w = v + strd c l)) := fun i w hw => by
    by_cases e : i < ms.length
    · rw [List.getElem?_append_left e] at hw; exact Or.inl hw
    · have := (List.getElem?_eq_some_iff.mp hw).1
      rw [List.length_append, List.length_singleton] at this
      have e2 : i = ms.length := by omega
      subst e2
      rw [List.getElem?_append_right (Nat.le_refl _), Nat.sub_self] at hw
      cases hw
      exact Or.inr ⟨rfl, rfl⟩
  refine ⟨?_, fun u hu => ?_, by rw [List.getElem?_append_left (by omega)]; exact h3, fun i j u w hu hw hij => ?_, fun w hw u hu => ?_, fun i w hw hi q hq ho2 => ?_, fun w hw q hq ho2 => ?_⟩
  · rw [List.nodup_append]
    refine ⟨h1, by simp, fun x hx y hy => ?_⟩
    rw [List.mem_singleton.mp hy]
    exact fun e => hn (e ▸ hx)
  · rcases List.mem_append.mp hu with hu | hu
    · exact h2 u hu
    · rw [List.mem_singleton.mp hu]; exact ⟨g1, g2⟩
  · rcases hold j w hw with hw | ⟨e, rfl⟩
    · rcases hold i u hu with hu | ⟨e, rfl⟩
      · exact h4 i j u w hu hw hij
      · have := (List.getElem?_eq_some_iff.mp hw).1; omega
    · rcases hold i u hu with hu | ⟨e2, rfl⟩
      · have := h5 v hv u (List.mem_of_getElem? hu); omega
      · exact Nat.le_refl _
  · rw [hv2] at hw
    cases hw
    rcases List.mem_append.mp hu with hu | hu
    · exact h5 v hv u hu
    · rw [List.mem_singleton.mp hu]; omega
  · rcases hold i w hw with hw | ⟨e, -⟩
    · exact List.mem_append_left _ (h6 i w hw hi q hq ho2)
    · omega
  · rw [hv2] at hw
    cases hw
    by_cases e : q = l
    · subst e; exact List.mem_append_right _ (List.mem_singleton.mpr rfl)
    · exact List.mem_append_left _ (h7 v hv q (by omega) ho2)
theorem bfs.fresh (h : bfs B xs c ms a l) {v : Nat} (hv : ms[a]? = some v) (hn : v + strd c l ∉ ms) : wayD B xs c (edgeD ms a l) (v + strd c l) = 0 := by
  have hs := strd_pos c l
  refine wayD_0 (by omega) (fun q hq p1 p2 => ?_)
  obtain ⟨i1, i2, i3⟩ := pre_info hq p1
  rw [i1] at p2
  cases hE : edgeD ms a l q (v + strd c l - strd c q) with
  | false => rfl
  | true =>
    exfalso
    unfold edgeD at hE
    rw [Bool.or_eq_true, Bool.and_eq_true, decide_eq_true_iff, decide_eq_true_iff, decide_eq_true_iff] at hE
    rcases hE with hE | ⟨hE, hq2⟩
    · obtain ⟨j, hj, e⟩ := List.getElem_of_mem hE
      rw [List.length_take] at hj
      rw [List.getElem_take] at e
      have := h.2.2.2.2.2.1 j _ (by rw [List.getElem?_eq_getElem (by omega), e]) (by omega) q hq p2
      rw [show v + strd c l - strd c q + strd c q = v + strd c l by omega] at this
      exact hn this
    · have := h.2.2.2.2.2.2 _ hE q hq2 p2
      rw [show v + strd c l - strd c q + strd c q = v + strd c l by omega] at this
      exact hn this
theorem bfs.start : bfs B xs c [0] 0 0 := by
  refine ⟨by simp, fun u hu => ?_, rfl, fun i j u v hu hv _ => ?_, fun v hv u hu => ?_, fun i v _ hi => absurd hi (Nat.not_lt_zero i), fun v _ q hq => absurd hq (Nat.not_lt_zero q)⟩
  · rw [List.mem_singleton.mp hu]
    exact ⟨strd_pos c 6, by rw [ways_0 (by unfold sum6; simp [dig_0])]; exact Nat.one_pos⟩
  · have e1 := List.mem_singleton.mp (List.mem_of_getElem? hu)
    have e2 := List.mem_singleton.mp (List.mem_of_getElem? hv)
    rw [e1, e2]
    exact Nat.le_refl _
  · rw [List.mem_singleton.mp hu, List.mem_singleton.mp (List.mem_of_getElem? hv)]; omega
theorem bfs.len (h : bfs B xs c ms a l) : ms.length ≤ strd c 6 := by
  have := php (f := fun x => x) ms (List.range (strd c 6)) h.1 (fun a _ b _ e => e) (fun a ha => List.mem_range.mpr (h.2.1 a ha).1)
  rwa [List.length_range] at this
theorem bfs.all (h : bfs B xs c ms ms.length l) {u : Nat} (hu : u < strd c 6) (hw : 0 < ways B xs (dig c u)) : u ∈ ms := h.complete _ u hu hw rfl (fun v hv => by rw [List.getElem?_eq_none (Nat.le_refl _)] at hv; cases hv)
theorem cntF_len : ∀ n, cntF B xs c n = ((List.range n).filter (fun t => decide (0 < ways B xs (dig c t)))).length := by
  intro n
  induction n with
  | zero => rfl
  | succ n ih =>
    rw [cntF_s, List.range_succ, List.filter_append, List.length_append, ← ih]
    by_cases h : 0 < ways B xs (dig c n)
    · simp [h]
    · simp [h]
theorem bfs.cnt (h : bfs B xs c ms ms.length l) : cntF B xs c (strd c 6) = ms.length := by
  rw [cntF_len]
  refine Nat.le_antisymm ?_ ?_
  · exact php (f := fun x => x) _ ms (List.Pairwise.filter _ List.nodup_range) (fun a _ b _ e => e) (fun a ha => by
      rw [List.mem_filter, List.mem_range, decide_eq_true_iff] at ha
      exact h.all ha.1 ha.2)
  · exact php (f := fun x => x) ms _ h.1 (fun a _ b _ e => e) (fun a ha => by
      rw [List.mem_filter, List.mem_range, decide_eq_true_iff]
      exact h.2.1 a ha)
def mxL (B : Nat → Nat) (xs : List Nat) (c : Nat → Nat) (ms : List Nat) : Nat := ms.foldl (fun m t => max m (wideV B xs (dig c t))) 0
theorem mxL_s (us : List Nat) (t : Nat) : mxL B xs c (us ++ [t]) = max (mxL B xs c us) (wideV B xs (dig c t)) := by
  unfold mxL
  rw [List.foldl_append]; rfl
theorem foldmax_le (f : Nat → Nat) (X : Nat) : ∀ (us : List Nat) (m : Nat), us.foldl (fun m t => max m (f t)) m ≤ X ↔ m ≤ X ∧ ∀ u ∈ us, f u ≤ X
  | [], m => by simp
  | u :: us, m => by
    rw [List.foldl_cons, foldmax_le f X us]
    simp only [List.mem_cons, forall_eq_or_imp]
    constructor
    · rintro ⟨h1, h2⟩; exact ⟨by omega, by omega, h2⟩
    · rintro ⟨h1, h2, h3⟩; exact ⟨by omega, h3⟩
theorem maxF_leq (X : Nat) : ∀ n, maxF B xs c n ≤ X ↔ ∀ t, t < n → 0 < ways B xs (dig c t) → wideV B xs (dig c t) ≤ X := by
  intro n
  induction n with
  | zero => exact ⟨fun _ t ht => absurd ht (Nat.not_lt_zero t), fun _ => Nat.zero_le _⟩
  | succ n ih =>
    rw [maxF_s]
    by_cases h : 0 < ways B xs (dig c n)
    · rw [if_pos h]
      constructor
      · intro h1 t ht hw
        by_cases e : t = n
        · subst e; omega
        · exact ih.mp (by omega) t (by omega) hw
      · intro h1
        have := ih.mpr (fun t ht hw => h1 t (by omega) hw)
        have := h1 n (by omega) h
        omega
    · rw [if_neg h, ih]
      constructor
      · intro h1 t ht hw
        by_cases e : t = n
        · subst e; exact absurd hw h
        · exact h1 t (by omega) hw
      · intro h1 t ht hw; exact h1 t (by omega) hw
theorem bfs.max (h : bfs B xs c ms ms.length l) : maxF B xs c (strd c 6) = mxL B xs c ms := by
  have e : ∀ X, maxF B xs c (strd c 6) ≤ X ↔ mxL B xs c ms ≤ X := fun X => by
    unfold mxL
    rw [maxF_leq, foldmax_le]
    constructor
    · intro h1; exact ⟨Nat.zero_le _, fun u hu => h1 u (h.2.1 u hu).1 (h.2.1 u hu).2⟩
    · intro h1 t ht hw; exact h1.2 t (h.all ht hw)
  exact Nat.le_antisymm ((e _).mpr (Nat.le_refl _)) ((e _).mp (Nat.le_refl _))
theorem full_reach (hc : c = cntV xs) (hx : ∀ x ∈ xs, x < 6) : 0 < ways B xs (dig c (strd c 6 - 1)) := by
  have hp := strd_pos c 6
  have key : ∀ i, i ≤ xs.length → ∃ t, t < strd c 6 ∧ (∀ q, q < 6 → dig c t q = (xs.take i).count q) ∧ 0 < ways B xs (dig c t) := by
    intro i
    induction i with
    | zero => intro _; exact ⟨0, hp, fun q _ => by rw [dig_0]; rfl, by rw [ways_0 (by unfold sum6; simp [dig_0])]; exact Nat.one_pos⟩
    | succ i ih =>
      intro hi
      obtain ⟨t, h1, h2, h3⟩ := ih (by omega)
      have hx6 := hx _ (List.getElem_mem (show i < xs.length by omega))
      have ho : opn B xs (dig c t) xs[i] = true := (opn_at (by omega) rfl (h2 _ hx6).symm).mpr (fun q hq _ => by rw [h2 q hq]; exact Nat.le_refl _)
      obtain ⟨g1, g2, g3⟩ := ways_st hc hx6 ho h3 h1
      have hlt : dig c t xs[i] < c xs[i] := by rw [hc]; exact opn_lt (B := B) (v := dig (cntV xs) t) (by rw [← hc]; exact ho)
      refine ⟨t + strd c xs[i], g1, fun q hq => ?_, g2⟩
      rw [dig_add hlt q, h2 q hq, take_s (by omega), List.count_append, List.count_singleton]
      by_cases e : q = xs[i]
      · rw [if_pos e]; simp [e]
      · rw [if_neg e, if_neg (by simpa using fun z => e z.symm), Nat.add_zero]
  obtain ⟨t, h1, h2, h3⟩ := key xs.length (Nat.le_refl _)
  have : t = strd c 6 - 1 := dig_uniq h1 (by omega) (fun q hq => by rw [h2 q hq, dig_full c q hq, List.take_length, hc]; rfl)
  rw [← this]; exact h3
theorem bfs.last (hc : c = cntV xs) (hx : ∀ x ∈ xs, x < 6) (h : bfs B xs c ms ms.length l) : ms[ms.length - 1]? = some (strd c 6 - 1) := by
  have hp := strd_pos c 6
  have hm := h.all (u := strd c 6 - 1) (by omega) (full_reach hc hx)
  obtain ⟨j, hj, e⟩ := List.getElem_of_mem hm
  have ej : ms[j]? = some (strd c 6 - 1) := by rw [List.getElem?_eq_getElem hj, e]
  have el : ms[ms.length - 1]? = some ms[ms.length - 1] := List.getElem?_eq_getElem (by omega)
  have h4 := h.2.2.2.1 j (ms.length - 1) _ _ ej el (by omega)
  have hlf : lev c (strd c 6 - 1) = sum6 c := sum6_le (fun q hq => dig_full c q hq)
  rw [el, lev_full (h.2.1 _ (List.getElem_mem (by omega))).1 (by omega)]
end BFS
