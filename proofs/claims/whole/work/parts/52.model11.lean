/-! the law's model: circles -/
def key7 (xs : List Nat) : Nat := xs.foldl (fun v x => 7 * v + x + 1) 0
theorem key7_s (xs : List Nat) (x : Nat) : key7 (xs ++ [x]) = 7 * key7 xs + x + 1 := by
  unfold key7
  rw [List.foldl_append]; rfl
theorem snoc_of {xs : List Nat} {n : Nat} (h : xs.length = n + 1) : ∃ ys y, xs = ys ++ [y] ∧ ys.length = n := by
  refine ⟨xs.take n, xs[n], ?_, by rw [List.length_take]; omega⟩
  rw [← take_s (by omega), List.take_of_length_le (by omega)]
theorem key7_lt : ∀ (n : Nat) (xs : List Nat), xs.length = n → (∀ x ∈ xs, x < 6) → key7 xs < 7 ^ n := by
  intro n
  induction n with
  | zero => intro xs h _; rw [List.eq_nil_of_length_eq_zero h]; decide
  | succ n ih =>
    intro xs h hx
    obtain ⟨ys, y, rfl, hl⟩ := snoc_of h
    have h1 := ih ys hl (fun x hx2 => hx x (List.mem_append_left _ hx2))
    have h2 := hx y (by simp)
    rw [key7_s, Nat.pow_succ]
    omega
theorem key7_inj : ∀ (n : Nat) (xs ys : List Nat), xs.length = n → ys.length = n → (∀ x ∈ xs, x < 6) → (∀ x ∈ ys, x < 6) → key7 xs = key7 ys → xs = ys := by
  intro n
  induction n with
  | zero => intro xs ys h h' _ _ _; rw [List.eq_nil_of_length_eq_zero h, List.eq_nil_of_length_eq_zero h']
  | succ n ih =>
    intro xs ys h h' hx hy he
    obtain ⟨us, u, rfl, hl⟩ := snoc_of h
    obtain ⟨vs, v, rfl, hl'⟩ := snoc_of h'
    rw [key7_s, key7_s] at he
    have h1 := hx u (by simp)
    have h2 := hy v (by simp)
    have e1 : key7 us = key7 vs := by omega
    have e2 : u = v := by omega
    rw [ih us vs hl hl' (fun x hx2 => hx x (List.mem_append_left _ hx2)) (fun x hx2 => hy x (List.mem_append_left _ hx2)) e1, e2]
theorem key7_12 {xs : List Nat} (h : xs.length ≤ 12) (hx : ∀ x ∈ xs, x < 6) : key7 xs < 2 ^ 34 :=
  Nat.lt_of_lt_of_le (key7_lt _ xs rfl hx) (Nat.le_trans (Nat.pow_le_pow_right (by decide) h) (by decide))
theorem turnF_k {k : Nat} {fb : Nat → Nat} {rs : List (List Nat)} {ys : List Nat} (hf : fbOk k fb) (hy : ∀ y ∈ ys, y < k) : ∀ m, k + m ≤ 6 → turnF (bw k fb) rs ys (k + m) = turnF (bw k fb) rs ys k := by
  intro m
  induction m with
  | zero => intro _; rfl
  | succ m ih =>
    intro h
    rw [show k + (m + 1) = (k + m) + 1 by omega, turnF_s, front_big hf (by omega) (by omega) hy, ih (by omega)]
    cases turnF (bw k fb) rs ys k <;> rfl
theorem turnF_pre {B : Nat → Nat} {rs : List (List Nat)} {ys : List Nat} : ∀ n, turnF B rs ys n = none → turnF B rs ys (n + 1) = none := by
  intro n h
  rw [turnF_s, h]; rfl
theorem turnF_up {B : Nat → Nat} {rs : List (List Nat)} {ys : List Nat} {n : Nat} (h : turnF B rs ys n = none) : ∀ m, turnF B rs ys (n + m) = none := by
  intro m
  induction m with
  | zero => exact h
  | succ m ih => exact turnF_pre _ ih
/-- the rows that the model has met -/
def mcIs (d : xD) (rs : List (List Nat)) : Prop := d.1 240 27 = nI rs.length ∧ ∀ i (h : i < rs.length), d.2 256 i = lN (key7 rs[i])
theorem moLet.k0 {d d' : xD} {k : Nat} {fb : Nat → Nat} (h : moLet d k fb) (h0 : d'.1 240 0 = d.1 240 0) (h1 : d'.1 241 = d.1 241) : moLet d' k fb := ⟨h0.trans h.1, fun p hp => by rw [h1]; exact h.2.1 p hp, h.2.2⟩
theorem moHp.k0 {d d' : xD} {k : Nat} {hs : Nat → List Nat} (h : moHp d k hs) (h2 : d'.1 242 = d.1 242) (h3 : d'.1 243 = d.1 243) : moHp d' k hs := by
  unfold moHp
  rw [h2, h3]
  exact h
/-- what the model changes of its own fields in a call that keeps its state -/
def chK (S : List Nat) (d d' : xD) : Prop := chg (240 :: S) d d' ∧ d'.1 240 0 = d.1 240 0 ∧ d'.1 240 4 = d.1 240 4 ∧ d'.1 240 32 = d.1 240 32 ∧ d'.1 240 33 = d.1 240 33
theorem chK.rf {S : List Nat} {d : xD} : chK S d d := ⟨chg.rf, rfl, rfl, rfl, rfl⟩
theorem chK.of {S : List Nat} {d d' : xD} (h : chg S d d') (h0 : 240 ∉ S) : chK S d d' := by
  have e := (h 240 h0).1
  exact ⟨h.mono (fun o ho => List.mem_cons_of_mem _ ho), by rw [e], by rw [e], by rw [e], by rw [e]⟩
theorem chK.tr {S : List Nat} {d d' d'' : xD} (h : chK S d d') (h' : chK S d' d'') : chK S d d'' := ⟨h.1.tr h'.1, h'.2.1.trans h.2.1, h'.2.2.1.trans h.2.2.1, h'.2.2.2.1.trans h.2.2.2.1, h'.2.2.2.2.trans h.2.2.2.2⟩
theorem chK.mono {S S' : List Nat} {d d' : xD} (h : chK S d d') (hs : ∀ o ∈ S, o ∈ S') : chK S' d d' := ⟨h.1.mono (fun o ho => by
  rcases List.mem_cons.mp ho with rfl | ho
  · exact List.mem_cons_self
  · exact List.mem_cons_of_mem _ (hs o ho)), h.2⟩
theorem chK.se {S : List Nat} {d d' : xD} {o k : Nat} {x : Int32} (h : chK S d d') (ho : o ∈ S) (h240 : o ≠ 240) : chK S d (seI d' o k x) := by
  have e := seI_o d' o k x 240 (fun z => h240 z.symm)
  exact ⟨h.1.se (List.mem_cons_of_mem _ ho), by rw [e]; exact h.2.1, by rw [e]; exact h.2.2.1, by rw [e]; exact h.2.2.2.1, by rw [e]; exact h.2.2.2.2⟩
theorem chK.seL {S : List Nat} {d d' : xD} {o k : Nat} {x : Int64} (h : chK S d d') (ho : o ∈ S) : chK S d (seL d' o k x) := ⟨h.1.seL (List.mem_cons_of_mem _ ho), h.2.1, h.2.2.1, h.2.2.2.1, h.2.2.2.2⟩
theorem chK.fld {S : List Nat} {d d' : xD} {k : Nat} {x : Int32} (h : chK S d d') (hk : k ≠ 0 ∧ k ≠ 4 ∧ k ≠ 32 ∧ k ≠ 33) : chK S d (seI d' 240 k x) := ⟨h.1.se List.mem_cons_self, by rw [se_n _ _ (fun z => hk.1 z.symm)]; exact h.2.1, by rw [se_n _ _ (fun z => hk.2.1 z.symm)]; exact h.2.2.1, by rw [se_n _ _ (fun z => hk.2.2.1 z.symm)]; exact h.2.2.2.1, by rw [se_n _ _ (fun z => hk.2.2.2 z.symm)]; exact h.2.2.2.2⟩
theorem moSt.ck {S : List Nat} {d d' : xD} {σ : St} (h : moSt d σ) (hc : chK S d d') (h1 : 241 ∉ S) (h2 : 242 ∉ S) (h3 : 243 ∉ S) : moSt d' σ := ⟨h.1.k0 hc.2.1 (hc.1 241 (by simp [h1])).1, h.2.k0 (hc.1 242 (by simp [h2])).1 (hc.1 243 (by simp [h3])).1⟩
section MOD
variable {l : Launch} {W : xW} {dep : Nat} {d : xD} {bs : List Nat} {σ : St} {x y z w : Int32} {n n2 n3 k : Nat} {fb : Nat → Nat} {rs : List (List Nat)}
theorem s_X12_keyOf {o : Nat} {xs : List Nat} (ho : isI W o 48) (h48 : xs.length ≤ 48) (hx : ∀ x ∈ xs, x < 6) (ha : arrB d o xs) : mSpecL l W mX12_keyOf dep [.ref (xad W 240), .ref (xad W o), .int (nI xs.length)] d (fun r d' => r = lN (key7 xs) ∧ d' = d) := by
  refine m_spec RX12 [some (.ref (xad W 240)), some (.ref (xad W o)), some (.int (nI xs.length)), none, none, none] rfl (by decide +kernel) rfl rfl (fun K hR => ?_)
  have loop : ∀ i, i ≤ xs.length → mG W K cX12_keyOf RX12 dep d 5 [some (.ref (xad W 240)), some (.ref (xad W o)), some (.int (nI xs.length)), some (.long (lN (key7 (xs.take i)))), none, some (.int (nI i))] [] := x_up _ (fun i hi ih => by
    by_cases hin : i < xs.length
    · have hx6 := hx _ (List.getElem_mem hin)
      have ih2 := ih hin
      rw [take_s hin, key7_s] at ih2
      refine m_iload dX12_keyOf_5 rfl ?_
      refine m_iload_n dX12_keyOf_7 rfl ?_
      first | refine m_icmp_geN 31 dX12_keyOf_8 (by decide) (by omega) (by omega) (fun c8 => by exfalso; omega) (fun c8 => ?_) | refine m_icmp_ge 31 dX12_keyOf_8 (by decide) (fun c8 => by exfalso; omega) (fun c8 => ?_)
      refine m_ldc2 ct_X12_235 dX12_keyOf_11 ?_
      refine m_eql (y := lN 7) (by decide +kernel) ?_
      refine m_lload_n dX12_keyOf_14 rfl ?_
      first | refine m_lmulN dX12_keyOf_15 ?_ | refine m_lmul dX12_keyOf_15 ?_
      refine m_aload_n dX12_keyOf_16 rfl ?_
      refine m_iload dX12_keyOf_17 rfl ?_
      refine m_iald ho (by omega) dX12_keyOf_19 ?_
      refine m_eqi ((by rw [ha i hin, getD_at hin] : _ = nI xs[i])) ?_
      first | refine m_i2lN dX12_keyOf_20 (by omega) ?_ | refine m_i2l dX12_keyOf_20 ?_
      first | refine m_laddN dX12_keyOf_21 ?_ | refine m_ladd dX12_keyOf_21 ?_
      refine m_lconstN 1 dX12_keyOf_22 (by decide) ?_
      first | refine m_laddN dX12_keyOf_23 ?_ | refine m_ladd dX12_keyOf_23 ?_
      refine m_lstore_n dX12_keyOf_24 (Nat.le_of_ble_eq_true rfl) rfl ?_
      first | refine m_iincN 1 dX12_keyOf_25 (by decide) rfl rfl ?_ | refine m_iinc dX12_keyOf_25 rfl rfl ?_
      refine m_goto 5 dX12_keyOf_28 (by decide) ?_
      exact ih2
    · have e6 : i = xs.length := by omega
      rw [e6, List.take_length]
      refine m_iload dX12_keyOf_5 rfl ?_
      refine m_iload_n dX12_keyOf_7 rfl ?_
      first | refine m_icmp_geN 31 dX12_keyOf_8 (by decide) (by omega) (by omega) (fun c8 => ?_) (fun c8 => by exfalso; omega) | refine m_icmp_ge 31 dX12_keyOf_8 (by decide) (fun c8 => ?_) (fun c8 => by exfalso; omega)
      refine m_lload_n dX12_keyOf_31 rfl ?_
      exact m_lret hR dX12_keyOf_32 (⟨rfl, rfl⟩)
    )
  refine m_lconstN 0 dX12_keyOf_0 (by decide) ?_
  refine m_lstore_n dX12_keyOf_1 (Nat.le_of_ble_eq_true rfl) rfl ?_
  refine m_iconstN 0 dX12_keyOf_2 (by decide) ?_
  refine m_istore dX12_keyOf_3 (Nat.le_of_ble_eq_true rfl) rfl ?_
  exact loop 0 (Nat.zero_le _)
theorem s_X12_isMetIn {xs : List Nat} (hm : mcIs d rs) (hl : rs.length ≤ 2001) (hr : ∀ r ∈ rs, ofLen 6 xs.length r) (h12 : xs.length ≤ 12) (hx : ∀ x ∈ xs, x < 6) : mSpecI l W mX12_isMetIn dep [.ref (xad W 240), .long (lN (key7 xs))] d (fun r d' => r = (if xs ∈ rs then 1 else 0) ∧ d' = d) := by
  have hL : isL W 256 2001 := ⟨by decide, by decide, fun _ => rfl⟩
  have hkx := key7_12 h12 hx
  refine m_spec RX12 [some (.ref (xad W 240)), some (.long (lN (key7 xs))), none, none] rfl (by decide +kernel) rfl rfl (fun K hR => ?_)
  have loop : ∀ i, i ≤ rs.length → (∀ q (hq : q < rs.length), q < i → rs[q] ≠ xs) → mG W K cX12_isMetIn RX12 dep d 2 [some (.ref (xad W 240)), some (.long (lN (key7 xs))), none, some (.int (nI i))] [] := x_up _ (fun i hi ih g => by
    by_cases hin : i < rs.length
    · have hri := hr _ (List.getElem_mem hin)
      have hk2 := key7_12 (by rw [hri.1]; exact h12) hri.2
      refine m_iload_n dX12_isMetIn_2 rfl ?_
      refine m_aload_n dX12_isMetIn_3 rfl ?_
      refine m_get fl_X12_237 (by decide) rfl rfl dX12_isMetIn_4 ?_
      refine m_eqi (hm.1) ?_
      first | refine m_icmp_geN 29 dX12_isMetIn_7 (by decide) (by omega) (by omega) (fun c7 => by exfalso; omega) (fun c7 => ?_) | refine m_icmp_ge 29 dX12_isMetIn_7 (by decide) (fun c7 => by exfalso; omega) (fun c7 => ?_)
      refine m_aload_n dX12_isMetIn_10 rfl ?_
      refine m_get fl_X12_62 (by decide) rfl rfl dX12_isMetIn_11 ?_
      refine m_iload_n dX12_isMetIn_14 rfl ?_
      refine m_lald hL (by omega) dX12_isMetIn_15 ?_
      refine m_eql (hm.2 i hin) ?_
      refine m_lload_n dX12_isMetIn_16 rfl ?_
      first | refine m_lcmp_neN 23 dX12_isMetIn_17 dX12_isMetIn_18 (by decide) (by omega) (by omega) (fun c17 => ?_) (fun c17 => ?_) | refine m_lcmp_ne 23 dX12_isMetIn_17 dX12_isMetIn_18 (by decide) (fun c17 => ?_) (fun c17 => ?_)
      · first | refine m_iincN 1 dX12_isMetIn_23 (by decide) rfl rfl ?_ | refine m_iinc dX12_isMetIn_23 rfl rfl ?_
        refine m_goto 2 dX12_isMetIn_26 (by decide) ?_
        refine ih hin (fun q hq hqi => ?_)
        by_cases e : q = i
        · subst e; exact fun z => c17 (by rw [z])
        · exact g q hq (by omega)
      · refine m_iconstN 1 dX12_isMetIn_21 (by decide) ?_
        have hin2 : xs ∈ rs := by
          have e := key7_inj xs.length rs[i] xs hri.1 rfl hri.2 hx (Decidable.not_not.mp c17)
          rw [← e]; exact List.getElem_mem hin
        exact m_iret (ty := .boolean) hR dX12_isMetIn_22 (⟨by rw [if_pos hin2]; rfl, rfl⟩)
    · have e6 : i = rs.length := by omega
      subst e6
      refine m_iload_n dX12_isMetIn_2 rfl ?_
      refine m_aload_n dX12_isMetIn_3 rfl ?_
      refine m_get fl_X12_237 (by decide) rfl rfl dX12_isMetIn_4 ?_
      refine m_eqi (hm.1) ?_
      first | refine m_icmp_geN 29 dX12_isMetIn_7 (by decide) (by omega) (by omega) (fun c7 => ?_) (fun c7 => by exfalso; omega) | refine m_icmp_ge 29 dX12_isMetIn_7 (by decide) (fun c7 => ?_) (fun c7 => by exfalso; omega)
      refine m_iconstN 0 dX12_isMetIn_29 (by decide) ?_
      exact m_iret (ty := .boolean) hR dX12_isMetIn_30 (⟨by rw [if_neg (fun z => by obtain ⟨q, hq, e⟩ := List.getElem_of_mem z; exact g q hq hq e)]; rfl, rfl⟩)
    )
  refine m_iconstN 0 dX12_isMetIn_0 (by decide) ?_
  refine m_istore_n dX12_isMetIn_1 (Nat.le_of_ble_eq_true rfl) rfl ?_
  exact loop 0 (Nat.zero_le _) (fun q _ hq => absurd hq (Nat.not_lt_zero q))
def moCC : List Nat := [246, 248, 249, 256]
theorem s_X12_findCircle (hn : n < 4) (hs : moSt d σ) (h12 : (σ.2.2 n).length ≤ 12) : mSpecV l W mX12_findCircle (dep + 4) [.ref (xad W 240), .int (nI n)] d (fun d' => ((∃ rs, circF (bw σ.1 σ.2.1) σ.1 2000 0 [leastR (bw σ.1 σ.2.1) (σ.2.2 n)] = some rs ∧ rs.length ≤ 2000 ∧ mcIs d' rs ∧ ∀ r ∈ rs, ofLen σ.1 (σ.2.2 n).length r) ∨ (circF (bw σ.1 σ.2.1) σ.1 2000 0 [leastR (bw σ.1 σ.2.1) (σ.2.2 n)] = none ∧ d'.1 240 27 = nI 2001)) ∧ chK moCC d d') := by
  obtain ⟨hA, hAl, hAg, hAx⟩ := hs.2 n hn
  have hk := hs.1.2.2.2.1
  have hf := hs.1.2.2
  have hI : isI W 246 48 := ⟨by decide, by decide, fun _ => rfl⟩
  have hI8 : isI W 248 48 := ⟨by decide, by decide, fun _ => rfl⟩
  have hL : isL W 256 2001 := ⟨by decide, by decide, fun _ => rfl⟩
  generalize hxs : σ.2.2 n = xs at *
  generalize hR0 : circF (bw σ.1 σ.2.1) σ.1 2000 0 [leastR (bw σ.1 σ.2.1) xs] = R0
  refine m_spec RX12 [some (.ref (xad W 240)), some (.int (nI n)), none, none, none, none, none, none, none, none] rfl (by decide +kernel) rfl rfl (fun K hR => ?_)
  have hlo : ∀ ys, ofLen σ.1 xs.length ys → ofLen σ.1 xs.length (leastR (bw σ.1 σ.2.1) ys) := fun ys h => ⟨by rw [leastR_len (bw_ok hf h.2)]; exact h.1, fun x hx => h.2 x (leastR_mem hx)⟩
  have outer : ∀ at0, at0 ≤ 2000 → ∀ rs d1 o4 o5 o6 o7 o8 o9, R0 = circF (bw σ.1 σ.2.1) σ.1 (2000 - at0) at0 rs → rs.length ≤ 2000 → (∀ r ∈ rs, ofLen σ.1 xs.length r) → mcIs d1 rs → chK moCC d d1 → mG W K cX12_findCircle RX12 (dep + 4) d1 48 [some (.ref (xad W 240)), some (.int (nI n)), some (.int (nI xs.length)), some (.int (nI at0)), o4, o5, o6, o7, o8, o9] [] := x_up _ (fun at0 hat ihat rs0 d1 o4 o5 o6 o7 o8 o9 heq hrl hro h1 h2 => by
    by_cases hin : at0 < rs0.length
    · have hys : rs0.getD at0 [] = rs0[at0] := by rw [List.getD_eq_getElem?_getD, List.getElem?_eq_getElem hin]; rfl
      have hyo := hro _ (List.getElem_mem hin)
      rw [show 2000 - at0 = (2000 - (at0 + 1)) + 1 by omega, circF_s, if_pos hin, hys] at heq
      generalize hyy : rs0[at0] = ys at *
      have hy6 : ∀ y ∈ ys, y < 6 := fun y h => by have := hyo.2 y h; omega
      have hkey := key7_12 (by rw [hyo.1]; exact h12) hy6
      have hk6 := turnF_k (rs := rs0) hf hyo.2 (6 - σ.1) (by omega)
      rw [show σ.1 + (6 - σ.1) = 6 by omega] at hk6
      have inner : ∀ t, t ≤ 6 → ∀ rs d2 o5 o6 o7 o8 o9, turnF (bw σ.1 σ.2.1) rs0 ys t = some rs → rs.length ≤ 2000 → (∃ us, rs = rs0 ++ us) → (∀ r ∈ rs, ofLen σ.1 xs.length r) → mcIs d2 rs → chK moCC d d2 → mG W K cX12_findCircle RX12 (dep + 4) d2 69 [some (.ref (xad W 240)), some (.int (nI n)), some (.int (nI xs.length)), some (.int (nI at0)), some (.int (nI t)), o5, o6, o7, o8, o9] [] := x_up _ (fun t ht iht rs d2 o5 o6 o7 o8 o9 gt grl gex gro g1 g2 => by
        by_cases ht6 : t < 6
        · have hrs : at0 < rs.length ∧ ∀ h : at0 < rs.length, rs[at0] = ys := by
            obtain ⟨us, rfl⟩ := gex
            refine ⟨by rw [List.length_append]; omega, fun h => ?_⟩
            rw [List.getElem_append_left hin]; exact hyy
          have hcir : d2.2 256 at0 = lN (key7 ys) := by rw [g1.2 at0 hrs.1, hrs.2 hrs.1]
          -- behind the row: the letter's place is looked for
          have stage2 : ∀ d3 o5 o7, arrB d3 246 ys → mcIs d3 rs → chK moCC d d3 → mG W K cX12_findCircle RX12 (dep + 4) d3 134 [some (.ref (xad W 240)), some (.int (nI n)), some (.int (nI xs.length)), some (.int (nI at0)), some (.int (nI t)), o5, none, o7, o8, o9] [] := fun d3 o5 o7 k1 k2 k3 => by
            have hl3 : moLet d3 σ.1 σ.2.1 := (hs.ck k3 (by simp [moCC]) (by simp [moCC]) (by simp [moCC])).1
            have e1 := fo_all0 hf ht6 hyo.2
            have hyl : ys.length = xs.length := hyo.1
            have iht2 := iht ht6
            cases hi : front (bw σ.1 σ.2.1) ys t with
            | none =>
              have et : turnF (bw σ.1 σ.2.1) rs0 ys (t + 1) = some rs := by rw [turnF_s, gt, hi]; rfl
              refine m_aload_n dX12_findCircle_134 rfl ?_
              refine m_iload_n dX12_findCircle_135 rfl ?_
              refine m_callVV (s_X12_putAllOn (n := xs.length) (by omega)) cv_X12_179 dX12_findCircle_136 (fun d136 h136 => ?_)
              refine m_aload_n dX12_findCircle_139 rfl ?_
              refine m_aload_n dX12_findCircle_140 rfl ?_
              refine m_get fl_X12_29 (by decide) rfl rfl dX12_findCircle_141 ?_
              refine m_iload_n dX12_findCircle_144 rfl ?_
              refine m_iload dX12_findCircle_145 rfl ?_
              rw [← hyl] at h136 ⊢
              refine m_callVIp (s_X12_firstOf hI (hl3.fr h136.2 (by simp) (by simp)) hy6 (by omega) (k1.fr h136.2 (by simp)) h136.1 ht6) cv_X12_175 dX12_findCircle_147 ?_
              refine m_eqi ((by rw [e1, hi]; rfl : _ = (-1 : Int32))) ?_
              refine m_istore dX12_findCircle_150 (Nat.le_of_ble_eq_true rfl) rfl ?_
              refine m_iload dX12_findCircle_152 rfl ?_
              refine m_iconst (v := -1) dX12_findCircle_154 (by decide) ?_
              refine m_icmp_eq 253 dX12_findCircle_155 (by decide) (fun c155 => ?_) (fun c155 => by exfalso; exact c155 rfl)
              first | refine m_iincN 1 dX12_findCircle_253 (by decide) rfl rfl ?_ | refine m_iinc dX12_findCircle_253 rfl rfl ?_
              refine m_goto 69 dX12_findCircle_256 (by decide) ?_
              exact (hyl ▸ iht2 rs d136 _ _ _ _ _ et grl gex gro ⟨by rw [(h136.2 240 (by simp)).1]; exact k2.1, fun i h => by rw [(h136.2 256 (by simp)).2]; exact k2.2 i h⟩ (k3.tr (chK.of (h136.2.mono (by simp [moCC])) (by simp [moCC]))))
            | some i =>
              have hil := front_lt hi
              have hzo : ofLen σ.1 xs.length (ys.eraseIdx i ++ [t]) := by
                have htk : t < σ.1 := Nat.not_le.mp (fun z => by rw [front_big hf z ht6 hyo.2] at hi; cases hi)
                refine ⟨by rw [List.length_append, List.length_eraseIdx_of_lt hil, List.length_singleton]; omega, fun x hx => ?_⟩
                rcases List.mem_append.mp hx with hx | hx
                · exact hyo.2 x (List.mem_of_mem_eraseIdx hx)
                · rw [List.mem_singleton.mp hx]; exact htk
              have hro2 := hlo _ hzo
              have hr6 : ∀ x ∈ leastR (bw σ.1 σ.2.1) (ys.eraseIdx i ++ [t]), x < 6 := fun x hx => by have := hro2.2 x hx; omega
              have et : turnF (bw σ.1 σ.2.1) rs0 ys (t + 1) = ins rs (leastR (bw σ.1 σ.2.1) (ys.eraseIdx i ++ [t])) := by rw [turnF_s, gt, hi]; rfl
              have stage4 : ∀ d4 o8, arrB d4 246 (ys.eraseIdx i ++ [t]) → mcIs d4 rs → chK moCC d d4 → mG W K cX12_findCircle RX12 (dep + 4) d4 202 [some (.ref (xad W 240)), some (.int (nI n)), some (.int (nI xs.length)), some (.int (nI at0)), some (.int (nI t)), o5, none, some (.int (nI i)), o8, o9] [] := fun d4 o8 m1 m2 m3 => by
                have hl4 : moLet d4 σ.1 σ.2.1 := (hs.ck m3 (by simp [moCC]) (by simp [moCC]) (by simp [moCC])).1
                by_cases hmem : leastR (bw σ.1 σ.2.1) (ys.eraseIdx i ++ [t]) ∈ rs
                · have et2 : turnF (bw σ.1 σ.2.1) rs0 ys (t + 1) = some rs := by rw [et]; unfold ins; rw [if_pos hmem]
                  refine m_aload_n dX12_findCircle_202 rfl ?_
                  refine m_aload_n dX12_findCircle_203 rfl ?_
                  refine m_get fl_X12_29 (by decide) rfl rfl dX12_findCircle_204 ?_
                  refine m_iload_n dX12_findCircle_207 rfl ?_
                  rw [← hzo.1]
                  refine m_callVI (s_X12_makeLeastOf hI (by decide) hl4 hzo.2 (by rw [hzo.1]; omega) m1) cv_X12_190 dX12_findCircle_208 (fun r208 d208 h208 => ?_)
                  refine m_pop dX12_findCircle_211 rfl ?_
                  refine m_aload_n dX12_findCircle_212 rfl ?_
                  refine m_aload_n dX12_findCircle_213 rfl ?_
                  refine m_get fl_X12_35 (by decide) rfl rfl dX12_findCircle_214 ?_
                  refine m_iload_n dX12_findCircle_217 rfl ?_
                  rw [hzo.1, ← hro2.1]
                  have m5 : mcIs d208 rs := ⟨by rw [(h208.2.2 240 (by simp)).1]; exact m2.1, fun i h => by rw [(h208.2.2 256 (by simp)).2]; exact m2.2 i h⟩
                  refine m_callVLp (s_X12_keyOf hI8 (by rw [hro2.1]; omega) hr6 h208.2.1) cv_X12_240 dX12_findCircle_218 ?_
                  refine m_lstore dX12_findCircle_221 (Nat.le_of_ble_eq_true rfl) rfl ?_
                  refine m_aload_n dX12_findCircle_223 rfl ?_
                  refine m_lload dX12_findCircle_224 rfl ?_
                  refine m_callVIp (s_X12_isMetIn m5 (by omega) (fun r hr => ⟨by rw [(gro r hr).1, hro2.1], fun x hx => by have := (gro r hr).2 x hx; omega⟩) (by rw [hro2.1]; exact h12) hr6) cv_X12_244 dX12_findCircle_226 ?_
                  refine m_eqi ((if_pos hmem : _ = (1 : Int32))) ?_
                  refine m_if_ne 253 dX12_findCircle_229 (by decide) (fun c229 => ?_) (fun c229 => by exfalso; exact c229 (by decide))
                  first | refine m_iincN 1 dX12_findCircle_253 (by decide) rfl rfl ?_ | refine m_iinc dX12_findCircle_253 rfl rfl ?_
                  refine m_goto 69 dX12_findCircle_256 (by decide) ?_
                  exact (hro2.1 ▸ iht2 rs d208 _ _ _ _ _ et2 grl gex gro m5 (m3.tr (chK.of (h208.2.2.mono (by simp [moCC])) (by simp [moCC]))))
                · have m6 : ∀ d5 : xD, chg [248, 249] d4 d5 → mcIs d5 rs := fun d5 h => ⟨by rw [(h 240 (by simp)).1]; exact m2.1, fun i h2 => by rw [(h 256 (by simp)).2]; exact m2.2 i h2⟩
                  have m7 : ∀ d5 : xD, mcIs d5 rs → mcIs (seI (seL d5 256 rs.length (lN (key7 (leastR (bw σ.1 σ.2.1) (ys.eraseIdx i ++ [t]))))) 240 27 (nI (rs.length + 1))) (rs ++ [leastR (bw σ.1 σ.2.1) (ys.eraseIdx i ++ [t])]) := fun d5 h => by
                    refine ⟨by rw [se_s, List.length_append]; rfl, fun q hq => ?_⟩
                    show (seL d5 256 rs.length _).2 256 q = _
                    by_cases e : q = rs.length
                    · subst e
                      rw [seL_s', List.getElem_append_right (Nat.le_refl _)]
                      simp
                    · have hq2 : q < rs.length := by rw [List.length_append, List.length_singleton] at hq; omega
                      rw [seL_n _ _ e, h.2 q hq2, List.getElem_append_left hq2]
                  by_cases hfull : rs.length < 2000
                  · have et2 : turnF (bw σ.1 σ.2.1) rs0 ys (t + 1) = some (rs ++ [leastR (bw σ.1 σ.2.1) (ys.eraseIdx i ++ [t])]) := by rw [et]; unfold ins; rw [if_neg hmem, if_pos hfull]
                    refine m_aload_n dX12_findCircle_202 rfl ?_
                    refine m_aload_n dX12_findCircle_203 rfl ?_
                    refine m_get fl_X12_29 (by decide) rfl rfl dX12_findCircle_204 ?_
                    refine m_iload_n dX12_findCircle_207 rfl ?_
                    rw [← hzo.1]
                    refine m_callVI (s_X12_makeLeastOf hI (by decide) hl4 hzo.2 (by rw [hzo.1]; omega) m1) cv_X12_190 dX12_findCircle_208 (fun r208 d208 h208 => ?_)
                    refine m_pop dX12_findCircle_211 rfl ?_
                    refine m_aload_n dX12_findCircle_212 rfl ?_
                    refine m_aload_n dX12_findCircle_213 rfl ?_
                    refine m_get fl_X12_35 (by decide) rfl rfl dX12_findCircle_214 ?_
                    refine m_iload_n dX12_findCircle_217 rfl ?_
                    rw [hzo.1, ← hro2.1]
                    have m5 := m6 d208 h208.2.2
                    refine m_callVLp (s_X12_keyOf hI8 (by rw [hro2.1]; omega) hr6 h208.2.1) cv_X12_240 dX12_findCircle_218 ?_
                    refine m_lstore dX12_findCircle_221 (Nat.le_of_ble_eq_true rfl) rfl ?_
                    refine m_aload_n dX12_findCircle_223 rfl ?_
                    refine m_lload dX12_findCircle_224 rfl ?_
                    refine m_callVIp (s_X12_isMetIn m5 (by omega) (fun r hr => ⟨by rw [(gro r hr).1, hro2.1], fun x hx => by have := (gro r hr).2 x hx; omega⟩) (by rw [hro2.1]; exact h12) hr6) cv_X12_244 dX12_findCircle_226 ?_
                    refine m_eqi ((if_neg hmem : _ = (0 : Int32))) ?_
                    refine m_if_ne 253 dX12_findCircle_229 (by decide) (fun c229 => by exfalso; exact c229 rfl) (fun c229 => ?_)
                    refine m_aload_n dX12_findCircle_232 rfl ?_
                    refine m_get fl_X12_62 (by decide) rfl rfl dX12_findCircle_233 ?_
                    refine m_aload_n dX12_findCircle_236 rfl ?_
                    refine m_get fl_X12_237 (by decide) rfl rfl dX12_findCircle_237 ?_
                    refine m_eqi (m5.1) ?_
                    refine m_lload dX12_findCircle_240 rfl ?_
                    refine m_last hL (by omega) dX12_findCircle_242 ?_
                    refine m_aload_n dX12_findCircle_243 rfl ?_
                    refine m_dup dX12_findCircle_244 rfl ?_
                    refine m_get fl_X12_237 (by decide) rfl rfl dX12_findCircle_245 ?_
                    refine m_eqi ((m5.1 : _ = nI rs.length)) ?_
                    refine m_iconstN 1 dX12_findCircle_248 (by decide) ?_
                    first | refine m_iaddN dX12_findCircle_249 ?_ | refine m_iadd dX12_findCircle_249 ?_
                    refine m_put fl_X12_237 (by decide) rfl (Nat.le_of_ble_eq_true rfl) rfl dX12_findCircle_250 ?_
                    first | refine m_iincN 1 dX12_findCircle_253 (by decide) rfl rfl ?_ | refine m_iinc dX12_findCircle_253 rfl rfl ?_
                    refine m_goto 69 dX12_findCircle_256 (by decide) ?_
                    exact (hro2.1 ▸ iht2 _ _ _ _ _ _ _ et2 (by rw [List.length_append, List.length_singleton]; omega) (by obtain ⟨us, e⟩ := gex; exact ⟨us ++ [_], by rw [e, List.append_assoc]⟩) (fun r hr => (List.mem_append.mp hr).elim (gro r) (fun h => by rw [List.mem_singleton.mp h]; exact hro2)) (m7 d208 m5) (((m3.tr (chK.of (h208.2.2.mono (by simp [moCC])) (by simp [moCC]))).seL (by simp [moCC])).fld (by decide)))
                  · have hlen : rs.length = 2000 := by omega
                    have et2 : turnF (bw σ.1 σ.2.1) rs0 ys (t + 1) = none := by rw [et]; unfold ins; rw [if_neg hmem, if_neg hfull]
                    have hnone : R0 = none := by
                      have e9 := turnF_up et2 (6 - (t + 1))
                      rw [show t + 1 + (6 - (t + 1)) = 6 by omega, hk6] at e9
                      rw [heq, e9]; rfl
                    refine m_aload_n dX12_findCircle_202 rfl ?_
                    refine m_aload_n dX12_findCircle_203 rfl ?_
                    refine m_get fl_X12_29 (by decide) rfl rfl dX12_findCircle_204 ?_
                    refine m_iload_n dX12_findCircle_207 rfl ?_
                    rw [← hzo.1]
                    refine m_callVI (s_X12_makeLeastOf hI (by decide) hl4 hzo.2 (by rw [hzo.1]; omega) m1) cv_X12_190 dX12_findCircle_208 (fun r208 d208 h208 => ?_)
                    refine m_pop dX12_findCircle_211 rfl ?_
                    refine m_aload_n dX12_findCircle_212 rfl ?_
                    refine m_aload_n dX12_findCircle_213 rfl ?_
                    refine m_get fl_X12_35 (by decide) rfl rfl dX12_findCircle_214 ?_
                    refine m_iload_n dX12_findCircle_217 rfl ?_
                    rw [hzo.1, ← hro2.1]
                    have m5 := m6 d208 h208.2.2
                    refine m_callVLp (s_X12_keyOf hI8 (by rw [hro2.1]; omega) hr6 h208.2.1) cv_X12_240 dX12_findCircle_218 ?_
                    refine m_lstore dX12_findCircle_221 (Nat.le_of_ble_eq_true rfl) rfl ?_
                    refine m_aload_n dX12_findCircle_223 rfl ?_
                    refine m_lload dX12_findCircle_224 rfl ?_
                    refine m_callVIp (s_X12_isMetIn m5 (by omega) (fun r hr => ⟨by rw [(gro r hr).1, hro2.1], fun x hx => by have := (gro r hr).2 x hx; omega⟩) (by rw [hro2.1]; exact h12) hr6) cv_X12_244 dX12_findCircle_226 ?_
                    refine m_eqi ((if_neg hmem : _ = (0 : Int32))) ?_
                    refine m_if_ne 253 dX12_findCircle_229 (by decide) (fun c229 => by exfalso; exact c229 rfl) (fun c229 => ?_)
                    refine m_aload_n dX12_findCircle_232 rfl ?_
                    refine m_get fl_X12_62 (by decide) rfl rfl dX12_findCircle_233 ?_
                    refine m_aload_n dX12_findCircle_236 rfl ?_
                    refine m_get fl_X12_237 (by decide) rfl rfl dX12_findCircle_237 ?_
                    refine m_eqi (m5.1) ?_
                    refine m_lload dX12_findCircle_240 rfl ?_
                    refine m_last hL (by omega) dX12_findCircle_242 ?_
                    refine m_aload_n dX12_findCircle_243 rfl ?_
                    refine m_dup dX12_findCircle_244 rfl ?_
                    refine m_get fl_X12_237 (by decide) rfl rfl dX12_findCircle_245 ?_
                    refine m_eqi ((m5.1 : _ = nI rs.length)) ?_
                    refine m_iconstN 1 dX12_findCircle_248 (by decide) ?_
                    first | refine m_iaddN dX12_findCircle_249 ?_ | refine m_iadd dX12_findCircle_249 ?_
                    refine m_put fl_X12_237 (by decide) rfl (Nat.le_of_ble_eq_true rfl) rfl dX12_findCircle_250 ?_
                    first | refine m_iincN 1 dX12_findCircle_253 (by decide) rfl rfl ?_ | refine m_iinc dX12_findCircle_253 rfl rfl ?_
                    refine m_goto 69 dX12_findCircle_256 (by decide) ?_
                    refine m_iload dX12_findCircle_69 rfl ?_
                    refine m_bipushN 6 dX12_findCircle_71 (by decide) ?_
                    first | refine m_icmp_geN 259 dX12_findCircle_73 (by decide) (by omega) (by omega) (fun c73 => ?_) (fun c73 => ?_) | refine m_icmp_ge 259 dX12_findCircle_73 (by decide) (fun c73 => ?_) (fun c73 => ?_)
                    · first | refine m_iincN 1 dX12_findCircle_259 (by decide) rfl rfl ?_ | refine m_iinc dX12_findCircle_259 rfl rfl ?_
                      refine m_goto 48 dX12_findCircle_262 (by decide) ?_
                      refine m_iload_n dX12_findCircle_48 rfl ?_
                      refine m_aload_n dX12_findCircle_49 rfl ?_
                      refine m_get fl_X12_237 (by decide) rfl rfl dX12_findCircle_50 ?_
                      refine m_eqi ((se_s _ _ _ _ : _ = nI (rs.length + 1))) ?_
                      first | refine m_icmp_geN 265 dX12_findCircle_53 (by decide) (by omega) (by omega) (fun c53 => by exfalso; omega) (fun c53 => ?_) | refine m_icmp_ge 265 dX12_findCircle_53 (by decide) (fun c53 => by exfalso; omega) (fun c53 => ?_)
                      refine m_aload_n dX12_findCircle_56 rfl ?_
                      refine m_get fl_X12_237 (by decide) rfl rfl dX12_findCircle_57 ?_
                      refine m_eqi ((se_s _ _ _ _ : _ = nI (rs.length + 1))) ?_
                      refine m_sipushN 2000 dX12_findCircle_60 (by decide) ?_
                      first | refine m_icmp_gtN 265 dX12_findCircle_63 (by decide) (by omega) (by omega) (fun c63 => ?_) (fun c63 => by exfalso; omega) | refine m_icmp_gt 265 dX12_findCircle_63 (by decide) (fun c63 => ?_) (fun c63 => by exfalso; omega)
                      exact m_vret hR dX12_findCircle_265 (⟨Or.inr ⟨hnone, by rw [se_s, hlen]⟩, ((m3.tr (chK.of (h208.2.2.mono (by simp [moCC])) (by simp [moCC]))).seL (by simp [moCC])).fld (by decide)⟩)
                    · refine m_aload_n dX12_findCircle_76 rfl ?_
                      refine m_get fl_X12_237 (by decide) rfl rfl dX12_findCircle_77 ?_
                      refine m_eqi ((se_s _ _ _ _ : _ = nI (rs.length + 1))) ?_
                      refine m_sipushN 2000 dX12_findCircle_80 (by decide) ?_
                      first | refine m_icmp_gtN 259 dX12_findCircle_83 (by decide) (by omega) (by omega) (fun c83 => ?_) (fun c83 => by exfalso; omega) | refine m_icmp_gt 259 dX12_findCircle_83 (by decide) (fun c83 => ?_) (fun c83 => by exfalso; omega)
                      first | refine m_iincN 1 dX12_findCircle_259 (by decide) rfl rfl ?_ | refine m_iinc dX12_findCircle_259 rfl rfl ?_
                      refine m_goto 48 dX12_findCircle_262 (by decide) ?_
                      refine m_iload_n dX12_findCircle_48 rfl ?_
                      refine m_aload_n dX12_findCircle_49 rfl ?_
                      refine m_get fl_X12_237 (by decide) rfl rfl dX12_findCircle_50 ?_
                      refine m_eqi ((se_s _ _ _ _ : _ = nI (rs.length + 1))) ?_
                      first | refine m_icmp_geN 265 dX12_findCircle_53 (by decide) (by omega) (by omega) (fun c53 => by exfalso; omega) (fun c53 => ?_) | refine m_icmp_ge 265 dX12_findCircle_53 (by decide) (fun c53 => by exfalso; omega) (fun c53 => ?_)
                      refine m_aload_n dX12_findCircle_56 rfl ?_
                      refine m_get fl_X12_237 (by decide) rfl rfl dX12_findCircle_57 ?_
                      refine m_eqi ((se_s _ _ _ _ : _ = nI (rs.length + 1))) ?_
                      refine m_sipushN 2000 dX12_findCircle_60 (by decide) ?_
                      first | refine m_icmp_gtN 265 dX12_findCircle_63 (by decide) (by omega) (by omega) (fun c63 => ?_) (fun c63 => by exfalso; omega) | refine m_icmp_gt 265 dX12_findCircle_63 (by decide) (fun c63 => ?_) (fun c63 => by exfalso; omega)
                      exact m_vret hR dX12_findCircle_265 (⟨Or.inr ⟨hnone, by rw [se_s, hlen]⟩, ((m3.tr (chK.of (h208.2.2.mono (by simp [moCC])) (by simp [moCC]))).seL (by simp [moCC])).fld (by decide)⟩)
              have shift : ∀ (A0 : xD), arrB A0 246 ys → mcIs A0 rs → chK moCC d A0 → ∀ q, q ≤ ys.length - 1 → i ≤ q → ∀ d4, (∀ r, i ≤ r → r < q → d4.1 246 r = A0.1 246 (r + 1)) → (∀ r, (r < i ∨ q ≤ r) → d4.1 246 r = A0.1 246 r) → chg [246] A0 d4 → mG W K cX12_findCircle RX12 (dep + 4) d4 162 [some (.ref (xad W 240)), some (.int (nI n)), some (.int (nI xs.length)), some (.int (nI at0)), some (.int (nI t)), o5, none, some (.int (nI i)), some (.int (nI q)), o9] [] := fun A0 q1 q2 q3 => x_up _ (fun q hq ihq hiq d4 m1 m2 m3 => by
                by_cases hqe : q < ys.length - 1
                · skip
                  refine m_iload dX12_findCircle_162 rfl ?_
                  refine m_iconstN 1 dX12_findCircle_164 (by decide) ?_
                  first | refine m_iaddN dX12_findCircle_165 ?_ | refine m_iadd dX12_findCircle_165 ?_
                  refine m_iload_n dX12_findCircle_166 rfl ?_
                  first | refine m_icmp_geN 192 dX12_findCircle_167 (by decide) (by omega) (by omega) (fun c167 => by exfalso; omega) (fun c167 => ?_) | refine m_icmp_ge 192 dX12_findCircle_167 (by decide) (fun c167 => by exfalso; omega) (fun c167 => ?_)
                  refine m_aload_n dX12_findCircle_170 rfl ?_
                  refine m_get fl_X12_29 (by decide) rfl rfl dX12_findCircle_171 ?_
                  refine m_iload dX12_findCircle_174 rfl ?_
                  refine m_aload_n dX12_findCircle_176 rfl ?_
                  refine m_get fl_X12_29 (by decide) rfl rfl dX12_findCircle_177 ?_
                  refine m_iload dX12_findCircle_180 rfl ?_
                  refine m_iconstN 1 dX12_findCircle_182 (by decide) ?_
                  first | refine m_iaddN dX12_findCircle_183 ?_ | refine m_iadd dX12_findCircle_183 ?_
                  refine m_iald (by first | exact ⟨by decide, by decide, fun _ => rfl⟩ | exact isI_arr _ (by omega) | exact isI_mv _ (by omega) | exact isI_ne _ (by omega)) (by omega) dX12_findCircle_184 ?_
                  refine m_iast (by first | exact ⟨by decide, by decide, fun _ => rfl⟩ | exact isI_arr _ (by omega) | exact isI_mv _ (by omega) | exact isI_ne _ (by omega)) (by omega) dX12_findCircle_185 ?_
                  first | refine m_iincN 1 dX12_findCircle_186 (by decide) rfl rfl ?_ | refine m_iinc dX12_findCircle_186 rfl rfl ?_
                  refine m_goto 162 dX12_findCircle_189 (by decide) ?_
                  refine ihq hqe (by omega) _ (fun r hr hr2 => ?_) (fun r hr => ?_) (m3.se (by simp))
                  · by_cases e : r = q
                    · subst e; rw [se_s]; exact m2 (r + 1) (by omega)
                    · rw [se_n _ _ e]; exact m1 r hr (by omega)
                  · rw [se_n _ _ (by omega)]; exact m2 r (by omega)
                · have e6 : q = ys.length - 1 := by omega
                  have hu4 : arrB d4 246 (ys.eraseIdx i) := q1.erase (fun r h1 h2 => m2 r (Or.inl h1)) (fun r h1 h2 => m1 r h1 (by omega)) hil
                  have hel := List.length_eraseIdx_of_lt hil
                  have hsn := hu4.snoc (x := t)
                  rw [hel, hyl] at hsn
                  have hC : chg [246] A0 (seI d4 246 (xs.length - 1) (nI t)) := m3.se (by simp)
                  refine m_iload dX12_findCircle_162 rfl ?_
                  refine m_iconstN 1 dX12_findCircle_164 (by decide) ?_
                  first | refine m_iaddN dX12_findCircle_165 ?_ | refine m_iadd dX12_findCircle_165 ?_
                  refine m_iload_n dX12_findCircle_166 rfl ?_
                  first | refine m_icmp_geN 192 dX12_findCircle_167 (by decide) (by omega) (by omega) (fun c167 => ?_) (fun c167 => by exfalso; omega) | refine m_icmp_ge 192 dX12_findCircle_167 (by decide) (fun c167 => ?_) (fun c167 => by exfalso; omega)
                  refine m_aload_n dX12_findCircle_192 rfl ?_
                  refine m_get fl_X12_29 (by decide) rfl rfl dX12_findCircle_193 ?_
                  refine m_iload_n dX12_findCircle_196 rfl ?_
                  refine m_iconstN 1 dX12_findCircle_197 (by decide) ?_
                  first | refine m_isubN dX12_findCircle_198 (by omega) ?_ | refine m_isub dX12_findCircle_198 ?_
                  refine m_iload dX12_findCircle_199 rfl ?_
                  refine m_iast (by first | exact ⟨by decide, by decide, fun _ => rfl⟩ | exact isI_arr _ (by omega) | exact isI_mv _ (by omega) | exact isI_ne _ (by omega)) (by omega) dX12_findCircle_201 ?_
                  exact stage4 _ _ hsn ⟨by rw [(hC 240 (by simp)).1]; exact q2.1, fun i h => by rw [(hC 256 (by simp)).2]; exact q2.2 i h⟩ (q3.tr (chK.of (hC.mono (by simp [moCC])) (by simp [moCC])))
                )
              refine m_aload_n dX12_findCircle_134 rfl ?_
              refine m_iload_n dX12_findCircle_135 rfl ?_
              refine m_callVV (s_X12_putAllOn (n := xs.length) (by omega)) cv_X12_179 dX12_findCircle_136 (fun d136 h136 => ?_)
              refine m_aload_n dX12_findCircle_139 rfl ?_
              refine m_aload_n dX12_findCircle_140 rfl ?_
              refine m_get fl_X12_29 (by decide) rfl rfl dX12_findCircle_141 ?_
              refine m_iload_n dX12_findCircle_144 rfl ?_
              refine m_iload dX12_findCircle_145 rfl ?_
              rw [← hyl] at h136
              rw [show nI xs.length = nI ys.length by rw [hyl]]
              refine m_callVIp (s_X12_firstOf hI (hl3.fr h136.2 (by simp) (by simp)) hy6 (by omega) (k1.fr h136.2 (by simp)) h136.1 ht6) cv_X12_175 dX12_findCircle_147 ?_
              refine m_eqi ((by rw [e1, hi]; rfl : _ = nI i)) ?_
              refine m_istore dX12_findCircle_150 (Nat.le_of_ble_eq_true rfl) rfl ?_
              refine m_iload dX12_findCircle_152 rfl ?_
              refine m_iconst (v := -1) dX12_findCircle_154 (by decide) ?_
              refine m_icmp_eq 253 dX12_findCircle_155 (by decide) (fun c155 => by exfalso; exact nI_m1 (by omega) c155) (fun c155 => ?_)
              refine m_iload dX12_findCircle_158 rfl ?_
              refine m_istore dX12_findCircle_160 (Nat.le_of_ble_eq_true rfl) rfl ?_
              rw [show nI ys.length = nI xs.length by rw [hyl]]
              exact shift d136 (k1.fr h136.2 (by simp)) ⟨by rw [(h136.2 240 (by simp)).1]; exact k2.1, fun i h => by rw [(h136.2 256 (by simp)).2]; exact k2.2 i h⟩ (k3.tr (chK.of (h136.2.mono (by simp [moCC])) (by simp [moCC]))) i (by omega) (Nat.le_refl _) d136 (fun r h1 h2 => by omega) (fun r _ => rfl) chg.rf
          -- the row is read off its number
          have stage1 : ∀ j, j ≤ ys.length → ∀ d3, (∀ q, j ≤ q → q < ys.length → d3.1 246 q = nI (ys.getD q 0)) → mcIs d3 rs → chK moCC d d3 → mG W K cX12_findCircle RX12 (dep + 4) d3 99 [some (.ref (xad W 240)), some (.int (nI n)), some (.int (nI xs.length)), some (.int (nI at0)), some (.int (nI t)), some (.long (lN (key7 (ys.take j)))), none, some (.int (nI j - nI 1)), o8, o9] [] := by
            intro j
            induction j with
            | zero =>
              intro _ d3 k1 k2 k3
              refine m_iload dX12_findCircle_99 rfl ?_
              refine m_if_lt 134 dX12_findCircle_101 (by decide) (fun c101 => ?_) (fun c101 => by exfalso; exact c101 (by decide))
              exact stage2 d3 _ _ (fun q hq => k1 q (Nat.zero_le _) hq) k2 k3
            | succ j ihj =>
              intro hj d3 k1 k2 k3
              have hyj : ys[j] < 6 := hy6 _ (List.getElem_mem (by omega))
              have hk7 := key7_12 (xs := ys.take j) (by rw [List.length_take]; have := hyo.1; omega) (fun y h => hy6 y (List.mem_of_mem_take h))
              have e9 : nI (j + 1) - nI 1 = nI j := by rw [pk_sub (by omega)]; rfl
              rw [e9, take_s (by omega), key7_s]
              have ihj2 := ihj (by omega)
              have hyl : ys.length = xs.length := hyo.1
              refine m_iload dX12_findCircle_99 rfl ?_
              refine m_if_ltN 134 dX12_findCircle_101 (by decide) (by omega) ?_
              refine m_aload_n dX12_findCircle_104 rfl ?_
              refine m_get fl_X12_29 (by decide) rfl rfl dX12_findCircle_105 ?_
              refine m_iload dX12_findCircle_108 rfl ?_
              refine m_lload dX12_findCircle_110 rfl ?_
              refine m_ldc2 ct_X12_235 dX12_findCircle_112 ?_
              refine m_eql (y := lN 7) (by decide +kernel) ?_
              first | refine m_lremN dX12_findCircle_115 (by omega) (by omega) (by omega) ?_ | refine m_lrem dX12_findCircle_115 (by decide) ?_
              refine m_eql ((by rw [show (7 * key7 (ys.take j) + ys[j] + 1) % 7 = ys[j] + 1 by omega] : _ = lN (ys[j] + 1))) ?_
              first | refine m_l2iN dX12_findCircle_116 ?_ | refine m_l2i dX12_findCircle_116 ?_
              refine m_iconstN 1 dX12_findCircle_117 (by decide) ?_
              first | refine m_isubN dX12_findCircle_118 (by omega) ?_ | refine m_isub dX12_findCircle_118 ?_
              refine m_eqi ((by rw [Nat.add_sub_cancel] : _ = nI ys[j])) ?_
              refine m_iast (by first | exact ⟨by decide, by decide, fun _ => rfl⟩ | exact isI_arr _ (by omega) | exact isI_mv _ (by omega) | exact isI_ne _ (by omega)) (by omega) dX12_findCircle_119 ?_
              refine m_lload dX12_findCircle_120 rfl ?_
              refine m_ldc2 ct_X12_235 dX12_findCircle_122 ?_
              refine m_eql (y := lN 7) (by decide +kernel) ?_
              first | refine m_ldivN dX12_findCircle_125 (by omega) (by omega) (by omega) ?_ | refine m_ldiv dX12_findCircle_125 (by decide) ?_
              refine m_eql ((by rw [show (7 * key7 (ys.take j) + ys[j] + 1) / 7 = key7 (ys.take j) by omega] : _ = lN (key7 (ys.take j)))) ?_
              refine m_lstore dX12_findCircle_126 (Nat.le_of_ble_eq_true rfl) rfl ?_
              refine m_iinc dX12_findCircle_128 rfl rfl ?_
              refine m_goto 99 dX12_findCircle_131 (by decide) ?_
              rw [show nI j + Int32.ofInt (-1) = nI j - nI 1 from by rw [Int32.sub_eq_add_neg]; rfl]
              refine ihj2 _ (fun q h1 h2 => ?_) ⟨by rw [seI_o _ _ _ _ 240 (by decide)]; exact k2.1, k2.2⟩ (k3.se (by simp [moCC]) (by decide))
              by_cases e : q = j
              · subst e; rw [se_s, getD_at h2]
              · exact se_e2 (k1 q (by omega) h2) e
          have hst := stage1 ys.length (Nat.le_refl _) d2 (fun q h1 h2 => by omega) g1 g2
          rw [List.take_length, hyo.1] at hst
          refine m_iload dX12_findCircle_69 rfl ?_
          refine m_bipushN 6 dX12_findCircle_71 (by decide) ?_
          first | refine m_icmp_geN 259 dX12_findCircle_73 (by decide) (by omega) (by omega) (fun c73 => by exfalso; omega) (fun c73 => ?_) | refine m_icmp_ge 259 dX12_findCircle_73 (by decide) (fun c73 => by exfalso; omega) (fun c73 => ?_)
          refine m_aload_n dX12_findCircle_76 rfl ?_
          refine m_get fl_X12_237 (by decide) rfl rfl dX12_findCircle_77 ?_
          refine m_eqi (g1.1) ?_
          refine m_sipushN 2000 dX12_findCircle_80 (by decide) ?_
          first | refine m_icmp_gtN 259 dX12_findCircle_83 (by decide) (by omega) (by omega) (fun c83 => by exfalso; omega) (fun c83 => ?_) | refine m_icmp_gt 259 dX12_findCircle_83 (by decide) (fun c83 => by exfalso; omega) (fun c83 => ?_)
          refine m_aload_n dX12_findCircle_86 rfl ?_
          refine m_get fl_X12_62 (by decide) rfl rfl dX12_findCircle_87 ?_
          refine m_iload_n dX12_findCircle_90 rfl ?_
          refine m_lald hL (by omega) dX12_findCircle_91 ?_
          refine m_eql (hcir) ?_
          refine m_lstore dX12_findCircle_92 (Nat.le_of_ble_eq_true rfl) rfl ?_
          refine m_iload_n dX12_findCircle_94 rfl ?_
          refine m_iconstN 1 dX12_findCircle_95 (by decide) ?_
          refine m_isub dX12_findCircle_96 ?_
          refine m_istore dX12_findCircle_97 (Nat.le_of_ble_eq_true rfl) rfl ?_
          exact hst
        · have e6 : t = 6 := by omega
          subst e6
          rw [← hk6, gt] at heq
          refine m_iload dX12_findCircle_69 rfl ?_
          refine m_bipushN 6 dX12_findCircle_71 (by decide) ?_
          first | refine m_icmp_geN 259 dX12_findCircle_73 (by decide) (by omega) (by omega) (fun c73 => ?_) (fun c73 => by exfalso; omega) | refine m_icmp_ge 259 dX12_findCircle_73 (by decide) (fun c73 => ?_) (fun c73 => by exfalso; omega)
          first | refine m_iincN 1 dX12_findCircle_259 (by decide) rfl rfl ?_ | refine m_iinc dX12_findCircle_259 rfl rfl ?_
          refine m_goto 48 dX12_findCircle_262 (by decide) ?_
          exact ihat (by omega) rs d2 _ _ _ _ _ _ heq grl gro g1 g2
        )
      refine m_iload_n dX12_findCircle_48 rfl ?_
      refine m_aload_n dX12_findCircle_49 rfl ?_
      refine m_get fl_X12_237 (by decide) rfl rfl dX12_findCircle_50 ?_
      refine m_eqi (h1.1) ?_
      first | refine m_icmp_geN 265 dX12_findCircle_53 (by decide) (by omega) (by omega) (fun c53 => by exfalso; omega) (fun c53 => ?_) | refine m_icmp_ge 265 dX12_findCircle_53 (by decide) (fun c53 => by exfalso; omega) (fun c53 => ?_)
      refine m_aload_n dX12_findCircle_56 rfl ?_
      refine m_get fl_X12_237 (by decide) rfl rfl dX12_findCircle_57 ?_
      refine m_eqi (h1.1) ?_
      refine m_sipushN 2000 dX12_findCircle_60 (by decide) ?_
      first | refine m_icmp_gtN 265 dX12_findCircle_63 (by decide) (by omega) (by omega) (fun c63 => by exfalso; omega) (fun c63 => ?_) | refine m_icmp_gt 265 dX12_findCircle_63 (by decide) (fun c63 => by exfalso; omega) (fun c63 => ?_)
      refine m_iconstN 0 dX12_findCircle_66 (by decide) ?_
      refine m_istore dX12_findCircle_67 (Nat.le_of_ble_eq_true rfl) rfl ?_
      exact inner 0 (by decide) rs0 d1 _ _ _ _ _ rfl hrl ⟨[], by rw [List.append_nil]⟩ hro h1 h2
    · have hR1 : R0 = some rs0 := by
        rw [heq]
        cases h9 : 2000 - at0 with
        | zero => rfl
        | succ m => rw [circF_s, if_neg hin]
      refine m_iload_n dX12_findCircle_48 rfl ?_
      refine m_aload_n dX12_findCircle_49 rfl ?_
      refine m_get fl_X12_237 (by decide) rfl rfl dX12_findCircle_50 ?_
      refine m_eqi (h1.1) ?_
      first | refine m_icmp_geN 265 dX12_findCircle_53 (by decide) (by omega) (by omega) (fun c53 => ?_) (fun c53 => by exfalso; omega) | refine m_icmp_ge 265 dX12_findCircle_53 (by decide) (fun c53 => ?_) (fun c53 => by exfalso; omega)
      exact m_vret hR dX12_findCircle_265 (⟨Or.inl ⟨rs0, hR1, hrl, h1, hro⟩, h2⟩)
    )
  have hxo : ofLen σ.1 xs.length xs := ⟨rfl, hAx⟩
  have hr0 := hlo _ hxo
  refine m_aload_n dX12_findCircle_0 rfl ?_
  refine m_get fl_X12_17 (by decide) rfl rfl dX12_findCircle_1 ?_
  refine m_iload_n dX12_findCircle_4 rfl ?_
  refine m_iald (by first | exact ⟨by decide, by decide, fun _ => rfl⟩ | exact isI_arr _ (by omega) | exact isI_mv _ (by omega) | exact isI_ne _ (by omega)) (by omega) dX12_findCircle_5 ?_
  refine m_eqi (hA) ?_
  refine m_istore_n dX12_findCircle_6 (Nat.le_of_ble_eq_true rfl) rfl ?_
  refine m_aload_n dX12_findCircle_7 rfl ?_
  refine m_iload_n dX12_findCircle_8 rfl ?_
  refine m_aload_n dX12_findCircle_9 rfl ?_
  refine m_get fl_X12_29 (by decide) rfl rfl dX12_findCircle_10 ?_
  refine m_callVV (s_X12_take (o := 246) hI (by decide) hn hs) cv_X12_186 dX12_findCircle_13 (fun d13 h13 => ?_)
  rw [hxs] at h13
  refine m_aload_n dX12_findCircle_16 rfl ?_
  refine m_aload_n dX12_findCircle_17 rfl ?_
  refine m_get fl_X12_29 (by decide) rfl rfl dX12_findCircle_18 ?_
  refine m_iload_n dX12_findCircle_21 rfl ?_
  refine m_callVI (s_X12_makeLeastOf hI (by decide) (hs.fr h13.2 (by simp) (by simp) (by simp) (by simp)).1 hAx (by omega) h13.1) cv_X12_190 dX12_findCircle_22 (fun r22 d22 h22 => ?_)
  refine m_pop dX12_findCircle_25 rfl ?_
  refine m_aload_n dX12_findCircle_26 rfl ?_
  refine m_get fl_X12_62 (by decide) rfl rfl dX12_findCircle_27 ?_
  refine m_iconstN 0 dX12_findCircle_30 (by decide) ?_
  refine m_aload_n dX12_findCircle_31 rfl ?_
  refine m_aload_n dX12_findCircle_32 rfl ?_
  refine m_get fl_X12_35 (by decide) rfl rfl dX12_findCircle_33 ?_
  refine m_iload_n dX12_findCircle_36 rfl ?_
  rw [show nI xs.length = nI (leastR (bw σ.1 σ.2.1) xs).length by rw [hr0.1]]
  refine m_callVLp (s_X12_keyOf hI8 (by rw [hr0.1]; omega) (fun x hx => by have := hr0.2 x hx; omega) h22.2.1) cv_X12_240 dX12_findCircle_37 ?_
  refine m_last hL (by decide) dX12_findCircle_40 ?_
  refine m_aload_n dX12_findCircle_41 rfl ?_
  refine m_iconstN 1 dX12_findCircle_42 (by decide) ?_
  refine m_put fl_X12_237 (by decide) rfl (Nat.le_of_ble_eq_true rfl) rfl dX12_findCircle_43 ?_
  refine m_iconstN 0 dX12_findCircle_46 (by decide) ?_
  refine m_istore_n dX12_findCircle_47 (Nat.le_of_ble_eq_true rfl) rfl ?_
  rw [show nI (leastR (bw σ.1 σ.2.1) xs).length = nI xs.length by rw [hr0.1]]
  refine outer 0 (by decide) [leastR (bw σ.1 σ.2.1) xs] _ _ _ _ _ _ _ hR0.symm (by simp) (fun r hr => by rw [List.mem_singleton.mp hr]; exact hr0) ⟨se_s _ _ _ _, fun i h => ?_⟩ ((((chK.of (h13.2.mono (by simp [moCC])) (by simp [moCC])).tr (chK.of (h22.2.2.mono (by simp [moCC])) (by simp [moCC]))).seL (by simp [moCC])).fld (by decide))
  have e : i = 0 := by simp at h; omega
  subst e
  show (seL d22 256 0 _).2 256 0 = _
  exact seL_s' _ _ _ _
theorem s_X12_circleO (hx : hN x = none) : mSpecI l W mX12_circle (dep + 2) [.ref (xad W 240), .int x] d (fun r d' => r = -2 ∧ d' = d) := by
  refine m_spec RX12 [some (.ref (xad W 240)), some (.int x)] rfl (by decide +kernel) rfl rfl (fun K hR => ?_)
  refine m_iload_n dX12_circle_0 rfl ?_
  refine m_callSIp (s_X12_isHeapO hx) cs_X12_172 dX12_circle_1 ?_
  refine m_if_ne 10 dX12_circle_4 (by decide) (fun c4 => by exfalso; exact c4 rfl) (fun c4 => ?_)
  refine m_bipush (v := -2) dX12_circle_7 (by decide) ?_
  exact m_iret (ty := .int) hR dX12_circle_9 (⟨rfl, rfl⟩)
theorem s_X12_circleL (hx : hN x = some n) (hs : moSt d σ) (hl : ¬ (σ.2.2 n).length ≤ 12) : mSpecI l W mX12_circle (dep + 2) [.ref (xad W 240), .int x] d (fun r d' => r = -3 ∧ d' = d) := by
  obtain ⟨hn, rfl⟩ := hN_some hx
  have h24 := (hs.2 n hn).2.1
  refine m_spec RX12 [some (.ref (xad W 240)), some (.int (nI n))] rfl (by decide +kernel) rfl rfl (fun K hR => ?_)
  refine m_iload_n dX12_circle_0 rfl ?_
  refine m_callSIp (s_X12_isHeap hx) cs_X12_172 dX12_circle_1 ?_
  refine m_if_ne 10 dX12_circle_4 (by decide) (fun c4 => ?_) (fun c4 => by exfalso; exact c4 (by decide))
  refine m_aload_n dX12_circle_10 rfl ?_
  refine m_get fl_X12_17 (by decide) rfl rfl dX12_circle_11 ?_
  refine m_iload_n dX12_circle_14 rfl ?_
  refine m_iald (by first | exact ⟨by decide, by decide, fun _ => rfl⟩ | exact isI_arr _ (by omega) | exact isI_mv _ (by omega) | exact isI_ne _ (by omega)) (by omega) dX12_circle_15 ?_
  refine m_eqi ((hs.2 n hn).1) ?_
  refine m_bipushN 12 dX12_circle_16 (by decide) ?_
  first | refine m_icmp_leN 24 dX12_circle_18 (by decide) (by omega) (by omega) (fun c18 => by exfalso; omega) (fun c18 => ?_) | refine m_icmp_le 24 dX12_circle_18 (by decide) (fun c18 => by exfalso; omega) (fun c18 => ?_)
  refine m_bipush (v := -3) dX12_circle_21 (by decide) ?_
  exact m_iret (ty := .int) hR dX12_circle_23 (⟨rfl, rfl⟩)
theorem s_X12_circle (hx : hN x = some n) (hs : moSt d σ) (hl : (σ.2.2 n).length ≤ 12) : mSpecI l W mX12_circle (dep + 5) [.ref (xad W 240), .int x] d (fun r d' => r = (match circF (bw σ.1 σ.2.1) σ.1 2000 0 [leastR (bw σ.1 σ.2.1) (σ.2.2 n)] with | some rs => nI rs.length | none => -6) ∧ chK moCC d d') := by
  obtain ⟨hn, rfl⟩ := hN_some hx
  refine m_spec RX12 [some (.ref (xad W 240)), some (.int (nI n))] rfl (by decide +kernel) rfl rfl (fun K hR => ?_)
  have tail1 : ∀ d1 rs, circF (bw σ.1 σ.2.1) σ.1 2000 0 [leastR (bw σ.1 σ.2.1) (σ.2.2 n)] = some rs → rs.length ≤ 2000 → mcIs d1 rs → chK moCC d d1 → mG W K cX12_circle RX12 (dep + 5) d1 29 [some (.ref (xad W 240)), some (.int (nI n))] [] := fun d1 rs q1 q2 q3 q4 => by
    refine m_aload_n dX12_circle_29 rfl ?_
    refine m_get fl_X12_237 (by decide) rfl rfl dX12_circle_30 ?_
    refine m_eqi (q3.1) ?_
    refine m_sipushN 2000 dX12_circle_33 (by decide) ?_
    first | refine m_icmp_leN 44 dX12_circle_36 (by decide) (by omega) (by omega) (fun c36 => ?_) (fun c36 => by exfalso; omega) | refine m_icmp_le 44 dX12_circle_36 (by decide) (fun c36 => ?_) (fun c36 => by exfalso; omega)
    refine m_aload_n dX12_circle_44 rfl ?_
    refine m_get fl_X12_237 (by decide) rfl rfl dX12_circle_45 ?_
    refine m_eqi (q3.1) ?_
    exact m_iret (ty := .int) hR dX12_circle_48 (⟨by rw [q1], q4⟩)
  have tail2 : ∀ d1, circF (bw σ.1 σ.2.1) σ.1 2000 0 [leastR (bw σ.1 σ.2.1) (σ.2.2 n)] = none → d1.1 240 27 = nI 2001 → chK moCC d d1 → mG W K cX12_circle RX12 (dep + 5) d1 29 [some (.ref (xad W 240)), some (.int (nI n))] [] := fun d1 q1 q2 q4 => by
    refine m_aload_n dX12_circle_29 rfl ?_
    refine m_get fl_X12_237 (by decide) rfl rfl dX12_circle_30 ?_
    refine m_eqi (q2) ?_
    refine m_sipushN 2000 dX12_circle_33 (by decide) ?_
    first | refine m_icmp_leN 44 dX12_circle_36 (by decide) (by omega) (by omega) (fun c36 => by exfalso; omega) (fun c36 => ?_) | refine m_icmp_le 44 dX12_circle_36 (by decide) (fun c36 => by exfalso; omega) (fun c36 => ?_)
    refine m_bipush (v := -6) dX12_circle_39 (by decide) ?_
    refine m_goto 48 dX12_circle_41 (by decide) ?_
    exact m_iret (ty := .int) hR dX12_circle_48 (⟨by rw [q1], q4⟩)
  refine m_iload_n dX12_circle_0 rfl ?_
  refine m_callSIp (s_X12_isHeap hx) cs_X12_172 dX12_circle_1 ?_
  refine m_if_ne 10 dX12_circle_4 (by decide) (fun c4 => ?_) (fun c4 => by exfalso; exact c4 (by decide))
  refine m_aload_n dX12_circle_10 rfl ?_
  refine m_get fl_X12_17 (by decide) rfl rfl dX12_circle_11 ?_
  refine m_iload_n dX12_circle_14 rfl ?_
  refine m_iald (by first | exact ⟨by decide, by decide, fun _ => rfl⟩ | exact isI_arr _ (by omega) | exact isI_mv _ (by omega) | exact isI_ne _ (by omega)) (by omega) dX12_circle_15 ?_
  refine m_eqi ((hs.2 n hn).1) ?_
  refine m_bipushN 12 dX12_circle_16 (by decide) ?_
  first | refine m_icmp_leN 24 dX12_circle_18 (by decide) (by omega) (by omega) (fun c18 => ?_) (fun c18 => by exfalso; omega) | refine m_icmp_le 24 dX12_circle_18 (by decide) (fun c18 => ?_) (fun c18 => by exfalso; omega)
  refine m_aload_n dX12_circle_24 rfl ?_
  refine m_iload_n dX12_circle_25 rfl ?_
  refine m_callVV (s_X12_findCircle hn hs hl) cv_X12_248 dX12_circle_26 (fun d26 h26 => ?_)
  rcases h26 with ⟨⟨rs, q1, q2, q3, q4⟩ | ⟨q1, q2⟩, q5⟩
  · exact tail1 d26 rs q1 q2 q3 q5
  · exact tail2 d26 q1 q2 q5
theorem s_X12_turnedO (h : hN x = none ∨ hN y = none) : mSpecI l W mX12_turned (dep + 2) [.ref (xad W 240), .int x, .int y] d (fun r d' => r = -2 ∧ d' = d) := by
  refine m_spec RX12 [some (.ref (xad W 240)), some (.int x), some (.int y)] rfl (by decide +kernel) rfl rfl (fun K hR => ?_)
  cases hx : hN x with
  | none =>
    refine m_iload_n dX12_turned_0 rfl ?_
    refine m_callSIp (s_X12_isHeapO hx) cs_X12_172 dX12_turned_1 ?_
    refine m_if_eq 14 dX12_turned_4 (by decide) (fun c4 => ?_) (fun c4 => by exfalso; exact c4 rfl)
    refine m_bipush (v := -2) dX12_turned_14 (by decide) ?_
    exact m_iret (ty := .int) hR dX12_turned_16 (⟨rfl, rfl⟩)
  | some n =>
    refine m_iload_n dX12_turned_0 rfl ?_
    refine m_callSIp (s_X12_isHeap hx) cs_X12_172 dX12_turned_1 ?_
    refine m_if_eq 14 dX12_turned_4 (by decide) (fun c4 => by exfalso; exact absurd c4 (by decide)) (fun c4 => ?_)
    refine m_iload_n dX12_turned_7 rfl ?_
    refine m_callSIp (s_X12_isHeapO (h.resolve_left (by rw [hx]; exact fun z => by cases z))) cs_X12_172 dX12_turned_8 ?_
    refine m_if_ne 17 dX12_turned_11 (by decide) (fun c11 => by exfalso; exact c11 rfl) (fun c11 => ?_)
    refine m_bipush (v := -2) dX12_turned_14 (by decide) ?_
    exact m_iret (ty := .int) hR dX12_turned_16 (⟨rfl, rfl⟩)
theorem s_X12_turnedL (hx : hN x = some n) (hy : hN y = some n2) (hs : moSt d σ) (hl : ¬ (σ.2.2 n).length ≤ 12) : mSpecI l W mX12_turned (dep + 2) [.ref (xad W 240), .int x, .int y] d (fun r d' => r = -3 ∧ d' = d) := by
  obtain ⟨hn, rfl⟩ := hN_some hx
  have h24 := (hs.2 n hn).2.1
  refine m_spec RX12 [some (.ref (xad W 240)), some (.int (nI n)), some (.int y)] rfl (by decide +kernel) rfl rfl (fun K hR => ?_)
  refine m_iload_n dX12_turned_0 rfl ?_
  refine m_callSIp (s_X12_isHeap hx) cs_X12_172 dX12_turned_1 ?_
  refine m_if_eq 14 dX12_turned_4 (by decide) (fun c4 => by exfalso; exact absurd c4 (by decide)) (fun c4 => ?_)
  refine m_iload_n dX12_turned_7 rfl ?_
  refine m_callSIp (s_X12_isHeap hy) cs_X12_172 dX12_turned_8 ?_
  refine m_if_ne 17 dX12_turned_11 (by decide) (fun c11 => ?_) (fun c11 => by exfalso; exact c11 (by decide))
  refine m_aload_n dX12_turned_17 rfl ?_
  refine m_get fl_X12_17 (by decide) rfl rfl dX12_turned_18 ?_
  refine m_iload_n dX12_turned_21 rfl ?_
  refine m_iald (by first | exact ⟨by decide, by decide, fun _ => rfl⟩ | exact isI_arr _ (by omega) | exact isI_mv _ (by omega) | exact isI_ne _ (by omega)) (by omega) dX12_turned_22 ?_
  refine m_eqi ((hs.2 n hn).1) ?_
  refine m_bipushN 12 dX12_turned_23 (by decide) ?_
  first | refine m_icmp_leN 31 dX12_turned_25 (by decide) (by omega) (by omega) (fun c25 => by exfalso; omega) (fun c25 => ?_) | refine m_icmp_le 31 dX12_turned_25 (by decide) (fun c25 => by exfalso; omega) (fun c25 => ?_)
  refine m_bipush (v := -3) dX12_turned_28 (by decide) ?_
  exact m_iret (ty := .int) hR dX12_turned_30 (⟨rfl, rfl⟩)
theorem s_X12_turned (hx : hN x = some n) (hy : hN y = some n2) (hs : moSt d σ) (hl : (σ.2.2 n).length ≤ 12) : mSpecI l W mX12_turned (dep + 5) [.ref (xad W 240), .int x, .int y] d (fun r d' => r = (match circF (bw σ.1 σ.2.1) σ.1 2000 0 [leastR (bw σ.1 σ.2.1) (σ.2.2 n)] with | some rs => if (σ.2.2 n2).length ≤ 12 ∧ leastR (bw σ.1 σ.2.1) (σ.2.2 n2) ∈ rs then 1 else 0 | none => -6) ∧ chK moCC d d') := by
  obtain ⟨hn, rfl⟩ := hN_some hx
  obtain ⟨hn2, rfl⟩ := hN_some hy
  have hk := hs.1.2.2.2.1
  obtain ⟨hA, hAl, hAg, hAx⟩ := hs.2 n hn
  obtain ⟨hB, hBl, hBg, hBx⟩ := hs.2 n2 hn2
  have hI : isI W 246 48 := ⟨by decide, by decide, fun _ => rfl⟩
  have hI8 : isI W 248 48 := ⟨by decide, by decide, fun _ => rfl⟩
  have hll := leastR_len (bw_ok hs.1.2.2 hBx)
  have hl6 : ∀ x ∈ leastR (bw σ.1 σ.2.1) (σ.2.2 n2), x < 6 := fun x hx => by have := hBx x (leastR_mem hx); omega
  refine m_spec RX12 [some (.ref (xad W 240)), some (.int (nI n)), some (.int (nI n2))] rfl (by decide +kernel) rfl rfl (fun K hR => ?_)
  have tail1 : ∀ d1 rs, circF (bw σ.1 σ.2.1) σ.1 2000 0 [leastR (bw σ.1 σ.2.1) (σ.2.2 n)] = some rs → rs.length ≤ 2000 → mcIs d1 rs → (∀ r ∈ rs, ofLen σ.1 (σ.2.2 n).length r) → chK moCC d d1 → mG W K cX12_turned RX12 (dep + 5) d1 36 [some (.ref (xad W 240)), some (.int (nI n)), some (.int (nI n2))] [] := fun d1 rs q1 q2 q3 q6 q4 => by
    have hs1 := hs.ck q4 (by simp [moCC]) (by simp [moCC]) (by simp [moCC])
    have hA1 := (hs1.2 n hn).1
    have hB1 := (hs1.2 n2 hn2).1
    by_cases hle : (σ.2.2 n).length = (σ.2.2 n2).length
    · skip
      refine m_aload_n dX12_turned_36 rfl ?_
      refine m_get fl_X12_237 (by decide) rfl rfl dX12_turned_37 ?_
      refine m_eqi (q3.1) ?_
      refine m_sipushN 2000 dX12_turned_40 (by decide) ?_
      first | refine m_icmp_leN 49 dX12_turned_43 (by decide) (by omega) (by omega) (fun c43 => ?_) (fun c43 => by exfalso; omega) | refine m_icmp_le 49 dX12_turned_43 (by decide) (fun c43 => ?_) (fun c43 => by exfalso; omega)
      refine m_aload_n dX12_turned_49 rfl ?_
      refine m_iload_n dX12_turned_50 rfl ?_
      refine m_aload_n dX12_turned_51 rfl ?_
      refine m_get fl_X12_29 (by decide) rfl rfl dX12_turned_52 ?_
      refine m_callVV (s_X12_take (o := 246) hI (by decide) hn2 hs1) cv_X12_186 dX12_turned_55 (fun d55 h55 => ?_)
      refine m_aload_n dX12_turned_58 rfl ?_
      refine m_aload_n dX12_turned_59 rfl ?_
      refine m_get fl_X12_29 (by decide) rfl rfl dX12_turned_60 ?_
      refine m_aload_n dX12_turned_63 rfl ?_
      refine m_get fl_X12_17 (by decide) rfl rfl dX12_turned_64 ?_
      refine m_iload_n dX12_turned_67 rfl ?_
      refine m_iald (by first | exact ⟨by decide, by decide, fun _ => rfl⟩ | exact isI_arr _ (by omega) | exact isI_mv _ (by omega) | exact isI_ne _ (by omega)) (by omega) dX12_turned_68 ?_
      refine m_eqi ((by rw [(h55.2 242 (by simp)).1]; exact hB1 : _ = nI (σ.2.2 n2).length)) ?_
      refine m_callVI (s_X12_makeLeastOf hI (by decide) (hs1.fr h55.2 (by simp) (by simp) (by simp) (by simp)).1 hBx (by omega) h55.1) cv_X12_190 dX12_turned_69 (fun r69 d69 h69 => ?_)
      refine m_pop dX12_turned_72 rfl ?_
      refine m_aload_n dX12_turned_73 rfl ?_
      refine m_get fl_X12_17 (by decide) rfl rfl dX12_turned_74 ?_
      refine m_iload_n dX12_turned_77 rfl ?_
      refine m_iald (by first | exact ⟨by decide, by decide, fun _ => rfl⟩ | exact isI_arr _ (by omega) | exact isI_mv _ (by omega) | exact isI_ne _ (by omega)) (by omega) dX12_turned_78 ?_
      refine m_eqi ((by rw [(h69.2.2 242 (by simp)).1, (h55.2 242 (by simp)).1]; exact hA1 : _ = nI (σ.2.2 n).length)) ?_
      refine m_aload_n dX12_turned_79 rfl ?_
      refine m_get fl_X12_17 (by decide) rfl rfl dX12_turned_80 ?_
      refine m_iload_n dX12_turned_83 rfl ?_
      refine m_iald (by first | exact ⟨by decide, by decide, fun _ => rfl⟩ | exact isI_arr _ (by omega) | exact isI_mv _ (by omega) | exact isI_ne _ (by omega)) (by omega) dX12_turned_84 ?_
      refine m_eqi ((by rw [(h69.2.2 242 (by simp)).1, (h55.2 242 (by simp)).1]; exact hB1 : _ = nI (σ.2.2 n2).length)) ?_
      first | refine m_icmp_neN 113 dX12_turned_85 (by decide) (by omega) (by omega) (fun c85 => by exfalso; omega) (fun c85 => ?_) | refine m_icmp_ne 113 dX12_turned_85 (by decide) (fun c85 => by exfalso; omega) (fun c85 => ?_)
      refine m_aload_n dX12_turned_88 rfl ?_
      refine m_aload_n dX12_turned_89 rfl ?_
      refine m_aload_n dX12_turned_90 rfl ?_
      refine m_get fl_X12_35 (by decide) rfl rfl dX12_turned_91 ?_
      refine m_aload_n dX12_turned_94 rfl ?_
      refine m_get fl_X12_17 (by decide) rfl rfl dX12_turned_95 ?_
      refine m_iload_n dX12_turned_98 rfl ?_
      refine m_iald (by first | exact ⟨by decide, by decide, fun _ => rfl⟩ | exact isI_arr _ (by omega) | exact isI_mv _ (by omega) | exact isI_ne _ (by omega)) (by omega) dX12_turned_99 ?_
      refine m_eqi ((by rw [(h69.2.2 242 (by simp)).1, (h55.2 242 (by simp)).1, hll]; exact hB1 : _ = nI (leastR (bw σ.1 σ.2.1) (σ.2.2 n2)).length)) ?_
      refine m_callVLp (s_X12_keyOf hI8 (by omega) hl6 h69.2.1) cv_X12_240 dX12_turned_100 ?_
      refine m_callVIp (s_X12_isMetIn (rs := rs) ⟨by rw [(h69.2.2 240 (by simp)).1, (h55.2 240 (by simp)).1]; exact q3.1, fun i h => by rw [(h69.2.2 256 (by simp)).2, (h55.2 256 (by simp)).2]; exact q3.2 i h⟩ (by omega) (fun r hr => ⟨by rw [(q6 r hr).1, hll, hle], fun x hx => by have := (q6 r hr).2 x hx; omega⟩) (by omega) hl6) cv_X12_244 dX12_turned_103 ?_
      refine m_if_eq 113 dX12_turned_106 (by decide) (fun c106 => ?_) (fun c106 => ?_)
      · refine m_iconstN 0 dX12_turned_113 (by decide) ?_
        exact m_iret (ty := .int) hR dX12_turned_114 (⟨by rw [q1]; show _ = if _ then _ else _; rw [if_neg (fun z => by rw [if_pos z.2] at c106; exact absurd c106 (by decide))]; rfl, q4.tr ((chK.of (h55.2.mono (by simp [moCC])) (by simp [moCC])).tr (chK.of (h69.2.2.mono (by simp [moCC])) (by simp [moCC])))⟩)
      · refine m_iconstN 1 dX12_turned_109 (by decide) ?_
        refine m_goto 114 dX12_turned_110 (by decide) ?_
        exact m_iret (ty := .int) hR dX12_turned_114 (⟨by rw [q1]; show _ = if _ then _ else _; rw [if_pos ⟨by omega, Decidable.byContradiction (fun z => c106 (by rw [if_neg z]))⟩]; rfl, q4.tr ((chK.of (h55.2.mono (by simp [moCC])) (by simp [moCC])).tr (chK.of (h69.2.2.mono (by simp [moCC])) (by simp [moCC])))⟩)
    · skip
      refine m_aload_n dX12_turned_36 rfl ?_
      refine m_get fl_X12_237 (by decide) rfl rfl dX12_turned_37 ?_
      refine m_eqi (q3.1) ?_
      refine m_sipushN 2000 dX12_turned_40 (by decide) ?_
      first | refine m_icmp_leN 49 dX12_turned_43 (by decide) (by omega) (by omega) (fun c43 => ?_) (fun c43 => by exfalso; omega) | refine m_icmp_le 49 dX12_turned_43 (by decide) (fun c43 => ?_) (fun c43 => by exfalso; omega)
      refine m_aload_n dX12_turned_49 rfl ?_
      refine m_iload_n dX12_turned_50 rfl ?_
      refine m_aload_n dX12_turned_51 rfl ?_
      refine m_get fl_X12_29 (by decide) rfl rfl dX12_turned_52 ?_
      refine m_callVV (s_X12_take (o := 246) hI (by decide) hn2 hs1) cv_X12_186 dX12_turned_55 (fun d55 h55 => ?_)
      refine m_aload_n dX12_turned_58 rfl ?_
      refine m_aload_n dX12_turned_59 rfl ?_
      refine m_get fl_X12_29 (by decide) rfl rfl dX12_turned_60 ?_
      refine m_aload_n dX12_turned_63 rfl ?_
      refine m_get fl_X12_17 (by decide) rfl rfl dX12_turned_64 ?_
      refine m_iload_n dX12_turned_67 rfl ?_
      refine m_iald (by first | exact ⟨by decide, by decide, fun _ => rfl⟩ | exact isI_arr _ (by omega) | exact isI_mv _ (by omega) | exact isI_ne _ (by omega)) (by omega) dX12_turned_68 ?_
      refine m_eqi ((by rw [(h55.2 242 (by simp)).1]; exact hB1 : _ = nI (σ.2.2 n2).length)) ?_
      refine m_callVI (s_X12_makeLeastOf hI (by decide) (hs1.fr h55.2 (by simp) (by simp) (by simp) (by simp)).1 hBx (by omega) h55.1) cv_X12_190 dX12_turned_69 (fun r69 d69 h69 => ?_)
      refine m_pop dX12_turned_72 rfl ?_
      refine m_aload_n dX12_turned_73 rfl ?_
      refine m_get fl_X12_17 (by decide) rfl rfl dX12_turned_74 ?_
      refine m_iload_n dX12_turned_77 rfl ?_
      refine m_iald (by first | exact ⟨by decide, by decide, fun _ => rfl⟩ | exact isI_arr _ (by omega) | exact isI_mv _ (by omega) | exact isI_ne _ (by omega)) (by omega) dX12_turned_78 ?_
      refine m_eqi ((by rw [(h69.2.2 242 (by simp)).1, (h55.2 242 (by simp)).1]; exact hA1 : _ = nI (σ.2.2 n).length)) ?_
      refine m_aload_n dX12_turned_79 rfl ?_
      refine m_get fl_X12_17 (by decide) rfl rfl dX12_turned_80 ?_
      refine m_iload_n dX12_turned_83 rfl ?_
      refine m_iald (by first | exact ⟨by decide, by decide, fun _ => rfl⟩ | exact isI_arr _ (by omega) | exact isI_mv _ (by omega) | exact isI_ne _ (by omega)) (by omega) dX12_turned_84 ?_
      refine m_eqi ((by rw [(h69.2.2 242 (by simp)).1, (h55.2 242 (by simp)).1]; exact hB1 : _ = nI (σ.2.2 n2).length)) ?_
      first | refine m_icmp_neN 113 dX12_turned_85 (by decide) (by omega) (by omega) (fun c85 => ?_) (fun c85 => by exfalso; omega) | refine m_icmp_ne 113 dX12_turned_85 (by decide) (fun c85 => ?_) (fun c85 => by exfalso; omega)
      refine m_iconstN 0 dX12_turned_113 (by decide) ?_
      exact m_iret (ty := .int) hR dX12_turned_114 (⟨by rw [q1]; show _ = if _ then _ else _; rw [if_neg (fun z => by have := (q6 _ z.2).1; omega)]; rfl, q4.tr ((chK.of (h55.2.mono (by simp [moCC])) (by simp [moCC])).tr (chK.of (h69.2.2.mono (by simp [moCC])) (by simp [moCC])))⟩)
  have tail2 : ∀ d1, circF (bw σ.1 σ.2.1) σ.1 2000 0 [leastR (bw σ.1 σ.2.1) (σ.2.2 n)] = none → d1.1 240 27 = nI 2001 → chK moCC d d1 → mG W K cX12_turned RX12 (dep + 5) d1 36 [some (.ref (xad W 240)), some (.int (nI n)), some (.int (nI n2))] [] := fun d1 q1 q2 q4 => by
    refine m_aload_n dX12_turned_36 rfl ?_
    refine m_get fl_X12_237 (by decide) rfl rfl dX12_turned_37 ?_
    refine m_eqi (q2) ?_
    refine m_sipushN 2000 dX12_turned_40 (by decide) ?_
    first | refine m_icmp_leN 49 dX12_turned_43 (by decide) (by omega) (by omega) (fun c43 => by exfalso; omega) (fun c43 => ?_) | refine m_icmp_le 49 dX12_turned_43 (by decide) (fun c43 => by exfalso; omega) (fun c43 => ?_)
    refine m_bipush (v := -6) dX12_turned_46 (by decide) ?_
    exact m_iret (ty := .int) hR dX12_turned_48 (⟨by rw [q1], q4⟩)
  refine m_iload_n dX12_turned_0 rfl ?_
  refine m_callSIp (s_X12_isHeap hx) cs_X12_172 dX12_turned_1 ?_
  refine m_if_eq 14 dX12_turned_4 (by decide) (fun c4 => by exfalso; exact absurd c4 (by decide)) (fun c4 => ?_)
  refine m_iload_n dX12_turned_7 rfl ?_
  refine m_callSIp (s_X12_isHeap hy) cs_X12_172 dX12_turned_8 ?_
  refine m_if_ne 17 dX12_turned_11 (by decide) (fun c11 => ?_) (fun c11 => by exfalso; exact c11 (by decide))
  refine m_aload_n dX12_turned_17 rfl ?_
  refine m_get fl_X12_17 (by decide) rfl rfl dX12_turned_18 ?_
  refine m_iload_n dX12_turned_21 rfl ?_
  refine m_iald (by first | exact ⟨by decide, by decide, fun _ => rfl⟩ | exact isI_arr _ (by omega) | exact isI_mv _ (by omega) | exact isI_ne _ (by omega)) (by omega) dX12_turned_22 ?_
  refine m_eqi (hA) ?_
  refine m_bipushN 12 dX12_turned_23 (by decide) ?_
  first | refine m_icmp_leN 31 dX12_turned_25 (by decide) (by omega) (by omega) (fun c25 => ?_) (fun c25 => by exfalso; omega) | refine m_icmp_le 31 dX12_turned_25 (by decide) (fun c25 => ?_) (fun c25 => by exfalso; omega)
  refine m_aload_n dX12_turned_31 rfl ?_
  refine m_iload_n dX12_turned_32 rfl ?_
  refine m_callVV (s_X12_findCircle hn hs hl) cv_X12_248 dX12_turned_33 (fun d33 h33 => ?_)
  rcases h33 with ⟨⟨rs, q1, q2, q3, q4⟩ | ⟨q1, q2⟩, q5⟩
  · exact tail1 d33 rs q1 q2 q3 q4 q5
  · exact tail2 d33 q1 q2 q5
end MOD
