/-! the law's model: tokens -/
def kdB (b : Nat) : Nat := if sB b = true then 1 else if dB b = true then 2 else if b = 59 then 3 else 4
def kdF (bs : List Nat) (p : Nat) : Nat := if p < bs.length then kdB (bs.getD p 0) else 0
theorem kdB_1 {b : Nat} : kdB b = 1 ↔ sB b = true := by
  unfold kdB
  by_cases h : sB b = true
  · rw [if_pos h]; exact ⟨fun _ => h, fun _ => rfl⟩
  · rw [if_neg h]
    refine ⟨fun z => ?_, fun z => absurd z h⟩
    split at z
    · cases z
    · split at z <;> cases z
theorem kdB_2 {b : Nat} : kdB b = 2 ↔ dB b = true := by
  have h3 : ¬ (sB b = true ∧ dB b = true) := by
    unfold sB dB
    rw [decide_eq_true_iff, decide_eq_true_iff]
    omega
  unfold kdB
  by_cases h : sB b = true
  · rw [if_pos h]; exact ⟨fun z => absurd z (by decide), fun z => absurd ⟨h, z⟩ h3⟩
  · rw [if_neg h]
    by_cases h2 : dB b = true
    · rw [if_pos h2]; exact ⟨fun _ => h2, fun _ => rfl⟩
    · rw [if_neg h2]
      refine ⟨fun z => ?_, fun z => absurd z h2⟩
      split at z <;> cases z
theorem kdB_3 {b : Nat} : kdB b = 3 ↔ b = 59 := by
  constructor
  · intro h
    unfold kdB at h
    split at h
    · cases h
    · split at h
      · cases h
      · split at h
        · assumption
        · cases h
  · rintro rfl; decide
theorem kdB_le (b : Nat) : 1 ≤ kdB b ∧ kdB b ≤ 4 := by
  unfold kdB
  split
  · omega
  · split
    · omega
    · split <;> omega
theorem runE_all {P : Nat → Bool} {bs : List Nat} : ∀ (n p i : Nat), i - p = n → p ≤ i → p ≤ bs.length → i < runE P bs p → P (bs.getD i 0) = true := by
  intro n
  induction n with
  | zero =>
    intro p i hn hp hl hi
    have e : i = p := by omega
    subst e
    have hle := (runE_le P bs hl).2
    cases hP : P (bs.getD i 0) with
    | true => rfl
    | false => rw [runE_e (by omega) hP] at hi; omega
  | succ n ih =>
    intro p i hn hp hl hi
    have hle := (runE_le P bs hl).2
    have hpl : p < bs.length := by omega
    cases hP : P (bs.getD p 0) with
    | false => rw [runE_e hpl hP] at hi; omega
    | true =>
      rw [runE_s hpl hP] at hi
      exact ih (p + 1) i (by omega) (by omega) (by omega) hi
theorem kdF_len {bs : List Nat} {p : Nat} (h : kdF bs p ≠ 0) : p < bs.length := Decidable.byContradiction (fun z => h (if_neg z))
theorem kdF_at {bs : List Nat} {p : Nat} (h : p < bs.length) : kdF bs p = kdB (bs.getD p 0) := if_pos h
theorem tk_all {bs : List Nat} {p i : Nat} (hk : kdF bs p = 1) (hi : p ≤ i) (hq : i < tkE bs p) : sB (bs.getD i 0) = true := by
  have hp := kdF_len (by omega : kdF bs p ≠ 0)
  have hs : sB (bs.getD p 0) = true := kdB_1.mp (by rw [← kdF_at hp]; exact hk)
  unfold tkE at hq
  rw [if_pos hp, if_pos hs] at hq
  exact runE_all _ p i rfl hi (by omega) hq
theorem tkE_gt {bs : List Nat} {p : Nat} (h : p < bs.length) : p < tkE bs p := by
  unfold tkE
  rw [if_pos h]
  have hle1 := (runE_le sB bs (show p + 1 ≤ bs.length by omega)).1
  have hle2 := (runE_le dB bs (show p + 1 ≤ bs.length by omega)).1
  split
  · rename_i h1; rw [runE_s h h1]; omega
  · split
    · rename_i h1; rw [runE_s h h1]; omega
    · omega
/-! words by their numbers -/
def num27 (xs : List Nat) : Nat := xs.foldl (fun v x => 27 * v + x) 0
theorem num27_s (xs : List Nat) (x : Nat) : num27 (xs ++ [x]) = 27 * num27 xs + x := by
  unfold num27
  rw [List.foldl_append]; rfl
theorem num27_lt : ∀ (n : Nat) (xs : List Nat), xs.length = n → (∀ x ∈ xs, x < 27) → num27 xs < 27 ^ n := by
  intro n
  induction n with
  | zero => intro xs h _; rw [List.eq_nil_of_length_eq_zero h]; decide
  | succ n ih =>
    intro xs h hx
    obtain ⟨ys, y, rfl, hl⟩ := snoc_of h
    have h1 := ih ys hl (fun x hx2 => hx x (List.mem_append_left _ hx2))
    have h2 := hx y (by simp)
    rw [num27_s, Nat.pow_succ]
    omega
theorem num27_inj : ∀ (n : Nat) (xs ys : List Nat), xs.length = n → (∀ x ∈ xs, 1 ≤ x ∧ x < 27) → (∀ x ∈ ys, 1 ≤ x ∧ x < 27) → num27 xs = num27 ys → xs = ys := by
  intro n
  induction n with
  | zero =>
    intro xs ys h _ hy he
    rw [List.eq_nil_of_length_eq_zero h] at he ⊢
    cases hm : ys.length with
    | zero => exact (List.eq_nil_of_length_eq_zero hm).symm
    | succ m =>
      exfalso
      obtain ⟨vs, v, rfl, hl⟩ := snoc_of hm
      rw [num27_s] at he
      have h2 := hy v (by simp)
      have he' : 0 = 27 * num27 vs + v := he
      omega
  | succ n ih =>
    intro xs ys h hx hy he
    obtain ⟨us, u, rfl, hl⟩ := snoc_of h
    have h1 := hx u (by simp)
    cases hm : ys.length with
    | zero =>
      exfalso
      rw [List.eq_nil_of_length_eq_zero hm, num27_s] at he
      have he' : 27 * num27 us + u = 0 := he
      omega
    | succ m =>
      obtain ⟨vs, v, rfl, hl'⟩ := snoc_of hm
      rw [num27_s, num27_s] at he
      have h2 := hy v (by simp)
      have e1 : num27 us = num27 vs := by omega
      have e2 : u = v := by omega
      rw [ih us vs hl (fun x hx2 => hx x (List.mem_append_left _ hx2)) (fun x hx2 => hy x (List.mem_append_left _ hx2)) e1, e2]
def tokD (bs : List Nat) (p n : Nat) : List Nat := (List.range n).map (fun k => bs.getD (p + k) 0 - 96)
theorem tokD_s (bs : List Nat) (p n : Nat) : tokD bs p (n + 1) = tokD bs p n ++ [bs.getD (p + n) 0 - 96] := by
  unfold tokD
  rw [List.range_succ, List.map_append]; rfl
theorem tokD_len (bs : List Nat) (p n : Nat) : (tokD bs p n).length = n := by unfold tokD; simp
theorem tokD_bd {bs : List Nat} {p n : Nat} (hk : kdF bs p = 1) (hn : p + n ≤ tkE bs p) : ∀ x ∈ tokD bs p n, 1 ≤ x ∧ x < 27 := fun x hx => by
  obtain ⟨k, hk2, rfl⟩ := List.mem_map.mp hx
  have := List.mem_range.mp hk2
  have h := tk_all hk (show p ≤ p + k by omega) (by omega)
  unfold sB at h
  rw [decide_eq_true_iff] at h
  omega
def wdV (bs : List Nat) (p : Nat) : Nat := if kdF bs p = 1 ∧ tkE bs p - p ≤ 9 then num27 (tokD bs p (tkE bs p - p)) else 0
theorem wdV_lt (bs : List Nat) (p : Nat) (hp : p ≤ bs.length) : wdV bs p < 2 ^ 50 := by
  have hle := (tkE_le hp).1
  unfold wdV
  split
  · rename_i h
    refine Nat.lt_of_lt_of_le (num27_lt _ _ (tokD_len _ _ _) (fun x hx => (tokD_bd h.1 (by omega) x hx).2)) ?_
    exact Nat.le_trans (Nat.pow_le_pow_right (by decide) h.2) (by decide)
  · decide
def wcV (i : Nat) : Nat := [131360, 1373818, 4731817033, 161152, 262, 286880].getD i 0
def wcL (i : Nat) : List Nat := (List.range (x_slen.getD i 0)).map (fun j => sch i j - 96)
theorem wcL_v : ∀ i, i < 6 → num27 (wcL i) = wcV i ∧ 0 < wcV i ∧ 1 ≤ x_slen.getD i 0 ∧ x_slen.getD i 0 ≤ 9 := by decide +kernel
theorem wcL_bd : ∀ i, i < 6 → ∀ x ∈ wcL i, 1 ≤ x ∧ x < 27 := by decide +kernel
theorem sch_bd : ∀ i, i < 6 → ∀ j, j < x_slen.getD i 0 → 97 ≤ sch i j ∧ sch i j ≤ 122 := by decide +kernel
theorem isW_wd {bs : List Nat} {p i : Nat} (hp : p ≤ bs.length) (hi : i < 6) : isW bs p (tkE bs p) i = true ↔ wdV bs p = wcV i := by
  obtain ⟨c1, c2, c3, c4⟩ := wcL_v i hi
  have hle := (tkE_le hp).1
  constructor
  · intro h
    have h2 := of_decide_eq_true h
    have hlen : p < bs.length := by
      refine Nat.lt_of_not_le (fun z => ?_)
      have : tkE bs p ≤ bs.length := (tkE_le hp).2
      omega
    have hb := h2.2 0 (by omega)
    have hs := sch_bd i hi 0 (by omega)
    rw [Nat.add_zero] at hb
    have hk : kdF bs p = 1 := by
      rw [kdF_at hlen]
      refine kdB_1.mpr ?_
      unfold sB
      rw [decide_eq_true_iff]
      omega
    unfold wdV
    rw [if_pos ⟨hk, by omega⟩, ← c1, h2.1]
    congr 1
    refine List.map_congr_left (fun j hj => ?_)
    rw [h2.2 j (List.mem_range.mp hj)]
  · intro h
    unfold wdV at h
    by_cases hc : kdF bs p = 1 ∧ tkE bs p - p ≤ 9
    · rw [if_pos hc, ← c1] at h
      have e := num27_inj _ _ _ (tokD_len _ _ _) (tokD_bd hc.1 (by omega)) (wcL_bd i hi) h
      have hl : tkE bs p - p = x_slen.getD i 0 := by
        have := congrArg List.length e
        rw [tokD_len] at this
        rw [this]; unfold wcL; simp
      refine decide_eq_true ⟨hl, fun j hj => ?_⟩
      have e2 := congrArg (fun l => l.getD j 0) e
      have e3 : (tokD bs p (tkE bs p - p)).getD j 0 = bs.getD (p + j) 0 - 96 := by
        rw [getD_at (by rw [tokD_len]; omega)]; unfold tokD; simp
      have e4 : (wcL i).getD j 0 = sch i j - 96 := by
        rw [getD_at (by unfold wcL; simpa using hj)]; unfold wcL; simp
      have e5 : (tokD bs p (tkE bs p - p)).getD j 0 = (wcL i).getD j 0 := e2
      rw [e3, e4] at e5
      have h1 := tk_all hc.1 (show p ≤ p + j by omega) (by omega)
      unfold sB at h1
      rw [decide_eq_true_iff] at h1
      have h2 := sch_bd i hi j hj
      omega
    · rw [if_neg hc] at h; omega
/-! what the model's reading changes -/
def chR (F : List Nat) (a : Nat) (d d' : xD) : Prop := chg [240, 245] d d' ∧ (∀ q, q ∉ F → d'.1 240 q = d.1 240 q) ∧ ∀ q, q < 64 → (q < a ∨ a + 4 ≤ q) → d'.1 245 q = d.1 245 q
theorem chR.rf {F : List Nat} {a : Nat} {d : xD} : chR F a d d := ⟨chg.rf, fun _ _ => rfl, fun _ _ _ => rfl⟩
theorem chR.tr {F : List Nat} {a : Nat} {d d' d'' : xD} (h : chR F a d d') (h' : chR F a d' d'') : chR F a d d'' := ⟨h.1.tr h'.1, fun q hq => (h'.2.1 q hq).trans (h.2.1 q hq), fun q h6 hq => (h'.2.2 q h6 hq).trans (h.2.2 q h6 hq)⟩
theorem chR.mono {F F' : List Nat} {a : Nat} {d d' : xD} (h : chR F a d d') (hs : ∀ o ∈ F, o ∈ F') : chR F' a d d' := ⟨h.1, fun q hq => h.2.1 q (fun z => hq (hs q z)), h.2.2⟩
theorem chR.fld {F : List Nat} {a k : Nat} {x : Int32} {d d' : xD} (h : chR F a d d') (hk : k ∈ F) : chR F a d (seI d' 240 k x) := ⟨h.1.se (by simp), fun q hq => (se_n _ _ (fun e => hq (by rw [e]; exact hk))).trans (h.2.1 q hq), fun q h6 hq => se_e (h.2.2 q h6 hq) (by decide)⟩
theorem chR.rd {F : List Nat} {a k : Nat} {x : Int32} {d d' : xD} (h : chR F a d d') (hk : a ≤ k ∧ k < a + 4) : chR F a d (seI d' 245 k x) := ⟨h.1.se (by simp), fun q hq => se_e (h.2.1 q hq) (by decide), fun q h6 hq => se_e2 (h.2.2 q h6 hq) (by omega)⟩
theorem chR.up {F : List Nat} {d d' : xD} (h : chR F 64 d d') (a : Nat) : chR F a d d' := ⟨h.1, h.2.1, fun q h6 _ => h.2.2 q h6 (Or.inl h6)⟩
theorem moTx.rd {F : List Nat} {a : Nat} {d d' : xD} {bs : List Nat} (h : moTx d bs) (hc : chR F a d d') (h4 : 4 ∉ F) : moTx d' bs := ⟨(hc.2.1 4 h4).trans h.1, h.2.1, fun i hi => by rw [(hc.1 244 (by decide)).1]; exact h.2.2 i hi⟩
def tokI (d : xD) (p q kd : Nat) : Prop := d.1 240 6 = nI q ∧ d.1 240 7 = nI p ∧ d.1 240 8 = nI kd ∧ d.1 240 9 = nI (q - p)
theorem tokI.rd {F : List Nat} {a : Nat} {d d' : xD} {p q kd : Nat} (h : tokI d p q kd) (hc : chR F a d d') (h6 : 6 ∉ F) (h7 : 7 ∉ F) (h8 : 8 ∉ F) (h9 : 9 ∉ F) : tokI d' p q kd := ⟨(hc.2.1 6 h6).trans h.1, (hc.2.1 7 h7).trans h.2.1, (hc.2.1 8 h8).trans h.2.2.1, (hc.2.1 9 h9).trans h.2.2.2⟩
section MOD
variable {l : Launch} {W : xW} {dep : Nat} {d : xD} {bs : List Nat} {σ : St} {x y z w : Int32} {n n2 n3 k a : Nat} {fb : Nat → Nat}
theorem s_X12_kindOf {b : Nat} (hb : b < 256) : mSpecI l W mX12_kindOf (dep + 1) [.int (nI b)] d (fun r d' => r = nI (kdB b) ∧ d' = d) := by
  refine m_spec RX12 [some (.int (nI b))] rfl (by decide +kernel) rfl rfl (fun K hR => ?_)
  by_cases h1 : 97 ≤ b ∧ b ≤ 122
  · have e : kdB b = 1 := kdB_1.mpr (decide_eq_true h1)
    refine m_iload_n dX12_kindOf_0 rfl ?_
    refine m_bipushN 97 dX12_kindOf_1 (by decide) ?_
    refine m_bipushN 122 dX12_kindOf_3 (by decide) ?_
    refine m_callSIp (s_X12_inY (x := nI b) (a := nI 97) (b := nI 122) ((nI_leI (by omega) (by omega)).mpr (by omega)) ((nI_leI (by omega) (by omega)).mpr (by omega))) cs_X12_83 dX12_kindOf_5 ?_
    refine m_if_eq 15 dX12_kindOf_8 (by decide) (fun c8 => by exfalso; exact absurd c8 (by decide)) (fun c8 => ?_)
    refine m_iconstN 1 dX12_kindOf_11 (by decide) ?_
    refine m_goto 41 dX12_kindOf_12 (by decide) ?_
    exact m_iret (ty := .int) hR dX12_kindOf_41 (⟨by rw [e], rfl⟩)
  · have n1 : nI b < nI 97 ∨ nI 122 < nI b := by
      rcases (show b < 97 ∨ 122 < b by omega) with h | h
      · exact Or.inl ((nI_ltI (by omega) (by omega)).mpr h)
      · exact Or.inr ((nI_ltI (by omega) (by omega)).mpr h)
    have hs : ¬ sB b = true := fun z => h1 (of_decide_eq_true z)
    by_cases h2 : 48 ≤ b ∧ b ≤ 57
    · have e : kdB b = 2 := kdB_2.mpr (decide_eq_true h2)
      refine m_iload_n dX12_kindOf_0 rfl ?_
      refine m_bipushN 97 dX12_kindOf_1 (by decide) ?_
      refine m_bipushN 122 dX12_kindOf_3 (by decide) ?_
      refine m_callSIp (s_X12_inN n1) cs_X12_83 dX12_kindOf_5 ?_
      refine m_if_eq 15 dX12_kindOf_8 (by decide) (fun c8 => ?_) (fun c8 => by exfalso; exact c8 rfl)
      refine m_iload_n dX12_kindOf_15 rfl ?_
      refine m_bipushN 48 dX12_kindOf_16 (by decide) ?_
      refine m_bipushN 57 dX12_kindOf_18 (by decide) ?_
      refine m_callSIp (s_X12_inY (x := nI b) (a := nI 48) (b := nI 57) ((nI_leI (by omega) (by omega)).mpr (by omega)) ((nI_leI (by omega) (by omega)).mpr (by omega))) cs_X12_83 dX12_kindOf_20 ?_
      refine m_if_eq 30 dX12_kindOf_23 (by decide) (fun c23 => by exfalso; exact absurd c23 (by decide)) (fun c23 => ?_)
      refine m_iconstN 2 dX12_kindOf_26 (by decide) ?_
      refine m_goto 41 dX12_kindOf_27 (by decide) ?_
      exact m_iret (ty := .int) hR dX12_kindOf_41 (⟨by rw [e], rfl⟩)
    · have n2 : nI b < nI 48 ∨ nI 57 < nI b := by
        rcases (show b < 48 ∨ 57 < b by omega) with h | h
        · exact Or.inl ((nI_ltI (by omega) (by omega)).mpr h)
        · exact Or.inr ((nI_ltI (by omega) (by omega)).mpr h)
      have hd : ¬ dB b = true := fun z => h2 (of_decide_eq_true z)
      refine m_iload_n dX12_kindOf_0 rfl ?_
      refine m_bipushN 97 dX12_kindOf_1 (by decide) ?_
      refine m_bipushN 122 dX12_kindOf_3 (by decide) ?_
      refine m_callSIp (s_X12_inN n1) cs_X12_83 dX12_kindOf_5 ?_
      refine m_if_eq 15 dX12_kindOf_8 (by decide) (fun c8 => ?_) (fun c8 => by exfalso; exact c8 rfl)
      refine m_iload_n dX12_kindOf_15 rfl ?_
      refine m_bipushN 48 dX12_kindOf_16 (by decide) ?_
      refine m_bipushN 57 dX12_kindOf_18 (by decide) ?_
      refine m_callSIp (s_X12_inN n2) cs_X12_83 dX12_kindOf_20 ?_
      refine m_if_eq 30 dX12_kindOf_23 (by decide) (fun c23 => ?_) (fun c23 => by exfalso; exact c23 rfl)
      refine m_iload_n dX12_kindOf_30 rfl ?_
      refine m_bipushN 59 dX12_kindOf_31 (by decide) ?_
      first | refine m_icmp_neN 40 dX12_kindOf_33 (by decide) (by omega) (by omega) (fun c33 => ?_) (fun c33 => ?_) | refine m_icmp_ne 40 dX12_kindOf_33 (by decide) (fun c33 => ?_) (fun c33 => ?_)
      · refine m_iconstN 4 dX12_kindOf_40 (by decide) ?_
        exact m_iret (ty := .int) hR dX12_kindOf_41 (⟨by unfold kdB; rw [if_neg hs, if_neg hd, if_neg c33], rfl⟩)
      · refine m_iconstN 3 dX12_kindOf_36 (by decide) ?_
        refine m_goto 41 dX12_kindOf_37 (by decide) ?_
        exact m_iret (ty := .int) hR dX12_kindOf_41 (⟨by unfold kdB; rw [if_neg hs, if_neg hd, if_pos (by omega)], rfl⟩)
def tkFl : List Nat := [6, 7, 8, 9]
theorem s_X12_nextToken {e : Nat} (h : moTx d bs) (hp : d.1 240 6 = nI e) (he : e ≤ bs.length) (a : Nat) : mSpecV l W mX12_nextToken (dep + 2) [.ref (xad W 240)] d (fun d' => tokI d' (tkS bs e) (tkE bs (tkS bs e)) (kdF bs (tkS bs e)) ∧ chR tkFl a d d') := by
  have h160 := h.2.1
  have hI : isI W 244 160 := ⟨by decide, by decide, fun _ => rfl⟩
  have hsl := runE_le (fun b => decide (b = 32)) bs he
  refine m_spec RX12 [some (.ref (xad W 240))] rfl (by decide +kernel) rfl rfl (fun K hR => ?_)
  -- the end of the token
  have stage3 : ∀ p kd, kd ≤ 4 → p = tkS bs e → kd = kdF bs p → ∀ N q, bs.length - q = N → p ≤ q → q ≤ bs.length → ∀ d1, d1.1 240 6 = nI q → d1.1 240 7 = nI p → d1.1 240 8 = nI kd → chR tkFl a d d1 → (tkE bs p = q ∧ kd ≠ 1 ∧ kd ≠ 2) ∨ (kd = 1 ∧ tkE bs p = runE sB bs q) ∨ (kd = 2 ∧ tkE bs p = runE dB bs q) → mG W K cX12_nextToken RX12 (dep + 2) d1 98 [some (.ref (xad W 240))] [] := by
    intro p kd hkd hp2 hkd2 N
    induction N with
    | zero =>
      intro q hN hpq hq d1 g1 g2 g3 g4 g5
      have htx := h.rd g4 (by simp [tkFl])
      have eE : tkE bs p = q := by
        rcases g5 with g5 | g5 | g5
        · exact g5.1
        · rw [g5.2]; exact runE_o (by omega)
        · rw [g5.2]; exact runE_o (by omega)
      refine m_aload_n dX12_nextToken_98 rfl ?_
      refine m_get fl_X12_92 (by decide) rfl rfl dX12_nextToken_99 ?_
      refine m_eqi (g1) ?_
      refine m_aload_n dX12_nextToken_102 rfl ?_
      refine m_get fl_X12_87 (by decide) rfl rfl dX12_nextToken_103 ?_
      refine m_eqi (htx.1) ?_
      first | refine m_icmp_geN 156 dX12_nextToken_106 (by decide) (by omega) (by omega) (fun c106 => ?_) (fun c106 => by exfalso; omega) | refine m_icmp_ge 156 dX12_nextToken_106 (by decide) (fun c106 => ?_) (fun c106 => by exfalso; omega)
      refine m_aload_n dX12_nextToken_156 rfl ?_
      refine m_aload_n dX12_nextToken_157 rfl ?_
      refine m_get fl_X12_92 (by decide) rfl rfl dX12_nextToken_158 ?_
      refine m_eqi (g1) ?_
      refine m_aload_n dX12_nextToken_161 rfl ?_
      refine m_get fl_X12_95 (by decide) rfl rfl dX12_nextToken_162 ?_
      refine m_eqi (g2) ?_
      first | refine m_isubN dX12_nextToken_165 (by omega) ?_ | refine m_isub dX12_nextToken_165 ?_
      refine m_put fl_X12_105 (by decide) rfl (Nat.le_of_ble_eq_true rfl) rfl dX12_nextToken_166 ?_
      exact m_vret hR dX12_nextToken_169 (⟨by rw [← hp2, eE, ← hkd2]; exact ⟨se_e2 g1 (by decide), se_e2 g2 (by decide), se_e2 g3 (by decide), se_s _ _ _ _⟩, g4.fld (by simp [tkFl])⟩)
    | succ N ih =>
      intro q hN hpq hq d1 g1 g2 g3 g4 g5
      have htx := h.rd g4 (by simp [tkFl])
      have hbq := htx.2.2 q (by omega)
      have hkb := kdB_le (bs.getD q 0)
      have fin : tkE bs p = q → mG W K cX12_nextToken RX12 (dep + 2) d1 156 [some (.ref (xad W 240))] [] := fun eE => by
        refine m_aload_n dX12_nextToken_156 rfl ?_
        refine m_aload_n dX12_nextToken_157 rfl ?_
        refine m_get fl_X12_92 (by decide) rfl rfl dX12_nextToken_158 ?_
        refine m_eqi (g1) ?_
        refine m_aload_n dX12_nextToken_161 rfl ?_
        refine m_get fl_X12_95 (by decide) rfl rfl dX12_nextToken_162 ?_
        refine m_eqi (g2) ?_
        first | refine m_isubN dX12_nextToken_165 (by omega) ?_ | refine m_isub dX12_nextToken_165 ?_
        refine m_put fl_X12_105 (by decide) rfl (Nat.le_of_ble_eq_true rfl) rfl dX12_nextToken_166 ?_
        exact m_vret hR dX12_nextToken_169 (⟨by rw [← hp2, eE, ← hkd2]; exact ⟨se_e2 g1 (by decide), se_e2 g2 (by decide), se_e2 g3 (by decide), se_s _ _ _ _⟩, g4.fld (by simp [tkFl])⟩)
      rcases g5 with g5 | g5 | g5
      · skip
        refine m_aload_n dX12_nextToken_98 rfl ?_
        refine m_get fl_X12_92 (by decide) rfl rfl dX12_nextToken_99 ?_
        refine m_eqi (g1) ?_
        refine m_aload_n dX12_nextToken_102 rfl ?_
        refine m_get fl_X12_87 (by decide) rfl rfl dX12_nextToken_103 ?_
        refine m_eqi (htx.1) ?_
        first | refine m_icmp_geN 156 dX12_nextToken_106 (by decide) (by omega) (by omega) (fun c106 => by exfalso; omega) (fun c106 => ?_) | refine m_icmp_ge 156 dX12_nextToken_106 (by decide) (fun c106 => by exfalso; omega) (fun c106 => ?_)
        refine m_aload_n dX12_nextToken_109 rfl ?_
        refine m_get fl_X12_102 (by decide) rfl rfl dX12_nextToken_110 ?_
        refine m_eqi (g3) ?_
        refine m_iconstN 3 dX12_nextToken_113 (by decide) ?_
        first | refine m_icmp_geN 156 dX12_nextToken_114 (by decide) (by omega) (by omega) (fun c114 => ?_) (fun c114 => ?_) | refine m_icmp_ge 156 dX12_nextToken_114 (by decide) (fun c114 => ?_) (fun c114 => ?_)
        · exact fin g5.1
        · refine m_aload_n dX12_nextToken_117 rfl ?_
          refine m_get fl_X12_102 (by decide) rfl rfl dX12_nextToken_118 ?_
          refine m_eqi (g3) ?_
          first | refine m_if_leN 156 dX12_nextToken_121 (by decide) (by omega) (fun c121 => ?_) (fun c121 => ?_) | refine m_if_le 156 dX12_nextToken_121 (by decide) (fun c121 => ?_) (fun c121 => ?_)
          · exact fin g5.1
          · refine m_aload_n dX12_nextToken_124 rfl ?_
            refine m_get fl_X12_23 (by decide) rfl rfl dX12_nextToken_125 ?_
            refine m_aload_n dX12_nextToken_128 rfl ?_
            refine m_get fl_X12_92 (by decide) rfl rfl dX12_nextToken_129 ?_
            refine m_eqi (g1) ?_
            refine m_iald (by first | exact ⟨by decide, by decide, fun _ => rfl⟩ | exact isI_arr _ (by omega) | exact isI_mv _ (by omega) | exact isI_ne _ (by omega)) (by omega) dX12_nextToken_132 ?_
            refine m_eqi (hbq.1) ?_
            refine m_callSIp (s_X12_kindOf hbq.2) cs_X12_98 dX12_nextToken_133 ?_
            refine m_aload_n dX12_nextToken_136 rfl ?_
            refine m_get fl_X12_102 (by decide) rfl rfl dX12_nextToken_137 ?_
            refine m_eqi (g3) ?_
            first | refine m_icmp_neN 156 dX12_nextToken_140 (by decide) (by omega) (by omega) (fun c140 => ?_) (fun c140 => ?_) | refine m_icmp_ne 156 dX12_nextToken_140 (by decide) (fun c140 => ?_) (fun c140 => ?_)
            · exact fin g5.1
            · refine m_aload_n dX12_nextToken_143 rfl ?_
              refine m_dup dX12_nextToken_144 rfl ?_
              refine m_get fl_X12_92 (by decide) rfl rfl dX12_nextToken_145 ?_
              refine m_eqi (g1) ?_
              refine m_iconstN 1 dX12_nextToken_148 (by decide) ?_
              first | refine m_iaddN dX12_nextToken_149 ?_ | refine m_iadd dX12_nextToken_149 ?_
              refine m_put fl_X12_92 (by decide) rfl (Nat.le_of_ble_eq_true rfl) rfl dX12_nextToken_150 ?_
              refine m_goto 98 dX12_nextToken_153 (by decide) ?_
              exfalso; omega
      · cases hsq : sB (bs.getD q 0) with
        | true =>
          have hk1 := kdB_1.mpr hsq
          refine m_aload_n dX12_nextToken_98 rfl ?_
          refine m_get fl_X12_92 (by decide) rfl rfl dX12_nextToken_99 ?_
          refine m_eqi (g1) ?_
          refine m_aload_n dX12_nextToken_102 rfl ?_
          refine m_get fl_X12_87 (by decide) rfl rfl dX12_nextToken_103 ?_
          refine m_eqi (htx.1) ?_
          first | refine m_icmp_geN 156 dX12_nextToken_106 (by decide) (by omega) (by omega) (fun c106 => by exfalso; omega) (fun c106 => ?_) | refine m_icmp_ge 156 dX12_nextToken_106 (by decide) (fun c106 => by exfalso; omega) (fun c106 => ?_)
          refine m_aload_n dX12_nextToken_109 rfl ?_
          refine m_get fl_X12_102 (by decide) rfl rfl dX12_nextToken_110 ?_
          refine m_eqi (g3) ?_
          refine m_iconstN 3 dX12_nextToken_113 (by decide) ?_
          first | refine m_icmp_geN 156 dX12_nextToken_114 (by decide) (by omega) (by omega) (fun c114 => by exfalso; omega) (fun c114 => ?_) | refine m_icmp_ge 156 dX12_nextToken_114 (by decide) (fun c114 => by exfalso; omega) (fun c114 => ?_)
          refine m_aload_n dX12_nextToken_117 rfl ?_
          refine m_get fl_X12_102 (by decide) rfl rfl dX12_nextToken_118 ?_
          refine m_eqi (g3) ?_
          first | refine m_if_leN 156 dX12_nextToken_121 (by decide) (by omega) (fun c121 => by exfalso; omega) (fun c121 => ?_) | refine m_if_le 156 dX12_nextToken_121 (by decide) (fun c121 => by exfalso; omega) (fun c121 => ?_)
          refine m_aload_n dX12_nextToken_124 rfl ?_
          refine m_get fl_X12_23 (by decide) rfl rfl dX12_nextToken_125 ?_
          refine m_aload_n dX12_nextToken_128 rfl ?_
          refine m_get fl_X12_92 (by decide) rfl rfl dX12_nextToken_129 ?_
          refine m_eqi (g1) ?_
          refine m_iald (by first | exact ⟨by decide, by decide, fun _ => rfl⟩ | exact isI_arr _ (by omega) | exact isI_mv _ (by omega) | exact isI_ne _ (by omega)) (by omega) dX12_nextToken_132 ?_
          refine m_eqi (hbq.1) ?_
          refine m_callSIp (s_X12_kindOf hbq.2) cs_X12_98 dX12_nextToken_133 ?_
          refine m_aload_n dX12_nextToken_136 rfl ?_
          refine m_get fl_X12_102 (by decide) rfl rfl dX12_nextToken_137 ?_
          refine m_eqi (g3) ?_
          first | refine m_icmp_neN 156 dX12_nextToken_140 (by decide) (by omega) (by omega) (fun c140 => by exfalso; omega) (fun c140 => ?_) | refine m_icmp_ne 156 dX12_nextToken_140 (by decide) (fun c140 => by exfalso; omega) (fun c140 => ?_)
          refine m_aload_n dX12_nextToken_143 rfl ?_
          refine m_dup dX12_nextToken_144 rfl ?_
          refine m_get fl_X12_92 (by decide) rfl rfl dX12_nextToken_145 ?_
          refine m_eqi (g1) ?_
          refine m_iconstN 1 dX12_nextToken_148 (by decide) ?_
          first | refine m_iaddN dX12_nextToken_149 ?_ | refine m_iadd dX12_nextToken_149 ?_
          refine m_put fl_X12_92 (by decide) rfl (Nat.le_of_ble_eq_true rfl) rfl dX12_nextToken_150 ?_
          refine m_goto 98 dX12_nextToken_153 (by decide) ?_
          exact ih (q + 1) (by omega) (by omega) (by omega) _ (se_s _ _ _ _) (se_e2 g2 (by decide)) (se_e2 g3 (by decide)) (g4.fld (by simp [tkFl])) (Or.inr (Or.inl ⟨g5.1, by rw [g5.2, runE_s (by omega) hsq]⟩))
        | false =>
          have hk1 : kdB (bs.getD q 0) ≠ 1 := fun z => by rw [kdB_1.mp z] at hsq; cases hsq
          have eE : tkE bs p = q := by rw [g5.2]; exact runE_e (by omega) hsq
          refine m_aload_n dX12_nextToken_98 rfl ?_
          refine m_get fl_X12_92 (by decide) rfl rfl dX12_nextToken_99 ?_
          refine m_eqi (g1) ?_
          refine m_aload_n dX12_nextToken_102 rfl ?_
          refine m_get fl_X12_87 (by decide) rfl rfl dX12_nextToken_103 ?_
          refine m_eqi (htx.1) ?_
          first | refine m_icmp_geN 156 dX12_nextToken_106 (by decide) (by omega) (by omega) (fun c106 => by exfalso; omega) (fun c106 => ?_) | refine m_icmp_ge 156 dX12_nextToken_106 (by decide) (fun c106 => by exfalso; omega) (fun c106 => ?_)
          refine m_aload_n dX12_nextToken_109 rfl ?_
          refine m_get fl_X12_102 (by decide) rfl rfl dX12_nextToken_110 ?_
          refine m_eqi (g3) ?_
          refine m_iconstN 3 dX12_nextToken_113 (by decide) ?_
          first | refine m_icmp_geN 156 dX12_nextToken_114 (by decide) (by omega) (by omega) (fun c114 => by exfalso; omega) (fun c114 => ?_) | refine m_icmp_ge 156 dX12_nextToken_114 (by decide) (fun c114 => by exfalso; omega) (fun c114 => ?_)
          refine m_aload_n dX12_nextToken_117 rfl ?_
          refine m_get fl_X12_102 (by decide) rfl rfl dX12_nextToken_118 ?_
          refine m_eqi (g3) ?_
          first | refine m_if_leN 156 dX12_nextToken_121 (by decide) (by omega) (fun c121 => by exfalso; omega) (fun c121 => ?_) | refine m_if_le 156 dX12_nextToken_121 (by decide) (fun c121 => by exfalso; omega) (fun c121 => ?_)
          refine m_aload_n dX12_nextToken_124 rfl ?_
          refine m_get fl_X12_23 (by decide) rfl rfl dX12_nextToken_125 ?_
          refine m_aload_n dX12_nextToken_128 rfl ?_
          refine m_get fl_X12_92 (by decide) rfl rfl dX12_nextToken_129 ?_
          refine m_eqi (g1) ?_
          refine m_iald (by first | exact ⟨by decide, by decide, fun _ => rfl⟩ | exact isI_arr _ (by omega) | exact isI_mv _ (by omega) | exact isI_ne _ (by omega)) (by omega) dX12_nextToken_132 ?_
          refine m_eqi (hbq.1) ?_
          refine m_callSIp (s_X12_kindOf hbq.2) cs_X12_98 dX12_nextToken_133 ?_
          refine m_aload_n dX12_nextToken_136 rfl ?_
          refine m_get fl_X12_102 (by decide) rfl rfl dX12_nextToken_137 ?_
          refine m_eqi (g3) ?_
          first | refine m_icmp_neN 156 dX12_nextToken_140 (by decide) (by omega) (by omega) (fun c140 => ?_) (fun c140 => by exfalso; omega) | refine m_icmp_ne 156 dX12_nextToken_140 (by decide) (fun c140 => ?_) (fun c140 => by exfalso; omega)
          exact fin eE
      · cases hsq : dB (bs.getD q 0) with
        | true =>
          have hk1 := kdB_2.mpr hsq
          refine m_aload_n dX12_nextToken_98 rfl ?_
          refine m_get fl_X12_92 (by decide) rfl rfl dX12_nextToken_99 ?_
          refine m_eqi (g1) ?_
          refine m_aload_n dX12_nextToken_102 rfl ?_
          refine m_get fl_X12_87 (by decide) rfl rfl dX12_nextToken_103 ?_
          refine m_eqi (htx.1) ?_
          first | refine m_icmp_geN 156 dX12_nextToken_106 (by decide) (by omega) (by omega) (fun c106 => by exfalso; omega) (fun c106 => ?_) | refine m_icmp_ge 156 dX12_nextToken_106 (by decide) (fun c106 => by exfalso; omega) (fun c106 => ?_)
          refine m_aload_n dX12_nextToken_109 rfl ?_
          refine m_get fl_X12_102 (by decide) rfl rfl dX12_nextToken_110 ?_
          refine m_eqi (g3) ?_
          refine m_iconstN 3 dX12_nextToken_113 (by decide) ?_
          first | refine m_icmp_geN 156 dX12_nextToken_114 (by decide) (by omega) (by omega) (fun c114 => by exfalso; omega) (fun c114 => ?_) | refine m_icmp_ge 156 dX12_nextToken_114 (by decide) (fun c114 => by exfalso; omega) (fun c114 => ?_)
          refine m_aload_n dX12_nextToken_117 rfl ?_
          refine m_get fl_X12_102 (by decide) rfl rfl dX12_nextToken_118 ?_
          refine m_eqi (g3) ?_
          first | refine m_if_leN 156 dX12_nextToken_121 (by decide) (by omega) (fun c121 => by exfalso; omega) (fun c121 => ?_) | refine m_if_le 156 dX12_nextToken_121 (by decide) (fun c121 => by exfalso; omega) (fun c121 => ?_)
          refine m_aload_n dX12_nextToken_124 rfl ?_
          refine m_get fl_X12_23 (by decide) rfl rfl dX12_nextToken_125 ?_
          refine m_aload_n dX12_nextToken_128 rfl ?_
          refine m_get fl_X12_92 (by decide) rfl rfl dX12_nextToken_129 ?_
          refine m_eqi (g1) ?_
          refine m_iald (by first | exact ⟨by decide, by decide, fun _ => rfl⟩ | exact isI_arr _ (by omega) | exact isI_mv _ (by omega) | exact isI_ne _ (by omega)) (by omega) dX12_nextToken_132 ?_
          refine m_eqi (hbq.1) ?_
          refine m_callSIp (s_X12_kindOf hbq.2) cs_X12_98 dX12_nextToken_133 ?_
          refine m_aload_n dX12_nextToken_136 rfl ?_
          refine m_get fl_X12_102 (by decide) rfl rfl dX12_nextToken_137 ?_
          refine m_eqi (g3) ?_
          first | refine m_icmp_neN 156 dX12_nextToken_140 (by decide) (by omega) (by omega) (fun c140 => by exfalso; omega) (fun c140 => ?_) | refine m_icmp_ne 156 dX12_nextToken_140 (by decide) (fun c140 => by exfalso; omega) (fun c140 => ?_)
          refine m_aload_n dX12_nextToken_143 rfl ?_
          refine m_dup dX12_nextToken_144 rfl ?_
          refine m_get fl_X12_92 (by decide) rfl rfl dX12_nextToken_145 ?_
          refine m_eqi (g1) ?_
          refine m_iconstN 1 dX12_nextToken_148 (by decide) ?_
          first | refine m_iaddN dX12_nextToken_149 ?_ | refine m_iadd dX12_nextToken_149 ?_
          refine m_put fl_X12_92 (by decide) rfl (Nat.le_of_ble_eq_true rfl) rfl dX12_nextToken_150 ?_
          refine m_goto 98 dX12_nextToken_153 (by decide) ?_
          exact ih (q + 1) (by omega) (by omega) (by omega) _ (se_s _ _ _ _) (se_e2 g2 (by decide)) (se_e2 g3 (by decide)) (g4.fld (by simp [tkFl])) (Or.inr (Or.inr ⟨g5.1, by rw [g5.2, runE_s (by omega) hsq]⟩))
        | false =>
          have hk1 : kdB (bs.getD q 0) ≠ 2 := fun z => by rw [kdB_2.mp z] at hsq; cases hsq
          have eE : tkE bs p = q := by rw [g5.2]; exact runE_e (by omega) hsq
          refine m_aload_n dX12_nextToken_98 rfl ?_
          refine m_get fl_X12_92 (by decide) rfl rfl dX12_nextToken_99 ?_
          refine m_eqi (g1) ?_
          refine m_aload_n dX12_nextToken_102 rfl ?_
          refine m_get fl_X12_87 (by decide) rfl rfl dX12_nextToken_103 ?_
          refine m_eqi (htx.1) ?_
          first | refine m_icmp_geN 156 dX12_nextToken_106 (by decide) (by omega) (by omega) (fun c106 => by exfalso; omega) (fun c106 => ?_) | refine m_icmp_ge 156 dX12_nextToken_106 (by decide) (fun c106 => by exfalso; omega) (fun c106 => ?_)
          refine m_aload_n dX12_nextToken_109 rfl ?_
          refine m_get fl_X12_102 (by decide) rfl rfl dX12_nextToken_110 ?_
          refine m_eqi (g3) ?_
          refine m_iconstN 3 dX12_nextToken_113 (by decide) ?_
          first | refine m_icmp_geN 156 dX12_nextToken_114 (by decide) (by omega) (by omega) (fun c114 => by exfalso; omega) (fun c114 => ?_) | refine m_icmp_ge 156 dX12_nextToken_114 (by decide) (fun c114 => by exfalso; omega) (fun c114 => ?_)
          refine m_aload_n dX12_nextToken_117 rfl ?_
          refine m_get fl_X12_102 (by decide) rfl rfl dX12_nextToken_118 ?_
          refine m_eqi (g3) ?_
          first | refine m_if_leN 156 dX12_nextToken_121 (by decide) (by omega) (fun c121 => by exfalso; omega) (fun c121 => ?_) | refine m_if_le 156 dX12_nextToken_121 (by decide) (fun c121 => by exfalso; omega) (fun c121 => ?_)
          refine m_aload_n dX12_nextToken_124 rfl ?_
          refine m_get fl_X12_23 (by decide) rfl rfl dX12_nextToken_125 ?_
          refine m_aload_n dX12_nextToken_128 rfl ?_
          refine m_get fl_X12_92 (by decide) rfl rfl dX12_nextToken_129 ?_
          refine m_eqi (g1) ?_
          refine m_iald (by first | exact ⟨by decide, by decide, fun _ => rfl⟩ | exact isI_arr _ (by omega) | exact isI_mv _ (by omega) | exact isI_ne _ (by omega)) (by omega) dX12_nextToken_132 ?_
          refine m_eqi (hbq.1) ?_
          refine m_callSIp (s_X12_kindOf hbq.2) cs_X12_98 dX12_nextToken_133 ?_
          refine m_aload_n dX12_nextToken_136 rfl ?_
          refine m_get fl_X12_102 (by decide) rfl rfl dX12_nextToken_137 ?_
          refine m_eqi (g3) ?_
          first | refine m_icmp_neN 156 dX12_nextToken_140 (by decide) (by omega) (by omega) (fun c140 => ?_) (fun c140 => by exfalso; omega) | refine m_icmp_ne 156 dX12_nextToken_140 (by decide) (fun c140 => ?_) (fun c140 => by exfalso; omega)
          exact fin eE
  have stage2 : ∀ p, p = tkS bs e → p ≤ bs.length → ∀ d1, d1.1 240 6 = nI p → chR tkFl a d d1 → mG W K cX12_nextToken RX12 (dep + 2) d1 38 [some (.ref (xad W 240))] [] := fun p hp2 hpl d1 g1 g2 => by
    have htx := h.rd g2 (by simp [tkFl])
    by_cases hlt : p < bs.length
    · have hbp := htx.2.2 p hlt
      have hkb := kdB_le (bs.getD p 0)
      have hkf := kdF_at hlt
      have hE : (tkE bs p = p + 1 ∧ kdB (bs.getD p 0) ≠ 1 ∧ kdB (bs.getD p 0) ≠ 2) ∨ (kdB (bs.getD p 0) = 1 ∧ tkE bs p = runE sB bs (p + 1)) ∨ (kdB (bs.getD p 0) = 2 ∧ tkE bs p = runE dB bs (p + 1)) := by
        unfold tkE
        rw [if_pos hlt]
        by_cases h1 : sB (bs.getD p 0) = true
        · rw [if_pos h1]; exact Or.inr (Or.inl ⟨kdB_1.mpr h1, runE_s hlt h1⟩)
        · rw [if_neg h1]
          by_cases h2 : dB (bs.getD p 0) = true
          · rw [if_pos h2]; exact Or.inr (Or.inr ⟨kdB_2.mpr h2, runE_s hlt h2⟩)
          · rw [if_neg h2]; exact Or.inl ⟨rfl, fun z => h1 (kdB_1.mp z), fun z => h2 (kdB_2.mp z)⟩
      refine m_aload_n dX12_nextToken_38 rfl ?_
      refine m_aload_n dX12_nextToken_39 rfl ?_
      refine m_get fl_X12_92 (by decide) rfl rfl dX12_nextToken_40 ?_
      refine m_eqi (g1) ?_
      refine m_put fl_X12_95 (by decide) rfl (Nat.le_of_ble_eq_true rfl) rfl dX12_nextToken_43 ?_
      refine m_aload_n dX12_nextToken_46 rfl ?_
      refine m_aload_n dX12_nextToken_47 rfl ?_
      refine m_get fl_X12_92 (by decide) rfl rfl dX12_nextToken_48 ?_
      refine m_eqi ((se_e2 g1 (by decide) : _ = nI p)) ?_
      refine m_aload_n dX12_nextToken_51 rfl ?_
      refine m_get fl_X12_87 (by decide) rfl rfl dX12_nextToken_52 ?_
      refine m_eqi ((se_e2 htx.1 (by decide) : _ = nI bs.length)) ?_
      first | refine m_icmp_neN 62 dX12_nextToken_55 (by decide) (by omega) (by omega) (fun c55 => ?_) (fun c55 => by exfalso; omega) | refine m_icmp_ne 62 dX12_nextToken_55 (by decide) (fun c55 => ?_) (fun c55 => by exfalso; omega)
      refine m_aload_n dX12_nextToken_62 rfl ?_
      refine m_get fl_X12_23 (by decide) rfl rfl dX12_nextToken_63 ?_
      refine m_aload_n dX12_nextToken_66 rfl ?_
      refine m_get fl_X12_92 (by decide) rfl rfl dX12_nextToken_67 ?_
      refine m_eqi ((se_e2 g1 (by decide) : _ = nI p)) ?_
      refine m_iald (by first | exact ⟨by decide, by decide, fun _ => rfl⟩ | exact isI_arr _ (by omega) | exact isI_mv _ (by omega) | exact isI_ne _ (by omega)) (by omega) dX12_nextToken_70 ?_
      refine m_eqi ((se_e hbp.1 (by decide) : _ = nI (bs.getD p 0))) ?_
      refine m_callSIp (s_X12_kindOf hbp.2) cs_X12_98 dX12_nextToken_71 ?_
      refine m_put fl_X12_102 (by decide) rfl (Nat.le_of_ble_eq_true rfl) rfl dX12_nextToken_74 ?_
      refine m_aload_n dX12_nextToken_77 rfl ?_
      refine m_dup dX12_nextToken_78 rfl ?_
      refine m_get fl_X12_92 (by decide) rfl rfl dX12_nextToken_79 ?_
      refine m_eqi ((se_e2 (se_e2 g1 (by decide)) (by decide) : _ = nI p)) ?_
      refine m_aload_n dX12_nextToken_82 rfl ?_
      refine m_get fl_X12_102 (by decide) rfl rfl dX12_nextToken_83 ?_
      refine m_eqi ((se_s _ _ _ _ : _ = nI (kdB (bs.getD p 0)))) ?_
      first | refine m_if_neN 93 dX12_nextToken_86 (by decide) (by omega) (fun c86 => ?_) (fun c86 => by exfalso; omega) | refine m_if_ne 93 dX12_nextToken_86 (by decide) (fun c86 => ?_) (fun c86 => by exfalso; omega)
      refine m_iconstN 1 dX12_nextToken_93 (by decide) ?_
      first | refine m_iaddN dX12_nextToken_94 ?_ | refine m_iadd dX12_nextToken_94 ?_
      refine m_put fl_X12_92 (by decide) rfl (Nat.le_of_ble_eq_true rfl) rfl dX12_nextToken_95 ?_
      exact stage3 p (kdB (bs.getD p 0)) (by omega) hp2 hkf.symm _ (p + 1) rfl (by omega) (by omega) _ (se_s _ _ _ _) (se_e2 (se_e2 (se_s _ _ _ _) (by decide)) (by decide)) (se_e2 (se_s _ _ _ _) (by decide)) (((g2.fld (by simp [tkFl])).fld (by simp [tkFl])).fld (by simp [tkFl])) hE
    · have e6 : p = bs.length := by omega
      have hk0 : kdF bs p = 0 := if_neg hlt
      have hE : tkE bs p = p := if_neg hlt
      refine m_aload_n dX12_nextToken_38 rfl ?_
      refine m_aload_n dX12_nextToken_39 rfl ?_
      refine m_get fl_X12_92 (by decide) rfl rfl dX12_nextToken_40 ?_
      refine m_eqi (g1) ?_
      refine m_put fl_X12_95 (by decide) rfl (Nat.le_of_ble_eq_true rfl) rfl dX12_nextToken_43 ?_
      refine m_aload_n dX12_nextToken_46 rfl ?_
      refine m_aload_n dX12_nextToken_47 rfl ?_
      refine m_get fl_X12_92 (by decide) rfl rfl dX12_nextToken_48 ?_
      refine m_eqi ((se_e2 g1 (by decide) : _ = nI p)) ?_
      refine m_aload_n dX12_nextToken_51 rfl ?_
      refine m_get fl_X12_87 (by decide) rfl rfl dX12_nextToken_52 ?_
      refine m_eqi ((se_e2 htx.1 (by decide) : _ = nI bs.length)) ?_
      first | refine m_icmp_neN 62 dX12_nextToken_55 (by decide) (by omega) (by omega) (fun c55 => by exfalso; omega) (fun c55 => ?_) | refine m_icmp_ne 62 dX12_nextToken_55 (by decide) (fun c55 => by exfalso; omega) (fun c55 => ?_)
      refine m_iconstN 0 dX12_nextToken_58 (by decide) ?_
      refine m_goto 74 dX12_nextToken_59 (by decide) ?_
      refine m_put fl_X12_102 (by decide) rfl (Nat.le_of_ble_eq_true rfl) rfl dX12_nextToken_74 ?_
      refine m_aload_n dX12_nextToken_77 rfl ?_
      refine m_dup dX12_nextToken_78 rfl ?_
      refine m_get fl_X12_92 (by decide) rfl rfl dX12_nextToken_79 ?_
      refine m_eqi ((se_e2 (se_e2 g1 (by decide)) (by decide) : _ = nI p)) ?_
      refine m_aload_n dX12_nextToken_82 rfl ?_
      refine m_get fl_X12_102 (by decide) rfl rfl dX12_nextToken_83 ?_
      refine m_eqi ((se_s _ _ _ _ : _ = nI 0)) ?_
      first | refine m_if_neN 93 dX12_nextToken_86 (by decide) (by omega) (fun c86 => by exfalso; exact absurd rfl c86) (fun c86 => ?_) | refine m_if_ne 93 dX12_nextToken_86 (by decide) (fun c86 => by exfalso; exact absurd rfl c86) (fun c86 => ?_)
      refine m_iconstN 0 dX12_nextToken_89 (by decide) ?_
      refine m_goto 94 dX12_nextToken_90 (by decide) ?_
      first | refine m_iaddN dX12_nextToken_94 ?_ | refine m_iadd dX12_nextToken_94 ?_
      refine m_put fl_X12_92 (by decide) rfl (Nat.le_of_ble_eq_true rfl) rfl dX12_nextToken_95 ?_
      exact stage3 p 0 (by omega) hp2 hk0.symm _ (p + 0) rfl (by omega) (by omega) _ (se_s _ _ _ _) (se_e2 (se_e2 (se_s _ _ _ _) (by decide)) (by decide)) (se_e2 (se_s _ _ _ _) (by decide)) (((g2.fld (by simp [tkFl])).fld (by simp [tkFl])).fld (by simp [tkFl])) (Or.inl ⟨hE, by decide, by decide⟩)
  have stage1 : ∀ N i, bs.length - i = N → i ≤ bs.length → tkS bs e = runE (fun b => decide (b = 32)) bs i → ∀ d1, d1.1 240 6 = nI i → chR tkFl a d d1 → mG W K cX12_nextToken RX12 (dep + 2) d1 0 [some (.ref (xad W 240))] [] := by
    intro N
    induction N with
    | zero =>
      intro i hN hi hS d1 g1 g2
      have htx := h.rd g2 (by simp [tkFl])
      refine m_aload_n dX12_nextToken_0 rfl ?_
      refine m_get fl_X12_92 (by decide) rfl rfl dX12_nextToken_1 ?_
      refine m_eqi (g1) ?_
      refine m_aload_n dX12_nextToken_4 rfl ?_
      refine m_get fl_X12_87 (by decide) rfl rfl dX12_nextToken_5 ?_
      refine m_eqi (htx.1) ?_
      first | refine m_icmp_geN 38 dX12_nextToken_8 (by decide) (by omega) (by omega) (fun c8 => ?_) (fun c8 => by exfalso; omega) | refine m_icmp_ge 38 dX12_nextToken_8 (by decide) (fun c8 => ?_) (fun c8 => by exfalso; omega)
      exact stage2 i (by rw [hS, runE_o (by omega)]) hi d1 g1 g2
    | succ N ih =>
      intro i hN hi hS d1 g1 g2
      have htx := h.rd g2 (by simp [tkFl])
      have hbi := htx.2.2 i (by omega)
      have hb9 := hbi.2
      refine m_aload_n dX12_nextToken_0 rfl ?_
      refine m_get fl_X12_92 (by decide) rfl rfl dX12_nextToken_1 ?_
      refine m_eqi (g1) ?_
      refine m_aload_n dX12_nextToken_4 rfl ?_
      refine m_get fl_X12_87 (by decide) rfl rfl dX12_nextToken_5 ?_
      refine m_eqi (htx.1) ?_
      first | refine m_icmp_geN 38 dX12_nextToken_8 (by decide) (by omega) (by omega) (fun c8 => by exfalso; omega) (fun c8 => ?_) | refine m_icmp_ge 38 dX12_nextToken_8 (by decide) (fun c8 => by exfalso; omega) (fun c8 => ?_)
      refine m_aload_n dX12_nextToken_11 rfl ?_
      refine m_get fl_X12_23 (by decide) rfl rfl dX12_nextToken_12 ?_
      refine m_aload_n dX12_nextToken_15 rfl ?_
      refine m_get fl_X12_92 (by decide) rfl rfl dX12_nextToken_16 ?_
      refine m_eqi (g1) ?_
      refine m_iald (by first | exact ⟨by decide, by decide, fun _ => rfl⟩ | exact isI_arr _ (by omega) | exact isI_mv _ (by omega) | exact isI_ne _ (by omega)) (by omega) dX12_nextToken_19 ?_
      refine m_eqi (hbi.1) ?_
      refine m_bipushN 32 dX12_nextToken_20 (by decide) ?_
      first | refine m_icmp_neN 38 dX12_nextToken_22 (by decide) (by omega) (by omega) (fun c22 => ?_) (fun c22 => ?_) | refine m_icmp_ne 38 dX12_nextToken_22 (by decide) (fun c22 => ?_) (fun c22 => ?_)
      · exact stage2 i (by rw [hS, runE_e (by omega) (decide_eq_false c22)]) hi d1 g1 g2
      · refine m_aload_n dX12_nextToken_25 rfl ?_
        refine m_dup dX12_nextToken_26 rfl ?_
        refine m_get fl_X12_92 (by decide) rfl rfl dX12_nextToken_27 ?_
        refine m_eqi (g1) ?_
        refine m_iconstN 1 dX12_nextToken_30 (by decide) ?_
        first | refine m_iaddN dX12_nextToken_31 ?_ | refine m_iadd dX12_nextToken_31 ?_
        refine m_put fl_X12_92 (by decide) rfl (Nat.le_of_ble_eq_true rfl) rfl dX12_nextToken_32 ?_
        refine m_goto 0 dX12_nextToken_35 (by decide) ?_
        exact ih (i + 1) (by omega) (by omega) (by rw [hS, runE_s (by omega) (decide_eq_true (by omega))]) _ (se_s _ _ _ _) (g2.fld (by simp [tkFl]))
  exact stage1 _ e rfl he rfl d hp chR.rf
end MOD
