/-! class Beginnings: the walk over all numbers -/
/-- what has come to number i of the ways, when all numbers below t, and t by the letters below p, have gone on -/
def wayT (B : Nat → Nat) (xs : List Nat) (c : Nat → Nat) (t p i : Nat) : Nat := (if i = 0 then 1 else 0) + sum6 (fun q => if 0 < dig c i q ∧ (i - strd c q < t ∨ (i - strd c q = t ∧ q < p)) ∧ opn B xs (decV (dig c i) q) q = true then ways B xs (decV (dig c i) q) else 0)
theorem wayT_6 (B : Nat → Nat) (xs : List Nat) (c : Nat → Nat) (t i : Nat) : wayT B xs c t 6 i = wayT B xs c (t + 1) 0 i := by
  unfold wayT
  congr 1
  refine sum6_le (fun q hq => ?_)
  by_cases e : 0 < dig c i q ∧ (i - strd c q < t ∨ (i - strd c q = t ∧ q < 6)) ∧ opn B xs (decV (dig c i) q) q = true
  · rw [if_pos e, if_pos ⟨e.1, by omega, e.2.2⟩]
  · rw [if_neg e, if_neg (fun z => e ⟨z.1, by omega, z.2.2⟩)]
theorem dig_inc {c : Nat → Nat} {t p : Nat} (h : dig c t p < c p) : dig c (t + strd c p) = incV (dig c t) p := by
  funext q
  rw [dig_add h q]
  unfold incV
  rfl
theorem dig_dec {c : Nat → Nat} {t p : Nat} (h : 0 < dig c t p) : decV (dig c t) p = dig c (t - strd c p) := by
  obtain ⟨h1, h2, h3⟩ := dig_sub h
  have e := dig_inc h2
  rw [show t - strd c p + strd c p = t by omega] at e
  rw [e, dec_inc]
theorem dig_zero {c : Nat → Nat} {t : Nat} : ∀ p, (∀ q, q < p → dig c t q = 0) → t % strd c p = 0 := by
  intro p
  induction p with
  | zero => intro _; exact Nat.mod_one t
  | succ p ih =>
    intro h
    rw [mod_strd_s, ih (fun q hq => h q (by omega)), h p (by omega)]
    simp
theorem dig_0 (c : Nat → Nat) (p : Nat) : dig c 0 p = 0 := by unfold dig; simp
theorem wayT_self {B : Nat → Nat} {xs : List Nat} {c : Nat → Nat} {t : Nat} (ht : t < strd c 6) : wayT B xs c t 0 t = ways B xs (dig c t) := by
  by_cases e : t = 0
  · subst e
    rw [ways_0 (by unfold sum6; simp [dig_0])]
    unfold wayT
    rw [if_pos rfl, show sum6 _ = 0 from ?_]
    unfold sum6
    simp [dig_0]
  · have hpos : 0 < sum6 (dig c t) := by
      refine Nat.pos_of_ne_zero (fun z => ?_)
      unfold sum6 at z
      have := dig_zero (c := c) (t := t) 6 (fun q hq => by
        rcases (show q = 0 ∨ q = 1 ∨ q = 2 ∨ q = 3 ∨ q = 4 ∨ q = 5 by omega) with rfl | rfl | rfl | rfl | rfl | rfl <;> omega)
      rw [Nat.mod_eq_of_lt ht] at this
      exact e this
    rw [ways_s hpos]
    unfold wayT
    rw [if_neg e, Nat.zero_add]
    refine sum6_le (fun q hq => ?_)
    have hs := strd_pos c q
    by_cases h : 0 < dig c t q ∧ opn B xs (decV (dig c t) q) q = true
    · rw [if_pos h, if_pos ⟨h.1, Or.inl (by omega), h.2⟩]
    · rw [if_neg h, if_neg (fun z => h ⟨z.1, z.2.2⟩)]
theorem sum6_add {f g : Nat → Nat} {p x : Nat} (hp : p < 6) (h1 : f p = g p + x) (h2 : ∀ q, q < 6 → q ≠ p → f q = g q) : sum6 f = sum6 g + x := by
  unfold sum6
  have a0 := h2 0 (by decide)
  have a1 := h2 1 (by decide)
  have a2 := h2 2 (by decide)
  have a3 := h2 3 (by decide)
  have a4 := h2 4 (by decide)
  have a5 := h2 5 (by decide)
  rcases (show p = 0 ∨ p = 1 ∨ p = 2 ∨ p = 3 ∨ p = 4 ∨ p = 5 by omega) with rfl | rfl | rfl | rfl | rfl | rfl <;> simp at a0 a1 a2 a3 a4 a5 <;> omega
theorem wayT_s {B : Nat → Nat} {xs : List Nat} {c : Nat → Nat} {t p i : Nat} (hc : c = cntV xs) (hp : p < 6) : wayT B xs c t (p + 1) i = wayT B xs c t p i + (if i = t + strd c p ∧ opn B xs (dig c t) p = true then ways B xs (dig c t) else 0) := by
  unfold wayT
  rw [Nat.add_assoc]
  congr 1
  refine sum6_add hp ?_ (fun q hq hne => ?_)
  · by_cases e : i = t + strd c p ∧ opn B xs (dig c t) p = true
    · have hlt : dig c t p < c p := by rw [hc]; exact opn_lt (B := B) (v := dig (cntV xs) t) (by rw [← hc]; exact e.2)
      have hpos : 0 < dig c i p := by rw [e.1, dig_add hlt p, if_pos rfl]; omega
      have hdec : decV (dig c i) p = dig c t := by rw [dig_dec hpos, show i - strd c p = t by omega]
      have hi : i - strd c p = t := by omega
      rw [if_pos e, if_pos ⟨hpos, Or.inr ⟨hi, Nat.lt_succ_self p⟩, by rw [hdec]; exact e.2⟩, if_neg (fun z => by rcases z.2.1 with z2 | z2 <;> omega), hdec]
      omega
    · rw [if_neg e, Nat.add_zero]
      by_cases g : 0 < dig c i p ∧ (i - strd c p < t ∨ (i - strd c p = t ∧ p < p)) ∧ opn B xs (decV (dig c i) p) p = true
      · rw [if_pos g, if_pos ⟨g.1, by omega, g.2.2⟩, Nat.add_zero]
      · rw [if_neg g, if_neg]
        rintro ⟨z1, z2, z3⟩
        rcases z2 with z2 | ⟨z2, -⟩
        · exact g ⟨z1, Or.inl z2, z3⟩
        · have hs := (dig_sub z1).1
          refine e ⟨by omega, ?_⟩
          rw [dig_dec z1, z2] at z3
          exact z3
  · by_cases g : 0 < dig c i q ∧ (i - strd c q < t ∨ (i - strd c q = t ∧ q < p)) ∧ opn B xs (decV (dig c i) q) q = true
    · rw [if_pos g, if_pos ⟨g.1, by omega, g.2.2⟩]
    · rw [if_neg g, if_neg (fun z => g ⟨z.1, by omega, z.2.2⟩)]
/-- so many of the numbers below t are reached -/
def cntF (B : Nat → Nat) (xs : List Nat) (c : Nat → Nat) : Nat → Nat
  | 0 => 0
  | t + 1 => if 0 < ways B xs (dig c t) then cntF B xs c t + 1 else cntF B xs c t
def maxF (B : Nat → Nat) (xs : List Nat) (c : Nat → Nat) : Nat → Nat
  | 0 => 0
  | t + 1 => if 0 < ways B xs (dig c t) then max (maxF B xs c t) (wideV B xs (dig c t)) else maxF B xs c t
theorem cntF_s (B : Nat → Nat) (xs : List Nat) (c : Nat → Nat) (t : Nat) : cntF B xs c (t + 1) = if 0 < ways B xs (dig c t) then cntF B xs c t + 1 else cntF B xs c t := rfl
theorem maxF_s (B : Nat → Nat) (xs : List Nat) (c : Nat → Nat) (t : Nat) : maxF B xs c (t + 1) = if 0 < ways B xs (dig c t) then max (maxF B xs c t) (wideV B xs (dig c t)) else maxF B xs c t := rfl
theorem needsIs.fr {S : List Nat} {d d' : xD} {B : Nat → Nat} {xs : List Nat} {n : Nat} (h : needsIs d B xs n) (hc : chg S d d') (hS : ∀ o ∈ S, o < 96 ∨ 240 ≤ o) (h6 : ∀ x ∈ xs, x < 6) (h24 : xs.length ≤ 24) : needsIs d' B xs n := fun i hi hl q hq => by
  have h1 := h6 xs[i] (List.getElem_mem hi)
  have h2 : (xs.take i).count xs[i] ≤ i := Nat.le_trans List.count_le_length (by simp; omega)
  have hno : xs[i] * 24 + (xs.take i).count xs[i] + 96 ∉ S := fun z => by have := hS _ z; omega
  rw [(hc _ hno).1]
  exact h i hi hl q hq
theorem cntF_le (B : Nat → Nat) (xs : List Nat) (c : Nat → Nat) : ∀ t, cntF B xs c t ≤ t := by
  intro t
  induction t with
  | zero => exact Nat.le_refl _
  | succ t ih =>
    unfold cntF
    split <;> omega
theorem wide_le (B : Nat → Nat) (xs : List Nat) (v : Nat → Nat) : wideV B xs v ≤ 6 := by
  have h : ∀ p, (if opn B xs v p then 1 else 0) ≤ 1 := fun p => by split <;> omega
  have a0 := h 0
  have a1 := h 1
  have a2 := h 2
  have a3 := h 3
  have a4 := h 4
  have a5 := h 5
  unfold wideV sum6
  dsimp only
  omega
theorem maxF_le (B : Nat → Nat) (xs : List Nat) (c : Nat → Nat) : ∀ t, maxF B xs c t ≤ 6 := by
  intro t
  induction t with
  | zero => exact Nat.zero_le _
  | succ t ih =>
    unfold maxF
    have := wide_le B xs (dig c t)
    split
    · exact Nat.max_le.mpr ⟨ih, this⟩
    · exact ih
/-- how many of the letters below p can go on -/
def opens (B : Nat → Nat) (xs : List Nat) (v : Nat → Nat) (p : Nat) : Nat := ((List.range p).map (fun q => if opn B xs v q then 1 else 0)).sum
theorem opens_s (B : Nat → Nat) (xs : List Nat) (v : Nat → Nat) (p : Nat) : opens B xs v (p + 1) = opens B xs v p + (if opn B xs v p then 1 else 0) := by
  unfold opens
  rw [List.range_succ, List.map_append, List.sum_append]
  simp
theorem opens_6 (B : Nat → Nat) (xs : List Nat) (v : Nat → Nat) : opens B xs v 6 = wideV B xs v := by
  unfold wideV sum6
  rw [opens_s, opens_s, opens_s, opens_s, opens_s, opens_s]
  rw [show opens B xs v 0 = 0 from rfl]
  dsimp only
  omega
theorem opens_le (B : Nat → Nat) (xs : List Nat) (v : Nat → Nat) : ∀ p, opens B xs v p ≤ p := by
  intro p
  induction p with
  | zero => exact Nat.le_refl _
  | succ p ih =>
    rw [opens_s]
    split <;> omega
section BEH
variable {l : Launch} {W : xW} {dep : Nat} {d : xD} {k : Nat} {fb : Nat → Nat} {j : Nat} {xs : List Nat} {B : Nat → Nat}
/-- the grid: which numbers are reached, by how many ways -/
def gridIs (d : xD) (sz : Nat) (S : Nat → Nat) : Prop := ∀ i, i < sz → d.1 53 i = nI (if 0 < S i then 1 else 0) ∧ d.1 54 i = nI (S i % 1000000007)
theorem s_X0_goOnFrom {t : Nat} (h24 : xs.length ≤ 24) (h6 : ∀ x ∈ xs, x < 6) (hneed : needsIs d B xs xs.length) (hm : ∀ p, p < 6 → d.1 55 p = nI (cntV xs p) ∧ d.1 56 p = nI (strd (cntV xs) p)) (hv : ∀ q, q < 6 → d.1 57 q = nI (dig (cntV xs) t q)) (ht : t < strd (cntV xs) 6) (hpos : 0 < ways B xs (dig (cntV xs) t)) (hg : gridIs d (strd (cntV xs) 6) (wayT B xs (cntV xs) t 0)) : mSpecI l W mX0_goOnFrom (dep + 1) [.ref (xad W 52), .int (nI t)] d (fun r d' => r = nI (wideV B xs (dig (cntV xs) t)) ∧ gridIs d' (strd (cntV xs) 6) (wayT B xs (cntV xs) (t + 1) 0) ∧ chg [53, 54] d d') := by
  have hsum : sum6 (cntV xs) ≤ 24 := by rw [cnt_sum h6]; exact h24
  have hst := fun p (hp : p ≤ 6) => strd_le (c := cntV xs) hsum hp
  have hsz := hst 6 (Nat.le_refl _)
  have hcl : ∀ q, cntV xs q ≤ 24 := fun q => Nat.le_trans List.count_le_length h24
  have hdl : ∀ q, dig (cntV xs) t q ≤ 24 := fun q => Nat.le_trans (dig_le _ _ _) (hcl q)
  have hw0 := wayT_self (B := B) (xs := xs) ht
  refine m_spec RX0 [some (.ref (xad W 52)), some (.int (nI t)), none, none, none] rfl (by decide +kernel) rfl rfl (fun K hR => ?_)
  have loop : ∀ p, p ≤ 6 → ∀ d1, gridIs d1 (strd (cntV xs) 6) (wayT B xs (cntV xs) t p) → chg [53, 54] d d1 → mG W K cX0_goOnFrom RX0 (dep + 1) d1 29 [some (.ref (xad W 52)), some (.int (nI t)), some (.int (nI (opens B xs (dig (cntV xs) t) p))), some (.int (nI (ways B xs (dig (cntV xs) t) % 1000000007))), some (.int (nI p))] [] := x_up _ (fun p hp ih d1 g1 g2 => by
    have hm1 : ∀ p, p < 6 → d1.1 55 p = nI (cntV xs p) ∧ d1.1 56 p = nI (strd (cntV xs) p) := fun p hp => by rw [(g2 55 (by simp)).1, (g2 56 (by simp)).1]; exact hm p hp
    have hv1 : ∀ q, q < 6 → d1.1 57 q = nI (dig (cntV xs) t q) ∧ dig (cntV xs) t q ≤ 24 := fun q hq => ⟨by rw [(g2 57 (by simp)).1]; exact hv q hq, hdl q⟩
    have hop := opens_le B xs (dig (cntV xs) t) p
    have hdp := hdl p
    have hcp := hcl p
    have hmod : ways B xs (dig (cntV xs) t) % 1000000007 < 1000000007 := Nat.mod_lt _ (by decide)
    have hstep : p < 6 → opn B xs (dig (cntV xs) t) p = false → gridIs d1 (strd (cntV xs) 6) (wayT B xs (cntV xs) t (p + 1)) := fun hp6 hf i hi => by
      have e : wayT B xs (cntV xs) t (p + 1) i = wayT B xs (cntV xs) t p i := by
        rw [wayT_s rfl hp6, if_neg (fun z => by rw [hf] at z; exact absurd z.2 (by decide)), Nat.add_zero]
      rw [e]
      exact g1 i hi
    refine m_iload dX0_goOnFrom_29 rfl ?_
    refine m_aload_n dX0_goOnFrom_31 rfl ?_
    refine m_get fl_X0_25 (by decide) rfl rfl dX0_goOnFrom_32 ?_
    refine m_alen (by omega) (by first | rfl | exact xcell_arr _ _ _ (by omega) | exact xcell_mv _ _ (by omega) | exact xcell_fo _ _ (by omega) | exact xcell_ne _ _ (by omega)) (by decide) dX0_goOnFrom_35 ?_
    first | refine m_icmp_geN 119 dX0_goOnFrom_36 (by decide) (by omega) (by omega) (fun c36 => ?_) (fun c36 => ?_) | refine m_icmp_ge 119 dX0_goOnFrom_36 (by decide) (fun c36 => ?_) (fun c36 => ?_)
    · refine m_iload_n dX0_goOnFrom_119 rfl ?_
      have e6 : p = 6 := by omega
      subst e6
      exact m_iret (ty := .int) hR dX0_goOnFrom_120 (⟨by rw [opens_6], fun i hi => by rw [← wayT_6]; exact g1 i hi, g2⟩)
    · refine m_iload dX0_goOnFrom_39 rfl ?_
      refine m_aload_n dX0_goOnFrom_41 rfl ?_
      refine m_get fl_X0_19 (by decide) rfl rfl dX0_goOnFrom_42 ?_
      refine m_alen (by omega) (by first | rfl | exact xcell_arr _ _ _ (by omega) | exact xcell_mv _ _ (by omega) | exact xcell_fo _ _ (by omega) | exact xcell_ne _ _ (by omega)) (by decide) dX0_goOnFrom_45 ?_
      first | refine m_icmp_geN 119 dX0_goOnFrom_46 (by decide) (by omega) (by omega) (fun c46 => by exfalso; omega) (fun c46 => ?_) | refine m_icmp_ge 119 dX0_goOnFrom_46 (by decide) (fun c46 => by exfalso; omega) (fun c46 => ?_)
      refine m_iload dX0_goOnFrom_49 rfl ?_
      refine m_aload_n dX0_goOnFrom_51 rfl ?_
      refine m_get fl_X0_22 (by decide) rfl rfl dX0_goOnFrom_52 ?_
      refine m_alen (by omega) (by first | rfl | exact xcell_arr _ _ _ (by omega) | exact xcell_mv _ _ (by omega) | exact xcell_fo _ _ (by omega) | exact xcell_ne _ _ (by omega)) (by decide) dX0_goOnFrom_55 ?_
      first | refine m_icmp_geN 119 dX0_goOnFrom_56 (by decide) (by omega) (by omega) (fun c56 => by exfalso; omega) (fun c56 => ?_) | refine m_icmp_ge 119 dX0_goOnFrom_56 (by decide) (fun c56 => by exfalso; omega) (fun c56 => ?_)
      refine m_aload_n dX0_goOnFrom_59 rfl ?_
      refine m_get fl_X0_25 (by decide) rfl rfl dX0_goOnFrom_60 ?_
      refine m_iload dX0_goOnFrom_63 rfl ?_
      refine m_iald (by first | exact ⟨by decide, by decide, fun _ => rfl⟩ | exact isI_arr _ (by omega) | exact isI_mv _ (by omega) | exact isI_ne _ (by omega)) (by omega) dX0_goOnFrom_65 ?_
      refine m_eqi ((hv1 p (by omega)).1) ?_
      refine m_aload_n dX0_goOnFrom_66 rfl ?_
      refine m_get fl_X0_19 (by decide) rfl rfl dX0_goOnFrom_67 ?_
      refine m_iload dX0_goOnFrom_70 rfl ?_
      refine m_iald (by first | exact ⟨by decide, by decide, fun _ => rfl⟩ | exact isI_arr _ (by omega) | exact isI_mv _ (by omega) | exact isI_ne _ (by omega)) (by omega) dX0_goOnFrom_72 ?_
      refine m_eqi ((hm1 p (by omega)).1) ?_
      first | refine m_icmp_geN 113 dX0_goOnFrom_73 (by decide) (by omega) (by omega) (fun c73 => ?_) (fun c73 => ?_) | refine m_icmp_ge 113 dX0_goOnFrom_73 (by decide) (fun c73 => ?_) (fun c73 => ?_)
      · first | refine m_iincN 1 dX0_goOnFrom_113 (by decide) rfl rfl ?_ | refine m_iinc dX0_goOnFrom_113 rfl rfl ?_
        refine m_goto 29 dX0_goOnFrom_116 (by decide) ?_
        have hf : opn B xs (dig (cntV xs) t) p = false := by
          cases hf : opn B xs (dig (cntV xs) t) p
          · rfl
          · exact absurd (show dig (cntV xs) t p < cntV xs p from opn_lt hf) (by omega)
        have e := ih (by omega) d1 (hstep (by omega) hf) g2
        rw [opens_s, hf] at e
        exact e
      · refine m_aload_n dX0_goOnFrom_76 rfl ?_
        refine m_iload dX0_goOnFrom_77 rfl ?_
        refine m_bipushN 24 dX0_goOnFrom_79 (by decide) ?_
        first | refine m_imulN dX0_goOnFrom_81 ?_ | refine m_imul dX0_goOnFrom_81 ?_
        refine m_aload_n dX0_goOnFrom_82 rfl ?_
        refine m_get fl_X0_25 (by decide) rfl rfl dX0_goOnFrom_83 ?_
        refine m_iload dX0_goOnFrom_86 rfl ?_
        refine m_iald (by first | exact ⟨by decide, by decide, fun _ => rfl⟩ | exact isI_arr _ (by omega) | exact isI_mv _ (by omega) | exact isI_ne _ (by omega)) (by omega) dX0_goOnFrom_88 ?_
        refine m_eqi ((hv1 p (by omega)).1) ?_
        first | refine m_iaddN dX0_goOnFrom_89 ?_ | refine m_iadd dX0_goOnFrom_89 ?_
        obtain ⟨i0, hi0, ho1, ho2⟩ := occ_ex xs (dig (cntV xs) t p) (show dig (cntV xs) t p < cntV xs p by omega)
        have hopn := opn_at (B := B) (v := dig (cntV xs) t) hi0 ho1 ho2
        have hnd : ∀ q, q < 6 → d1.1 (p * 24 + dig (cntV xs) t p + 96) q = nI (if (B p).testBit q then (xs.take i0).count q else 0) ∧ (if (B p).testBit q then (xs.take i0).count q else 0) ≤ 24 := fun q hq => by
          constructor
          · rw [(g2 (p * 24 + dig (cntV xs) t p + 96) (by simp <;> omega)).1]
            have := hneed i0 hi0 hi0 q hq
            rw [ho1, ho2] at this
            exact this
          · split
            · exact Nat.le_trans List.count_le_length (by simp; omega)
            · omega
        refine m_callVI (s_X0_isOpen (a := p * 24 + dig (cntV xs) t p) (by omega) hnd hv1) cv_X0_100 dX0_goOnFrom_90 (fun r90 d90 h90 => ?_)
        obtain ⟨h90, rfl⟩ := h90
        have hopn2 : opn B xs (dig (cntV xs) t) p = true ↔ r90 = 1 := by
          rw [hopn]
          rcases h90 with ⟨q1, q2⟩ | ⟨q1, q2⟩
          · refine ⟨fun _ => q1, fun _ q hq hb => ?_⟩
            have := q2 q hq
            rw [if_pos hb] at this
            exact this
          · refine ⟨fun z => absurd (fun q hq => ?_) q2, fun z => by rw [q1] at z; exact absurd z (by decide)⟩
            split
            next hb => exact z q hq hb
            next => exact Nat.zero_le _
        refine m_if_eq 113 dX0_goOnFrom_93 (by decide) (fun c93 => ?_) (fun c93 => ?_)
        · first | refine m_iincN 1 dX0_goOnFrom_113 (by decide) rfl rfl ?_ | refine m_iinc dX0_goOnFrom_113 rfl rfl ?_
          refine m_goto 29 dX0_goOnFrom_116 (by decide) ?_
          have hf : opn B xs (dig (cntV xs) t) p = false := by
            cases hf : opn B xs (dig (cntV xs) t) p
            · rfl
            · rw [hopn2.mp hf] at c93; exact absurd c93 (by decide)
          have e := ih (by omega) d90 (hstep (by omega) hf) g2
          rw [opens_s, hf] at e
          exact e
        · first | refine m_iincN 1 dX0_goOnFrom_96 (by decide) rfl rfl ?_ | refine m_iinc dX0_goOnFrom_96 rfl rfl ?_
          refine m_aload_n dX0_goOnFrom_99 rfl ?_
          refine m_iload_n dX0_goOnFrom_100 rfl ?_
          refine m_aload_n dX0_goOnFrom_101 rfl ?_
          refine m_get fl_X0_22 (by decide) rfl rfl dX0_goOnFrom_102 ?_
          refine m_iload dX0_goOnFrom_105 rfl ?_
          refine m_iald (by first | exact ⟨by decide, by decide, fun _ => rfl⟩ | exact isI_arr _ (by omega) | exact isI_mv _ (by omega) | exact isI_ne _ (by omega)) (by omega) dX0_goOnFrom_107 ?_
          refine m_eqi ((hm1 p (by omega)).2) ?_
          have hstp := hst p (by omega)
          have hopt : opn B xs (dig (cntV xs) t) p = true := by rcases h90 with ⟨q1, -⟩ | ⟨q1, -⟩; exact hopn2.mpr q1; exact absurd q1 c93
          have hlt6 : t + strd (cntV xs) p < strd (cntV xs) 6 := dig_lt_size (by omega) (by omega) ht
          first | refine m_iaddN dX0_goOnFrom_108 ?_ | refine m_iadd dX0_goOnFrom_108 ?_
          refine m_iload_n dX0_goOnFrom_109 rfl ?_
          refine m_callVVp (s_X0_reach (a := t + strd (cntV xs) p) (w := wayT B xs (cntV xs) t p (t + strd (cntV xs) p) % 1000000007) (m := ways B xs (dig (cntV xs) t) % 1000000007) (by omega) (g1 _ hlt6).2 (Nat.mod_lt _ (by decide)) hmod) cv_X0_76 dX0_goOnFrom_110 ?_
          first | refine m_iincN 1 dX0_goOnFrom_113 (by decide) rfl rfl ?_ | refine m_iinc dX0_goOnFrom_113 rfl rfl ?_
          refine m_goto 29 dX0_goOnFrom_116 (by decide) ?_
          have e := ih (by omega) (seI (seI d90 53 (t + strd (cntV xs) p) (nI 1)) 54 (t + strd (cntV xs) p) (nI ((wayT B xs (cntV xs) t p (t + strd (cntV xs) p) % 1000000007 + ways B xs (dig (cntV xs) t) % 1000000007) % 1000000007))) (fun i hi => ?_) ((g2.se (by simp)).se (by simp))
          · rw [opens_s, hopt] at e
            exact e
          · by_cases ei : i = t + strd (cntV xs) p
            · have e1 : wayT B xs (cntV xs) t (p + 1) i = wayT B xs (cntV xs) t p i + ways B xs (dig (cntV xs) t) := by
                rw [wayT_s rfl (by omega), if_pos ⟨ei, hopt⟩]
              rw [e1, ei]
              refine ⟨?_, ?_⟩
              · rw [if_pos (by omega)]; exact se_e (se_s _ _ _ _) (by decide)
              · rw [se_s]; exact congrArg nI (Nat.add_mod _ _ _).symm
            · have e1 : wayT B xs (cntV xs) t (p + 1) i = wayT B xs (cntV xs) t p i := by
                rw [wayT_s rfl (by omega), if_neg (fun z => ei z.1), Nat.add_zero]
              rw [e1]
              exact ⟨se_e (se_e2 (g1 i hi).1 ei) (by decide), se_e2 (se_e (g1 i hi).2 (by decide)) ei⟩
    )
  have hg0 := hg t ht
  rw [hw0] at hg0
  refine m_iconstN 0 dX0_goOnFrom_0 (by decide) ?_
  refine m_istore_n dX0_goOnFrom_1 (Nat.le_of_ble_eq_true rfl) rfl ?_
  refine m_iload_n dX0_goOnFrom_2 rfl ?_
  refine m_if_ltN 24 dX0_goOnFrom_3 (by decide) (by omega) ?_
  refine m_iload_n dX0_goOnFrom_6 rfl ?_
  refine m_aload_n dX0_goOnFrom_7 rfl ?_
  refine m_get fl_X0_15 (by decide) rfl rfl dX0_goOnFrom_8 ?_
  refine m_alen (by omega) (by first | rfl | exact xcell_arr _ _ _ (by omega) | exact xcell_mv _ _ (by omega) | exact xcell_fo _ _ (by omega) | exact xcell_ne _ _ (by omega)) (by decide) dX0_goOnFrom_11 ?_
  first | refine m_icmp_geN 24 dX0_goOnFrom_12 (by decide) (by omega) (by omega) (fun c12 => by exfalso; omega) (fun c12 => ?_) | refine m_icmp_ge 24 dX0_goOnFrom_12 (by decide) (fun c12 => by exfalso; omega) (fun c12 => ?_)
  refine m_aload_n dX0_goOnFrom_15 rfl ?_
  refine m_get fl_X0_15 (by decide) rfl rfl dX0_goOnFrom_16 ?_
  refine m_iload_n dX0_goOnFrom_19 rfl ?_
  refine m_iald (by first | exact ⟨by decide, by decide, fun _ => rfl⟩ | exact isI_arr _ (by omega) | exact isI_mv _ (by omega) | exact isI_ne _ (by omega)) (by omega) dX0_goOnFrom_20 ?_
  refine m_eqi (hg0.2) ?_
  refine m_goto 25 dX0_goOnFrom_21 (by decide) ?_
  refine m_istore_n dX0_goOnFrom_25 (Nat.le_of_ble_eq_true rfl) rfl ?_
  refine m_iconstN 0 dX0_goOnFrom_26 (by decide) ?_
  refine m_istore dX0_goOnFrom_27 (Nat.le_of_ble_eq_true rfl) rfl ?_
  exact loop 0 (Nat.zero_le _) d hg chg.rf
def beginS : List Nat := [52, 53, 54, 55, 56] ++ needsS
theorem begin_no {o : Nat} (h : o < 52 ∨ 57 < o) (h2 : o < 96 ∨ 240 ≤ o) : o ∉ beginS := by
  simp only [beginS, needsS, List.mem_append, List.mem_cons, List.mem_range'_1, List.not_mem_nil, or_false]
  omega
theorem begin_sub {S : List Nat} (h : ∀ o ∈ S, o = 52 ∨ o = 53 ∨ o = 54 ∨ o = 55 ∨ o = 56 ∨ o = 57) : ∀ o ∈ S, o ∈ beginS := fun o ho => by
  have := h o ho
  simp only [beginS, needsS, List.mem_append, List.mem_cons, List.mem_range'_1, List.not_mem_nil, or_false]
  omega
theorem s_X0_find (h : letIs d k fb) (hj : j < 13) (hr : rowIs d j xs) (hx : ∀ x ∈ xs, x < k) : mSpecI l W mX0_find (dep + 3) [.ref (xad W 52), .ref (xad W (j + 4))] d (fun r d' => r = 1 ∧ d'.1 52 7 = nI (strd (cntV xs) 6) ∧ d'.1 52 8 = nI (cntF (bw k fb) xs (cntV xs) (strd (cntV xs) 6)) ∧ d'.1 52 9 = nI (maxF (bw k fb) xs (cntV xs) (strd (cntV xs) 6)) ∧ d'.1 54 (strd (cntV xs) 6 - 1) = nI (ways (bw k fb) xs (dig (cntV xs) (strd (cntV xs) 6 - 1)) % 1000000007) ∧ chg beginS d d') := by
  have h24 := hr.1
  have hsum : sum6 (cntV xs) ≤ 24 := by rw [cnt_sum hr.2.2.2]; exact h24
  have hsz := strd_le (c := cntV xs) hsum (Nat.le_refl 6)
  have hsz0 := strd_pos (cntV xs) 6
  have hcl : ∀ q, cntV xs q ≤ 24 := fun q => Nat.le_trans List.count_le_length h24
  refine m_spec RX0 [some (.ref (xad W 52)), some (.ref (xad W (j + 4))), none] rfl (by decide +kernel) rfl rfl (fun K hR => ?_)
  have loop : ∀ t, t ≤ strd (cntV xs) 6 → ∀ d1, needsIs d1 (bw k fb) xs xs.length → (∀ p, p < 6 → d1.1 55 p = nI (cntV xs p) ∧ d1.1 56 p = nI (strd (cntV xs) p)) → (∀ q, q < 6 → d1.1 57 q = nI (dig (cntV xs) t q)) → gridIs d1 (strd (cntV xs) 6) (wayT (bw k fb) xs (cntV xs) t 0) → d1.1 52 7 = nI (strd (cntV xs) 6) → d1.1 52 8 = nI (cntF (bw k fb) xs (cntV xs) t) → d1.1 52 9 = nI (maxF (bw k fb) xs (cntV xs) t) → chg beginS d d1 → mG W K cX0_find RX0 (dep + 3) d1 38 [some (.ref (xad W 52)), some (.ref (xad W (j + 4))), some (.int (nI t))] [] := x_up _ (fun t ht ih d1 g1 g2 g3 g4 g5 g6 g7 g8 => by
    have hcf := cntF_le (bw k fb) xs (cntV xs) t
    have hmf := maxF_le (bw k fb) xs (cntV xs) t
    have hwl := wide_le (bw k fb) xs (dig (cntV xs) t)
    have hself : t < strd (cntV xs) 6 → wayT (bw k fb) xs (cntV xs) t 0 t = ways (bw k fb) xs (dig (cntV xs) t) := fun z => wayT_self z
    refine m_iload_n dX0_find_38 rfl ?_
    refine m_aload_n dX0_find_39 rfl ?_
    refine m_get fl_X0_33 (by decide) rfl rfl dX0_find_40 ?_
    refine m_eqi (g5) ?_
    first | refine m_icmp_geN 101 dX0_find_43 (by decide) (by omega) (by omega) (fun c43 => ?_) (fun c43 => ?_) | refine m_icmp_ge 101 dX0_find_43 (by decide) (fun c43 => ?_) (fun c43 => ?_)
    · refine m_iconstN 1 dX0_find_101 (by decide) ?_
      have e6 : t = strd (cntV xs) 6 := by omega
      have hlast := (g4 (strd (cntV xs) 6 - 1) (by omega)).2
      rw [e6, show wayT (bw k fb) xs (cntV xs) (strd (cntV xs) 6) 0 (strd (cntV xs) 6 - 1) = ways (bw k fb) xs (dig (cntV xs) (strd (cntV xs) 6 - 1)) from by
        rw [← wayT_self (B := bw k fb) (xs := xs) (c := cntV xs) (t := strd (cntV xs) 6 - 1) (by omega)]
        unfold wayT
        congr 1
        refine sum6_le (fun q hq => ?_)
        have hs := strd_pos (cntV xs) q
        by_cases g : 0 < dig (cntV xs) (strd (cntV xs) 6 - 1) q ∧ opn (bw k fb) xs (decV (dig (cntV xs) (strd (cntV xs) 6 - 1)) q) q = true
        · have := (dig_sub g.1).1
          rw [if_pos ⟨g.1, Or.inl (by omega), g.2⟩, if_pos ⟨g.1, Or.inl (by omega), g.2⟩]
        · rw [if_neg (fun z => g ⟨z.1, z.2.2⟩), if_neg (fun z => g ⟨z.1, z.2.2⟩)]] at hlast
      exact m_iret (ty := .boolean) hR dX0_find_102 (⟨rfl, g5, e6 ▸ g6, e6 ▸ g7, hlast, g8⟩)
    · refine m_iload_n dX0_find_46 rfl ?_
      refine m_aload_n dX0_find_47 rfl ?_
      refine m_get fl_X0_11 (by decide) rfl rfl dX0_find_48 ?_
      refine m_alen (by omega) (by first | rfl | exact xcell_arr _ _ _ (by omega) | exact xcell_mv _ _ (by omega) | exact xcell_fo _ _ (by omega) | exact xcell_ne _ _ (by omega)) (by decide) dX0_find_51 ?_
      first | refine m_icmp_geN 101 dX0_find_52 (by decide) (by omega) (by omega) (fun c52 => by exfalso; omega) (fun c52 => ?_) | refine m_icmp_ge 101 dX0_find_52 (by decide) (fun c52 => by exfalso; omega) (fun c52 => ?_)
      refine m_aload_n dX0_find_55 rfl ?_
      refine m_get fl_X0_11 (by decide) rfl rfl dX0_find_56 ?_
      refine m_iload_n dX0_find_59 rfl ?_
      have hsf := hself (by omega)
      have hg0 := g4 t (by omega)
      rw [hsf] at hg0
      refine m_bald ⟨by decide, by decide, fun _ => rfl⟩ (by omega) dX0_find_60 ?_
      refine m_eqi (hg0.1) ?_
      refine m_iconstN 1 dX0_find_61 (by decide) ?_
      have hle1 : (if 0 < ways (bw k fb) xs (dig (cntV xs) t) then 1 else 0) ≤ 1 := by split <;> omega
      first | refine m_icmp_neN 91 dX0_find_62 (by decide) (by omega) (by omega) (fun c62 => ?_) (fun c62 => ?_) | refine m_icmp_ne 91 dX0_find_62 (by decide) (fun c62 => ?_) (fun c62 => ?_)
      · refine m_aload_n dX0_find_91 rfl ?_
        refine m_callVV (s_X0_stepCounts (c := cntV xs) (t := t) (fun q hq => ⟨(g2 q hq).1, hcl q⟩) g3) cv_X0_67 dX0_find_92 (fun d92 h92 => ?_)
        first | refine m_iincN 1 dX0_find_95 (by decide) rfl rfl ?_ | refine m_iinc dX0_find_95 rfl rfl ?_
        refine m_goto 38 dX0_find_98 (by decide) ?_
        have hno : ¬ 0 < ways (bw k fb) xs (dig (cntV xs) t) := fun z => by rw [if_pos z] at c62; exact c62 rfl
        have hz : ways (bw k fb) xs (dig (cntV xs) t) = 0 := by omega
        have hc3 := h92.2
        refine ih (by omega) d92 (g1.fr hc3 (by decide) hr.2.2.2 h24) (fun p hp => by rw [(hc3 55 (by simp)).1, (hc3 56 (by simp)).1]; exact g2 p hp) h92.1 (fun i hi => ?_) (by rw [(hc3 52 (by simp)).1]; exact g5) ?_ ?_ (g8.tr (hc3.mono (begin_sub (by simp))))
        · have : wayT (bw k fb) xs (cntV xs) (t + 1) 0 i = wayT (bw k fb) xs (cntV xs) t 0 i := by
            rw [← wayT_6]
            have hs : ∀ p, p ≤ 6 → wayT (bw k fb) xs (cntV xs) t p i = wayT (bw k fb) xs (cntV xs) t 0 i := by
              intro p
              induction p with
              | zero => intro _; rfl
              | succ p ihp => intro hp; rw [wayT_s rfl (by omega), ihp (by omega), hz]; simp
            exact hs 6 (Nat.le_refl _)
          rw [this, (hc3 53 (by simp)).1, (hc3 54 (by simp)).1]
          exact g4 i hi
        · rw [(hc3 52 (by simp)).1, g6]; rw [cntF_s, if_neg hno]
        · rw [(hc3 52 (by simp)).1, g7]; rw [maxF_s, if_neg hno]
      · refine m_aload_n dX0_find_65 rfl ?_
        refine m_dup dX0_find_66 rfl ?_
        refine m_get fl_X0_37 (by decide) rfl rfl dX0_find_67 ?_
        refine m_eqi (g6) ?_
        refine m_iconstN 1 dX0_find_70 (by decide) ?_
        first | refine m_iaddN dX0_find_71 ?_ | refine m_iadd dX0_find_71 ?_
        refine m_put fl_X0_37 (by decide) rfl (Nat.le_of_ble_eq_true rfl) rfl dX0_find_72 ?_
        refine m_aload_n dX0_find_75 rfl ?_
        refine m_aload_n dX0_find_76 rfl ?_
        refine m_get fl_X0_40 (by decide) rfl rfl dX0_find_77 ?_
        refine m_eqi ((by rw [se_n _ _ (by decide)]; exact g7 : _ = nI (maxF (bw k fb) xs (cntV xs) t))) ?_
        refine m_aload_n dX0_find_80 rfl ?_
        refine m_iload_n dX0_find_81 rfl ?_
        have hpos : 0 < ways (bw k fb) xs (dig (cntV xs) t) := by
          refine Nat.pos_of_ne_zero (fun z => ?_)
          rw [z] at c62
          exact c62 (by decide)
        have hch : chg [52] d1 (seI d1 52 8 (nI (cntF (bw k fb) xs (cntV xs) t + 1))) := chg.rf.se (by simp)
        refine m_callVI (s_X0_goOnFrom (B := bw k fb) (t := t) (xs := xs) h24 hr.2.2.2 (g1.fr hch (by decide) hr.2.2.2 h24) (fun p hp => by rw [(hch 55 (by simp)).1, (hch 56 (by simp)).1]; exact g2 p hp) (fun q hq => by rw [(hch 57 (by simp)).1]; exact g3 q hq) (by omega) hpos (fun i hi => by rw [(hch 53 (by simp)).1, (hch 54 (by simp)).1]; exact g4 i hi)) cv_X0_57 dX0_find_82 (fun r82 d82 h82 => ?_)
        obtain ⟨rfl, h82, h82c⟩ := h82
        refine m_callSIp (s_J9_max (a := maxF (bw k fb) xs (cntV xs) t) (b := wideV (bw k fb) xs (dig (cntV xs) t)) (by omega) (by omega)) cs_X0_61 dX0_find_85 ?_
        refine m_put fl_X0_40 (by decide) rfl (Nat.le_of_ble_eq_true rfl) rfl dX0_find_88 ?_
        refine m_aload_n dX0_find_91 rfl ?_
        have hc2 : chg [52, 53, 54] d1 (seI d82 52 9 (nI (max (maxF (bw k fb) xs (cntV xs) t) (wideV (bw k fb) xs (dig (cntV xs) t))))) := ((hch.mono (by simp)).tr (h82c.mono (by simp))).se (by simp)
        refine m_callVV (s_X0_stepCounts (c := cntV xs) (t := t) (fun q hq => ⟨by rw [(hc2 55 (by simp)).1]; exact (g2 q hq).1, hcl q⟩) (fun q hq => by rw [(hc2 57 (by simp)).1]; exact g3 q hq)) cv_X0_67 dX0_find_92 (fun d92 h92 => ?_)
        first | refine m_iincN 1 dX0_find_95 (by decide) rfl rfl ?_ | refine m_iinc dX0_find_95 rfl rfl ?_
        refine m_goto 38 dX0_find_98 (by decide) ?_
        have hc3 := h92.2
        have hc4 : chg [52, 53, 54, 57] d1 d92 := (hc2.mono (by simp)).tr (hc3.mono (by simp))
        refine ih (by omega) d92 (g1.fr hc4 (by decide) hr.2.2.2 h24) (fun p hp => by rw [(hc4 55 (by simp)).1, (hc4 56 (by simp)).1]; exact g2 p hp) h92.1 (fun i hi => by rw [(hc3 53 (by simp)).1, (hc3 54 (by simp)).1, seI_o _ _ _ _ _ (by decide), seI_o _ _ _ _ _ (by decide)]; exact h82 i hi) ?_ ?_ ?_ (g8.tr (hc4.mono (begin_sub (by simp))))
        · rw [(hc3 52 (by simp)).1, se_n _ _ (by decide), (h82c 52 (by simp)).1, se_n _ _ (by decide)]; exact g5
        · rw [(hc3 52 (by simp)).1, se_n _ _ (by decide), (h82c 52 (by simp)).1, se_s]; rw [cntF_s, if_pos hpos]
        · rw [(hc3 52 (by simp)).1, se_s]; rw [maxF_s, if_pos hpos]
    )
  refine m_aload_n dX0_find_0 rfl ?_
  refine m_iconstN 0 dX0_find_1 (by decide) ?_
  refine m_put fl_X0_37 (by decide) rfl (Nat.le_of_ble_eq_true rfl) rfl dX0_find_2 ?_
  refine m_aload_n dX0_find_5 rfl ?_
  refine m_iconstN 0 dX0_find_6 (by decide) ?_
  refine m_put fl_X0_40 (by decide) rfl (Nat.le_of_ble_eq_true rfl) rfl dX0_find_7 ?_
  refine m_aload_n dX0_find_10 rfl ?_
  refine m_aload_n dX0_find_11 rfl ?_
  refine m_callVV (s_X0_measure (xs := xs) hj (hr.of (by rw [seI_o _ _ _ _ _ (by omega), seI_o _ _ _ _ _ (by omega)]) (fun i _ => by rw [seI_o _ _ _ _ _ (by omega), seI_o _ _ _ _ _ (by omega)]))) cv_X0_47 dX0_find_12 (fun d12 h12 => ?_)
  have hc12 : chg [52, 55, 56] d d12 := ((chg.rf.se (by simp)).se (by simp)).tr h12.2.2.2
  refine m_aload_n dX0_find_15 rfl ?_
  refine m_get fl_X0_33 (by decide) rfl rfl dX0_find_16 ?_
  refine m_eqi (h12.2.1) ?_
  refine m_sipushN 15625 dX0_find_19 (by decide) ?_
  first | refine m_icmp_leN 27 dX0_find_22 (by decide) (by omega) (by omega) (fun c22 => ?_) (fun c22 => by exfalso; omega) | refine m_icmp_le 27 dX0_find_22 (by decide) (fun c22 => ?_) (fun c22 => by exfalso; omega)
  refine m_aload_n dX0_find_27 rfl ?_
  refine m_aload_n dX0_find_28 rfl ?_
  refine m_callVV (s_X0_noteNeeds (h.fr hc12 (by simp) (by simp)) hj (hr.fr hc12 (by simp <;> omega) (by simp <;> omega)) hx) cv_X0_51 dX0_find_29 (fun d29 h29 => ?_)
  refine m_aload_n dX0_find_32 rfl ?_
  refine m_callVV (s_X0_startAtNone (sz := strd (cntV xs) 6) (by rw [(h29.2 52 (needs_no (by decide) (by decide))).1]; exact h12.2.1) hsz0 hsz) cv_X0_54 dX0_find_33 (fun d33 h33 => ?_)
  refine m_iconstN 0 dX0_find_36 (by decide) ?_
  refine m_istore_n dX0_find_37 (Nat.le_of_ble_eq_true rfl) rfl ?_
  have hf52 : ∀ q, d33.1 52 q = d12.1 52 q := fun q => by rw [(h33.2.2 52 (by simp)).1, (h29.2 52 (needs_no (by decide) (by decide))).1]
  refine loop 0 (Nat.zero_le _) _ (h29.1.fr h33.2.2 (by decide) hr.2.2.2 h24) (fun p hp => ?_) (fun q hq => by rw [h33.1 q hq, dig_0]) (fun i hi => ?_) (by rw [hf52]; exact h12.2.1) ?_ ?_ ((hc12.mono (begin_sub (by simp))).tr ((h29.2.mono (fun o ho => by simp only [beginS, List.mem_append]; exact Or.inr ho)).tr (h33.2.2.mono (begin_sub (by simp)))))
  · rw [(h33.2.2 55 (by simp)).1, (h33.2.2 56 (by simp)).1, (h29.2 55 (needs_no (by decide) (by decide))).1, (h29.2 56 (needs_no (by decide) (by decide))).1]; exact h12.1 p hp
  · have e : wayT (bw k fb) xs (cntV xs) 0 0 i = if i = 0 then 1 else 0 := by
      unfold wayT
      rw [show sum6 _ = 0 from ?_, Nat.add_zero]
      unfold sum6
      simp
    rw [e]
    have := h33.2.1 i hi
    by_cases e0 : i = 0
    · rw [if_pos e0] at this ⊢; exact this
    · rw [if_neg e0] at this ⊢; exact this
  · rw [hf52, h12.2.2.1 8 (by decide), se_n _ _ (by decide), se_s]; rfl
  · rw [hf52, h12.2.2.1 9 (by decide), se_s]; rfl
theorem s_X0_found {r : Nat} (h : d.1 52 8 = nI r) : mSpecI l W mX0_found dep [.ref (xad W 52)] d (fun r' d' => r' = nI r ∧ d' = d) := by
  refine m_spec RX0 [some (.ref (xad W 52))] rfl (by decide +kernel) rfl rfl (fun K hR => ?_)
  refine m_aload_n dX0_found_0 rfl ?_
  refine m_get fl_X0_37 (by decide) rfl rfl dX0_found_1 ?_
  refine m_eqi (h) ?_
  exact m_iret (ty := .int) hR dX0_found_4 (⟨rfl, rfl⟩)
theorem s_X0_wide {r : Nat} (h : d.1 52 9 = nI r) : mSpecI l W mX0_wide dep [.ref (xad W 52)] d (fun r' d' => r' = nI r ∧ d' = d) := by
  refine m_spec RX0 [some (.ref (xad W 52))] rfl (by decide +kernel) rfl rfl (fun K hR => ?_)
  refine m_aload_n dX0_wide_0 rfl ?_
  refine m_get fl_X0_40 (by decide) rfl rfl dX0_wide_1 ?_
  refine m_eqi (h) ?_
  exact m_iret (ty := .int) hR dX0_wide_4 (⟨rfl, rfl⟩)
theorem s_X0_ways {r n : Nat} (h : d.1 52 7 = nI n) (h1 : 1 ≤ n) (h2 : n ≤ 15625) (hr : d.1 54 (n - 1) = nI r) : mSpecI l W mX0_ways dep [.ref (xad W 52)] d (fun r' d' => r' = nI r ∧ d' = d) := by
  refine m_spec RX0 [some (.ref (xad W 52))] rfl (by decide +kernel) rfl rfl (fun K hR => ?_)
  refine m_aload_n dX0_ways_0 rfl ?_
  refine m_get fl_X0_33 (by decide) rfl rfl dX0_ways_1 ?_
  refine m_eqi (h) ?_
  refine m_iconstN 1 dX0_ways_4 (by decide) ?_
  first | refine m_icmp_ltN 34 dX0_ways_5 (by decide) (by omega) (by omega) (fun c5 => by exfalso; omega) (fun c5 => ?_) | refine m_icmp_lt 34 dX0_ways_5 (by decide) (fun c5 => by exfalso; omega) (fun c5 => ?_)
  refine m_aload_n dX0_ways_8 rfl ?_
  refine m_get fl_X0_33 (by decide) rfl rfl dX0_ways_9 ?_
  refine m_eqi (h) ?_
  refine m_aload_n dX0_ways_12 rfl ?_
  refine m_get fl_X0_15 (by decide) rfl rfl dX0_ways_13 ?_
  refine m_alen (by omega) (by first | rfl | exact xcell_arr _ _ _ (by omega) | exact xcell_mv _ _ (by omega) | exact xcell_fo _ _ (by omega) | exact xcell_ne _ _ (by omega)) (by decide) dX0_ways_16 ?_
  first | refine m_icmp_gtN 34 dX0_ways_17 (by decide) (by omega) (by omega) (fun c17 => by exfalso; omega) (fun c17 => ?_) | refine m_icmp_gt 34 dX0_ways_17 (by decide) (fun c17 => by exfalso; omega) (fun c17 => ?_)
  refine m_aload_n dX0_ways_20 rfl ?_
  refine m_get fl_X0_15 (by decide) rfl rfl dX0_ways_21 ?_
  refine m_aload_n dX0_ways_24 rfl ?_
  refine m_get fl_X0_33 (by decide) rfl rfl dX0_ways_25 ?_
  refine m_eqi (h) ?_
  refine m_iconstN 1 dX0_ways_28 (by decide) ?_
  first | refine m_isubN dX0_ways_29 (by omega) ?_ | refine m_isub dX0_ways_29 ?_
  refine m_iald (by first | exact ⟨by decide, by decide, fun _ => rfl⟩ | exact isI_arr _ (by omega) | exact isI_mv _ (by omega) | exact isI_ne _ (by omega)) (by omega) dX0_ways_30 ?_
  refine m_eqi (hr) ?_
  refine m_goto 35 dX0_ways_31 (by decide) ?_
  exact m_iret (ty := .int) hR dX0_ways_35 (⟨rfl, rfl⟩)
end BEH
