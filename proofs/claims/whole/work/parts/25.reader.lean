/-! class Reader -/
theorem m_eqr {W : xW} {K : xK} {cc : ByteArray} {own : String} {dep : Nat} {d : xD} {pc : Nat} {loc : List (Option Value)} {stk : List Value} {a b : Nat} (h : a = b) (k : mG W K cc own dep d pc loc (.ref (xad W b) :: stk)) : mG W K cc own dep d pc loc (.ref (xad W a) :: stk) := h ▸ k
/-- the reader has sts states, takes those of tb and moves by mv -/
def rdIs (d : xD) (sts tb : Nat) (mv : Nat → Nat → Nat) : Prop := d.1 66 5 = nI sts ∧ d.1 66 6 = nI tb ∧ 1 ≤ sts ∧ sts ≤ 5 ∧ tb < 32 ∧ (∀ s, s < 5 → ∀ p, p < 6 → d.1 (s + 70) p = nI (mv s p)) ∧ ∀ s, s < sts → ∀ p, p < 6 → mv s p < sts
/-- which of its two arrays is now -/
def ptIs (d : xD) (z : Nat) : Prop := z ≤ 1 ∧ d.1 66 3 = nI z ∧ d.1 66 4 = nI (1 - z)
theorem rdIs.fr {S : List Nat} {d d' : xD} {sts tb : Nat} {mv : Nat → Nat → Nat} (h : rdIs d sts tb mv) (hc : chg S d d') (hS : ∀ o, o ∈ S → o < 66 ∨ o = 67 ∨ o = 68 ∨ o = 69 ∨ 75 ≤ o) : rdIs d' sts tb mv := by
  have h1 := (hc 66 (fun z => by have := hS _ z; omega)).1
  refine ⟨by rw [h1]; exact h.1, by rw [h1]; exact h.2.1, h.2.2.1, h.2.2.2.1, h.2.2.2.2.1, fun s hs p hp => ?_, h.2.2.2.2.2.2⟩
  rw [(hc (s + 70) (fun z => by have := hS _ z; omega)).1]
  exact h.2.2.2.2.2.1 s hs p hp
theorem ptIs.fr {S : List Nat} {d d' : xD} {z : Nat} (h : ptIs d z) (hc : chg S d d') (hS : 66 ∉ S) : ptIs d' z := by
  have h1 := (hc 66 hS).1
  exact ⟨h.1, by rw [h1]; exact h.2.1, by rw [h1]; exact h.2.2⟩
theorem ptIs.now {d : xD} {z : Nat} (h : ptIs d z) : (if d.1 66 3 = 0 then 68 else 69) = z + 68 := by
  rw [h.2.1]
  have := h.1
  rcases Nat.lt_or_ge z 1 with e | e
  · rw [show z = 0 by omega]; rfl
  · rw [show z = 1 by omega]; rfl
theorem ptIs.then {d : xD} {z : Nat} (h : ptIs d z) : (if d.1 66 4 = 0 then 68 else 69) = (1 - z) + 68 := by
  rw [h.2.2]
  have := h.1
  rcases Nat.lt_or_ge z 1 with e | e
  · rw [show z = 0 by omega]; rfl
  · rw [show z = 1 by omega]; rfl
section RDR
variable {l : Launch} {W : xW} {dep : Nat} {d : xD} {k sts tb : Nat} {fb : Nat → Nat} {mv : Nat → Nat → Nat} {j : Nat} {xs ys : List Nat}
theorem s_X8_has (h : rdIs d sts tb mv) {n : Nat} (hn : n < 2 ^ 31) : mSpecI l W mX8_has dep [.ref (xad W 66), .int (nI n)] d (fun r d' => r = (if n < sts then 1 else 0) ∧ d' = d) := by
  have h5 := h.2.2.2.1
  refine m_spec RX8 [some (.ref (xad W 66)), some (.int (nI n))] rfl (by decide +kernel) rfl rfl (fun K hR => ?_)
  refine m_iload_n dX8_has_0 rfl ?_
  refine m_if_ltN 16 dX8_has_1 (by decide) (by omega) ?_
  refine m_iload_n dX8_has_4 rfl ?_
  refine m_aload_n dX8_has_5 rfl ?_
  refine m_get fl_X8_23 (by decide) rfl rfl dX8_has_6 ?_
  refine m_eqi (h.1) ?_
  first | refine m_icmp_geN 16 dX8_has_9 (by decide) (by omega) (by omega) (fun c9 => ?_) (fun c9 => ?_) | refine m_icmp_ge 16 dX8_has_9 (by decide) (fun c9 => ?_) (fun c9 => ?_)
  · refine m_iconstN 0 dX8_has_16 (by decide) ?_
    exact m_iret (ty := .boolean) hR dX8_has_17 (⟨by rw [if_neg (by omega)]; rfl, rfl⟩)
  · refine m_iconstN 1 dX8_has_12 (by decide) ?_
    refine m_goto 17 dX8_has_13 (by decide) ?_
    exact m_iret (ty := .boolean) hR dX8_has_17 (⟨by rw [if_pos (by omega)]; rfl, rfl⟩)
theorem s_X8_hasO (h : rdIs d sts tb mv) {x : Int32} (hx : x < 0 ∨ nI sts ≤ x) : mSpecI l W mX8_has dep [.ref (xad W 66), .int x] d (fun r d' => r = 0 ∧ d' = d) := by
  refine m_spec RX8 [some (.ref (xad W 66)), some (.int x)] rfl (by decide +kernel) rfl rfl (fun K hR => ?_)
  refine m_iload_n dX8_has_0 rfl ?_
  refine m_if_lt 16 dX8_has_1 (by decide) (fun c1 => ?_) (fun c1 => ?_)
  · refine m_iconstN 0 dX8_has_16 (by decide) ?_
    exact m_iret (ty := .boolean) hR dX8_has_17 (⟨rfl, rfl⟩)
  · refine m_iload_n dX8_has_4 rfl ?_
    refine m_aload_n dX8_has_5 rfl ?_
    refine m_get fl_X8_23 (by decide) rfl rfl dX8_has_6 ?_
    refine m_eqi (h.1) ?_
    refine m_icmp_ge 16 dX8_has_9 (by decide) (fun c9 => ?_) (fun c9 => by exfalso; exact hx.elim c1 c9)
    refine m_iconstN 0 dX8_has_16 (by decide) ?_
    exact m_iret (ty := .boolean) hR dX8_has_17 (⟨rfl, rfl⟩)
theorem s_X8_takes (h : rdIs d sts tb mv) {n : Nat} (hn : n < 32) : mSpecI l W mX8_takes (dep + 1) [.ref (xad W 66), .int (nI n)] d (fun r d' => r = (if n < sts ∧ tb.testBit n = true then 1 else 0) ∧ d' = d) := by
  have htb := h.2.2.2.2.1
  refine m_spec RX8 [some (.ref (xad W 66)), some (.int (nI n))] rfl (by decide +kernel) rfl rfl (fun K hR => ?_)
  refine m_aload_n dX8_takes_0 rfl ?_
  refine m_iload_n dX8_takes_1 rfl ?_
  refine m_callVIp (s_X8_has h (n := n) (by omega)) cv_X8_44 dX8_takes_2 ?_
  refine m_if_eq 24 dX8_takes_5 (by decide) (fun c5 => ?_) (fun c5 => ?_)
  · refine m_iconstN 0 dX8_takes_24 (by decide) ?_
    exact m_iret (ty := .boolean) hR dX8_takes_25 (⟨by rw [if_neg (fun z => by rw [if_pos z.1] at c5; exact absurd c5 (by decide))]; rfl, rfl⟩)
  · refine m_aload_n dX8_takes_8 rfl ?_
    refine m_get fl_X8_27 (by decide) rfl rfl dX8_takes_9 ?_
    refine m_eqi (h.2.1) ?_
    refine m_iload_n dX8_takes_12 rfl ?_
    refine m_ishr dX8_takes_13 ?_
    refine m_iconstN 1 dX8_takes_14 (by decide) ?_
    refine m_iand dX8_takes_15 ?_
    refine m_eqi (nI_bit (by omega) (by omega)) ?_
    refine m_iconstN 1 dX8_takes_16 (by decide) ?_
    have hb : (tb.testBit n).toNat < 2 := Bool.toNat_lt _
    first | refine m_icmp_neN 24 dX8_takes_17 (by decide) (by omega) (by omega) (fun c17 => ?_) (fun c17 => ?_) | refine m_icmp_ne 24 dX8_takes_17 (by decide) (fun c17 => ?_) (fun c17 => ?_)
    · refine m_iconstN 0 dX8_takes_24 (by decide) ?_
      exact m_iret (ty := .boolean) hR dX8_takes_25 (⟨by rw [if_neg (fun z => by rw [z.2] at c17; exact c17 rfl)]; rfl, rfl⟩)
    · refine m_iconstN 1 dX8_takes_20 (by decide) ?_
      refine m_goto 25 dX8_takes_21 (by decide) ?_
      exact m_iret (ty := .boolean) hR dX8_takes_25 (⟨by rw [if_pos ⟨Decidable.byContradiction (fun z => c5 (by rw [if_neg z])), by cases hc : tb.testBit n <;> simp_all⟩]; rfl, rfl⟩)
theorem s_X8_next (h : rdIs d sts tb mv) {s p : Nat} (hs : s < 5) (hp : p < 6) : mSpecI l W mX8_next dep [.ref (xad W 66), .int (nI s), .int (nI p)] d (fun r d' => r = nI (mv s p) ∧ d' = d) := by
  refine m_spec RX8 [some (.ref (xad W 66)), some (.int (nI s)), some (.int (nI p)), none] rfl (by decide +kernel) rfl rfl (fun K hR => ?_)
  refine m_iload_n dX8_next_0 rfl ?_
  refine m_if_ltN 13 dX8_next_1 (by decide) (by omega) ?_
  refine m_iload_n dX8_next_4 rfl ?_
  refine m_aload_n dX8_next_5 rfl ?_
  refine m_get fl_X8_11 (by decide) rfl rfl dX8_next_6 ?_
  refine m_alen (by omega) (by first | rfl | exact xcell_arr _ _ _ (by omega) | exact xcell_mv _ _ (by omega) | exact xcell_fo _ _ (by omega) | exact xcell_ne _ _ (by omega)) (by decide) dX8_next_9 ?_
  first | refine m_icmp_ltN 15 dX8_next_10 (by decide) (by omega) (by omega) (fun c10 => ?_) (fun c10 => by exfalso; omega) | refine m_icmp_lt 15 dX8_next_10 (by decide) (fun c10 => ?_) (fun c10 => by exfalso; omega)
  refine m_aload_n dX8_next_15 rfl ?_
  refine m_get fl_X8_11 (by decide) rfl rfl dX8_next_16 ?_
  refine m_iload_n dX8_next_19 rfl ?_
  refine m_aald (by decide) rfl (by decide) (by decide) (by omega) (if_pos (by omega)) dX8_next_20 ?_
  refine m_astore_n dX8_next_21 (Nat.le_of_ble_eq_true rfl) rfl ?_
  refine m_iload_n dX8_next_22 rfl ?_
  refine m_if_ltN 38 dX8_next_23 (by decide) (by omega) ?_
  refine m_iload_n dX8_next_26 rfl ?_
  refine m_aload_n dX8_next_27 rfl ?_
  refine m_alen (by omega) (xcell_mv W _ hs) (by decide) dX8_next_28 ?_
  first | refine m_icmp_geN 38 dX8_next_29 (by decide) (by omega) (by omega) (fun c29 => by exfalso; omega) (fun c29 => ?_) | refine m_icmp_ge 38 dX8_next_29 (by decide) (fun c29 => by exfalso; omega) (fun c29 => ?_)
  refine m_aload_n dX8_next_32 rfl ?_
  refine m_iload_n dX8_next_33 rfl ?_
  refine m_iald (isI_mv W hs) hp dX8_next_34 ?_
  refine m_eqi (h.2.2.2.2.2.1 s hs p hp) ?_
  refine m_goto 39 dX8_next_35 (by decide) ?_
  exact m_iret (ty := .int) hR dX8_next_39 (⟨rfl, rfl⟩)
theorem s_X8_setMove (h : rdIs d sts tb mv) {s p t : Nat} (hs : s < sts) (hp : p < 6) (ht : t < sts) : mSpecV l W mX8_setMove dep [.ref (xad W 66), .int (nI s), .int (nI p), .int (nI t)] d (fun d' => rdIs d' sts tb (fun s' p' => if s' = s ∧ p' = p then t else mv s' p') ∧ chg [s + 70] d d') := by
  have h5 := h.2.2.2.1
  refine m_spec RX8 [some (.ref (xad W 66)), some (.int (nI s)), some (.int (nI p)), some (.int (nI t)), none] rfl (by decide +kernel) rfl rfl (fun K hR => ?_)
  refine m_iload_n dX8_setMove_0 rfl ?_
  refine m_if_ltN 13 dX8_setMove_1 (by decide) (by omega) ?_
  refine m_iload_n dX8_setMove_4 rfl ?_
  refine m_aload_n dX8_setMove_5 rfl ?_
  refine m_get fl_X8_11 (by decide) rfl rfl dX8_setMove_6 ?_
  refine m_alen (by omega) (by first | rfl | exact xcell_arr _ _ _ (by omega) | exact xcell_mv _ _ (by omega) | exact xcell_fo _ _ (by omega) | exact xcell_ne _ _ (by omega)) (by decide) dX8_setMove_9 ?_
  first | refine m_icmp_ltN 14 dX8_setMove_10 (by decide) (by omega) (by omega) (fun c10 => ?_) (fun c10 => by exfalso; omega) | refine m_icmp_lt 14 dX8_setMove_10 (by decide) (fun c10 => ?_) (fun c10 => by exfalso; omega)
  refine m_aload_n dX8_setMove_14 rfl ?_
  refine m_get fl_X8_11 (by decide) rfl rfl dX8_setMove_15 ?_
  refine m_iload_n dX8_setMove_18 rfl ?_
  refine m_aald (by decide) rfl (by decide) (by decide) (by omega) (if_pos (by omega)) dX8_setMove_19 ?_
  refine m_astore dX8_setMove_20 (Nat.le_of_ble_eq_true rfl) rfl ?_
  refine m_iload_n dX8_setMove_22 rfl ?_
  refine m_if_ltN 38 dX8_setMove_23 (by decide) (by omega) ?_
  refine m_iload_n dX8_setMove_26 rfl ?_
  refine m_aload dX8_setMove_27 rfl ?_
  refine m_alen (by omega) (xcell_mv W _ (by omega)) (by decide) dX8_setMove_29 ?_
  first | refine m_icmp_geN 38 dX8_setMove_30 (by decide) (by omega) (by omega) (fun c30 => by exfalso; omega) (fun c30 => ?_) | refine m_icmp_ge 38 dX8_setMove_30 (by decide) (fun c30 => by exfalso; omega) (fun c30 => ?_)
  refine m_aload dX8_setMove_33 rfl ?_
  refine m_iload_n dX8_setMove_35 rfl ?_
  refine m_iload_n dX8_setMove_36 rfl ?_
  refine m_iast (isI_mv W (j := s) (by omega)) hp dX8_setMove_37 ?_
  have hc : chg [s + 70] d (seI d (s + 70) p (nI t)) := chg.rf.se (by simp)
  have h66 := (hc 66 (by simp)).1
  exact m_vret hR dX8_setMove_38 (⟨⟨by rw [h66]; exact h.1, by rw [h66]; exact h.2.1, h.2.2.1, h5, h.2.2.2.2.1, fun s' hs' p' hp' => by
    show (seI d (s + 70) p (nI t)).1 (s' + 70) p' = nI (if s' = s ∧ p' = p then t else mv s' p')
    by_cases e : s' = s
    · subst e
      by_cases e2 : p' = p
      · subst e2; rw [if_pos ⟨rfl, rfl⟩]; exact se_s _ _ _ _
      · rw [if_neg (fun z => e2 z.2)]; exact se_e2 (h.2.2.2.2.2.1 s' hs' p' hp') e2
    · rw [if_neg (fun z => e z.1)]; exact se_e (h.2.2.2.2.2.1 s' hs' p' hp') (by omega), fun s' hs' p' hp' => by
    dsimp only
    split
    · exact ht
    · exact h.2.2.2.2.2.2 s' hs' p' hp'⟩, hc⟩)
theorem s_X8_restart {z n t : Nat} (hz : ptIs d z) (h1 : 1 ≤ n) (h5 : n ≤ 5) (ht : t < 2 ^ n) : mSpecV l W mX8_restart (dep + 1) [.ref (xad W 66), .int (nI n), .int (nI t)] d (fun d' => rdIs d' n t (fun s _ => s) ∧ ptIs d' z ∧ chg [66, 70, 71, 72, 73, 74] d d') := by
  have ht2 : 2 ^ n ≤ 2 ^ 5 := Nat.pow_le_pow_right (by decide) h5
  have hm : ∀ i, i < 5 → i + 70 ∈ [66, 70, 71, 72, 73, 74] := by decide
  refine m_spec RX8 [some (.ref (xad W 66)), some (.int (nI n)), some (.int (nI t)), none] rfl (by decide +kernel) rfl rfl (fun K hR => ?_)
  have loop : ∀ i, i ≤ 5 → ∀ d1, (d1.1 66 5 = nI n ∧ d1.1 66 6 = nI t ∧ ptIs d1 z) → (∀ s, s < i → ∀ p, p < 6 → d1.1 (s + 70) p = nI s) → chg [66, 70, 71, 72, 73, 74] d d1 → mG W K cX8_restart RX8 (dep + 1) d1 12 [some (.ref (xad W 66)), some (.int (nI n)), some (.int (nI t)), some (.int (nI i))] [] := x_up _ (fun i hi ih d1 g1 g2 g3 => by
    refine m_iload_n dX8_restart_12 rfl ?_
    refine m_aload_n dX8_restart_13 rfl ?_
    refine m_get fl_X8_11 (by decide) rfl rfl dX8_restart_14 ?_
    refine m_alen (by omega) (by first | rfl | exact xcell_arr _ _ _ (by omega) | exact xcell_mv _ _ (by omega) | exact xcell_fo _ _ (by omega) | exact xcell_ne _ _ (by omega)) (by decide) dX8_restart_17 ?_
    first | refine m_icmp_geN 37 dX8_restart_18 (by decide) (by omega) (by omega) (fun c18 => ?_) (fun c18 => ?_) | refine m_icmp_ge 37 dX8_restart_18 (by decide) (fun c18 => ?_) (fun c18 => ?_)
    · have e6 : i = 5 := by omega
      subst e6
      exact m_vret hR dX8_restart_37 (⟨⟨g1.1, g1.2.1, h1, h5, by omega, g2, fun s hs p hp => hs⟩, g1.2.2, g3⟩)
    · refine m_aload_n dX8_restart_21 rfl ?_
      refine m_get fl_X8_11 (by decide) rfl rfl dX8_restart_22 ?_
      refine m_iload_n dX8_restart_25 rfl ?_
      refine m_aald (by decide) rfl (by decide) (by decide) (by omega) (if_pos (by omega)) dX8_restart_26 ?_
      refine m_iload_n dX8_restart_27 rfl ?_
      refine m_callSV (s_J7_fillI (isI_mv W (j := i) (by omega)) (nI i)) cs_X8_38 dX8_restart_28 (fun d28 h28 => ?_)
      first | refine m_iincN 1 dX8_restart_31 (by decide) rfl rfl ?_ | refine m_iinc dX8_restart_31 rfl rfl ?_
      refine m_goto 12 dX8_restart_34 (by decide) ?_
      have h66 := (h28.2 66 (by simp)).1
      refine ih (by omega) d28 ⟨by rw [h66]; exact g1.1, by rw [h66]; exact g1.2.1, g1.2.2.fr h28.2 (by simp)⟩ (fun s hs p hp => ?_) (g3.tr (h28.2.mono (by simpa using hm i (by omega))))
      by_cases e : s = i
      · subst e; exact h28.1 p hp
      · rw [(h28.2 (s + 70) (by simp; omega)).1]; exact g2 s (by omega) p hp
    )
  refine m_aload_n dX8_restart_0 rfl ?_
  refine m_iload_n dX8_restart_1 rfl ?_
  refine m_put fl_X8_23 (by decide) rfl (Nat.le_of_ble_eq_true rfl) rfl dX8_restart_2 ?_
  refine m_aload_n dX8_restart_5 rfl ?_
  refine m_iload_n dX8_restart_6 rfl ?_
  refine m_put fl_X8_27 (by decide) rfl (Nat.le_of_ble_eq_true rfl) rfl dX8_restart_7 ?_
  refine m_iconstN 0 dX8_restart_10 (by decide) ?_
  refine m_istore_n dX8_restart_11 (Nat.le_of_ble_eq_true rfl) rfl ?_
  exact loop 0 (Nat.zero_le _) _ ⟨se_e2 (se_s _ _ _ _) (by decide), se_s _ _ _ _, hz.1, se_e2 (se_e2 hz.2.1 (by decide)) (by decide), se_e2 (se_e2 hz.2.2 (by decide)) (by decide)⟩ (fun s hs => absurd hs (Nat.not_lt_zero s)) ((chg.rf.se (by simp)).se (by simp))
theorem s_X8_mindsPair (h : rdIs d sts tb mv) {s p q : Nat} (hs : s < sts) (hp : p < 6) (hq : q < 6) : mSpecI l W mX8_mindsPair (dep + 1) [.ref (xad W 66), .int (nI s), .int (nI p), .int (nI q)] d (fun r d' => r = (if mv (mv s p) q ≠ mv (mv s q) p then 1 else 0) ∧ d' = d) := by
  have h5 := h.2.2.2.1
  have hm := h.2.2.2.2.2.2
  have e1 := hm s hs p hp
  have e2 := hm s hs q hq
  have e3 := hm _ e1 q hq
  have e4 := hm _ e2 p hp
  refine m_spec RX8 [some (.ref (xad W 66)), some (.int (nI s)), some (.int (nI p)), some (.int (nI q))] rfl (by decide +kernel) rfl rfl (fun K hR => ?_)
  refine m_aload_n dX8_mindsPair_0 rfl ?_
  refine m_aload_n dX8_mindsPair_1 rfl ?_
  refine m_iload_n dX8_mindsPair_2 rfl ?_
  refine m_iload_n dX8_mindsPair_3 rfl ?_
  refine m_callVIp (s_X8_next h (s := s) (p := p) (by omega) hp) cv_X8_62 dX8_mindsPair_4 ?_
  refine m_iload_n dX8_mindsPair_7 rfl ?_
  refine m_callVIp (s_X8_next h (s := mv s p) (p := q) (by omega) hq) cv_X8_62 dX8_mindsPair_8 ?_
  refine m_aload_n dX8_mindsPair_11 rfl ?_
  refine m_aload_n dX8_mindsPair_12 rfl ?_
  refine m_iload_n dX8_mindsPair_13 rfl ?_
  refine m_iload_n dX8_mindsPair_14 rfl ?_
  refine m_callVIp (s_X8_next h (s := s) (p := q) (by omega) hq) cv_X8_62 dX8_mindsPair_15 ?_
  refine m_iload_n dX8_mindsPair_18 rfl ?_
  refine m_callVIp (s_X8_next h (s := mv s q) (p := p) (by omega) hp) cv_X8_62 dX8_mindsPair_19 ?_
  first | refine m_icmp_eqN 29 dX8_mindsPair_22 (by decide) (by omega) (by omega) (fun c22 => ?_) (fun c22 => ?_) | refine m_icmp_eq 29 dX8_mindsPair_22 (by decide) (fun c22 => ?_) (fun c22 => ?_)
  · refine m_iconstN 0 dX8_mindsPair_29 (by decide) ?_
    exact m_iret (ty := .boolean) hR dX8_mindsPair_30 (⟨by rw [if_neg (by omega)]; rfl, rfl⟩)
  · refine m_iconstN 1 dX8_mindsPair_25 (by decide) ?_
    refine m_goto 30 dX8_mindsPair_26 (by decide) ?_
    exact m_iret (ty := .boolean) hR dX8_mindsPair_30 (⟨by rw [if_pos (by omega)]; rfl, rfl⟩)
/-- the pair p, q is minded from s -/
def md (fb : Nat → Nat) (mv : Nat → Nat → Nat) (s p q : Nat) : Prop := (fb p).testBit q = true ∧ mv (mv s p) q ≠ mv (mv s q) p
/-- N is the number of a minded pair -/
def mdN (k sts : Nat) (fb : Nat → Nat) (mv : Nat → Nat → Nat) (N : Nat) : Prop := ∃ s p q, s < sts ∧ p < q ∧ q < k ∧ md fb mv s p q ∧ N = 64 * s + 8 * p + q
theorem s_X8_firstMinded (hl : letIs d k fb) (h : rdIs d sts tb mv) : mSpecI l W mX8_firstMinded (dep + 2) [.ref (xad W 66)] d (fun r d' => ((∃ N, r = nI N ∧ mdN k sts fb mv N ∧ ∀ M, M < N → ¬ mdN k sts fb mv M) ∨ (r = -1 ∧ ∀ M, ¬ mdN k sts fb mv M)) ∧ d' = d) := by
  have h5 := h.2.2.2.1
  have hk := hl.2.2.2.1
  refine m_spec RX8 [some (.ref (xad W 66)), none, none, none] rfl (by decide +kernel) rfl rfl (fun K hR => ?_)
  have inner : ∀ s p, s < sts → p < k → (∀ o3, (∀ M, M < 64 * s + 8 * (p + 1) → ¬ mdN k sts fb mv M) → mG W K cX8_firstMinded RX8 (dep + 2) d 12 [some (.ref (xad W 66)), some (.int (nI s)), some (.int (nI (p + 1))), o3] []) → ∀ q, q ≤ k → p < q → (∀ M, M < 64 * s + 8 * p + q → ¬ mdN k sts fb mv M) → mG W K cX8_firstMinded RX8 (dep + 2) d 27 [some (.ref (xad W 66)), some (.int (nI s)), some (.int (nI p)), some (.int (nI q))] [] := fun s p hs hp done => x_up _ (fun q hq ih hpq g => by
    have hne : ¬ (q < k ∧ md fb mv s p q) → ∀ M, M < 64 * s + 8 * p + (q + 1) → ¬ mdN k sts fb mv M := fun hc M hM hz => by
      by_cases e : M < 64 * s + 8 * p + q
      · exact g M e hz
      · obtain ⟨s', p', q', a1, a2, a3, a4, a5⟩ := hz
        have b1 : s' = s := by omega
        have b2 : p' = p := by omega
        have b3 : q' = q := by omega
        subst b1; subst b2; subst b3
        exact hc ⟨a3, a4⟩
    refine m_iload_n dX8_firstMinded_27 rfl ?_
    refine m_aload_n dX8_firstMinded_28 rfl ?_
    refine m_get fl_X8_30 (by decide) rfl rfl dX8_firstMinded_29 ?_
    refine m_callVIp (s_X3_size hl) cv_X8_48 dX8_firstMinded_32 ?_
    first | refine m_icmp_geN 78 dX8_firstMinded_35 (by decide) (by omega) (by omega) (fun c35 => ?_) (fun c35 => ?_) | refine m_icmp_ge 78 dX8_firstMinded_35 (by decide) (fun c35 => ?_) (fun c35 => ?_)
    · first | refine m_iincN 1 dX8_firstMinded_78 (by decide) rfl rfl ?_ | refine m_iinc dX8_firstMinded_78 rfl rfl ?_
      refine m_goto 12 dX8_firstMinded_81 (by decide) ?_
      refine done _ (fun M hM hz => ?_)
      by_cases e : M < 64 * s + 8 * p + q
      · exact g M e hz
      · obtain ⟨s', p', q', a1, a2, a3, a4, a5⟩ := hz
        omega
    · refine m_aload_n dX8_firstMinded_38 rfl ?_
      refine m_get fl_X8_30 (by decide) rfl rfl dX8_firstMinded_39 ?_
      refine m_iload_n dX8_firstMinded_42 rfl ?_
      refine m_iload_n dX8_firstMinded_43 rfl ?_
      refine m_callVIp (s_X3_areFree hl (p := p) (q := q) (by omega) (by omega)) cv_X8_54 dX8_firstMinded_44 ?_
      refine m_if_eq 72 dX8_firstMinded_47 (by decide) (fun c47 => ?_) (fun c47 => ?_)
      · first | refine m_iincN 1 dX8_firstMinded_72 (by decide) rfl rfl ?_ | refine m_iinc dX8_firstMinded_72 rfl rfl ?_
        refine m_goto 27 dX8_firstMinded_75 (by decide) ?_
        exact ih (by omega) (by omega) (hne (fun z => by rw [if_pos z.2.1] at c47; exact absurd c47 (by decide)))
      · refine m_aload_n dX8_firstMinded_50 rfl ?_
        refine m_iload_n dX8_firstMinded_51 rfl ?_
        refine m_iload_n dX8_firstMinded_52 rfl ?_
        refine m_iload_n dX8_firstMinded_53 rfl ?_
        refine m_callVIp (s_X8_mindsPair h (s := s) (p := p) (q := q) hs (by omega) (by omega)) cv_X8_58 dX8_firstMinded_54 ?_
        refine m_if_eq 72 dX8_firstMinded_57 (by decide) (fun c57 => ?_) (fun c57 => ?_)
        · first | refine m_iincN 1 dX8_firstMinded_72 (by decide) rfl rfl ?_ | refine m_iinc dX8_firstMinded_72 rfl rfl ?_
          refine m_goto 27 dX8_firstMinded_75 (by decide) ?_
          exact ih (by omega) (by omega) (hne (fun z => by rw [if_pos z.2.2] at c57; exact absurd c57 (by decide)))
        · refine m_bipushN 64 dX8_firstMinded_60 (by decide) ?_
          refine m_iload_n dX8_firstMinded_62 rfl ?_
          first | refine m_imulN dX8_firstMinded_63 ?_ | refine m_imul dX8_firstMinded_63 ?_
          refine m_bipushN 8 dX8_firstMinded_64 (by decide) ?_
          refine m_iload_n dX8_firstMinded_66 rfl ?_
          first | refine m_imulN dX8_firstMinded_67 ?_ | refine m_imul dX8_firstMinded_67 ?_
          first | refine m_iaddN dX8_firstMinded_68 ?_ | refine m_iadd dX8_firstMinded_68 ?_
          refine m_iload_n dX8_firstMinded_69 rfl ?_
          first | refine m_iaddN dX8_firstMinded_70 ?_ | refine m_iadd dX8_firstMinded_70 ?_
          exact m_iret (ty := .int) hR dX8_firstMinded_71 (⟨Or.inl ⟨64 * s + 8 * p + q, rfl, ⟨s, p, q, hs, hpq, by omega, ⟨Decidable.byContradiction (fun z => c47 (by rw [if_neg z])), Decidable.byContradiction (fun z => c57 (by rw [if_neg z]))⟩, rfl⟩, g⟩, rfl⟩)
    )
  have mid : ∀ s, s < sts → (∀ o2 o3, (∀ M, M < 64 * (s + 1) → ¬ mdN k sts fb mv M) → mG W K cX8_firstMinded RX8 (dep + 2) d 2 [some (.ref (xad W 66)), some (.int (nI (s + 1))), o2, o3] []) → ∀ p, p ≤ k → ∀ o3, (∀ M, M < 64 * s + 8 * p → ¬ mdN k sts fb mv M) → mG W K cX8_firstMinded RX8 (dep + 2) d 12 [some (.ref (xad W 66)), some (.int (nI s)), some (.int (nI p)), o3] [] := fun s hs done => x_up _ (fun p hp ih o3 g => by
    refine m_iload_n dX8_firstMinded_12 rfl ?_
    refine m_aload_n dX8_firstMinded_13 rfl ?_
    refine m_get fl_X8_30 (by decide) rfl rfl dX8_firstMinded_14 ?_
    refine m_callVIp (s_X3_size hl) cv_X8_48 dX8_firstMinded_17 ?_
    first | refine m_icmp_geN 84 dX8_firstMinded_20 (by decide) (by omega) (by omega) (fun c20 => ?_) (fun c20 => ?_) | refine m_icmp_ge 84 dX8_firstMinded_20 (by decide) (fun c20 => ?_) (fun c20 => ?_)
    · first | refine m_iincN 1 dX8_firstMinded_84 (by decide) rfl rfl ?_ | refine m_iinc dX8_firstMinded_84 rfl rfl ?_
      refine m_goto 2 dX8_firstMinded_87 (by decide) ?_
      refine done _ _ (fun M hM hz => ?_)
      by_cases e : M < 64 * s + 8 * p
      · exact g M e hz
      · obtain ⟨s', p', q', a1, a2, a3, a4, a5⟩ := hz
        omega
    · refine m_iload_n dX8_firstMinded_23 rfl ?_
      refine m_iconstN 1 dX8_firstMinded_24 (by decide) ?_
      first | refine m_iaddN dX8_firstMinded_25 ?_ | refine m_iadd dX8_firstMinded_25 ?_
      refine m_istore_n dX8_firstMinded_26 (Nat.le_of_ble_eq_true rfl) rfl ?_
      refine inner s p hs (by omega) (ih (by omega)) (p + 1) (by omega) (by omega) (fun M hM hz => ?_)
      by_cases e : M < 64 * s + 8 * p
      · exact g M e hz
      · obtain ⟨s', p', q', a1, a2, a3, a4, a5⟩ := hz
        omega
    )
  have outer : ∀ s, s ≤ sts → ∀ o2 o3, (∀ M, M < 64 * s → ¬ mdN k sts fb mv M) → mG W K cX8_firstMinded RX8 (dep + 2) d 2 [some (.ref (xad W 66)), some (.int (nI s)), o2, o3] [] := x_up _ (fun s hs ih o2 o3 g => by
    refine m_iload_n dX8_firstMinded_2 rfl ?_
    refine m_aload_n dX8_firstMinded_3 rfl ?_
    refine m_get fl_X8_23 (by decide) rfl rfl dX8_firstMinded_4 ?_
    refine m_eqi (h.1) ?_
    first | refine m_icmp_geN 90 dX8_firstMinded_7 (by decide) (by omega) (by omega) (fun c7 => ?_) (fun c7 => ?_) | refine m_icmp_ge 90 dX8_firstMinded_7 (by decide) (fun c7 => ?_) (fun c7 => ?_)
    · refine m_iconst (v := -1) dX8_firstMinded_90 (by decide) ?_
      have e6 : s = sts := by omega
      exact m_iret (ty := .int) hR dX8_firstMinded_91 (⟨Or.inr ⟨rfl, fun M hz => by
        obtain ⟨s', p', q', a1, a2, a3, a4, a5⟩ := hz
        exact g M (by omega) ⟨s', p', q', a1, a2, a3, a4, a5⟩⟩, rfl⟩)
    · refine m_iconstN 0 dX8_firstMinded_10 (by decide) ?_
      refine m_istore_n dX8_firstMinded_11 (Nat.le_of_ble_eq_true rfl) rfl ?_
      exact mid s (by omega) (ih (by omega)) 0 (Nat.zero_le _) _ g
    )
  refine m_iconstN 0 dX8_firstMinded_0 (by decide) ?_
  refine m_istore_n dX8_firstMinded_1 (Nat.le_of_ble_eq_true rfl) rfl ?_
  exact outer 0 (Nat.zero_le _) _ _ (fun M hM => absurd hM (Nat.not_lt_zero M))
theorem mv_lt {d : xD} {sts tb : Nat} {mv : Nat → Nat → Nat} (h : rdIs d sts tb mv) : ∀ (xs : List Nat) (s : Nat), s < sts → (∀ x ∈ xs, x < 6) → xs.foldl mv s < sts
  | [], _, hs, _ => hs
  | x :: xs, s, hs, hx => mv_lt h xs (mv s x) (h.2.2.2.2.2.2 s hs x (hx x List.mem_cons_self)) (fun y hy => hx y (List.mem_cons_of_mem _ hy))
theorem s_X8_stateBehind (h : rdIs d sts tb mv) (hj : j < 13) (hr : rowIs d j xs) : mSpecI l W mX8_stateBehind (dep + 1) [.ref (xad W 66), .ref (xad W (j + 4))] d (fun r d' => r = nI (xs.foldl mv 0) ∧ d' = d) := by
  have h5 := h.2.2.2.1
  have h24 := hr.1
  refine m_spec RX8 [some (.ref (xad W 66)), some (.ref (xad W (j + 4))), none, none] rfl (by decide +kernel) rfl rfl (fun K hR => ?_)
  have loop : ∀ i, i ≤ xs.length → mG W K cX8_stateBehind RX8 (dep + 1) d 4 [some (.ref (xad W 66)), some (.ref (xad W (j + 4))), some (.int (nI ((xs.take i).foldl mv 0))), some (.int (nI i))] [] := x_up _ (fun i hi ih => by
    have hst := mv_lt h (xs.take i) 0 (by have := h.2.2.1; omega) (fun x hm => hr.2.2.2 x (List.mem_of_mem_take hm))
    refine m_iload_n dX8_stateBehind_4 rfl ?_
    refine m_aload_n dX8_stateBehind_5 rfl ?_
    refine m_callVIp (s_X9_length hj hr) cv_X8_66 dX8_stateBehind_6 ?_
    first | refine m_icmp_geN 29 dX8_stateBehind_9 (by decide) (by omega) (by omega) (fun c9 => ?_) (fun c9 => ?_) | refine m_icmp_ge 29 dX8_stateBehind_9 (by decide) (fun c9 => ?_) (fun c9 => ?_)
    · refine m_iload_n dX8_stateBehind_29 rfl ?_
      exact m_iret (ty := .int) hR dX8_stateBehind_30 (⟨by rw [List.take_of_length_le (by omega)], rfl⟩)
    · refine m_aload_n dX8_stateBehind_12 rfl ?_
      refine m_iload_n dX8_stateBehind_13 rfl ?_
      refine m_aload_n dX8_stateBehind_14 rfl ?_
      refine m_iload_n dX8_stateBehind_15 rfl ?_
      refine m_callVIp (s_X9_atI hj hr (n := i) (by omega)) cv_X8_71 dX8_stateBehind_16 ?_
      refine m_callVIp (s_X8_next h (s := (xs.take i).foldl mv 0) (by omega) (hr.lt (i := i) (by omega))) cv_X8_62 dX8_stateBehind_19 ?_
      refine m_istore_n dX8_stateBehind_22 (Nat.le_of_ble_eq_true rfl) rfl ?_
      first | refine m_iincN 1 dX8_stateBehind_23 (by decide) rfl rfl ?_ | refine m_iinc dX8_stateBehind_23 rfl rfl ?_
      refine m_goto 4 dX8_stateBehind_26 (by decide) ?_
      have e := ih (by omega)
      rw [take_s (by omega), List.foldl_append] at e
      exact e
    )
  refine m_iconstN 0 dX8_stateBehind_0 (by decide) ?_
  refine m_istore_n dX8_stateBehind_1 (Nat.le_of_ble_eq_true rfl) rfl ?_
  refine m_iconstN 0 dX8_stateBehind_2 (by decide) ?_
  refine m_istore_n dX8_stateBehind_3 (Nat.le_of_ble_eq_true rfl) rfl ?_
  exact loop 0 (Nat.zero_le _)
end RDR
