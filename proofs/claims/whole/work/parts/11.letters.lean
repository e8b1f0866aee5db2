/-! class Letters: k letters, fb p the letters that are free with p, by bits -/
def fbOk (k : Nat) (fb : Nat → Nat) : Prop := 1 ≤ k ∧ k ≤ 6 ∧ (∀ p, p < 6 → fb p < 2 ^ k) ∧ (∀ p q, p < 6 → q < 6 → (fb p).testBit q = (fb q).testBit p) ∧ ∀ p, p < 6 → (fb p).testBit p = false
def letIs (d : xD) (k : Nat) (fb : Nat → Nat) : Prop := d.1 1 1 = nI k ∧ (∀ p, p < 6 → d.1 2 p = nI (fb p)) ∧ fbOk k fb
theorem letIs.fr {S : List Nat} {d d' : xD} {k : Nat} {fb : Nat → Nat} (h : letIs d k fb) (hc : chg S d d') (h1 : 1 ∉ S) (h2 : 2 ∉ S) : letIs d' k fb :=
  ⟨by rw [(hc 1 h1).1]; exact h.1, fun p hp => by rw [(hc 2 h2).1]; exact h.2.1 p hp, h.2.2⟩
theorem fbOk.lt64 {k : Nat} {fb : Nat → Nat} (h : fbOk k fb) {p : Nat} (hp : p < 6) : fb p < 64 :=
  Nat.lt_of_lt_of_le (h.2.2.1 p hp) (Nat.pow_le_pow_right (by decide) h.2.1)
/-- the letters that are not free with p -/
def bw (k : Nat) (fb : Nat → Nat) (p : Nat) : Nat := (2 ^ k - 1) ^^^ fb p
theorem nI_sh (n : Nat) (h : n < 32) : ((nI n &&& 31).toBitVec.smod 32).toNat = n := (by decide +kernel : ∀ n, n < 32 → ((nI n &&& 31).toBitVec.smod 32).toNat = n) n h
theorem nI_shr {s q : Nat} (hs : s < 2 ^ 31) (hq : q < 32) : nI s >>> (nI q &&& 31) = nI (s / 2 ^ q) := pk_shrN hs _ q (nI_sh q hq)
theorem nI_bit {s q : Nat} (hs : s < 2 ^ 31) (hq : q < 32) : (nI s >>> (nI q &&& 31)) &&& nI 1 = nI (s.testBit q).toNat := by
  rw [nI_shr hs hq, nI_and, Nat.and_one_is_mod, Nat.testBit_eq_decide_div_mod_eq]
  by_cases h : s / 2 ^ q % 2 = 1
  · simp [h]
  · have h0 : s / 2 ^ q % 2 = 0 := by omega
    simp [h0]
theorem nI_all : ∀ k, k < 7 → nI 1 <<< (nI k &&& 31) - nI 1 = nI (2 ^ k - 1) := by decide +kernel
theorem nI_bw : ∀ k, k < 7 → ∀ f, f < 2 ^ k → nI (2 ^ k - 1) &&& (nI f ^^^ -1) = nI ((2 ^ k - 1) ^^^ f) := by decide +kernel
theorem bw_lt {k p : Nat} {fb : Nat → Nat} (h : fbOk k fb) (hp : p < 6) : bw k fb p < 2 ^ k :=
  Nat.xor_lt_two_pow (by have := Nat.two_pow_pos k; omega) (h.2.2.1 p hp)
theorem bw_lt64 {k p : Nat} {fb : Nat → Nat} (h : fbOk k fb) (hp : p < 6) : bw k fb p < 64 :=
  Nat.lt_of_lt_of_le (bw_lt h hp) (Nat.pow_le_pow_right (by decide) h.2.1)
theorem bw_tb {k p q : Nat} {fb : Nat → Nat} (h : fbOk k fb) (hp : p < 6) : (bw k fb p).testBit q = (decide (q < k) && !(fb p).testBit q) := by
  unfold bw
  rw [Nat.testBit_xor, Nat.testBit_two_pow_sub_one]
  by_cases hq : q < k
  · simp [hq]
  · have : (fb p).testBit q = false := Nat.testBit_lt_two_pow (Nat.lt_of_lt_of_le (h.2.2.1 p hp) (Nat.pow_le_pow_right (by decide) (by omega)))
    simp [hq, this]
section LET
variable {l : Launch} {W : xW} {dep : Nat} {d : xD} {k : Nat} {fb : Nat → Nat}
theorem s_X3_size (h : letIs d k fb) : mSpecI l W mX3_size dep [.ref (xad W 1)] d (fun r d' => r = nI k ∧ d' = d) := by
  refine m_spec RX3 [some (.ref (xad W 1))] rfl (by decide +kernel) rfl rfl (fun K hR => ?_)
  refine m_aload_n dX3_size_0 rfl ?_
  refine m_get fl_X3_15 (by decide) rfl rfl dX3_size_1 ?_
  refine m_eqi (h.1) ?_
  exact m_iret (ty := .int) hR dX3_size_4 (⟨rfl, rfl⟩)
theorem s_X3_has (h : letIs d k fb) {n : Nat} (hn : n < 2 ^ 31) : mSpecI l W mX3_has dep [.ref (xad W 1), .int (nI n)] d (fun r d' => r = (if n < k then 1 else 0) ∧ d' = d) := by
  have hk := h.2.2.2.1
  refine m_spec RX3 [some (.ref (xad W 1)), some (.int (nI n))] rfl (by decide +kernel) rfl rfl (fun K hR => ?_)
  refine m_iload_n dX3_has_0 rfl ?_
  refine m_if_ltN 16 dX3_has_1 (by decide) (by omega) ?_
  refine m_iload_n dX3_has_4 rfl ?_
  refine m_aload_n dX3_has_5 rfl ?_
  refine m_get fl_X3_15 (by decide) rfl rfl dX3_has_6 ?_
  refine m_eqi (h.1) ?_
  first | refine m_icmp_geN 16 dX3_has_9 (by decide) (by omega) (by omega) (fun c9 => ?_) (fun c9 => ?_) | refine m_icmp_ge 16 dX3_has_9 (by decide) (fun c9 => ?_) (fun c9 => ?_)
  · refine m_iconstN 0 dX3_has_16 (by decide) ?_
    exact m_iret (ty := .boolean) hR dX3_has_17 (⟨by rw [if_neg (by omega)]; rfl, rfl⟩)
  · refine m_iconstN 1 dX3_has_12 (by decide) ?_
    refine m_goto 17 dX3_has_13 (by decide) ?_
    exact m_iret (ty := .boolean) hR dX3_has_17 (⟨by rw [if_pos (by omega)]; rfl, rfl⟩)
theorem s_X3_hasO (h : letIs d k fb) {x : Int32} (hx : x < 0 ∨ nI k ≤ x) : mSpecI l W mX3_has dep [.ref (xad W 1), .int x] d (fun r d' => r = 0 ∧ d' = d) := by
  refine m_spec RX3 [some (.ref (xad W 1)), some (.int x)] rfl (by decide +kernel) rfl rfl (fun K hR => ?_)
  refine m_iload_n dX3_has_0 rfl ?_
  refine m_if_lt 16 dX3_has_1 (by decide) (fun c1 => ?_) (fun c1 => ?_)
  · refine m_iconstN 0 dX3_has_16 (by decide) ?_
    exact m_iret (ty := .boolean) hR dX3_has_17 (⟨rfl, rfl⟩)
  · refine m_iload_n dX3_has_4 rfl ?_
    refine m_aload_n dX3_has_5 rfl ?_
    refine m_get fl_X3_15 (by decide) rfl rfl dX3_has_6 ?_
    refine m_eqi (h.1) ?_
    refine m_icmp_ge 16 dX3_has_9 (by decide) (fun c9 => ?_) (fun c9 => by exfalso; exact hx.elim c1 c9)
    refine m_iconstN 0 dX3_has_16 (by decide) ?_
    exact m_iret (ty := .boolean) hR dX3_has_17 (⟨rfl, rfl⟩)
theorem s_X3_freeWith (h : letIs d k fb) {p : Nat} (hp : p < 6) : mSpecI l W mX3_freeWith dep [.ref (xad W 1), .int (nI p)] d (fun r d' => r = nI (fb p) ∧ d' = d) := by
  refine m_spec RX3 [some (.ref (xad W 1)), some (.int (nI p))] rfl (by decide +kernel) rfl rfl (fun K hR => ?_)
  refine m_iload_n dX3_freeWith_0 rfl ?_
  refine m_if_ltN 22 dX3_freeWith_1 (by decide) (by omega) ?_
  refine m_iload_n dX3_freeWith_4 rfl ?_
  refine m_aload_n dX3_freeWith_5 rfl ?_
  refine m_get fl_X3_9 (by decide) rfl rfl dX3_freeWith_6 ?_
  refine m_alen (by omega) (by first | rfl | exact xcell_arr _ _ _ (by omega) | exact xcell_mv _ _ (by omega) | exact xcell_fo _ _ (by omega) | exact xcell_ne _ _ (by omega)) (by decide) dX3_freeWith_9 ?_
  first | refine m_icmp_geN 22 dX3_freeWith_10 (by decide) (by omega) (by omega) (fun c10 => by exfalso; omega) (fun c10 => ?_) | refine m_icmp_ge 22 dX3_freeWith_10 (by decide) (fun c10 => by exfalso; omega) (fun c10 => ?_)
  refine m_aload_n dX3_freeWith_13 rfl ?_
  refine m_get fl_X3_9 (by decide) rfl rfl dX3_freeWith_14 ?_
  refine m_iload_n dX3_freeWith_17 rfl ?_
  refine m_iald (by first | exact ⟨by decide, by decide, fun _ => rfl⟩ | exact isI_arr _ (by omega) | exact isI_mv _ (by omega) | exact isI_ne _ (by omega)) (by omega) dX3_freeWith_18 ?_
  refine m_eqi (h.2.1 p hp) ?_
  refine m_goto 23 dX3_freeWith_19 (by decide) ?_
  exact m_iret (ty := .int) hR dX3_freeWith_23 (⟨rfl, rfl⟩)
theorem s_X3_boundWith (h : letIs d k fb) {p : Nat} (hp : p < 6) : mSpecI l W mX3_boundWith dep [.ref (xad W 1), .int (nI p)] d (fun r d' => r = nI (bw k fb p) ∧ d' = d) := by
  have hk := h.2.2.2.1
  refine m_spec RX3 [some (.ref (xad W 1)), some (.int (nI p)), none] rfl (by decide +kernel) rfl rfl (fun K hR => ?_)
  refine m_iconstN 1 dX3_boundWith_0 (by decide) ?_
  refine m_aload_n dX3_boundWith_1 rfl ?_
  refine m_get fl_X3_15 (by decide) rfl rfl dX3_boundWith_2 ?_
  refine m_eqi (h.1) ?_
  refine m_ishl dX3_boundWith_5 ?_
  refine m_iconstN 1 dX3_boundWith_6 (by decide) ?_
  refine m_isub dX3_boundWith_7 ?_
  refine m_eqi (nI_all k (by omega)) ?_
  refine m_istore_n dX3_boundWith_8 (Nat.le_of_ble_eq_true rfl) rfl ?_
  refine m_iload_n dX3_boundWith_9 rfl ?_
  refine m_if_ltN 35 dX3_boundWith_10 (by decide) (by omega) ?_
  refine m_iload_n dX3_boundWith_13 rfl ?_
  refine m_aload_n dX3_boundWith_14 rfl ?_
  refine m_get fl_X3_9 (by decide) rfl rfl dX3_boundWith_15 ?_
  refine m_alen (by omega) (by first | rfl | exact xcell_arr _ _ _ (by omega) | exact xcell_mv _ _ (by omega) | exact xcell_fo _ _ (by omega) | exact xcell_ne _ _ (by omega)) (by decide) dX3_boundWith_18 ?_
  first | refine m_icmp_geN 35 dX3_boundWith_19 (by decide) (by omega) (by omega) (fun c19 => by exfalso; omega) (fun c19 => ?_) | refine m_icmp_ge 35 dX3_boundWith_19 (by decide) (fun c19 => by exfalso; omega) (fun c19 => ?_)
  refine m_iload_n dX3_boundWith_22 rfl ?_
  refine m_aload_n dX3_boundWith_23 rfl ?_
  refine m_get fl_X3_9 (by decide) rfl rfl dX3_boundWith_24 ?_
  refine m_iload_n dX3_boundWith_27 rfl ?_
  refine m_iald (by first | exact ⟨by decide, by decide, fun _ => rfl⟩ | exact isI_arr _ (by omega) | exact isI_mv _ (by omega) | exact isI_ne _ (by omega)) (by omega) dX3_boundWith_28 ?_
  refine m_eqi (h.2.1 p hp) ?_
  refine m_iconst (v := -1) dX3_boundWith_29 (by decide) ?_
  refine m_ixor dX3_boundWith_30 ?_
  refine m_iand dX3_boundWith_31 ?_
  refine m_eqi (nI_bw k (by omega) _ (h.2.2.2.2.1 p hp)) ?_
  refine m_goto 36 dX3_boundWith_32 (by decide) ?_
  exact m_iret (ty := .int) hR dX3_boundWith_36 (⟨rfl, rfl⟩)
theorem s_X3_allBits (h : letIs d k fb) : mSpecI l W mX3_allBits dep [.ref (xad W 1)] d (fun r d' => r = nI (2 ^ k - 1) ∧ d' = d) := by
  have hk := h.2.2.2.1
  refine m_spec RX3 [some (.ref (xad W 1))] rfl (by decide +kernel) rfl rfl (fun K hR => ?_)
  refine m_iconstN 1 dX3_allBits_0 (by decide) ?_
  refine m_aload_n dX3_allBits_1 rfl ?_
  refine m_get fl_X3_15 (by decide) rfl rfl dX3_allBits_2 ?_
  refine m_eqi (h.1) ?_
  refine m_ishl dX3_allBits_5 ?_
  refine m_iconstN 1 dX3_allBits_6 (by decide) ?_
  refine m_isub dX3_allBits_7 ?_
  refine m_eqi (nI_all k (by omega)) ?_
  exact m_iret (ty := .int) hR dX3_allBits_8 (⟨rfl, rfl⟩)
theorem s_X3_areFree (h : letIs d k fb) {p q : Nat} (hp : p < 6) (hq : q < k) : mSpecI l W mX3_areFree (dep + 1) [.ref (xad W 1), .int (nI p), .int (nI q)] d (fun r d' => r = (if (fb p).testBit q then 1 else 0) ∧ d' = d) := by
  have hk := h.2.2.2.1
  have h64 := h.2.2.lt64 hp
  refine m_spec RX3 [some (.ref (xad W 1)), some (.int (nI p)), some (.int (nI q))] rfl (by decide +kernel) rfl rfl (fun K hR => ?_)
  refine m_aload_n dX3_areFree_0 rfl ?_
  refine m_iload_n dX3_areFree_1 rfl ?_
  refine m_callVIp (s_X3_has h (n := q) (by omega)) cv_X3_25 dX3_areFree_2 ?_
  rw [if_pos hq]
  refine m_if_eq 25 dX3_areFree_5 (by decide) (fun c5 => by exfalso; exact absurd c5 (by decide)) (fun c5 => ?_)
  refine m_aload_n dX3_areFree_8 rfl ?_
  refine m_iload_n dX3_areFree_9 rfl ?_
  refine m_callVIp (s_X3_freeWith h (p := p) hp) cv_X3_29 dX3_areFree_10 ?_
  refine m_iload_n dX3_areFree_13 rfl ?_
  refine m_ishr dX3_areFree_14 ?_
  refine m_iconstN 1 dX3_areFree_15 (by decide) ?_
  refine m_iand dX3_areFree_16 ?_
  refine m_eqi (nI_bit (by omega) (by omega)) ?_
  refine m_iconstN 1 dX3_areFree_17 (by decide) ?_
  have hb : ((fb p).testBit q).toNat < 2 := Bool.toNat_lt _
  first | refine m_icmp_neN 25 dX3_areFree_18 (by decide) (by omega) (by omega) (fun c18 => ?_) (fun c18 => ?_) | refine m_icmp_ne 25 dX3_areFree_18 (by decide) (fun c18 => ?_) (fun c18 => ?_)
  · refine m_iconstN 0 dX3_areFree_25 (by decide) ?_
    exact m_iret (ty := .boolean) hR dX3_areFree_26 (⟨by cases hc : (fb p).testBit q <;> simp_all <;> rfl, rfl⟩)
  · refine m_iconstN 1 dX3_areFree_21 (by decide) ?_
    refine m_goto 26 dX3_areFree_22 (by decide) ?_
    exact m_iret (ty := .boolean) hR dX3_areFree_26 (⟨by cases hc : (fb p).testBit q <;> simp_all <;> rfl, rfl⟩)
theorem s_J7_fillI {o n : Nat} (hI : isI W o n) (x : Int32) : mSpecV l W mJ7_fill_53178 dep [.ref (xad W o), .int x] d (fun d' => (∀ q, q < n → d'.1 o q = x) ∧ chg [o] d d') := by
  have hn := hI.2.1
  refine m_spec RJ7 [some (.ref (xad W o)), some (.int x), none, none] rfl (by decide +kernel) rfl rfl (fun K hR => ?_)
  have loop : ∀ i, i ≤ n → ∀ d1 : xD, (∀ q, q < i → d1.1 o q = x) → chg [o] d d1 → mG W K cJ7_fill_53178 RJ7 dep d1 5 [some (.ref (xad W o)), some (.int x), some (.int (nI i)), some (.int (nI n))] [] := x_up _ (fun i hi ih d1 g1 g2 => by
    refine m_iload_n dJ7_fill_53178_5 rfl ?_
    refine m_iload_n dJ7_fill_53178_6 rfl ?_
    first | refine m_icmp_geN 20 dJ7_fill_53178_7 (by decide) (by omega) (by omega) (fun c7 => ?_) (fun c7 => ?_) | refine m_icmp_ge 20 dJ7_fill_53178_7 (by decide) (fun c7 => ?_) (fun c7 => ?_)
    · exact m_vret hR dJ7_fill_53178_20 (⟨fun q hq => g1 q (by omega), g2⟩)
    · refine m_aload_n dJ7_fill_53178_10 rfl ?_
      refine m_iload_n dJ7_fill_53178_11 rfl ?_
      refine m_iload_n dJ7_fill_53178_12 rfl ?_
      refine m_iast hI (by omega) dJ7_fill_53178_13 ?_
      first | refine m_iincN 1 dJ7_fill_53178_14 (by decide) rfl rfl ?_ | refine m_iinc dJ7_fill_53178_14 rfl rfl ?_
      refine m_goto 5 dJ7_fill_53178_17 (by decide) ?_
      refine ih (by omega) _ (fun q hq => ?_) (g2.se (by simp))
      by_cases e : q = i
      · subst e; exact se_s _ _ _ _
      · rw [se_n _ _ e]; exact g1 q (by omega)
    )
  refine m_iconstN 0 dJ7_fill_53178_0 (by decide) ?_
  refine m_istore_n dJ7_fill_53178_1 (Nat.le_of_ble_eq_true rfl) rfl ?_
  refine m_aload_n dJ7_fill_53178_2 rfl ?_
  refine m_alen hI.1 (hI.2.2 d) (by decide) dJ7_fill_53178_3 ?_
  refine m_istore_n dJ7_fill_53178_4 (Nat.le_of_ble_eq_true rfl) rfl ?_
  exact loop 0 (Nat.zero_le _) d (fun q hq => by omega) chg.rf
theorem s_J7_fillL {o n : Nat} (hI : isL W o n) (x : Int64) : mSpecV l W mJ7_fill_d0a16 dep [.ref (xad W o), .long x] d (fun d' => (∀ q, q < n → d'.2 o q = x) ∧ chg [o] d d') := by
  have hn := hI.2.1
  refine m_spec RJ7 [some (.ref (xad W o)), some (.long x), none, none, none] rfl (by decide +kernel) rfl rfl (fun K hR => ?_)
  have loop : ∀ i, i ≤ n → ∀ d1 : xD, (∀ q, q < i → d1.2 o q = x) → chg [o] d d1 → mG W K cJ7_fill_d0a16 RJ7 dep d1 6 [some (.ref (xad W o)), some (.long x), none, some (.int (nI i)), some (.int (nI n))] [] := x_up _ (fun i hi ih d1 g1 g2 => by
    refine m_iload_n dJ7_fill_d0a16_6 rfl ?_
    refine m_iload dJ7_fill_d0a16_7 rfl ?_
    first | refine m_icmp_geN 22 dJ7_fill_d0a16_9 (by decide) (by omega) (by omega) (fun c9 => ?_) (fun c9 => ?_) | refine m_icmp_ge 22 dJ7_fill_d0a16_9 (by decide) (fun c9 => ?_) (fun c9 => ?_)
    · exact m_vret hR dJ7_fill_d0a16_22 (⟨fun q hq => g1 q (by omega), g2⟩)
    · refine m_aload_n dJ7_fill_d0a16_12 rfl ?_
      refine m_iload_n dJ7_fill_d0a16_13 rfl ?_
      refine m_lload_n dJ7_fill_d0a16_14 rfl ?_
      refine m_last hI (by omega) dJ7_fill_d0a16_15 ?_
      first | refine m_iincN 1 dJ7_fill_d0a16_16 (by decide) rfl rfl ?_ | refine m_iinc dJ7_fill_d0a16_16 rfl rfl ?_
      refine m_goto 6 dJ7_fill_d0a16_19 (by decide) ?_
      refine ih (by omega) _ (fun q hq => ?_) (g2.seL (by simp))
      by_cases e : q = i
      · subst e; exact seL_s' _ _ _ _
      · rw [seL_n _ _ e]; exact g1 q (by omega)
    )
  refine m_iconstN 0 dJ7_fill_d0a16_0 (by decide) ?_
  refine m_istore_n dJ7_fill_d0a16_1 (Nat.le_of_ble_eq_true rfl) rfl ?_
  refine m_aload_n dJ7_fill_d0a16_2 rfl ?_
  refine m_alen hI.1 (hI.2.2 d) (by decide) dJ7_fill_d0a16_3 ?_
  refine m_istore dJ7_fill_d0a16_4 (Nat.le_of_ble_eq_true rfl) rfl ?_
  exact loop 0 (Nat.zero_le _) d (fun q hq => by omega) chg.rf
/-- nothing is free any more -/
theorem s_X3_restart {n : Nat} (h1 : 1 ≤ n) (h6 : n ≤ 6) : mSpecV l W mX3_restart (dep + 1) [.ref (xad W 1), .int (nI n)] d (fun d' => letIs d' n (fun _ => 0) ∧ chg [1, 2] d d') := by
  refine m_spec RX3 [some (.ref (xad W 1)), some (.int (nI n))] rfl (by decide +kernel) rfl rfl (fun K hR => ?_)
  refine m_aload_n dX3_restart_0 rfl ?_
  refine m_iload_n dX3_restart_1 rfl ?_
  refine m_put fl_X3_15 (by decide) rfl (Nat.le_of_ble_eq_true rfl) rfl dX3_restart_2 ?_
  refine m_aload_n dX3_restart_5 rfl ?_
  refine m_get fl_X3_9 (by decide) rfl rfl dX3_restart_6 ?_
  refine m_iconstN 0 dX3_restart_9 (by decide) ?_
  refine m_callSV (s_J7_fillI (o := 2) (n := 6) ⟨by decide, by decide, fun _ => rfl⟩ (nI 0)) cs_X3_19 dX3_restart_10 (fun d2 g2 => ?_)
  exact m_vret hR dX3_restart_13 (⟨⟨by rw [(g2.2 1 (by simp)).1]; exact se_s _ _ _ _, g2.1, h1, h6, fun p _ => Nat.two_pow_pos n, fun p q _ _ => by simp, fun p _ => by simp⟩, (chg.rf.se (by simp)).tr (g2.2.mono (by simp))⟩)
/-- a bit set, or not -/
def setb (s q : Nat) (b : Bool) : Nat := if b then s ||| 2 ^ q else s &&& (63 ^^^ 2 ^ q)
theorem nI_sb1 : ∀ q, q < 6 → nI 1 <<< (nI q &&& 31) = nI (2 ^ q) := by decide +kernel
theorem nI_sb0 : ∀ s, s < 64 → ∀ q, q < 6 → nI s &&& (nI (2 ^ q) ^^^ -1) = nI (s &&& (63 ^^^ 2 ^ q)) := by decide +kernel
def setFB (fb : Nat → Nat) (p q : Nat) (b : Bool) : Nat → Nat := fun r => if r = p then setb (fb p) q b else if r = q then setb (fb q) p b else fb r
theorem setb_tb : ∀ s, s < 64 → ∀ q, q < 6 → ∀ b : Bool, ∀ r, r < 6 → (setb s q b).testBit r = (if r = q then b else s.testBit r) := by decide +kernel
theorem setb_lt : ∀ k, k < 7 → ∀ s, s < 2 ^ k → ∀ q, q < k → ∀ b : Bool, setb s q b < 2 ^ k := by decide +kernel
theorem setFB_ok (h : fbOk k fb) {p q : Nat} (hp : p < k) (hq : q < k) (hne : p ≠ q) (b : Bool) : fbOk k (setFB fb p q b) := by
  have h6 := h.2.1
  have tb : ∀ r t, r < 6 → t < 6 → (setFB fb p q b r).testBit t = (if r = p ∧ t = q then b else if r = q ∧ t = p then b else (fb r).testBit t) := by
    intro r t hr ht
    unfold setFB
    by_cases e1 : r = p
    · subst e1
      rw [if_pos rfl, setb_tb _ (h.lt64 hr) q (by omega) b t ht]
      by_cases e2 : t = q
      · simp [e2]
      · simp [e2, hne]
    · rw [if_neg e1]
      by_cases e3 : r = q
      · subst e3
        rw [if_pos rfl, setb_tb _ (h.lt64 hr) p (by omega) b t ht]
        by_cases e2 : t = p
        · simp [e2, e1]
        · simp [e2, e1]
      · rw [if_neg e3]; simp [e1, e3]
  refine ⟨h.1, h.2.1, fun r hr => ?_, fun r t hr ht => ?_, fun r hr => ?_⟩
  · unfold setFB
    split
    · exact setb_lt k (by omega) _ (h.2.2.1 p (by omega)) q hq b
    · split
      · exact setb_lt k (by omega) _ (h.2.2.1 q (by omega)) p hp b
      · exact h.2.2.1 r hr
  · rw [tb r t hr ht, tb t r ht hr, h.2.2.2.1 r t hr ht]
    by_cases e1 : r = p ∧ t = q
    · rw [if_pos e1]
      by_cases e2 : t = p ∧ r = q
      · rw [if_pos e2]
      · rw [if_neg e2, if_pos ⟨e1.2, e1.1⟩]
    · rw [if_neg e1]
      by_cases e2 : r = q ∧ t = p
      · rw [if_pos e2, if_pos ⟨e2.2, e2.1⟩]
      · rw [if_neg e2, if_neg (fun z => e2 ⟨z.2, z.1⟩), if_neg (fun z => e1 ⟨z.2, z.1⟩)]
  · rw [tb r r hr hr, if_neg (fun z => hne (z.1.symm.trans z.2)), if_neg (fun z => hne (z.2.symm.trans z.1))]
    exact h.2.2.2.2 r hr
theorem s_X3_setBit {p q s : Nat} {b : Bool} (hk : d.1 1 1 = nI k) (hk6 : k ≤ 6) (hs : d.1 2 p = nI s) (hs64 : s < 64) (hp : p < k) (hq : q < k) : mSpecV l W mX3_setBit (dep + 1) [.ref (xad W 1), .int (nI p), .int (nI q), .int (if b then 1 else 0)] d (fun d' => d' = seI d 2 p (nI (setb s q b))) := by
  have hhas : ∀ l : Launch, mSpecI l W mX3_has dep [.ref (xad W 1), .int (nI q)] d (fun r d' => r = 1 ∧ d' = d) := fun l => by
    refine m_spec RX3 [some (.ref (xad W 1)), some (.int (nI q))] rfl (by decide +kernel) rfl rfl (fun K hR => ?_)
    refine m_iload_n dX3_has_0 rfl ?_
    refine m_if_ltN 16 dX3_has_1 (by decide) (by omega) ?_
    refine m_iload_n dX3_has_4 rfl ?_
    refine m_aload_n dX3_has_5 rfl ?_
    refine m_get fl_X3_15 (by decide) rfl rfl dX3_has_6 ?_
    refine m_eqi (hk) ?_
    first | refine m_icmp_geN 16 dX3_has_9 (by decide) (by omega) (by omega) (fun c9 => by exfalso; omega) (fun c9 => ?_) | refine m_icmp_ge 16 dX3_has_9 (by decide) (fun c9 => by exfalso; omega) (fun c9 => ?_)
    refine m_iconstN 1 dX3_has_12 (by decide) ?_
    refine m_goto 17 dX3_has_13 (by decide) ?_
    exact m_iret (ty := .boolean) hR dX3_has_17 (⟨rfl, rfl⟩)
  refine m_spec RX3 [some (.ref (xad W 1)), some (.int (nI p)), some (.int (nI q)), some (.int (if b then 1 else 0))] rfl (by decide +kernel) rfl rfl (fun K hR => ?_)
  refine m_aload_n dX3_setBit_0 rfl ?_
  refine m_iload_n dX3_setBit_1 rfl ?_
  refine m_callVIp (hhas K.1.1) cv_X3_25 dX3_setBit_2 ?_
  refine m_if_eq 21 dX3_setBit_5 (by decide) (fun c5 => by exfalso; exact absurd c5 (by decide)) (fun c5 => ?_)
  refine m_iload_n dX3_setBit_8 rfl ?_
  refine m_if_ltN 21 dX3_setBit_9 (by decide) (by omega) ?_
  refine m_iload_n dX3_setBit_12 rfl ?_
  refine m_aload_n dX3_setBit_13 rfl ?_
  refine m_get fl_X3_9 (by decide) rfl rfl dX3_setBit_14 ?_
  refine m_alen (by omega) (by first | rfl | exact xcell_arr _ _ _ (by omega) | exact xcell_mv _ _ (by omega) | exact xcell_fo _ _ (by omega) | exact xcell_ne _ _ (by omega)) (by decide) dX3_setBit_17 ?_
  first | refine m_icmp_ltN 22 dX3_setBit_18 (by decide) (by omega) (by omega) (fun c18 => ?_) (fun c18 => by exfalso; omega) | refine m_icmp_lt 22 dX3_setBit_18 (by decide) (fun c18 => ?_) (fun c18 => by exfalso; omega)
  refine m_aload_n dX3_setBit_22 rfl ?_
  refine m_get fl_X3_9 (by decide) rfl rfl dX3_setBit_23 ?_
  refine m_iload_n dX3_setBit_26 rfl ?_
  refine m_iload_n dX3_setBit_27 rfl ?_
  refine m_if_eq 44 dX3_setBit_28 (by decide) (fun c28 => ?_) (fun c28 => ?_)
  · refine m_aload_n dX3_setBit_44 rfl ?_
    refine m_get fl_X3_9 (by decide) rfl rfl dX3_setBit_45 ?_
    refine m_iload_n dX3_setBit_48 rfl ?_
    refine m_iald (by first | exact ⟨by decide, by decide, fun _ => rfl⟩ | exact isI_arr _ (by omega) | exact isI_mv _ (by omega) | exact isI_ne _ (by omega)) (by omega) dX3_setBit_49 ?_
    refine m_eqi (hs) ?_
    refine m_iconstN 1 dX3_setBit_50 (by decide) ?_
    refine m_iload_n dX3_setBit_51 rfl ?_
    refine m_ishl dX3_setBit_52 ?_
    refine m_eqi (nI_sb1 q (by omega)) ?_
    refine m_iconst (v := -1) dX3_setBit_53 (by decide) ?_
    refine m_ixor dX3_setBit_54 ?_
    refine m_iand dX3_setBit_55 ?_
    refine m_eqi (nI_sb0 s hs64 q (by omega)) ?_
    refine m_iast (by first | exact ⟨by decide, by decide, fun _ => rfl⟩ | exact isI_arr _ (by omega) | exact isI_mv _ (by omega) | exact isI_ne _ (by omega)) (by omega) dX3_setBit_56 ?_
    exact m_vret hR dX3_setBit_57 (by cases b <;> simp_all [setb])
  · refine m_aload_n dX3_setBit_31 rfl ?_
    refine m_get fl_X3_9 (by decide) rfl rfl dX3_setBit_32 ?_
    refine m_iload_n dX3_setBit_35 rfl ?_
    refine m_iald (by first | exact ⟨by decide, by decide, fun _ => rfl⟩ | exact isI_arr _ (by omega) | exact isI_mv _ (by omega) | exact isI_ne _ (by omega)) (by omega) dX3_setBit_36 ?_
    refine m_eqi (hs) ?_
    refine m_iconstN 1 dX3_setBit_37 (by decide) ?_
    refine m_iload_n dX3_setBit_38 rfl ?_
    refine m_ishl dX3_setBit_39 ?_
    refine m_eqi (nI_sb1 q (by omega)) ?_
    refine m_ior dX3_setBit_40 ?_
    refine m_eqi (nI_or _ _) ?_
    refine m_goto 56 dX3_setBit_41 (by decide) ?_
    refine m_iast (by first | exact ⟨by decide, by decide, fun _ => rfl⟩ | exact isI_arr _ (by omega) | exact isI_mv _ (by omega) | exact isI_ne _ (by omega)) (by omega) dX3_setBit_56 ?_
    exact m_vret hR dX3_setBit_57 (by cases b <;> simp_all [setb])
theorem s_X3_setFree {p q : Nat} {b : Bool} (h : letIs d k fb) (hp : p < k) (hq : q < k) (hne : p ≠ q) : mSpecV l W mX3_setFree (dep + 2) [.ref (xad W 1), .int (nI p), .int (nI q), .int (if b then 1 else 0)] d (fun d' => letIs d' k (setFB fb p q b) ∧ chg [2] d d') := by
  have hk := h.2.2.2.1
  refine m_spec RX3 [some (.ref (xad W 1)), some (.int (nI p)), some (.int (nI q)), some (.int (if b then 1 else 0))] rfl (by decide +kernel) rfl rfl (fun K hR => ?_)
  refine m_iload_n dX3_setFree_0 rfl ?_
  refine m_iload_n dX3_setFree_1 rfl ?_
  first | refine m_icmp_neN 6 dX3_setFree_2 (by decide) (by omega) (by omega) (fun c2 => ?_) (fun c2 => by exfalso; omega) | refine m_icmp_ne 6 dX3_setFree_2 (by decide) (fun c2 => ?_) (fun c2 => by exfalso; omega)
  refine m_aload_n dX3_setFree_6 rfl ?_
  refine m_iload_n dX3_setFree_7 rfl ?_
  refine m_iload_n dX3_setFree_8 rfl ?_
  refine m_iload_n dX3_setFree_9 rfl ?_
  refine m_callVVp (s_X3_setBit (p := p) (q := q) (b := b) h.1 hk (h.2.1 p (by omega)) (h.2.2.lt64 (by omega)) hp hq) cv_X3_33 dX3_setFree_10 ?_
  refine m_aload_n dX3_setFree_13 rfl ?_
  refine m_iload_n dX3_setFree_14 rfl ?_
  refine m_iload_n dX3_setFree_15 rfl ?_
  refine m_iload_n dX3_setFree_16 rfl ?_
  refine m_callVVp (s_X3_setBit (p := q) (q := p) (b := b) (by rw [seI_o _ _ _ _ _ (by decide)]; exact h.1) hk (se_e2 (h.2.1 q (by omega)) (Ne.symm hne)) (h.2.2.lt64 (by omega)) hq hp) cv_X3_33 dX3_setFree_17 ?_
  have hfb : ∀ r, r < 6 → (seI (seI d 2 p (nI (setb (fb p) q b))) 2 q (nI (setb (fb q) p b))).1 2 r = nI (setFB fb p q b r) := fun r hr => by
    unfold setFB
    by_cases e1 : r = p
    · subst e1; rw [if_pos rfl, se_n _ _ hne, se_s]
    · rw [if_neg e1]
      by_cases e2 : r = q
      · subst e2; rw [if_pos rfl, se_s]
      · rw [if_neg e2, se_n _ _ e2, se_n _ _ e1]; exact h.2.1 r hr
  exact m_vret hR dX3_setFree_20 (⟨⟨by rw [seI_o _ _ _ _ _ (by decide), seI_o _ _ _ _ _ (by decide)]; exact h.1, hfb, setFB_ok h.2.2 hp hq hne b⟩, (chg.rf.se (by simp)).se (by simp)⟩)
def pop (s : Nat) : Nat := ((List.range 6).filter (fun i => s.testBit i)).length
def bcS (x y : Int32) : Int32 := (x.toUInt32 >>> (y.toUInt32 &&& Int32.toUInt32 31)).toInt32
def bc1 (x : Int32) : Int32 := x - (bcS x (nI 1) &&& nI 1431655765)
def bc2 (x : Int32) : Int32 := (x &&& nI 858993459) + (bcS x (nI 2) &&& nI 858993459)
def bc3 (x : Int32) : Int32 := (x + bcS x (nI 4)) &&& nI 252645135
def bc4 (x : Int32) : Int32 := x + bcS x (nI 8)
def bc5 (x : Int32) : Int32 := (x + bcS x (nI 16)) &&& nI 63
theorem bc_eq : ∀ s, s < 64 → bc5 (bc4 (bc3 (bc2 (bc1 (nI s))))) = nI (pop s) := by decide +kernel
theorem pop_le (s : Nat) : pop s ≤ 6 := by
  unfold pop
  exact Nat.le_trans (List.length_filter_le _ _) (by simp)
theorem s_J6_bitCount {s : Nat} (hs : s < 64) : mSpecI l W mJ6_bitCount_0f7a4 dep [.int (nI s)] d (fun r d' => r = nI (pop s) ∧ d' = d) := by
  refine m_spec RJ6 [some (.int (nI s))] rfl (by decide +kernel) rfl rfl (fun K hR => ?_)
  refine m_iload_n dJ6_bitCount_0f7a4_0 rfl ?_
  refine m_iload_n dJ6_bitCount_0f7a4_1 rfl ?_
  refine m_iconstN 1 dJ6_bitCount_0f7a4_2 (by decide) ?_
  refine m_iushr dJ6_bitCount_0f7a4_3 ?_
  refine m_ldcw ct_J6_265 dJ6_bitCount_0f7a4_4 ?_
  refine m_eqi (y := nI 1431655765) (by decide +kernel) ?_
  refine m_iand dJ6_bitCount_0f7a4_7 ?_
  refine m_isub dJ6_bitCount_0f7a4_8 ?_
  refine m_eqi ((rfl : _ = bc1 (nI s))) ?_
  refine m_istore_n dJ6_bitCount_0f7a4_9 (Nat.le_of_ble_eq_true rfl) rfl ?_
  refine m_iload_n dJ6_bitCount_0f7a4_10 rfl ?_
  refine m_ldcw ct_J6_266 dJ6_bitCount_0f7a4_11 ?_
  refine m_eqi (y := nI 858993459) (by decide +kernel) ?_
  refine m_iand dJ6_bitCount_0f7a4_14 ?_
  refine m_iload_n dJ6_bitCount_0f7a4_15 rfl ?_
  refine m_iconstN 2 dJ6_bitCount_0f7a4_16 (by decide) ?_
  refine m_iushr dJ6_bitCount_0f7a4_17 ?_
  refine m_ldcw ct_J6_266 dJ6_bitCount_0f7a4_18 ?_
  refine m_eqi (y := nI 858993459) (by decide +kernel) ?_
  refine m_iand dJ6_bitCount_0f7a4_21 ?_
  refine m_iadd dJ6_bitCount_0f7a4_22 ?_
  refine m_eqi ((rfl : _ = bc2 (bc1 (nI s)))) ?_
  refine m_istore_n dJ6_bitCount_0f7a4_23 (Nat.le_of_ble_eq_true rfl) rfl ?_
  refine m_iload_n dJ6_bitCount_0f7a4_24 rfl ?_
  refine m_iload_n dJ6_bitCount_0f7a4_25 rfl ?_
  refine m_iconstN 4 dJ6_bitCount_0f7a4_26 (by decide) ?_
  refine m_iushr dJ6_bitCount_0f7a4_27 ?_
  refine m_iadd dJ6_bitCount_0f7a4_28 ?_
  refine m_ldcw ct_J6_267 dJ6_bitCount_0f7a4_29 ?_
  refine m_eqi (y := nI 252645135) (by decide +kernel) ?_
  refine m_iand dJ6_bitCount_0f7a4_32 ?_
  refine m_eqi ((rfl : _ = bc3 (bc2 (bc1 (nI s))))) ?_
  refine m_istore_n dJ6_bitCount_0f7a4_33 (Nat.le_of_ble_eq_true rfl) rfl ?_
  refine m_iload_n dJ6_bitCount_0f7a4_34 rfl ?_
  refine m_iload_n dJ6_bitCount_0f7a4_35 rfl ?_
  refine m_bipushN 8 dJ6_bitCount_0f7a4_36 (by decide) ?_
  refine m_iushr dJ6_bitCount_0f7a4_38 ?_
  refine m_iadd dJ6_bitCount_0f7a4_39 ?_
  refine m_eqi ((rfl : _ = bc4 (bc3 (bc2 (bc1 (nI s)))))) ?_
  refine m_istore_n dJ6_bitCount_0f7a4_40 (Nat.le_of_ble_eq_true rfl) rfl ?_
  refine m_iload_n dJ6_bitCount_0f7a4_41 rfl ?_
  refine m_iload_n dJ6_bitCount_0f7a4_42 rfl ?_
  refine m_bipushN 16 dJ6_bitCount_0f7a4_43 (by decide) ?_
  refine m_iushr dJ6_bitCount_0f7a4_45 ?_
  refine m_iadd dJ6_bitCount_0f7a4_46 ?_
  refine m_istore_n dJ6_bitCount_0f7a4_47 (Nat.le_of_ble_eq_true rfl) rfl ?_
  refine m_iload_n dJ6_bitCount_0f7a4_48 rfl ?_
  refine m_bipushN 63 dJ6_bitCount_0f7a4_49 (by decide) ?_
  refine m_iand dJ6_bitCount_0f7a4_51 ?_
  refine m_eqi ((rfl : _ = bc5 (bc4 (bc3 (bc2 (bc1 (nI s))))))) ?_
  refine m_eqi (bc_eq s hs) ?_
  exact m_iret (ty := .int) hR dJ6_bitCount_0f7a4_52 (⟨rfl, rfl⟩)
def pops (fb : Nat → Nat) (i : Nat) : Nat := ((List.range i).map (fun p => pop (fb p))).sum
theorem pops_s (fb : Nat → Nat) (i : Nat) : pops fb (i + 1) = pops fb i + pop (fb i) := by
  unfold pops
  rw [List.range_succ, List.map_append, List.sum_append]
  simp
theorem pops_le (fb : Nat → Nat) (i : Nat) : pops fb i ≤ 6 * i := by
  induction i with
  | zero => exact Nat.le_refl _
  | succ i ih => rw [pops_s]; have := pop_le (fb i); omega
theorem s_X3_freePairs (h : letIs d k fb) : mSpecI l W mX3_freePairs (dep + 1) [.ref (xad W 1)] d (fun r d' => r = nI (pops fb 6 / 2) ∧ d' = d) := by
  have hle := pops_le fb 6
  refine m_spec RX3 [some (.ref (xad W 1)), none, none] rfl (by decide +kernel) rfl rfl (fun K hR => ?_)
  have loop : ∀ i, i ≤ 6 → mG W K cX3_freePairs RX3 (dep + 1) d 4 [some (.ref (xad W 1)), some (.int (nI (pops fb i))), some (.int (nI i))] [] := x_up _ (fun i hi ih => by
    refine m_iload_n dX3_freePairs_4 rfl ?_
    refine m_aload_n dX3_freePairs_5 rfl ?_
    refine m_get fl_X3_9 (by decide) rfl rfl dX3_freePairs_6 ?_
    refine m_alen (by omega) (by first | rfl | exact xcell_arr _ _ _ (by omega) | exact xcell_mv _ _ (by omega) | exact xcell_fo _ _ (by omega) | exact xcell_ne _ _ (by omega)) (by decide) dX3_freePairs_9 ?_
    first | refine m_icmp_geN 31 dX3_freePairs_10 (by decide) (by omega) (by omega) (fun c10 => ?_) (fun c10 => ?_) | refine m_icmp_ge 31 dX3_freePairs_10 (by decide) (fun c10 => ?_) (fun c10 => ?_)
    · have e6 : i = 6 := by omega
      subst e6
      refine m_iload_n dX3_freePairs_31 rfl ?_
      refine m_iconstN 2 dX3_freePairs_32 (by decide) ?_
      first | refine m_idivN dX3_freePairs_33 (by omega) (by omega) (by omega) ?_ | refine m_idiv dX3_freePairs_33 (by decide) ?_
      exact m_iret (ty := .int) hR dX3_freePairs_34 (⟨rfl, rfl⟩)
    · refine m_iload_n dX3_freePairs_13 rfl ?_
      refine m_aload_n dX3_freePairs_14 rfl ?_
      refine m_get fl_X3_9 (by decide) rfl rfl dX3_freePairs_15 ?_
      refine m_iload_n dX3_freePairs_18 rfl ?_
      refine m_iald (by first | exact ⟨by decide, by decide, fun _ => rfl⟩ | exact isI_arr _ (by omega) | exact isI_mv _ (by omega) | exact isI_ne _ (by omega)) (by omega) dX3_freePairs_19 ?_
      refine m_eqi (h.2.1 i (by omega)) ?_
      refine m_callSIp (s_J6_bitCount (s := fb i) (h.2.2.lt64 (by omega))) cs_X3_37 dX3_freePairs_20 ?_
      first | refine m_iaddN dX3_freePairs_23 ?_ | refine m_iadd dX3_freePairs_23 ?_
      refine m_istore_n dX3_freePairs_24 (Nat.le_of_ble_eq_true rfl) rfl ?_
      first | refine m_iincN 1 dX3_freePairs_25 (by decide) rfl rfl ?_ | refine m_iinc dX3_freePairs_25 rfl rfl ?_
      refine m_goto 4 dX3_freePairs_28 (by decide) ?_
      have e := ih (by omega)
      rw [pops_s] at e
      exact e
    )
  refine m_iconstN 0 dX3_freePairs_0 (by decide) ?_
  refine m_istore_n dX3_freePairs_1 (Nat.le_of_ble_eq_true rfl) rfl ?_
  refine m_iconstN 0 dX3_freePairs_2 (by decide) ?_
  refine m_istore_n dX3_freePairs_3 (Nat.le_of_ble_eq_true rfl) rfl ?_
  exact loop 0 (Nat.zero_le _)
def gt1 (k : Nat) (fb : Nat → Nat) (s p : Nat) : Bool := !s.testBit p || decide (s &&& bw k fb p = 2 ^ p)
/-- the letters of s go together -/
def gt (k : Nat) (fb : Nat → Nat) (s : Nat) : Bool := (List.range k).all (gt1 k fb s)
theorem gt_t {k : Nat} {fb : Nat → Nat} {s : Nat} (h : ∀ p, p < k → gt1 k fb s p = true) : gt k fb s = true := List.all_eq_true.mpr (fun p hp => h p (List.mem_range.mp hp))
theorem gt_f {k : Nat} {fb : Nat → Nat} {s p : Nat} (hp : p < k) (h : gt1 k fb s p = false) : gt k fb s = false := by
  cases hg : gt k fb s with
  | false => rfl
  | true => rw [List.all_eq_true.mp hg p (List.mem_range.mpr hp)] at h; cases h
theorem s_X3_goTogether (h : letIs d k fb) {s : Nat} (hs : s < 64) : mSpecI l W mX3_goTogether (dep + 1) [.ref (xad W 1), .int (nI s)] d (fun r d' => r = (if gt k fb s then 1 else 0) ∧ d' = d) := by
  have hk := h.2.2.2.1
  refine m_spec RX3 [some (.ref (xad W 1)), some (.int (nI s)), none] rfl (by decide +kernel) rfl rfl (fun K hR => ?_)
  have loop : ∀ i, i ≤ k → (∀ p, p < i → gt1 k fb s p = true) → mG W K cX3_goTogether RX3 (dep + 1) d 2 [some (.ref (xad W 1)), some (.int (nI s)), some (.int (nI i))] [] := x_up _ (fun i hi ih hg => by
    refine m_iload_n dX3_goTogether_2 rfl ?_
    refine m_aload_n dX3_goTogether_3 rfl ?_
    refine m_get fl_X3_15 (by decide) rfl rfl dX3_goTogether_4 ?_
    refine m_eqi (h.1) ?_
    first | refine m_icmp_geN 40 dX3_goTogether_7 (by decide) (by omega) (by omega) (fun c7 => ?_) (fun c7 => ?_) | refine m_icmp_ge 40 dX3_goTogether_7 (by decide) (fun c7 => ?_) (fun c7 => ?_)
    · refine m_iconstN 1 dX3_goTogether_40 (by decide) ?_
      exact m_iret (ty := .boolean) hR dX3_goTogether_41 (⟨by rw [gt_t (fun p hp => hg p (by omega))]; rfl, rfl⟩)
    · refine m_iload_n dX3_goTogether_10 rfl ?_
      refine m_iload_n dX3_goTogether_11 rfl ?_
      refine m_ishr dX3_goTogether_12 ?_
      refine m_iconstN 1 dX3_goTogether_13 (by decide) ?_
      refine m_iand dX3_goTogether_14 ?_
      refine m_eqi (nI_bit (by omega) (by omega)) ?_
      refine m_iconstN 1 dX3_goTogether_15 (by decide) ?_
      have hb : (s.testBit i).toNat < 2 := Bool.toNat_lt _
      have hb2 : s &&& bw k fb i ≤ s := Nat.and_le_left
      have hb3 : 2 ^ i ≤ 2 ^ 6 := Nat.pow_le_pow_right (by decide) (by omega)
      first | refine m_icmp_neN 34 dX3_goTogether_16 (by decide) (by omega) (by omega) (fun c16 => ?_) (fun c16 => ?_) | refine m_icmp_ne 34 dX3_goTogether_16 (by decide) (fun c16 => ?_) (fun c16 => ?_)
      · first | refine m_iincN 1 dX3_goTogether_34 (by decide) rfl rfl ?_ | refine m_iinc dX3_goTogether_34 rfl rfl ?_
        refine m_goto 2 dX3_goTogether_37 (by decide) ?_
        refine ih (by omega) (fun p hp => ?_)
        by_cases e : p = i
        · subst e; unfold gt1; cases hc : s.testBit p <;> simp_all
        · exact hg p (by omega)
      · refine m_iload_n dX3_goTogether_19 rfl ?_
        refine m_aload_n dX3_goTogether_20 rfl ?_
        refine m_iload_n dX3_goTogether_21 rfl ?_
        refine m_callVIp (s_X3_boundWith h (p := i) (by omega)) cv_X3_49 dX3_goTogether_22 ?_
        refine m_iand dX3_goTogether_25 ?_
        refine m_eqi (nI_and _ _) ?_
        refine m_iconstN 1 dX3_goTogether_26 (by decide) ?_
        refine m_iload_n dX3_goTogether_27 rfl ?_
        refine m_ishl dX3_goTogether_28 ?_
        refine m_eqi (nI_sb1 i (by omega)) ?_
        first | refine m_icmp_eqN 34 dX3_goTogether_29 (by decide) (by omega) (by omega) (fun c29 => ?_) (fun c29 => ?_) | refine m_icmp_eq 34 dX3_goTogether_29 (by decide) (fun c29 => ?_) (fun c29 => ?_)
        · first | refine m_iincN 1 dX3_goTogether_34 (by decide) rfl rfl ?_ | refine m_iinc dX3_goTogether_34 rfl rfl ?_
          refine m_goto 2 dX3_goTogether_37 (by decide) ?_
          refine ih (by omega) (fun p hp => ?_)
          by_cases e : p = i
          · subst e; unfold gt1; cases hc : s.testBit p <;> simp_all
          · exact hg p (by omega)
        · refine m_iconstN 0 dX3_goTogether_32 (by decide) ?_
          exact m_iret (ty := .boolean) hR dX3_goTogether_33 (⟨by rw [gt_f (p := i) (by omega) (by unfold gt1; cases hc : s.testBit i <;> simp_all)]; rfl, rfl⟩)
    )
  refine m_iconstN 0 dX3_goTogether_0 (by decide) ?_
  refine m_istore_n dX3_goTogether_1 (Nat.le_of_ble_eq_true rfl) rfl ?_
  exact loop 0 (Nat.zero_le _) (fun p hp => by omega)
/-- how many sets of n letters go together -/
def togs (k : Nat) (fb : Nat → Nat) (n i : Nat) : Nat := ((List.range i).filter (fun s => decide (pop s = n) && gt k fb s)).length
theorem togs_s (k : Nat) (fb : Nat → Nat) (n i : Nat) : togs k fb n (i + 1) = togs k fb n i + (if pop i = n ∧ gt k fb i = true then 1 else 0) := by
  unfold togs
  rw [List.range_succ, List.filter_append, List.length_append]
  congr 1
  by_cases h : pop i = n ∧ gt k fb i = true
  · simp [h]
  · rw [if_neg h]
    by_cases h1 : pop i = n
    · have : gt k fb i = false := by cases hg : gt k fb i <;> simp_all
      simp [this]
    · simp [h1]
theorem togs_le (k : Nat) (fb : Nat → Nat) (n i : Nat) : togs k fb n i ≤ i := by
  unfold togs
  exact Nat.le_trans (List.length_filter_le _ _) (by simp)
theorem s_X3_setsTogether (h : letIs d k fb) {n : Nat} (hn : n < 2 ^ 31) : mSpecI l W mX3_setsTogether (dep + 2) [.ref (xad W 1), .int (nI n)] d (fun r d' => r = nI (togs k fb n (2 ^ k)) ∧ d' = d) := by
  have hk := h.2.2.2.1
  have h2 : 2 ^ k ≤ 2 ^ 6 := Nat.pow_le_pow_right (by decide) hk
  have h20 := Nat.two_pow_pos k
  refine m_spec RX3 [some (.ref (xad W 1)), some (.int (nI n)), none, none, none] rfl (by decide +kernel) rfl rfl (fun K hR => ?_)
  have loop : ∀ i, i ≤ 2 ^ k → mG W K cX3_setsTogether RX3 (dep + 2) d 10 [some (.ref (xad W 1)), some (.int (nI n)), some (.int (nI (togs k fb n i))), some (.int (nI (2 ^ k - 1))), some (.int (nI i))] [] := x_up _ (fun i hi ih => by
    refine m_iload dX3_setsTogether_10 rfl ?_
    refine m_iload_n dX3_setsTogether_12 rfl ?_
    first | refine m_icmp_gtN 43 dX3_setsTogether_13 (by decide) (by omega) (by omega) (fun c13 => ?_) (fun c13 => ?_) | refine m_icmp_gt 43 dX3_setsTogether_13 (by decide) (fun c13 => ?_) (fun c13 => ?_)
    · refine m_iload_n dX3_setsTogether_43 rfl ?_
      have e6 : i = 2 ^ k := by omega
      subst e6
      exact m_iret (ty := .int) hR dX3_setsTogether_44 (⟨rfl, rfl⟩)
    · refine m_iload dX3_setsTogether_16 rfl ?_
      refine m_callSIp (s_J6_bitCount (s := i) (by omega)) cs_X3_37 dX3_setsTogether_18 ?_
      refine m_iload_n dX3_setsTogether_21 rfl ?_
      have hp := pop_le i
      first | refine m_icmp_neN 37 dX3_setsTogether_22 (by decide) (by omega) (by omega) (fun c22 => ?_) (fun c22 => ?_) | refine m_icmp_ne 37 dX3_setsTogether_22 (by decide) (fun c22 => ?_) (fun c22 => ?_)
      · first | refine m_iincN 1 dX3_setsTogether_37 (by decide) rfl rfl ?_ | refine m_iinc dX3_setsTogether_37 rfl rfl ?_
        refine m_goto 10 dX3_setsTogether_40 (by decide) ?_
        have e := ih (by omega)
        rw [togs_s, if_neg (fun z => c22 z.1)] at e
        exact e
      · refine m_aload_n dX3_setsTogether_25 rfl ?_
        refine m_iload dX3_setsTogether_26 rfl ?_
        refine m_callVIp (s_X3_goTogether h (s := i) (by omega)) cv_X3_46 dX3_setsTogether_28 ?_
        refine m_if_eq 37 dX3_setsTogether_31 (by decide) (fun c31 => ?_) (fun c31 => ?_)
        · first | refine m_iincN 1 dX3_setsTogether_37 (by decide) rfl rfl ?_ | refine m_iinc dX3_setsTogether_37 rfl rfl ?_
          refine m_goto 10 dX3_setsTogether_40 (by decide) ?_
          have e := ih (by omega)
          rw [togs_s, if_neg (fun z => by simp [z.2] at c31)] at e
          exact e
        · first | refine m_iincN 1 dX3_setsTogether_34 (by decide) rfl rfl ?_ | refine m_iinc dX3_setsTogether_34 rfl rfl ?_
          first | refine m_iincN 1 dX3_setsTogether_37 (by decide) rfl rfl ?_ | refine m_iinc dX3_setsTogether_37 rfl rfl ?_
          refine m_goto 10 dX3_setsTogether_40 (by decide) ?_
          have e := ih (by omega)
          rw [togs_s, if_pos ⟨Decidable.not_not.mp c22, by cases hg : gt k fb i <;> simp_all⟩] at e
          exact e
    )
  refine m_iconstN 0 dX3_setsTogether_0 (by decide) ?_
  refine m_istore_n dX3_setsTogether_1 (Nat.le_of_ble_eq_true rfl) rfl ?_
  refine m_aload_n dX3_setsTogether_2 rfl ?_
  refine m_callVIp (s_X3_allBits h) cv_X3_42 dX3_setsTogether_3 ?_
  refine m_istore_n dX3_setsTogether_6 (Nat.le_of_ble_eq_true rfl) rfl ?_
  refine m_iconstN 0 dX3_setsTogether_7 (by decide) ?_
  refine m_istore dX3_setsTogether_8 (Nat.le_of_ble_eq_true rfl) rfl ?_
  exact loop 0 (Nat.zero_le _)
end LET
