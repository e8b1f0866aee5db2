/-! class Letters: k letters, fb p the letters that are free with p, by bits -/
def fbOk (k : Nat) (fb : Nat → Nat) : Prop := 1 ≤ k ∧ k ≤ 6 ∧ (∀ p, p < 6 → fb p < 2 ^ k) ∧ (∀ p q, p < 6 → q < 6 → (fb p).testBit q = (fb q).testBit p) ∧ ∀ p, p < 6 → (fb p).testBit p = false
def letIs (d : xD) (k : Nat) (fb : Nat → Nat) : Prop := d.1 1 1 = nI k ∧ (∀ p, p < 6 → d.1 2 p = nI (fb p)) ∧ fbOk k fb
theorem letIs.fr {S : List Nat} {d d' : xD} {k : Nat} {fb : Nat → Nat} (h : letIs d k fb) (hc : chg S d d') (h1 : 1 ∉ S) (h2 : 2 ∉ S) : letIs d' k fb :=
  ⟨by rw [(hc 1 h1).1]; exact h.1, fun p hp => by rw [(hc 2 h2).1]; exact h.2.1 p hp, h.2.2⟩
theorem fbOk.lt64 {k : Nat} {fb : Nat → Nat} (h : fbOk k fb) {p : Nat} (hp : p < 6) : fb p < 64 :=
  Nat.lt_of_lt_of_le (h.2.2.1 p hp) (Nat.pow_le_pow_right (by decide) h.2.1)
/-- the letters that are not free with p -/
def bw (k : Nat) (fb : Nat → Nat) (p : Nat) : Nat := (2 ^ k - 1) ^^^ fb p
theorem nI_sh (n : Nat) (h : n < 32) : ((nI n &&& 31).toBitVec.smod 32).toNat = n := (by decide +kernel : ∀ n, n < 32 → ((nI n &&& 31).toBitVec.smod 32).toNat = n) n h
theorem nI_shr {s q : Nat} (hs : s < 2 ^ 31) (hq : q < 32) : nI s >>> (nI q &&& 31) = nI (s / 2 ^ q) := pk_shrN hs _ q (nI_sh q hq)
theorem nI_bit {s q : Nat} (hs : s < 2 ^ 31) (hq : q < 32) : (nI s >>> (nI q &&& 31)) &&& nI 1 = nI (s.testBit q).toNat := by
  rw [nI_shr hs hq, nI_and, Nat.and_one_is_mod, Nat.testBit_eq_decide_div_mod_eq]
  by_cases h : s / 2 ^ q % 2 = 1
  · simp [h]
  · have h0 : s / 2 ^ q % 2 = 0 := by omega
    simp [h0]
theorem nI_all : ∀ k, k < 7 → nI 1 <<< (nI k &&& 31) - nI 1 = nI (2 ^ k - 1) := by decide +kernel
theorem nI_bw : ∀ k, k < 7 → ∀ f, f < 2 ^ k → nI (2 ^ k - 1) &&& (nI f ^^^ -1) = nI ((2 ^ k - 1) ^^^ f) := by decide +kernel
theorem bw_lt {k p : Nat} {fb : Nat → Nat} (h : fbOk k fb) (hp : p < 6) : bw k fb p < 2 ^ k :=
  Nat.xor_lt_two_pow (by have := Nat.two_pow_pos k; omega) (h.2.2.1 p hp)
theorem bw_lt64 {k p : Nat} {fb : Nat → Nat} (h : fbOk k fb) (hp : p < 6) : bw k fb p < 64 :=
  Nat.lt_of_lt_of_le (bw_lt h hp) (Nat.pow_le_pow_right (by decide) h.2.1)
theorem bw_tb {k p q : Nat} {fb : Nat → Nat} (h : fbOk k fb) (hp : p < 6) : (bw k fb p).testBit q = (decide (q < k) && !(fb p).testBit q) := by
  unfold bw
  rw [Nat.testBit_xor, Nat.testBit_two_pow_sub_one]
  by_cases hq : q < k
  · simp [hq]
  · have : (fb p).testBit q = false := Nat.testBit_lt_two_pow (Nat.lt_of_lt_of_le (h.2.2.1 p hp) (Nat.pow_le_pow_right (by decide) (by omega)))
    simp [hq, this]
section LET
variable {l : Launch} {W : xW} {dep : Nat} {d : xD} {k : Nat} {fb : Nat → Nat}
theorem s_X3_size (h : letIs d k fb) : mSpecI l W mX3_size dep [.ref (xad W 1)] d (fun r d' => r = nI k ∧ d' = d) := by
  refine m_spec RX3 [some (.ref (xad W 1))] rfl (by decide +kernel) rfl rfl (fun K hR => ?_)
  refine m_aload_n dX3_size_0 rfl ?_
  refine m_get fl_X3_15 (by decide) rfl rfl dX3_size_1 ?_
  refine m_eqi (h.1) ?_
  exact m_iret (ty := .int) hR dX3_size_4 (⟨rfl, rfl⟩)
theorem s_X3_has (h : letIs d k fb) {n : Nat} (hn : n < 2 ^ 31) : mSpecI l W mX3_has dep [.ref (xad W 1), .int (nI n)] d (fun r d' => r = (if n < k then 1 else 0) ∧ d' = d) := by
  have hk := h.2.2.2.1
  refine m_spec RX3 [some (.ref (xad W 1)), some (.int (nI n))] rfl (by decide +kernel) rfl rfl (fun K hR => ?_)
  refine m_iload_n dX3_has_0 rfl ?_
  refine m_if_ltN 16 dX3_has_1 (by decide) (by omega) ?_
  refine m_iload_n dX3_has_4 rfl ?_
  refine m_aload_n dX3_has_5 rfl ?_
  refine m_get fl_X3_15 (by decide) rfl rfl dX3_has_6 ?_
  refine m_eqi (h.1) ?_
  first | refine m_icmp_geN 16 dX3_has_9 (by decide) (by omega) (by omega) (fun c9 => ?_) (fun c9 => ?_) | refine m_icmp_ge 16 dX3_has_9 (by decide) (fun c9 => ?_) (fun c9 => ?_)
  · refine m_iconstN 0 dX3_has_16 (by decide) ?_
    exact m_iret (ty := .boolean) hR dX3_has_17 (⟨by rw [if_neg (by omega)]; rfl, rfl⟩)
  · refine m_iconstN 1 dX3_has_12 (by decide) ?_
    refine m_goto 17 dX3_has_13 (by decide) ?_
    exact m_iret (ty := .boolean) hR dX3_has_17 (⟨by rw [if_pos (by omega)]; rfl, rfl⟩)
theorem s_X3_hasO (h : letIs d k fb) {x : Int32} (hx : x < 0 ∨ nI k ≤ x) : mSpecI l W mX3_has dep [.ref (xad W 1), .int x] d (fun r d' => r = 0 ∧ d' = d) := by
  refine m_spec RX3 [some (.ref (xad W 1)), some (.int x)] rfl (by decide +kernel) rfl rfl (fun K hR => ?_)
  refine m_iload_n dX3_has_0 rfl ?_
  refine m_if_lt 16 dX3_has_1 (by decide) (fun c1 => ?_) (fun c1 => ?_)
  · refine m_iconstN 0 dX3_has_16 (by decide) ?_
    exact m_iret (ty := .boolean) hR dX3_has_17 (⟨rfl, rfl⟩)
  · refine m_iload_n dX3_has_4 rfl ?_
    refine m_aload_n dX3_has_5 rfl ?_
    refine m_get fl_X3_15 (by decide) rfl rfl dX3_has_6 ?_
    refine m_eqi (h.1) ?_
    refine m_icmp_ge 16 dX3_has_9 (by decide) (fun c9 => ?_) (fun c9 => by exfalso; exact hx.elim c1 c9)
    refine m_iconstN 0 dX3_has_16 (by decide) ?_
    exact m_iret (ty := .boolean) hR dX3_has_17 (⟨rfl, rfl⟩)
theorem s_X3_freeWith (h : letIs d k fb) {p : Nat} (hp : p < 6) : mSpecI l W mX3_freeWith dep [.ref (xad W 1), .int (nI p)] d (fun r d' => r = nI (fb p) ∧ d' = d) := by
  refine m_spec RX3 [some (.ref (xad W 1)), some (.int (nI p))] rfl (by decide +kernel) rfl rfl (fun K hR => ?_)
  refine m_iload_n dX3_freeWith_0 rfl ?_
  refine m_if_ltN 22 dX3_freeWith_1 (by decide) (by omega) ?_
  refine m_iload_n dX3_freeWith_4 rfl ?_
  refine m_aload_n dX3_freeWith_5 rfl ?_
  refine m_get fl_X3_9 (by decide) rfl rfl dX3_freeWith_6 ?_
  refine m_alen (by omega) (by first | rfl | exact xcell_arr _ _ _ (by omega) | exact xcell_mv _ _ (by omega) | exact xcell_fo _ _ (by omega) | exact xcell_ne _ _ (by omega)) (by decide) dX3_freeWith_9 ?_
  first | refine m_icmp_geN 22 dX3_freeWith_10 (by decide) (by omega) (by omega) (fun c10 => by exfalso; omega) (fun c10 => ?_) | refine m_icmp_ge 22 dX3_freeWith_10 (by decide) (fun c10 => by exfalso; omega) (fun c10 => ?_)
  refine m_aload_n dX3_freeWith_13 rfl ?_
  refine m_get fl_X3_9 (by decide) rfl rfl dX3_freeWith_14 ?_
  refine m_iload_n dX3_freeWith_17 rfl ?_
  refine m_iald (by first | exact ⟨by decide, by decide, fun _ => rfl⟩ | exact isI_arr _ (by omega) | exact isI_mv _ (by omega) | exact isI_ne _ (by omega)) (by omega) dX3_freeWith_18 ?_
  refine m_eqi (h.2.1 p hp) ?_
  refine m_goto 23 dX3_freeWith_19 (by decide) ?_
  exact m_iret (ty := .int) hR dX3_freeWith_23 (⟨rfl, rfl⟩)
theorem s_X3_boundWith (h : letIs d k fb) {p : Nat} (hp : p < 6) : mSpecI l W mX3_boundWith dep [.ref (xad W 1), .int (nI p)] d (fun r d' => r = nI (bw k fb p) ∧ d' = d) := by
  have hk := h.2.2.2.1
  refine m_spec RX3 [some (.ref (xad W 1)), some (.int (nI p)), none] rfl (by decide +kernel) rfl rfl (fun K hR => ?_)
  refine m_iconstN 1 dX3_boundWith_0 (by decide) ?_
  refine m_aload_n dX3_boundWith_1 rfl ?_
  refine m_get fl_X3_15 (by decide) rfl rfl dX3_boundWith_2 ?_
  refine m_eqi (h.1) ?_
  refine m_ishl dX3_boundWith_5 ?_
  refine m_iconstN 1 dX3_boundWith_6 (by decide) ?_
  refine m_isub dX3_boundWith_7 ?_
  refine m_eqi (nI_all k (by omega)) ?_
  refine m_istore_n dX3_boundWith_8 (Nat.le_of_ble_eq_true rfl) rfl ?_
  refine m_iload_n dX3_boundWith_9 rfl ?_
  refine m_if_ltN 35 dX3_boundWith_10 (by decide) (by omega) ?_
  refine m_iload_n dX3_boundWith_13 rfl ?_
  refine m_aload_n dX3_boundWith_14 rfl ?_
  refine m_get fl_X3_9 (by decide) rfl rfl dX3_boundWith_15 ?_
  refine m_alen (by omega) (by first | rfl | exact xcell_arr _ _ _ (by omega) | exact xcell_mv _ _ (by omega) | exact xcell_fo _ _ (by omega) | exact xcell_ne _ _ (by omega)) (by decide) dX3_boundWith_18 ?_
  first | refine m_icmp_geN 35 dX3_boundWith_19 (by decide) (by omega) (by omega) (fun c19 => by exfalso; omega) (fun c19 => ?_) | refine m_icmp_ge 35 dX3_boundWith_19 (by decide) (fun c19 => by exfalso; omega) (fun c19 => ?_)
  refine m_iload_n dX3_boundWith_22 rfl ?_
  refine m_aload_n dX3_boundWith_23 rfl ?_
  refine m_get fl_X3_9 (by decide) rfl rfl dX3_boundWith_24 ?_
  refine m_iload_n dX3_boundWith_27 rfl ?_
  refine m_iald (by first | exact ⟨by decide, by decide, fun _ => rfl⟩ | exact isI_arr _ (by omega) | exact isI_mv _ (by omega) | exact isI_ne _ (by omega)) (by omega) dX3_boundWith_28 ?_
  refine m_eqi (h.2.1 p hp) ?_
  refine m_iconst (v := -1) dX3_boundWith_29 (by decide) ?_
  refine m_ixor dX3_boundWith_30 ?_
  refine m_iand dX3_boundWith_31 ?_
  refine m_eqi (nI_bw k (by omega) _ (h.2.2.2.2.1 p hp)) ?_
  refine m_goto 36 dX3_boundWith_32 (by decide) ?_
  exact m_iret (ty := .int) hR dX3_boundWith_36 (⟨rfl, rfl⟩)
theorem s_X3_allBits (h : letIs d k fb) : mSpecI l W mX3_allBits dep [.ref (xad W 1)] d (fun r d' => r = nI (2 ^ k - 1) ∧ d' = d) := by
  have hk := h.2.2.2.1
  refine m_spec RX3 [some (.ref (xad W 1))] rfl (by decide +kernel) rfl rfl (fun K hR => ?_)
  refine m_iconstN 1 dX3_allBits_0 (by decide) ?_
  refine m_aload_n dX3_allBits_1 rfl ?_
  refine m_get fl_X3_15 (by decide) rfl rfl dX3_allBits_2 ?_
  refine m_eqi (h.1) ?_
  refine m_ishl dX3_allBits_5 ?_
  refine m_iconstN 1 dX3_allBits_6 (by decide) ?_
  refine m_isub dX3_allBits_7 ?_
  refine m_eqi (nI_all k (by omega)) ?_
  exact m_iret (ty := .int) hR dX3_allBits_8 (⟨rfl, rfl⟩)
theorem s_X3_areFree (h : letIs d k fb) {p q : Nat} (hp : p < 6) (hq : q < k) : mSpecI l W mX3_areFree (dep + 1) [.ref (xad W 1), .int (nI p), .int (nI q)] d (fun r d' => r = (if (fb p).testBit q then 1 else 0) ∧ d' = d) := by
  have hk := h.2.2.2.1
  have h64 := h.2.2.lt64 hp
  refine m_spec RX3 [some (.ref (xad W 1)), some (.int (nI p)), some (.int (nI q))] rfl (by decide +kernel) rfl rfl (fun K hR => ?_)
  refine m_aload_n dX3_areFree_0 rfl ?_
  refine m_iload_n dX3_areFree_1 rfl ?_
  refine m_callVIp (s_X3_has h (n := q) (by omega)) cv_X3_25 dX3_areFree_2 ?_
  rw [if_pos hq]
  refine m_if_eq 25 dX3_areFree_5 (by decide) (fun c5 => by exfalso; exact absurd c5 (by decide)) (fun c5 => ?_)
  refine m_aload_n dX3_areFree_8 rfl ?_
  refine m_iload_n dX3_areFree_9 rfl ?_
  refine m_callVIp (s_X3_freeWith h (p := p) hp) cv_X3_29 dX3_areFree_10 ?_
  refine m_iload_n dX3_areFree_13 rfl ?_
  refine m_ishr dX3_areFree_14 ?_
  refine m_iconstN 1 dX3_areFree_15 (by decide) ?_
  refine m_iand dX3_areFree_16 ?_
  refine m_eqi (nI_bit (by omega) (by omega)) ?_
  refine m_iconstN 1 dX3_areFree_17 (by decide) ?_
  have hb : ((fb p).testBit q).toNat < 2 := Bool.toNat_lt _
  first | refine m_icmp_neN 25 dX3_areFree_18 (by decide) (by omega) (by omega) (fun c18 => ?_) (fun c18 => ?_) | refine m_icmp_ne 25 dX3_areFree_18 (by decide) (fun c18 => ?_) (fun c18 => ?_)
  · refine m_iconstN 0 dX3_areFree_25 (by decide) ?_
    exact m_iret (ty := .boolean) hR dX3_areFree_26 (⟨by cases hc : (fb p).testBit q <;> simp_all <;> rfl, rfl⟩)
  · refine m_iconstN 1 dX3_areFree_21 (by decide) ?_
    refine m_goto 26 dX3_areFree_22 (by decide) ?_
    exact m_iret (ty := .boolean) hR dX3_areFree_26 (⟨by cases hc : (fb p).testBit q <;> simp_all <;> rfl, rfl⟩)
theorem s_J7_fillI {o n : Nat} (hI : isI W o n) (x : Int32) : mSpecV l W mJ7_fill_53178 dep [.ref (xad W o), .int x] d (fun d' => (∀ q, q < n → d'.1 o q = x) ∧ chg [o] d d') := by
  have hn := hI.2.1
  refine m_spec RJ7 [some (.ref (xad W o)), some (.int x), none, none] rfl (by decide +kernel) rfl rfl (fun K hR => ?_)
  have loop : ∀ i, i ≤ n → ∀ d1 : xD, (∀ q, q < i → d1.1 o q = x) → chg [o] d d1 → mG W K cJ7_fill_53178 RJ7 dep d1 5 [some (.ref (xad W o)), some (.int x), some (.int (nI i)), some (.int (nI n))] [] := x_up _ (fun i hi ih d1 g1 g2 => by
    refine m_iload_n dJ7_fill_53178_5 rfl ?_
    refine m_iload_n dJ7_fill_53178_6 rfl ?_
    first | refine m_icmp_geN 20 dJ7_fill_53178_7 (by decide) (by omega) (by omega) (fun c7 => ?_) (fun c7 => ?_) | refine m_icmp_ge 20 dJ7_fill_53178_7 (by decide) (fun c7 => ?_) (fun c7 => ?_)
    · exact m_vret hR dJ7_fill_53178_20 (⟨fun q hq => g1 q (by omega), g2⟩)
    · refine m_aload_n dJ7_fill_53178_10 rfl ?_
      refine m_iload_n dJ7_fill_53178_11 rfl ?_
      refine m_iload_n dJ7_fill_53178_12 rfl ?_
      refine m_iast hI (by omega) dJ7_fill_53178_13 ?_
      first | refine m_iincN 1 dJ7_fill_53178_14 (by decide) rfl rfl ?_ | refine m_iinc dJ7_fill_53178_14 rfl rfl ?_
      refine m_goto 5 dJ7_fill_53178_17 (by decide) ?_
      refine ih (by omega) _ (fun q hq => ?_) (g2.se (by simp))
      by_cases e : q = i
      · subst e; exact se_s _ _ _ _
      · rw [se_n _ _ e]; exact g1 q (by omega)
    )
  refine m_iconstN 0 dJ7_fill_53178_0 (by decide) ?_
  refine m_istore_n dJ7_fill_53178_1 (Nat.le_of_ble_eq_true rfl) rfl ?_
  refine m_aload_n dJ7_fill_53178_2 rfl ?_
  refine m_alen hI.1 (hI.2.2 d) (by decide) dJ7_fill_53178_3 ?_
  refine m_istore_n dJ7_fill_53178_4 (Nat.le_of_ble_eq_true rfl) rfl ?_
  exact loop 0 (Nat.zero_le _) d (fun q hq => by omega) chg.rf
theorem s_J7_fillL {o n : Nat} (hI : isL W o n) (x : Int64) : mSpecV l W mJ7_fill_d0a16 dep [.ref (xad W o), .long x] d (fun d' => (∀ q, q < n → d'.2 o q = x) ∧ chg [o] d d') := by
  have hn := hI.2.1
  refine m_spec RJ7 [some (.ref (xad W o)), some (.long x), none, none, none] rfl (by decide +kernel) rfl rfl (fun K hR => ?_)
  have loop : ∀ i, i ≤ n → ∀ d1 : xD, (∀ q, q < i → d1.2 o q = x) → chg [o] d d1 → mG W K cJ7_fill_d0a16 RJ7 dep d1 6 [some (.ref (xad W o)), some (.long x), none, some (.int (nI i)), some (.int (nI n))] [] := x_up _ (fun i hi ih d1 g1 g2 => by
    refine m_iload_n dJ7_fill_d0a16_6 rfl ?_
    refine m_iload dJ7_fill_d0a16_7 rfl ?_
    first | refine m_icmp_geN 22 dJ7_fill_d0a16_9 (by decide) (by omega) (by omega) (fun c9 => ?_) (fun c9 => ?_) | refine m_icmp_ge 22 dJ7_fill_d0a16_9 (by decide) (fun c9 => ?_) (fun c9 => ?_)
    · exact m_vret hR dJ7_fill_d0a16_22 (⟨fun q hq => g1 q (by omega), g2⟩)
    · refine m_aload_n dJ7_fill_d0a16_12 rfl ?_
      refine m_iload_n dJ7_fill_d0a16_13 rfl ?_
      refine m_lload_n dJ7_fill_d0a16_14 rfl ?_
      refine m_last hI (by omega) dJ7_fill_d0a16_15 ?_
      first | refine m_iincN 1 dJ7_fill_d0a16_16 (by decide) rfl rfl ?_ | refine m_iinc dJ7_fill_d0a16_16 rfl rfl ?_
      refine m_goto 6 dJ7_fill_d0a16_19 (by decide) ?_
      refine ih (by omega) _ (fun q hq => ?_) (g2.seL (by simp))
      by_cases e : q = i
      · subst e; exact seL_s' _ _ _ _
      · rw [seL_n _ _ e]; exact g1 q (by omega)
    )
  refine m_iconstN 0 dJ7_fill_d0a16_0 (by decide) ?_
  refine m_istore_n dJ7_fill_d0a16_1 (Nat.le_of_ble_eq_true rfl) rfl ?_
  refine m_aload_n dJ7_fill_d0a16_2 rfl ?_
  refine m_alen hI.1 (hI.2.2 d) (by decide) dJ7_fill_d0a16_3 ?_
  refine m_istore dJ7_fill_d0a16_4 (Nat.le_of_ble_eq_true rfl) rfl ?_
  exact loop 0 (Nat.zero_le _) d (fun q hq => by omega) chg.rf
/-- nothing is free any more -/
theorem s_X3_restart {n : Nat} (h1 : 1 ≤ n) (h6 : n ≤ 6) : mSpecV l W mX3_restart (dep + 1) [.ref (xad W 1), .int (nI n)] d (fun d' => letIs d' n (fun _ => 0) ∧ chg [1, 2] d d') := by
  refine m_spec RX3 [some (.ref (xad W 1)), some (.int (nI n))] rfl (by decide +kernel) rfl rfl (fun K hR => ?_)
  refine m_aload_n dX3_restart_0 rfl ?_
  refine m_iload_n dX3_restart_1 rfl ?_
  refine m_put fl_X3_15 (by decide) rfl (Nat.le_of_ble_eq_true rfl) rfl dX3_restart_2 ?_
  refine m_aload_n dX3_restart_5 rfl ?_
  refine m_get fl_X3_9 (by decide) rfl rfl dX3_restart_6 ?_
  refine m_iconstN 0 dX3_restart_9 (by decide) ?_
  refine m_callSV (s_J7_fillI (o := 2) (n := 6) ⟨by decide, by decide, fun _ => rfl⟩ (nI 0)) cs_X3_19 dX3_restart_10 (fun d2 g2 => ?_)
  exact m_vret hR dX3_restart_13 (⟨⟨by rw [(g2.2 1 (by simp)).1]; exact se_s _ _ _ _, g2.1, h1, h6, fun p _ => Nat.two_pow_pos n, fun p q _ _ => by simp, fun p _ => by simp⟩, (chg.rf.se (by simp)).tr (g2.2.mono (by simp))⟩)
/-- a bit set, or not -/
def setb (s q : Nat) (b : Bool) : Nat := if b then s ||| 2 ^ q else s &&& (63 ^^^ 2 ^ q)
theorem nI_sb1 : ∀ q, q < 6 → nI 1 <<< (nI q &&& 31) = nI (2 ^ q) := by decide +kernel
theorem nI_sb0 : ∀ s, s < 64 → ∀ q, q < 6 → nI s &&& (nI (2 ^ q) ^^^ -1) = nI (s &&& (63 ^^^ 2 ^ q)) := by decide +kernel
def setFB (fb : Nat → Nat) (p q : Nat) (b : Bool) : Nat → Nat := fun r => if r = p then setb (fb p) q b else if r = q then setb (fb q) p b else fb r
theorem setb_tb : ∀ s, s < 64 → ∀ q, q < 6 → ∀ b : Bool, ∀ r, r < 6 → (setb s q b).testBit r = (if r = q then b else s.testBit r) := by decide +kernel
theorem setb_lt : ∀ k, k < 7 → ∀ s, s < 2 ^ k → ∀ q, q < k → ∀ b : Bool, setb s q b < 2 ^ k := by decide +kernel
theorem setFB_ok (h : fbOk k fb) {p q : Nat} (hp : p < k) (hq : q < k) (hne : p ≠ q) (b : Bool) : fbOk k (setFB fb p q b) := by
  have h6 := h.2.1
  have tb : ∀ r t, r < 6 → t < 6 → (setFB fb p q b r).testBit t = (if r = p ∧ t = q then b else if r = q ∧ t = p then b else (fb r).testBit t) := by
    intro r t hr ht
    unfold setFB
    by_cases e1 : r = p
    · subst e1
      rw [if_pos rfl, setb_tb _ (h.lt64 hr) q (by omega) b t ht]
      by_cases e2 : t = q
      · simp [e2]
      · simp [e2, hne]
    · rw [if_neg e1]
      by_cases e3 : r = q
      · subst e3
        rw [if_pos rfl, setb_tb _ (h.lt64 hr) p (by omega) b t ht]
        by_cases e2 : t = p
        · simp [e2, e1]
        · simp [e2, e1]
      · rw [if_neg e3]; simp [e1, e3]
  refine ⟨h.1, h.2.1, fun r hr => ?_, fun r t hr ht => ?_, fun r hr => ?_⟩
  · unfold setFB
    split
    · exact setb_lt k (by omega) _ (h.2.2.1 p (by omega)) q hq b
    · split
      · exact setb_lt k (by omega) _ (h.2.2.1 q (by omega)) p hp b
      · exact h.2.2.1 r hr
  · rw [tb r t hr ht, tb t r ht hr, h.2.2.2.1 r t hr ht]
    by_cases e1 : r = p ∧ t = q
    · rw [if_pos e1]
      by_cases e2 : t = p ∧ r = q
      · rw [if_pos e2]
      · rw [if_neg e2, if_pos ⟨e1.2, e1.1⟩]
    · rw [if_neg e1]
      by_cases e2 : r = q ∧ t = p
      · rw [if_pos e2, if_pos ⟨e2.2, e2.1⟩]
      · rw [if_neg e2, if_neg (fun z => e2 ⟨z.2, z.1⟩), if_neg (fun z => e1 ⟨z.2, z.1⟩)]
  · rw [tb r r hr hr, if_neg (fun z => hne (z.1.symm.trans z.2)), if_neg (fun z => hne (z.2.symm.trans z.1))]
    exact h.2.2.2.2 r hr
theorem s_X3_setBit {p q s : Nat} {b : Bool} (hk : d.1 1 1 = nI k) (hk6 : k ≤ 6) (hs : d.1 2 p = nI s) (hs64 : s < 64) (hp : p < k) (hq : q < k) : mSpecV l W mX3_setBit (dep + 1) [.ref (xad W 1), .int (nI p), .int (nI q), .int (if b then 1 else 0)] d (fun d' => d' = seI d 2 p (nI (setb s q b))) := by
  have hhas : ∀ l : Launch, mSpecI l W mX3_has dep [.ref (xad W 1), .int (nI q)] d (fun r d' => r = 1 ∧ d' = d) := fun l => by
    refine m_spec RX3 [some (.ref (xad W 1)), some (.int (nI q))] rfl (by decide +kernel) rfl rfl (fun K hR => ?_)
    refine m_iload_n dX3_has_0 rfl ?_
    refine m_if_ltN 16 dX3_has_1 (by decide) (by omega) ?_
    refine m_iload_n dX3_has_4 rfl ?_
    refine m_aload_n dX3_has_5 rfl ?_
    refine m_get fl_X3_15 (by decide) rfl rfl dX3_has_6 ?_
    refine m_eqi (hk) ?_
    first | refine m_icmp_geN 16 dX3_has_9 (by decide) (by omega) (by omega) (fun c9 => by exfalso; omega) (fun c9 => ?_) | refine m_icmp_ge 16 dX3_has_9 (by decide) (fun c9 => by exfalso; omega) (fun c9 => ?_)
    refine m_iconstN 1 dX3_has_12 (by decide) ?_
    refine m_goto 17 dX3_has_13 (by decide) ?_
    exact m_iret (ty := .boolean) hR dX3_has_17 (⟨rfl, rfl⟩)
  refine m_spec RX3 [some (.ref (xad W 1)), some (.int (nI p)), some (.int (nI q)), some (.int (if b then 1 else 0))] rfl (by decide +kernel) rfl rfl (fun K hR => ?_)
  refine m_aload_n dX3_setBit_0 rfl ?_
  refine m_iload_n dX3_setBit_1 rfl ?_
  refine m_callVIp (hhas K.1.1) cv_X3_25 dX3_setBit_2 ?_
  refine m_if_eq 21 dX3_setBit_5 (by decide) (fun c5 => by exfalso; exact absurd c5 (by decide)) (fun c5 => ?_)
  refine m_iload_n dX3_setBit_8 rfl ?_
  refine m_if_ltN 21 dX3_setBit_9 (by decide) (by omega) ?_
  refine m_iload_n dX3_setBit_12 rfl ?_
  refine m_aload_n dX3_setBit_13 rfl ?_
  refine m_get fl_X3_9 (by decide) rfl rfl dX3_setBit_14 ?_
  refine m_alen (by omega) (by first | rfl | exact xcell_arr _ _ _ (by omega) | exact xcell_mv _ _ (by omega) | exact xcell_fo _ _ (by omega) | exact xcell_ne _ _ (by omega)) (by decide) dX3_setBit_17 ?_
  first | refine m_icmp_ltN 22 dX3_setBit_18 (by decide) (by omega) (by omega) (fun c18 => ?_) (fun c18 => by exfalso; omega) | refine m_icmp_lt 22 dX3_setBit_18 (by decide) (fun c18 => ?_) (fun c18 => by exfalso; omega)
  refine m_aload_n dX3_setBit_22 rfl ?_
  refine m_get fl_X3_9 (by decide) rfl rfl dX3_setBit_23 ?_
  refine m_iload_n dX3_setBit_26 rfl ?_
  refine m_iload_n dX3_setBit_27 rfl ?_
  refine m_if_eq 44 dX3_setBit_28 (by decide) (fun c28 => ?_) (fun c28 => ?_)
  · refine m_aload_n dX3_setBit_44 rfl ?_
    refine m_get fl_X3_9 (by decide) rfl rfl dX3_setBit_45 ?_
    refine m_iload_n dX3_setBit_48 rfl ?_
    refine m_iald (by first | exact ⟨by decide, by decide, fun _ => rfl⟩ | exact isI_arr _ (by omega) | exact isI_mv _ (by omega) | exact isI_ne _ (by omega)) (by omega) dX3_setBit_49 ?_
    refine m_eqi (hs) ?_
    refine m_iconstN 1 dX3_setBit_50 (by decide) ?_
    refine m_iload_n dX3_setBit_51 rfl ?_
    refine m_ishl dX3_setBit_52 ?_
    refine m_eqi (nI_sb1 q (by omega)) ?_
    refine m_iconst (v := -1) dX3_setBit_53 (by decide) ?_
    refine m_ixor dX3_setBit_54 ?_
    refine m_iand dX3_setBit_55 ?_
    refine m_eqi (nI_sb0 s hs64 q (by omega)) ?_
    refine m_iast (by first | exact ⟨by decide, by decide, fun _ => rfl⟩ | exact isI_arr _ (by omega) | exact isI_mv _ (by omega) | exact isI_ne _ (by omega)) (by omega) dX3_setBit_56 ?_
    exact m_vret hR dX3_setBit_57 (by cases b <;> simp_all [setb])
  · refine m_aload_n dX3_setBit_31 rfl ?_
    refine m_get fl_X3_9 (by decide) rfl rfl dX3_setBit_32 ?_
    refine m_iload_n dX3_setBit_35 rfl ?_
    refine m_iald (by first | exact ⟨by decide, by decide, fun _ => rfl⟩ | exact isI_arr _ (by omega) | exact isI_mv _ (by omega) | exact isI_ne _ (by omega)) (by omega) dX3_setBit_36 ?_
    refine m_eqi (hs) ?_
    refine m_iconstN 1 dX3_setBit_37 (by decide) ?_
    refine m_iload_n dX3_setBit_38 rfl ?_
    refine m_ishl dX3_setBit_39 ?_
    refine m_eqi (nI_sb1 q (by omega)) ?_
    refine m_ior dX3_setBit_40 ?_
    refine m_eqi (nI_or _ _) ?_
    refine m_goto 56 dX3_setBit_41 (by decide) ?_
    refine m_iast (by first | exact ⟨by decide, by decide, fun _ => rfl⟩ | exact isI_arr _ (by omega) | exact isI_mv _ (by omega) | exact isI_ne _ (by omega)) (by omega) dX3_setBit_56 ?_
    exact m_vret hR dX3_setBit_57 (by cases b <;> simp_all [setb])
end LET
