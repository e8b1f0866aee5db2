/-! the law's model: lines -/
def mLine (bs : List Nat) (d : xD) (a : Nat) (t : Nat × Nat × Nat × Nat) : Prop := d.1 245 a = nI t.1 ∧ (t.1 < 2 → ∃ p, d.1 245 (a + 1) = nI p ∧ p + 1 < bs.length ∧ 97 ≤ bs.getD p 0 ∧ 97 ≤ bs.getD (p + 1) 0 ∧ bs.getD p 0 - 97 = t.2.1 ∧ bs.getD (p + 1) 0 - 97 = t.2.2.1) ∧ (2 ≤ t.1 → d.1 245 (a + 1) = nI t.2.1) ∧ (t.1 = 3 → d.1 245 (a + 2) = nI t.2.2.1 ∧ d.1 245 (a + 3) = nI (t.2.2.2 - t.2.2.1))
theorem ofL_kd {bs : List Nat} {p q kn : Nat} (hpq : p < q) (hq : q ≤ bs.length) (hk : kn ≤ 6) (h : ofL bs p q kn = true) : kdF bs p = 1 := by
  have h1 := of_decide_eq_true h p hpq (Nat.le_refl p)
  rw [kdF_at (by omega)]
  refine kdB_1.mpr ?_
  unfold sB
  rw [decide_eq_true_iff]
  omega
def rdFl : List Nat := [6, 7, 8, 9, 10, 11]
def rdM (bs : List Nat) (R : RdR) (a : Nat) (d : xD) (r : Int32) (d' : xD) : Prop := ((r = 1 ∧ (∃ t, R.1 = some t ∧ mLine bs d' a t) ∧ d'.1 240 6 = nI R.2.2.1 ∧ d'.1 240 11 = nI R.2.2.2) ∨ (r = 0 ∧ R.1 = none ∧ d'.1 240 10 = nI R.2.1)) ∧ chR rdFl a d d'
theorem isN_iff {bs : List Nat} {p : Nat} (hp : p ≤ bs.length) : isN bs p (tkE bs p) = true ↔ kdF bs p = 2 ∧ tkE bs p - p = 1 := by
  have hE := tkE_le hp
  unfold isN
  rw [decide_eq_true_iff]
  constructor
  · rintro ⟨h1, h2⟩
    have hlt : p < bs.length := by omega
    rw [kdF_at hlt]
    exact ⟨kdB_2.mpr h2, h1⟩
  · rintro ⟨h1, h2⟩
    have hlt : p < bs.length := kdF_len (by omega)
    rw [kdF_at hlt] at h1
    exact ⟨h2, kdB_2.mp h1⟩
section MOD
variable {l : Launch} {W : xW} {dep : Nat} {d : xD} {bs : List Nat} {σ : St} {x y z w : Int32} {n n2 n3 k a kn : Nat} {fb : Nat → Nat}
theorem s_X12_fails {p : Nat} (h : d.1 240 7 = nI p) : mSpecI l W mX12_fails dep [.ref (xad W 240)] d (fun r d' => r = 0 ∧ d' = seI d 240 10 (nI p)) := by
  refine m_spec RX12 [some (.ref (xad W 240))] rfl (by decide +kernel) rfl rfl (fun K hR => ?_)
  refine m_aload_n dX12_fails_0 rfl ?_
  refine m_aload_n dX12_fails_1 rfl ?_
  refine m_get fl_X12_95 (by decide) rfl rfl dX12_fails_2 ?_
  refine m_eqi (h) ?_
  refine m_put fl_X12_108 (by decide) rfl (Nat.le_of_ble_eq_true rfl) rfl dX12_fails_5 ?_
  refine m_iconstN 0 dX12_fails_8 (by decide) ?_
  exact m_iret (ty := .boolean) hR dX12_fails_9 (⟨rfl, rfl⟩)
theorem s_X12_word {p : Nat} (h : moTx d bs) (ht : tokI d p (tkE bs p) (kdF bs p)) (hp : p ≤ bs.length) : mSpecL l W mX12_word dep [.ref (xad W 240)] d (fun r d' => r = lN (wdV bs p) ∧ d' = d) := by
  have h160 := h.2.1
  have hE := tkE_le hp
  have hkb : kdF bs p ≤ 4 := by
    unfold kdF
    split
    · exact (kdB_le _).2
    · exact Nat.zero_le _
  refine m_spec RX12 [some (.ref (xad W 240)), none, none, none] rfl (by decide +kernel) rfl rfl (fun K hR => ?_)
  by_cases hk : kdF bs p = 1
  · have hlt : p < bs.length := kdF_len (by omega)
    have hgt := tkE_gt hlt
    by_cases h9 : tkE bs p - p ≤ 9
    · have hv : wdV bs p = num27 (tokD bs p (tkE bs p - p)) := if_pos ⟨hk, h9⟩
      have loop : ∀ i, i ≤ tkE bs p - p → mG W K cX12_word RX12 dep d 4 [some (.ref (xad W 240)), some (.long (lN (num27 (tokD bs p i)))), none, some (.int (nI i))] [] := x_up _ (fun i hi ih => by
        by_cases hin : i < tkE bs p - p
        · have ih2 := ih hin
          rw [tokD_s, num27_s] at ih2
          have hs := tk_all hk (show p ≤ p + i by omega) (by omega)
          unfold sB at hs
          rw [decide_eq_true_iff] at hs
          have hb := h.2.2 (p + i) (by omega)
          refine m_iload_n dX12_word_4 rfl ?_
          refine m_aload_n dX12_word_5 rfl ?_
          refine m_get fl_X12_105 (by decide) rfl rfl dX12_word_6 ?_
          refine m_eqi (ht.2.2.2) ?_
          first | refine m_icmp_geN 62 dX12_word_9 (by decide) (by omega) (by omega) (fun c9 => by exfalso; omega) (fun c9 => ?_) | refine m_icmp_ge 62 dX12_word_9 (by decide) (fun c9 => by exfalso; omega) (fun c9 => ?_)
          refine m_aload_n dX12_word_12 rfl ?_
          refine m_get fl_X12_102 (by decide) rfl rfl dX12_word_13 ?_
          refine m_eqi (ht.2.2.1) ?_
          refine m_iconstN 1 dX12_word_16 (by decide) ?_
          first | refine m_icmp_neN 62 dX12_word_17 (by decide) (by omega) (by omega) (fun c17 => by exfalso; omega) (fun c17 => ?_) | refine m_icmp_ne 62 dX12_word_17 (by decide) (fun c17 => by exfalso; omega) (fun c17 => ?_)
          refine m_aload_n dX12_word_20 rfl ?_
          refine m_get fl_X12_105 (by decide) rfl rfl dX12_word_21 ?_
          refine m_eqi (ht.2.2.2) ?_
          refine m_bipushN 9 dX12_word_24 (by decide) ?_
          first | refine m_icmp_leN 33 dX12_word_26 (by decide) (by omega) (by omega) (fun c26 => ?_) (fun c26 => by exfalso; omega) | refine m_icmp_le 33 dX12_word_26 (by decide) (fun c26 => ?_) (fun c26 => by exfalso; omega)
          refine m_ldc2 ct_X12_111 dX12_word_33 ?_
          refine m_eql (y := lN 27) (by decide +kernel) ?_
          refine m_lload_n dX12_word_36 rfl ?_
          first | refine m_lmulN dX12_word_37 ?_ | refine m_lmul dX12_word_37 ?_
          refine m_aload_n dX12_word_38 rfl ?_
          refine m_get fl_X12_23 (by decide) rfl rfl dX12_word_39 ?_
          refine m_aload_n dX12_word_42 rfl ?_
          refine m_get fl_X12_95 (by decide) rfl rfl dX12_word_43 ?_
          refine m_eqi (ht.2.1) ?_
          refine m_iload_n dX12_word_46 rfl ?_
          first | refine m_iaddN dX12_word_47 ?_ | refine m_iadd dX12_word_47 ?_
          refine m_iald (by first | exact ⟨by decide, by decide, fun _ => rfl⟩ | exact isI_arr _ (by omega) | exact isI_mv _ (by omega) | exact isI_ne _ (by omega)) (by omega) dX12_word_48 ?_
          refine m_eqi (hb.1) ?_
          first | refine m_i2lN dX12_word_49 (by omega) ?_ | refine m_i2l dX12_word_49 ?_
          first | refine m_laddN dX12_word_50 ?_ | refine m_ladd dX12_word_50 ?_
          refine m_ldc2 ct_X12_113 dX12_word_51 ?_
          refine m_eql (y := lN 96) (by decide +kernel) ?_
          first | refine m_lsubN dX12_word_54 (by omega) ?_ | refine m_lsub dX12_word_54 ?_
          refine m_eql ((by rw [show 27 * num27 (tokD bs p i) + bs.getD (p + i) 0 - 96 = 27 * num27 (tokD bs p i) + (bs.getD (p + i) 0 - 96) by omega] : _ = lN (27 * num27 (tokD bs p i) + (bs.getD (p + i) 0 - 96)))) ?_
          refine m_lstore_n dX12_word_55 (Nat.le_of_ble_eq_true rfl) rfl ?_
          first | refine m_iincN 1 dX12_word_56 (by decide) rfl rfl ?_ | refine m_iinc dX12_word_56 rfl rfl ?_
          refine m_goto 4 dX12_word_59 (by decide) ?_
          exact ih2
        · have e6 : i = tkE bs p - p := by omega
          rw [e6]
          refine m_iload_n dX12_word_4 rfl ?_
          refine m_aload_n dX12_word_5 rfl ?_
          refine m_get fl_X12_105 (by decide) rfl rfl dX12_word_6 ?_
          refine m_eqi (ht.2.2.2) ?_
          first | refine m_icmp_geN 62 dX12_word_9 (by decide) (by omega) (by omega) (fun c9 => ?_) (fun c9 => by exfalso; omega) | refine m_icmp_ge 62 dX12_word_9 (by decide) (fun c9 => ?_) (fun c9 => by exfalso; omega)
          refine m_lload_n dX12_word_62 rfl ?_
          exact m_lret hR dX12_word_63 (⟨by rw [hv], rfl⟩)
        )
      refine m_lconstN 0 dX12_word_0 (by decide) ?_
      refine m_lstore_n dX12_word_1 (Nat.le_of_ble_eq_true rfl) rfl ?_
      refine m_iconstN 0 dX12_word_2 (by decide) ?_
      refine m_istore_n dX12_word_3 (Nat.le_of_ble_eq_true rfl) rfl ?_
      exact loop 0 (Nat.zero_le _)
    · have hv : wdV bs p = 0 := if_neg (fun z => h9 z.2)
      have loop : ∀ i, i ≤ tkE bs p - p → mG W K cX12_word RX12 dep d 4 [some (.ref (xad W 240)), some (.long (lN 0)), none, some (.int (nI i))] [] := x_up _ (fun i hi ih => by
        by_cases hin : i < tkE bs p - p
        · skip
          refine m_iload_n dX12_word_4 rfl ?_
          refine m_aload_n dX12_word_5 rfl ?_
          refine m_get fl_X12_105 (by decide) rfl rfl dX12_word_6 ?_
          refine m_eqi (ht.2.2.2) ?_
          first | refine m_icmp_geN 62 dX12_word_9 (by decide) (by omega) (by omega) (fun c9 => by exfalso; omega) (fun c9 => ?_) | refine m_icmp_ge 62 dX12_word_9 (by decide) (fun c9 => by exfalso; omega) (fun c9 => ?_)
          refine m_aload_n dX12_word_12 rfl ?_
          refine m_get fl_X12_102 (by decide) rfl rfl dX12_word_13 ?_
          refine m_eqi (ht.2.2.1) ?_
          refine m_iconstN 1 dX12_word_16 (by decide) ?_
          first | refine m_icmp_neN 62 dX12_word_17 (by decide) (by omega) (by omega) (fun c17 => by exfalso; omega) (fun c17 => ?_) | refine m_icmp_ne 62 dX12_word_17 (by decide) (fun c17 => by exfalso; omega) (fun c17 => ?_)
          refine m_aload_n dX12_word_20 rfl ?_
          refine m_get fl_X12_105 (by decide) rfl rfl dX12_word_21 ?_
          refine m_eqi (ht.2.2.2) ?_
          refine m_bipushN 9 dX12_word_24 (by decide) ?_
          first | refine m_icmp_leN 33 dX12_word_26 (by decide) (by omega) (by omega) (fun c26 => by exfalso; omega) (fun c26 => ?_) | refine m_icmp_le 33 dX12_word_26 (by decide) (fun c26 => by exfalso; omega) (fun c26 => ?_)
          refine m_lconstN 0 dX12_word_29 (by decide) ?_
          refine m_goto 55 dX12_word_30 (by decide) ?_
          refine m_lstore_n dX12_word_55 (Nat.le_of_ble_eq_true rfl) rfl ?_
          first | refine m_iincN 1 dX12_word_56 (by decide) rfl rfl ?_ | refine m_iinc dX12_word_56 rfl rfl ?_
          refine m_goto 4 dX12_word_59 (by decide) ?_
          exact ih hin
        · skip
          refine m_iload_n dX12_word_4 rfl ?_
          refine m_aload_n dX12_word_5 rfl ?_
          refine m_get fl_X12_105 (by decide) rfl rfl dX12_word_6 ?_
          refine m_eqi (ht.2.2.2) ?_
          first | refine m_icmp_geN 62 dX12_word_9 (by decide) (by omega) (by omega) (fun c9 => ?_) (fun c9 => by exfalso; omega) | refine m_icmp_ge 62 dX12_word_9 (by decide) (fun c9 => ?_) (fun c9 => by exfalso; omega)
          refine m_lload_n dX12_word_62 rfl ?_
          exact m_lret hR dX12_word_63 (⟨by rw [hv], rfl⟩)
        )
      refine m_lconstN 0 dX12_word_0 (by decide) ?_
      refine m_lstore_n dX12_word_1 (Nat.le_of_ble_eq_true rfl) rfl ?_
      refine m_iconstN 0 dX12_word_2 (by decide) ?_
      refine m_istore_n dX12_word_3 (Nat.le_of_ble_eq_true rfl) rfl ?_
      exact loop 0 (Nat.zero_le _)
  · have hv : wdV bs p = 0 := if_neg (fun z => hk z.1)
    refine m_lconstN 0 dX12_word_0 (by decide) ?_
    refine m_lstore_n dX12_word_1 (Nat.le_of_ble_eq_true rfl) rfl ?_
    refine m_iconstN 0 dX12_word_2 (by decide) ?_
    refine m_istore_n dX12_word_3 (Nat.le_of_ble_eq_true rfl) rfl ?_
    refine m_iload_n dX12_word_4 rfl ?_
    refine m_aload_n dX12_word_5 rfl ?_
    refine m_get fl_X12_105 (by decide) rfl rfl dX12_word_6 ?_
    refine m_eqi (ht.2.2.2) ?_
    first | refine m_icmp_geN 62 dX12_word_9 (by decide) (by omega) (by omega) (fun c9 => ?_) (fun c9 => ?_) | refine m_icmp_ge 62 dX12_word_9 (by decide) (fun c9 => ?_) (fun c9 => ?_)
    · refine m_lload_n dX12_word_62 rfl ?_
      exact m_lret hR dX12_word_63 (⟨by rw [hv], rfl⟩)
    · refine m_aload_n dX12_word_12 rfl ?_
      refine m_get fl_X12_102 (by decide) rfl rfl dX12_word_13 ?_
      refine m_eqi (ht.2.2.1) ?_
      refine m_iconstN 1 dX12_word_16 (by decide) ?_
      first | refine m_icmp_neN 62 dX12_word_17 (by decide) (by omega) (by omega) (fun c17 => ?_) (fun c17 => by exfalso; omega) | refine m_icmp_ne 62 dX12_word_17 (by decide) (fun c17 => ?_) (fun c17 => by exfalso; omega)
      refine m_lload_n dX12_word_62 rfl ?_
      exact m_lret hR dX12_word_63 (⟨by rw [hv], rfl⟩)
theorem s_X12_isOfLetters {p : Nat} (h : moTx d bs) (ht : tokI d p (tkE bs p) (kdF bs p)) (hp : p ≤ bs.length) (hkn : d.1 240 11 = nI kn) (hk6 : kn ≤ 6) : mSpecI l W mX12_isOfLetters dep [.ref (xad W 240)] d (fun r d' => r = (if kdF bs p = 1 ∧ ofL bs p (tkE bs p) kn = true then 1 else 0) ∧ d' = d) := by
  have h160 := h.2.1
  have hE := tkE_le hp
  have hkb : kdF bs p ≤ 4 := by
    unfold kdF
    split
    · exact (kdB_le _).2
    · exact Nat.zero_le _
  refine m_spec RX12 [some (.ref (xad W 240)), none, none] rfl (by decide +kernel) rfl rfl (fun K hR => ?_)
  by_cases hk : kdF bs p = 1
  · have loop : ∀ i, i ≤ tkE bs p - p → (∀ i', i' < i → bs.getD (p + i') 0 - 97 < kn) → mG W K cX12_isOfLetters RX12 dep d 16 [some (.ref (xad W 240)), some (.int (nI 1)), some (.int (nI i))] [] := x_up _ (fun i hi ih g => by
      by_cases hin : i < tkE bs p - p
      · have hs := tk_all hk (show p ≤ p + i by omega) (by omega)
        unfold sB at hs
        rw [decide_eq_true_iff] at hs
        have hb := h.2.2 (p + i) (by omega)
        refine m_iload_n dX12_isOfLetters_16 rfl ?_
        refine m_aload_n dX12_isOfLetters_17 rfl ?_
        refine m_get fl_X12_105 (by decide) rfl rfl dX12_isOfLetters_18 ?_
        refine m_eqi (ht.2.2.2) ?_
        first | refine m_icmp_geN 61 dX12_isOfLetters_21 (by decide) (by omega) (by omega) (fun c21 => by exfalso; omega) (fun c21 => ?_) | refine m_icmp_ge 61 dX12_isOfLetters_21 (by decide) (fun c21 => by exfalso; omega) (fun c21 => ?_)
        refine m_iload_n dX12_isOfLetters_24 rfl ?_
        first | refine m_if_eqN 61 dX12_isOfLetters_25 (by decide) (by omega) (fun c25 => by exfalso; exact absurd c25 (by decide)) (fun c25 => ?_) | refine m_if_eq 61 dX12_isOfLetters_25 (by decide) (fun c25 => by exfalso; exact absurd c25 (by decide)) (fun c25 => ?_)
        refine m_aload_n dX12_isOfLetters_28 rfl ?_
        refine m_get fl_X12_23 (by decide) rfl rfl dX12_isOfLetters_29 ?_
        refine m_aload_n dX12_isOfLetters_32 rfl ?_
        refine m_get fl_X12_95 (by decide) rfl rfl dX12_isOfLetters_33 ?_
        refine m_eqi (ht.2.1) ?_
        refine m_iload_n dX12_isOfLetters_36 rfl ?_
        first | refine m_iaddN dX12_isOfLetters_37 ?_ | refine m_iadd dX12_isOfLetters_37 ?_
        refine m_iald (by first | exact ⟨by decide, by decide, fun _ => rfl⟩ | exact isI_arr _ (by omega) | exact isI_mv _ (by omega) | exact isI_ne _ (by omega)) (by omega) dX12_isOfLetters_38 ?_
        refine m_eqi (hb.1) ?_
        refine m_bipushN 97 dX12_isOfLetters_39 (by decide) ?_
        first | refine m_isubN dX12_isOfLetters_41 (by omega) ?_ | refine m_isub dX12_isOfLetters_41 ?_
        refine m_aload_n dX12_isOfLetters_42 rfl ?_
        refine m_get fl_X12_122 (by decide) rfl rfl dX12_isOfLetters_43 ?_
        refine m_eqi (hkn) ?_
        first | refine m_icmp_geN 53 dX12_isOfLetters_46 (by decide) (by omega) (by omega) (fun c46 => ?_) (fun c46 => ?_) | refine m_icmp_ge 53 dX12_isOfLetters_46 (by decide) (fun c46 => ?_) (fun c46 => ?_)
        · refine m_iconstN 0 dX12_isOfLetters_53 (by decide) ?_
          refine m_istore_n dX12_isOfLetters_54 (Nat.le_of_ble_eq_true rfl) rfl ?_
          first | refine m_iincN 1 dX12_isOfLetters_55 (by decide) rfl rfl ?_ | refine m_iinc dX12_isOfLetters_55 rfl rfl ?_
          refine m_goto 16 dX12_isOfLetters_58 (by decide) ?_
          refine m_iload_n dX12_isOfLetters_16 rfl ?_
          refine m_aload_n dX12_isOfLetters_17 rfl ?_
          refine m_get fl_X12_105 (by decide) rfl rfl dX12_isOfLetters_18 ?_
          refine m_eqi (ht.2.2.2) ?_
          first | refine m_icmp_geN 61 dX12_isOfLetters_21 (by decide) (by omega) (by omega) (fun c21 => ?_) (fun c21 => ?_) | refine m_icmp_ge 61 dX12_isOfLetters_21 (by decide) (fun c21 => ?_) (fun c21 => ?_)
          · refine m_iload_n dX12_isOfLetters_61 rfl ?_
            exact m_iret (ty := .boolean) hR dX12_isOfLetters_62 (⟨by rw [if_neg (fun z => by have := (of_decide_eq_true z.2 (p + i) (by omega) (by omega)).2; omega)]; rfl, rfl⟩)
          · refine m_iload_n dX12_isOfLetters_24 rfl ?_
            first | refine m_if_eqN 61 dX12_isOfLetters_25 (by decide) (by omega) (fun c25 => ?_) (fun c25 => by exfalso; exact c25 rfl) | refine m_if_eq 61 dX12_isOfLetters_25 (by decide) (fun c25 => ?_) (fun c25 => by exfalso; exact c25 rfl)
            refine m_iload_n dX12_isOfLetters_61 rfl ?_
            exact m_iret (ty := .boolean) hR dX12_isOfLetters_62 (⟨by rw [if_neg (fun z => by have := (of_decide_eq_true z.2 (p + i) (by omega) (by omega)).2; omega)]; rfl, rfl⟩)
        · refine m_iconstN 1 dX12_isOfLetters_49 (by decide) ?_
          refine m_goto 54 dX12_isOfLetters_50 (by decide) ?_
          refine m_istore_n dX12_isOfLetters_54 (Nat.le_of_ble_eq_true rfl) rfl ?_
          first | refine m_iincN 1 dX12_isOfLetters_55 (by decide) rfl rfl ?_ | refine m_iinc dX12_isOfLetters_55 rfl rfl ?_
          refine m_goto 16 dX12_isOfLetters_58 (by decide) ?_
          exact ih hin (fun i' hi' => by
            by_cases e : i' = i
            · subst e; omega
            · exact g i' (by omega))
      · have e6 : i = tkE bs p - p := by omega
        subst e6
        refine m_iload_n dX12_isOfLetters_16 rfl ?_
        refine m_aload_n dX12_isOfLetters_17 rfl ?_
        refine m_get fl_X12_105 (by decide) rfl rfl dX12_isOfLetters_18 ?_
        refine m_eqi (ht.2.2.2) ?_
        first | refine m_icmp_geN 61 dX12_isOfLetters_21 (by decide) (by omega) (by omega) (fun c21 => ?_) (fun c21 => by exfalso; omega) | refine m_icmp_ge 61 dX12_isOfLetters_21 (by decide) (fun c21 => ?_) (fun c21 => by exfalso; omega)
        refine m_iload_n dX12_isOfLetters_61 rfl ?_
        have hof : ofL bs p (tkE bs p) kn = true := decide_eq_true (fun j hj hj2 => by
          have hs := tk_all hk hj2 hj
          unfold sB at hs
          rw [decide_eq_true_iff] at hs
          have hg := g (j - p) (by omega)
          rw [show p + (j - p) = j by omega] at hg
          exact ⟨hs.1, hg⟩)
        exact m_iret (ty := .boolean) hR dX12_isOfLetters_62 (⟨by rw [if_pos ⟨hk, hof⟩]; rfl, rfl⟩)
      )
    refine m_aload_n dX12_isOfLetters_0 rfl ?_
    refine m_get fl_X12_102 (by decide) rfl rfl dX12_isOfLetters_1 ?_
    refine m_eqi (ht.2.2.1) ?_
    refine m_iconstN 1 dX12_isOfLetters_4 (by decide) ?_
    first | refine m_icmp_neN 12 dX12_isOfLetters_5 (by decide) (by omega) (by omega) (fun c5 => by exfalso; omega) (fun c5 => ?_) | refine m_icmp_ne 12 dX12_isOfLetters_5 (by decide) (fun c5 => by exfalso; omega) (fun c5 => ?_)
    refine m_iconstN 1 dX12_isOfLetters_8 (by decide) ?_
    refine m_goto 13 dX12_isOfLetters_9 (by decide) ?_
    refine m_istore_n dX12_isOfLetters_13 (Nat.le_of_ble_eq_true rfl) rfl ?_
    refine m_iconstN 0 dX12_isOfLetters_14 (by decide) ?_
    refine m_istore_n dX12_isOfLetters_15 (Nat.le_of_ble_eq_true rfl) rfl ?_
    exact loop 0 (Nat.zero_le _) (fun i' hi' => absurd hi' (Nat.not_lt_zero i'))
  · skip
    refine m_aload_n dX12_isOfLetters_0 rfl ?_
    refine m_get fl_X12_102 (by decide) rfl rfl dX12_isOfLetters_1 ?_
    refine m_eqi (ht.2.2.1) ?_
    refine m_iconstN 1 dX12_isOfLetters_4 (by decide) ?_
    first | refine m_icmp_neN 12 dX12_isOfLetters_5 (by decide) (by omega) (by omega) (fun c5 => ?_) (fun c5 => by exfalso; omega) | refine m_icmp_ne 12 dX12_isOfLetters_5 (by decide) (fun c5 => ?_) (fun c5 => by exfalso; omega)
    refine m_iconstN 0 dX12_isOfLetters_12 (by decide) ?_
    refine m_istore_n dX12_isOfLetters_13 (Nat.le_of_ble_eq_true rfl) rfl ?_
    refine m_iconstN 0 dX12_isOfLetters_14 (by decide) ?_
    refine m_istore_n dX12_isOfLetters_15 (Nat.le_of_ble_eq_true rfl) rfl ?_
    refine m_iload_n dX12_isOfLetters_16 rfl ?_
    refine m_aload_n dX12_isOfLetters_17 rfl ?_
    refine m_get fl_X12_105 (by decide) rfl rfl dX12_isOfLetters_18 ?_
    refine m_eqi (ht.2.2.2) ?_
    first | refine m_icmp_geN 61 dX12_isOfLetters_21 (by decide) (by omega) (by omega) (fun c21 => ?_) (fun c21 => ?_) | refine m_icmp_ge 61 dX12_isOfLetters_21 (by decide) (fun c21 => ?_) (fun c21 => ?_)
    · refine m_iload_n dX12_isOfLetters_61 rfl ?_
      exact m_iret (ty := .boolean) hR dX12_isOfLetters_62 (⟨by rw [if_neg (fun z => hk z.1)]; rfl, rfl⟩)
    · refine m_iload_n dX12_isOfLetters_24 rfl ?_
      first | refine m_if_eqN 61 dX12_isOfLetters_25 (by decide) (by omega) (fun c25 => ?_) (fun c25 => by exfalso; exact c25 rfl) | refine m_if_eq 61 dX12_isOfLetters_25 (by decide) (fun c25 => ?_) (fun c25 => by exfalso; exact c25 rfl)
      refine m_iload_n dX12_isOfLetters_61 rfl ?_
      exact m_iret (ty := .boolean) hR dX12_isOfLetters_62 (⟨by rw [if_neg (fun z => hk z.1)]; rfl, rfl⟩)
end MOD
