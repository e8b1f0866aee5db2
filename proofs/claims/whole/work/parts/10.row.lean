/-! class Row -/
section ROW
variable {l : Launch} {W : xW} {dep : Nat} {d : xD} {j : Nat} {xs : List Nat}
theorem s_X9_length (hj : j < 13) (h : rowIs d j xs) : mSpecI l W mX9_length dep [.ref (xad W (j + 4))] d (fun r d' => r = nI xs.length ∧ d' = d) := by
  refine m_spec RX9 [some (.ref (xad W (j + 4)))] rfl (by decide +kernel) rfl rfl (fun K hR => ?_)
  refine m_aload_n dX9_length_0 rfl ?_
  refine m_get fl_X9_15 (by omega) (xcell_row _ _ _ (by omega)) rfl dX9_length_1 ?_
  refine m_eqi (h.2.1) ?_
  exact m_iret (ty := .int) hR dX9_length_4 (⟨rfl, rfl⟩)
theorem s_X9_hasPlace (hj : j < 13) (h : rowIs d j xs) {n : Nat} (hn : n < 2 ^ 31) : mSpecI l W mX9_hasPlace dep [.ref (xad W (j + 4)), .int (nI n)] d (fun r d' => r = (if n < xs.length then 1 else 0) ∧ d' = d) := by
  have h24 := h.1
  refine m_spec RX9 [some (.ref (xad W (j + 4))), some (.int (nI n))] rfl (by decide +kernel) rfl rfl (fun K hR => ?_)
  refine m_iload_n dX9_hasPlace_0 rfl ?_
  refine m_if_ltN 25 dX9_hasPlace_1 (by decide) (by omega) ?_
  refine m_iload_n dX9_hasPlace_4 rfl ?_
  refine m_aload_n dX9_hasPlace_5 rfl ?_
  refine m_get fl_X9_15 (by omega) (xcell_row _ _ _ (by omega)) rfl dX9_hasPlace_6 ?_
  refine m_eqi (h.2.1) ?_
  first | refine m_icmp_geN 25 dX9_hasPlace_9 (by decide) (by omega) (by omega) (fun c9 => ?_) (fun c9 => ?_) | refine m_icmp_ge 25 dX9_hasPlace_9 (by decide) (fun c9 => ?_) (fun c9 => ?_)
  · refine m_iconstN 0 dX9_hasPlace_25 (by decide) ?_
    exact m_iret (ty := .boolean) hR dX9_hasPlace_26 (⟨by rw [if_neg (by omega)]; rfl, rfl⟩)
  · refine m_iload_n dX9_hasPlace_12 rfl ?_
    refine m_aload_n dX9_hasPlace_13 rfl ?_
    refine m_get fl_X9_9 (by omega) (xcell_row _ _ _ (by omega)) rfl dX9_hasPlace_14 ?_
    refine m_alen (by omega) (by first | rfl | exact xcell_arr _ _ _ (by omega) | exact xcell_mv _ _ (by omega) | exact xcell_fo _ _ (by omega) | exact xcell_ne _ _ (by omega)) (by decide) dX9_hasPlace_17 ?_
    first | refine m_icmp_geN 25 dX9_hasPlace_18 (by decide) (by omega) (by omega) (fun c18 => by exfalso; omega) (fun c18 => ?_) | refine m_icmp_ge 25 dX9_hasPlace_18 (by decide) (fun c18 => by exfalso; omega) (fun c18 => ?_)
    refine m_iconstN 1 dX9_hasPlace_21 (by decide) ?_
    refine m_goto 26 dX9_hasPlace_22 (by decide) ?_
    exact m_iret (ty := .boolean) hR dX9_hasPlace_26 (⟨by rw [if_pos (by omega)]; rfl, rfl⟩)
theorem s_X9_hasPlaceM (hj : j < 13) : mSpecI l W mX9_hasPlace dep [.ref (xad W (j + 4)), .int (-1)] d (fun r d' => r = 0 ∧ d' = d) := by
  refine m_spec RX9 [some (.ref (xad W (j + 4))), some (.int (-1))] rfl (by decide +kernel) rfl rfl (fun K hR => ?_)
  refine m_iload_n dX9_hasPlace_0 rfl ?_
  refine m_if_lt 25 dX9_hasPlace_1 (by decide) (fun c1 => ?_) (fun c1 => by exfalso; exact absurd (by decide) c1)
  refine m_iconstN 0 dX9_hasPlace_25 (by decide) ?_
  exact m_iret (ty := .boolean) hR dX9_hasPlace_26 (⟨rfl, rfl⟩)
/-- what at answers -/
def rowAt (xs : List Nat) (n : Nat) : Int32 := if h : n < xs.length then nI xs[n] else -1
theorem s_X9_at (hj : j < 13) (h : rowIs d j xs) {n : Nat} (hn : n < 2 ^ 31) : mSpecI l W mX9_at dep [.ref (xad W (j + 4)), .int (nI n)] d (fun r d' => r = rowAt xs n ∧ d' = d) := by
  have h24 := h.1
  refine m_spec RX9 [some (.ref (xad W (j + 4))), some (.int (nI n))] rfl (by decide +kernel) rfl rfl (fun K hR => ?_)
  refine m_iload_n dX9_at_0 rfl ?_
  refine m_if_ltN 30 dX9_at_1 (by decide) (by omega) ?_
  refine m_iload_n dX9_at_4 rfl ?_
  refine m_aload_n dX9_at_5 rfl ?_
  refine m_get fl_X9_15 (by omega) (xcell_row _ _ _ (by omega)) rfl dX9_at_6 ?_
  refine m_eqi (h.2.1) ?_
  first | refine m_icmp_geN 30 dX9_at_9 (by decide) (by omega) (by omega) (fun c9 => ?_) (fun c9 => ?_) | refine m_icmp_ge 30 dX9_at_9 (by decide) (fun c9 => ?_) (fun c9 => ?_)
  · refine m_iconst (v := -1) dX9_at_30 (by decide) ?_
    exact m_iret (ty := .int) hR dX9_at_31 (⟨by unfold rowAt; rw [dif_neg (by omega)], rfl⟩)
  · refine m_iload_n dX9_at_12 rfl ?_
    refine m_aload_n dX9_at_13 rfl ?_
    refine m_get fl_X9_9 (by omega) (xcell_row _ _ _ (by omega)) rfl dX9_at_14 ?_
    refine m_alen (by omega) (by first | rfl | exact xcell_arr _ _ _ (by omega) | exact xcell_mv _ _ (by omega) | exact xcell_fo _ _ (by omega) | exact xcell_ne _ _ (by omega)) (by decide) dX9_at_17 ?_
    first | refine m_icmp_geN 30 dX9_at_18 (by decide) (by omega) (by omega) (fun c18 => by exfalso; omega) (fun c18 => ?_) | refine m_icmp_ge 30 dX9_at_18 (by decide) (fun c18 => by exfalso; omega) (fun c18 => ?_)
    refine m_aload_n dX9_at_21 rfl ?_
    refine m_get fl_X9_9 (by omega) (xcell_row _ _ _ (by omega)) rfl dX9_at_22 ?_
    refine m_iload_n dX9_at_25 rfl ?_
    refine m_iald (by first | exact ⟨by decide, by decide, fun _ => rfl⟩ | exact isI_arr _ (by omega) | exact isI_mv _ (by omega) | exact isI_ne _ (by omega)) (by omega) dX9_at_26 ?_
    refine m_goto 31 dX9_at_27 (by decide) ?_
    exact m_iret (ty := .int) hR dX9_at_31 (⟨by unfold rowAt; rw [dif_pos (by omega)]; exact h.2.2.1 n (by omega), rfl⟩)
theorem s_X9_atI (hj : j < 13) (h : rowIs d j xs) {n : Nat} (hn : n < xs.length) : mSpecI l W mX9_at dep [.ref (xad W (j + 4)), .int (nI n)] d (fun r d' => r = nI xs[n] ∧ d' = d) :=
  (s_X9_at hj h (by have := h.1; omega)).mono (fun r d' q => ⟨q.1.trans (dif_pos hn), q.2⟩)
theorem s_X9_wipe (hj : j < 13) : mSpecV l W mX9_wipe dep [.ref (xad W (j + 4))] d (fun d' => d' = seI d (j + 4) 1 (nI 0)) := by
  refine m_spec RX9 [some (.ref (xad W (j + 4)))] rfl (by decide +kernel) rfl rfl (fun K hR => ?_)
  refine m_aload_n dX9_wipe_0 rfl ?_
  refine m_iconstN 0 dX9_wipe_1 (by decide) ?_
  refine m_put fl_X9_15 (by omega) (xcell_row _ _ _ (by omega)) (Nat.le_of_ble_eq_true rfl) (xrow_put _ _ _ (by omega)) dX9_wipe_2 ?_
  exact m_vret hR dX9_wipe_5 (rfl)
theorem s_X9_push (hj : j < 13) (h : rowIs d j xs) {x : Nat} (hx : x < 6) (hl : xs.length < 24) : mSpecI l W mX9_push dep [.ref (xad W (j + 4)), .int (nI x)] d (fun r d' => r = 1 ∧ rowIs d' j (xs ++ [x]) ∧ chg [j + 4, j + 17] d d') := by
  refine m_spec RX9 [some (.ref (xad W (j + 4))), some (.int (nI x))] rfl (by decide +kernel) rfl rfl (fun K hR => ?_)
  refine m_aload_n dX9_push_0 rfl ?_
  refine m_get fl_X9_15 (by omega) (xcell_row _ _ _ (by omega)) rfl dX9_push_1 ?_
  refine m_eqi (h.2.1) ?_
  refine m_if_ltN 19 dX9_push_4 (by decide) (by omega) ?_
  refine m_aload_n dX9_push_7 rfl ?_
  refine m_get fl_X9_15 (by omega) (xcell_row _ _ _ (by omega)) rfl dX9_push_8 ?_
  refine m_eqi (h.2.1) ?_
  refine m_aload_n dX9_push_11 rfl ?_
  refine m_get fl_X9_9 (by omega) (xcell_row _ _ _ (by omega)) rfl dX9_push_12 ?_
  refine m_alen (by omega) (by first | rfl | exact xcell_arr _ _ _ (by omega) | exact xcell_mv _ _ (by omega) | exact xcell_fo _ _ (by omega) | exact xcell_ne _ _ (by omega)) (by decide) dX9_push_15 ?_
  first | refine m_icmp_ltN 21 dX9_push_16 (by decide) (by omega) (by omega) (fun c16 => ?_) (fun c16 => by exfalso; omega) | refine m_icmp_lt 21 dX9_push_16 (by decide) (fun c16 => ?_) (fun c16 => by exfalso; omega)
  refine m_aload_n dX9_push_21 rfl ?_
  refine m_get fl_X9_9 (by omega) (xcell_row _ _ _ (by omega)) rfl dX9_push_22 ?_
  refine m_aload_n dX9_push_25 rfl ?_
  refine m_get fl_X9_15 (by omega) (xcell_row _ _ _ (by omega)) rfl dX9_push_26 ?_
  refine m_eqi (h.2.1) ?_
  refine m_iload_n dX9_push_29 rfl ?_
  refine m_iast (by first | exact ⟨by decide, by decide, fun _ => rfl⟩ | exact isI_arr _ (by omega) | exact isI_mv _ (by omega) | exact isI_ne _ (by omega)) (by omega) dX9_push_30 ?_
  refine m_aload_n dX9_push_31 rfl ?_
  refine m_dup dX9_push_32 rfl ?_
  refine m_get fl_X9_15 (by omega) (xcell_row _ _ _ (by omega)) rfl dX9_push_33 ?_
  refine m_eqi (se_e h.2.1 (by omega)) ?_
  refine m_iconstN 1 dX9_push_36 (by decide) ?_
  first | refine m_iaddN dX9_push_37 ?_ | refine m_iadd dX9_push_37 ?_
  refine m_put fl_X9_15 (by omega) (xcell_row _ _ _ (by omega)) (Nat.le_of_ble_eq_true rfl) (xrow_put _ _ _ (by omega)) dX9_push_38 ?_
  refine m_iconstN 1 dX9_push_41 (by decide) ?_
  exact m_iret (ty := .boolean) hR dX9_push_42 (⟨rfl, h.push hx hl (se_s _ _ _ _) (fun i hi => by rw [seI_o _ _ _ _ _ (by omega), se_n _ _ (by omega)]) (by rw [seI_o _ _ _ _ _ (by omega), se_s]), (chg.rf.se (by simp)).se (by simp)⟩)
theorem s_X9_pushF (hj : j < 13) (h : rowIs d j xs) {x : Int32} (hl : xs.length = 24) : mSpecI l W mX9_push dep [.ref (xad W (j + 4)), .int x] d (fun r d' => r = 0 ∧ d' = d) := by
  refine m_spec RX9 [some (.ref (xad W (j + 4))), some (.int x)] rfl (by decide +kernel) rfl rfl (fun K hR => ?_)
  refine m_aload_n dX9_push_0 rfl ?_
  refine m_get fl_X9_15 (by omega) (xcell_row _ _ _ (by omega)) rfl dX9_push_1 ?_
  refine m_eqi (h.2.1) ?_
  refine m_if_ltN 19 dX9_push_4 (by decide) (by omega) ?_
  refine m_aload_n dX9_push_7 rfl ?_
  refine m_get fl_X9_15 (by omega) (xcell_row _ _ _ (by omega)) rfl dX9_push_8 ?_
  refine m_eqi (h.2.1) ?_
  refine m_aload_n dX9_push_11 rfl ?_
  refine m_get fl_X9_9 (by omega) (xcell_row _ _ _ (by omega)) rfl dX9_push_12 ?_
  refine m_alen (by omega) (by first | rfl | exact xcell_arr _ _ _ (by omega) | exact xcell_mv _ _ (by omega) | exact xcell_fo _ _ (by omega) | exact xcell_ne _ _ (by omega)) (by decide) dX9_push_15 ?_
  first | refine m_icmp_ltN 21 dX9_push_16 (by decide) (by omega) (by omega) (fun c16 => by exfalso; omega) (fun c16 => ?_) | refine m_icmp_lt 21 dX9_push_16 (by decide) (fun c16 => by exfalso; omega) (fun c16 => ?_)
  refine m_iconstN 0 dX9_push_19 (by decide) ?_
  exact m_iret (ty := .boolean) hR dX9_push_20 (⟨rfl, rfl⟩)
theorem take_s {α : Type} {xs : List α} {i : Nat} (h : i < xs.length) : xs.take (i + 1) = xs.take i ++ [xs[i]] := by
  rw [List.take_add_one, List.getElem?_eq_getElem h]
  rfl
theorem s_X9_howMany (hj : j < 13) (h : rowIs d j xs) {x : Nat} (hx : x < 2 ^ 31) : mSpecI l W mX9_howMany (dep + 1) [.ref (xad W (j + 4)), .int (nI x)] d (fun r d' => r = nI (xs.count x) ∧ d' = d) := by
  have h24 := h.1
  refine m_spec RX9 [some (.ref (xad W (j + 4))), some (.int (nI x)), none, none] rfl (by decide +kernel) rfl rfl (fun K hR => ?_)
  have loop : ∀ i, i ≤ xs.length → mG W K cX9_howMany RX9 (dep + 1) d 4 [some (.ref (xad W (j + 4))), some (.int (nI x)), some (.int (nI ((xs.take i).count x))), some (.int (nI i))] [] := x_up _ (fun i hi ih => by
    refine m_iload_n dX9_howMany_4 rfl ?_
    refine m_aload_n dX9_howMany_5 rfl ?_
    refine m_get fl_X9_15 (by omega) (xcell_row _ _ _ (by omega)) rfl dX9_howMany_6 ?_
    refine m_eqi (h.2.1) ?_
    first | refine m_icmp_geN 30 dX9_howMany_9 (by decide) (by omega) (by omega) (fun c9 => ?_) (fun c9 => ?_) | refine m_icmp_ge 30 dX9_howMany_9 (by decide) (fun c9 => ?_) (fun c9 => ?_)
    · rw [show xs.take i = xs from List.take_of_length_le (by omega)]
      refine m_iload_n dX9_howMany_30 rfl ?_
      exact m_iret (ty := .int) hR dX9_howMany_31 (⟨rfl, rfl⟩)
    · refine m_aload_n dX9_howMany_12 rfl ?_
      refine m_iload_n dX9_howMany_13 rfl ?_
      refine m_callVIp (s_X9_atI hj h (n := i) (by omega)) cv_X9_19 dX9_howMany_14 ?_
      refine m_iload_n dX9_howMany_17 rfl ?_
      have hb := h.lt (i := i) (by omega)
      first | refine m_icmp_neN 24 dX9_howMany_18 (by decide) (by omega) (by omega) (fun c18 => ?_) (fun c18 => ?_) | refine m_icmp_ne 24 dX9_howMany_18 (by decide) (fun c18 => ?_) (fun c18 => ?_)
      · first | refine m_iincN 1 dX9_howMany_24 (by decide) rfl rfl ?_ | refine m_iinc dX9_howMany_24 rfl rfl ?_
        refine m_goto 4 dX9_howMany_27 (by decide) ?_
        have e := ih (by omega)
        rw [take_s (by omega), List.count_append, List.count_singleton] at e
        rw [if_neg (by simpa using c18)] at e
        exact e
      · first | refine m_iincN 1 dX9_howMany_21 (by decide) rfl rfl ?_ | refine m_iinc dX9_howMany_21 rfl rfl ?_
        first | refine m_iincN 1 dX9_howMany_24 (by decide) rfl rfl ?_ | refine m_iinc dX9_howMany_24 rfl rfl ?_
        refine m_goto 4 dX9_howMany_27 (by decide) ?_
        have e := ih (by omega)
        rw [take_s (by omega), List.count_append, List.count_singleton] at e
        rw [if_pos (by simpa using Decidable.not_not.mp c18)] at e
        exact e
    )
  refine m_iconstN 0 dX9_howMany_0 (by decide) ?_
  refine m_istore_n dX9_howMany_1 (Nat.le_of_ble_eq_true rfl) rfl ?_
  refine m_iconstN 0 dX9_howMany_2 (by decide) ?_
  refine m_istore_n dX9_howMany_3 (Nat.le_of_ble_eq_true rfl) rfl ?_
  exact loop 0 (Nat.zero_le _)
/-- the letters of a row, by bits -/
def bitsOf (xs : List Nat) : Nat := xs.foldl (fun s x => s ||| 1 <<< x) 0
theorem bits_fold (xs : List Nat) : ∀ s q, (xs.foldl (fun s x => s ||| 1 <<< x) s).testBit q = (s.testBit q || decide (q ∈ xs)) := by
  induction xs with
  | nil => intro s q; simp
  | cons x xs ih =>
    intro s q
    rw [List.foldl_cons, ih, Nat.testBit_or, Nat.one_shiftLeft, Nat.testBit_two_pow]
    by_cases e : x = q
    · subst e; simp
    · simp [e, Ne.symm e]
theorem bits_tb (xs : List Nat) (q : Nat) : (bitsOf xs).testBit q = decide (q ∈ xs) := by
  unfold bitsOf
  rw [bits_fold]; simp
theorem bits_lt {xs : List Nat} (h : ∀ x ∈ xs, x < 6) : bitsOf xs < 64 := by
  refine Nat.lt_pow_two_of_testBit (n := 6) _ (fun i hi => ?_)
  rw [bits_tb]
  simp only [decide_eq_false_iff_not]
  exact fun q => by have := h i q; omega
theorem nI_or (a b : Nat) : nI a ||| nI b = nI (a ||| b) := by
  apply Int32.toBitVec_inj.mp
  rw [Int32.toBitVec_or]
  show BitVec.ofNat 32 a ||| BitVec.ofNat 32 b = BitVec.ofNat 32 (a ||| b)
  rw [BitVec.ofNat_or]
theorem nI_and (a b : Nat) : nI a &&& nI b = nI (a &&& b) := by
  apply Int32.toBitVec_inj.mp
  rw [Int32.toBitVec_and]
  show BitVec.ofNat 32 a &&& BitVec.ofNat 32 b = BitVec.ofNat 32 (a &&& b)
  rw [BitVec.ofNat_and]
theorem nI_shl1 : ∀ x, x < 31 → nI 1 <<< (nI x &&& 31) = nI (1 <<< x) := by decide +kernel
theorem s_X9_bits (hj : j < 13) (h : rowIs d j xs) : mSpecI l W mX9_bits (dep + 1) [.ref (xad W (j + 4))] d (fun r d' => r = nI (bitsOf xs) ∧ d' = d) := by
  have h24 := h.1
  refine m_spec RX9 [some (.ref (xad W (j + 4))), none, none] rfl (by decide +kernel) rfl rfl (fun K hR => ?_)
  have loop : ∀ i, i ≤ xs.length → mG W K cX9_bits RX9 (dep + 1) d 4 [some (.ref (xad W (j + 4))), some (.int (nI (bitsOf (xs.take i)))), some (.int (nI i))] [] := x_up _ (fun i hi ih => by
    refine m_iload_n dX9_bits_4 rfl ?_
    refine m_aload_n dX9_bits_5 rfl ?_
    refine m_get fl_X9_15 (by omega) (xcell_row _ _ _ (by omega)) rfl dX9_bits_6 ?_
    refine m_eqi (h.2.1) ?_
    first | refine m_icmp_geN 28 dX9_bits_9 (by decide) (by omega) (by omega) (fun c9 => ?_) (fun c9 => ?_) | refine m_icmp_ge 28 dX9_bits_9 (by decide) (fun c9 => ?_) (fun c9 => ?_)
    · rw [show xs.take i = xs from List.take_of_length_le (by omega)]
      refine m_iload_n dX9_bits_28 rfl ?_
      exact m_iret (ty := .int) hR dX9_bits_29 (⟨rfl, rfl⟩)
    · refine m_iload_n dX9_bits_12 rfl ?_
      refine m_iconstN 1 dX9_bits_13 (by decide) ?_
      refine m_aload_n dX9_bits_14 rfl ?_
      refine m_iload_n dX9_bits_15 rfl ?_
      refine m_callVIp (s_X9_atI hj h (n := i) (by omega)) cv_X9_19 dX9_bits_16 ?_
      have hb := h.lt (i := i) (by omega)
      refine m_ishl dX9_bits_19 ?_
      refine m_eqi (nI_shl1 _ (by omega)) ?_
      refine m_ior dX9_bits_20 ?_
      refine m_eqi (nI_or _ _) ?_
      refine m_istore_n dX9_bits_21 (Nat.le_of_ble_eq_true rfl) rfl ?_
      first | refine m_iincN 1 dX9_bits_22 (by decide) rfl rfl ?_ | refine m_iinc dX9_bits_22 rfl rfl ?_
      refine m_goto 4 dX9_bits_25 (by decide) ?_
      have e := ih (by omega)
      rw [take_s (by omega)] at e
      unfold bitsOf at e ⊢
      rw [List.foldl_append] at e
      exact e
    )
  refine m_iconstN 0 dX9_bits_0 (by decide) ?_
  refine m_istore_n dX9_bits_1 (Nat.le_of_ble_eq_true rfl) rfl ?_
  refine m_iconstN 0 dX9_bits_2 (by decide) ?_
  refine m_istore_n dX9_bits_3 (Nat.le_of_ble_eq_true rfl) rfl ?_
  exact loop 0 (Nat.zero_le _)
theorem s_X9_become {k : Nat} (hj : j < 13) (hk : k < 13) (hne : k ≠ j) (h : rowIs d j xs) : mSpecV l W mX9_become dep [.ref (xad W (k + 4)), .ref (xad W (j + 4))] d (fun d' => rowIs d' k xs ∧ chg [k + 4, k + 17] d d') := by
  have h24 := h.1
  refine m_spec RX9 [some (.ref (xad W (k + 4))), some (.ref (xad W (j + 4))), none] rfl (by decide +kernel) rfl rfl (fun K hR => ?_)
  have loop : ∀ i, i ≤ xs.length → ∀ d1 : xD, rowIs d1 k (xs.take i) → chg [k + 4, k + 17] d d1 → mG W K cX9_become RX9 dep d1 7 [some (.ref (xad W (k + 4))), some (.ref (xad W (j + 4))), some (.int (nI i))] [] := x_up _ (fun i hi ih d1 g1 g2 => by
    have hx : rowIs d1 j xs := h.fr g2 (by simp; omega) (by simp; omega)
    refine m_iload_n dX9_become_7 rfl ?_
    refine m_aload_n dX9_become_8 rfl ?_
    refine m_get fl_X9_15 (by omega) (xcell_row _ _ _ (by omega)) rfl dX9_become_9 ?_
    refine m_eqi (hx.2.1) ?_
    first | refine m_icmp_geN 61 dX9_become_12 (by decide) (by omega) (by omega) (fun c12 => ?_) (fun c12 => ?_) | refine m_icmp_ge 61 dX9_become_12 (by decide) (fun c12 => ?_) (fun c12 => ?_)
    · exact m_vret hR dX9_become_61 (⟨by rw [show xs.take i = xs from List.take_of_length_le (by omega)] at g1; exact g1, g2⟩)
    · refine m_iload_n dX9_become_15 rfl ?_
      refine m_aload_n dX9_become_16 rfl ?_
      refine m_get fl_X9_9 (by omega) (xcell_row _ _ _ (by omega)) rfl dX9_become_17 ?_
      refine m_alen (by omega) (by first | rfl | exact xcell_arr _ _ _ (by omega) | exact xcell_mv _ _ (by omega) | exact xcell_fo _ _ (by omega) | exact xcell_ne _ _ (by omega)) (by decide) dX9_become_20 ?_
      first | refine m_icmp_geN 61 dX9_become_21 (by decide) (by omega) (by omega) (fun c21 => by exfalso; omega) (fun c21 => ?_) | refine m_icmp_ge 61 dX9_become_21 (by decide) (fun c21 => by exfalso; omega) (fun c21 => ?_)
      refine m_iload_n dX9_become_24 rfl ?_
      refine m_aload_n dX9_become_25 rfl ?_
      refine m_get fl_X9_9 (by omega) (xcell_row _ _ _ (by omega)) rfl dX9_become_26 ?_
      refine m_alen (by omega) (by first | rfl | exact xcell_arr _ _ _ (by omega) | exact xcell_mv _ _ (by omega) | exact xcell_fo _ _ (by omega) | exact xcell_ne _ _ (by omega)) (by decide) dX9_become_29 ?_
      first | refine m_icmp_geN 61 dX9_become_30 (by decide) (by omega) (by omega) (fun c30 => by exfalso; omega) (fun c30 => ?_) | refine m_icmp_ge 61 dX9_become_30 (by decide) (fun c30 => by exfalso; omega) (fun c30 => ?_)
      refine m_aload_n dX9_become_33 rfl ?_
      refine m_get fl_X9_9 (by omega) (xcell_row _ _ _ (by omega)) rfl dX9_become_34 ?_
      refine m_iload_n dX9_become_37 rfl ?_
      refine m_aload_n dX9_become_38 rfl ?_
      refine m_get fl_X9_9 (by omega) (xcell_row _ _ _ (by omega)) rfl dX9_become_39 ?_
      refine m_iload_n dX9_become_42 rfl ?_
      refine m_iald (by first | exact ⟨by decide, by decide, fun _ => rfl⟩ | exact isI_arr _ (by omega) | exact isI_mv _ (by omega) | exact isI_ne _ (by omega)) (by omega) dX9_become_43 ?_
      refine m_eqi (hx.2.2.1 i (by omega)) ?_
      refine m_iast (by first | exact ⟨by decide, by decide, fun _ => rfl⟩ | exact isI_arr _ (by omega) | exact isI_mv _ (by omega) | exact isI_ne _ (by omega)) (by omega) dX9_become_44 ?_
      refine m_aload_n dX9_become_45 rfl ?_
      refine m_dup dX9_become_46 rfl ?_
      refine m_get fl_X9_15 (by omega) (xcell_row _ _ _ (by omega)) rfl dX9_become_47 ?_
      refine m_eqi (se_e g1.2.1 (by omega)) ?_
      refine m_iconstN 1 dX9_become_50 (by decide) ?_
      first | refine m_iaddN dX9_become_51 ?_ | refine m_iadd dX9_become_51 ?_
      refine m_put fl_X9_15 (by omega) (xcell_row _ _ _ (by omega)) (Nat.le_of_ble_eq_true rfl) (xrow_put _ _ _ (by omega)) dX9_become_52 ?_
      first | refine m_iincN 1 dX9_become_55 (by decide) rfl rfl ?_ | refine m_iinc dX9_become_55 rfl rfl ?_
      refine m_goto 7 dX9_become_58 (by decide) ?_
      refine ih (by omega) _ ?_ ((g2.se (by simp)).se (by simp))
      rw [take_s (by omega)]
      have el : (xs.take i).length = i := by simp; omega
      exact g1.push (hx.lt (by omega)) (by omega) (by rw [el]; exact se_s _ _ _ _) (fun q hq => by rw [seI_o _ _ _ _ _ (by omega), se_n _ _ (by omega)]) (by rw [el, seI_o _ _ _ _ _ (by omega), se_s])
    )
  refine m_aload_n dX9_become_0 rfl ?_
  refine m_iconstN 0 dX9_become_1 (by decide) ?_
  refine m_put fl_X9_15 (by omega) (xcell_row _ _ _ (by omega)) (Nat.le_of_ble_eq_true rfl) (xrow_put _ _ _ (by omega)) dX9_become_2 ?_
  refine m_iconstN 0 dX9_become_5 (by decide) ?_
  refine m_istore_n dX9_become_6 (Nat.le_of_ble_eq_true rfl) rfl ?_
  exact loop 0 (Nat.zero_le _) _ (rowIs.nil (se_s _ _ _ _)) (chg.rf.se (by simp))
theorem s_X9_append {k : Nat} {ys : List Nat} (hj : j < 13) (hk : k < 13) (hne : k ≠ j) (h : rowIs d j xs) (hy : rowIs d k ys) (hl : ys.length + xs.length ≤ 24) : mSpecI l W mX9_append (dep + 1) [.ref (xad W (k + 4)), .ref (xad W (j + 4))] d (fun r d' => r = 1 ∧ rowIs d' k (ys ++ xs) ∧ chg [k + 4, k + 17] d d') := by
  have h24 := h.1
  refine m_spec RX9 [some (.ref (xad W (k + 4))), some (.ref (xad W (j + 4))), none, none] rfl (by decide +kernel) rfl rfl (fun K hR => ?_)
  have loop : ∀ i, i ≤ xs.length → ∀ d1 : xD, rowIs d1 k (ys ++ xs.take i) → chg [k + 4, k + 17] d d1 → mG W K cX9_append RX9 (dep + 1) d1 23 [some (.ref (xad W (k + 4))), some (.ref (xad W (j + 4))), some (.int (nI xs.length)), some (.int (nI i))] [] := x_up _ (fun i hi ih d1 g1 g2 => by
    have hx : rowIs d1 j xs := h.fr g2 (by simp; omega) (by simp; omega)
    refine m_iload_n dX9_append_23 rfl ?_
    refine m_iload_n dX9_append_24 rfl ?_
    first | refine m_icmp_geN 44 dX9_append_25 (by decide) (by omega) (by omega) (fun c25 => ?_) (fun c25 => ?_) | refine m_icmp_ge 44 dX9_append_25 (by decide) (fun c25 => ?_) (fun c25 => ?_)
    · refine m_iconstN 1 dX9_append_44 (by decide) ?_
      exact m_iret (ty := .boolean) hR dX9_append_45 (⟨rfl, by rw [show xs.take i = xs from List.take_of_length_le (by omega)] at g1; exact g1, g2⟩)
    · refine m_aload_n dX9_append_28 rfl ?_
      refine m_aload_n dX9_append_29 rfl ?_
      refine m_iload_n dX9_append_30 rfl ?_
      refine m_callVIp (s_X9_atI hj hx (n := i) (by omega)) cv_X9_19 dX9_append_31 ?_
      refine m_callVI (s_X9_push hk g1 (hx.lt (i := i) (by omega)) (by simp; omega)) cv_X9_23 dX9_append_34 (fun r34 d34 h34 => ?_)
      refine m_pop dX9_append_37 rfl ?_
      first | refine m_iincN 1 dX9_append_38 (by decide) rfl rfl ?_ | refine m_iinc dX9_append_38 rfl rfl ?_
      refine m_goto 23 dX9_append_41 (by decide) ?_
      refine ih (by omega) _ ?_ (g2.tr h34.2.2)
      rw [take_s (by omega), ← List.append_assoc]
      exact h34.2.1
    )
  refine m_aload_n dX9_append_0 rfl ?_
  refine m_get fl_X9_15 (by omega) (xcell_row _ _ _ (by omega)) rfl dX9_append_1 ?_
  refine m_eqi (h.2.1) ?_
  refine m_istore_n dX9_append_4 (Nat.le_of_ble_eq_true rfl) rfl ?_
  refine m_aload_n dX9_append_5 rfl ?_
  refine m_get fl_X9_15 (by omega) (xcell_row _ _ _ (by omega)) rfl dX9_append_6 ?_
  refine m_eqi (hy.2.1) ?_
  refine m_iload_n dX9_append_9 rfl ?_
  first | refine m_iaddN dX9_append_10 ?_ | refine m_iadd dX9_append_10 ?_
  refine m_aload_n dX9_append_11 rfl ?_
  refine m_get fl_X9_9 (by omega) (xcell_row _ _ _ (by omega)) rfl dX9_append_12 ?_
  refine m_alen (by omega) (by first | rfl | exact xcell_arr _ _ _ (by omega) | exact xcell_mv _ _ (by omega) | exact xcell_fo _ _ (by omega) | exact xcell_ne _ _ (by omega)) (by decide) dX9_append_15 ?_
  first | refine m_icmp_leN 21 dX9_append_16 (by decide) (by omega) (by omega) (fun c16 => ?_) (fun c16 => by exfalso; omega) | refine m_icmp_le 21 dX9_append_16 (by decide) (fun c16 => ?_) (fun c16 => by exfalso; omega)
  refine m_iconstN 0 dX9_append_21 (by decide) ?_
  refine m_istore_n dX9_append_22 (Nat.le_of_ble_eq_true rfl) rfl ?_
  exact loop 0 (Nat.zero_le _) _ (by simpa using hy) chg.rf
theorem s_X9_appendF {k : Nat} {ys : List Nat} (hj : j < 13) (hk : k < 13) (h : rowIs d j xs) (hy : rowIs d k ys) (hl : ¬ ys.length + xs.length ≤ 24) : mSpecI l W mX9_append (dep + 1) [.ref (xad W (k + 4)), .ref (xad W (j + 4))] d (fun r d' => r = 0 ∧ d' = d) := by
  have h24 := h.1
  have h25 := hy.1
  refine m_spec RX9 [some (.ref (xad W (k + 4))), some (.ref (xad W (j + 4))), none, none] rfl (by decide +kernel) rfl rfl (fun K hR => ?_)
  refine m_aload_n dX9_append_0 rfl ?_
  refine m_get fl_X9_15 (by omega) (xcell_row _ _ _ (by omega)) rfl dX9_append_1 ?_
  refine m_eqi (h.2.1) ?_
  refine m_istore_n dX9_append_4 (Nat.le_of_ble_eq_true rfl) rfl ?_
  refine m_aload_n dX9_append_5 rfl ?_
  refine m_get fl_X9_15 (by omega) (xcell_row _ _ _ (by omega)) rfl dX9_append_6 ?_
  refine m_eqi (hy.2.1) ?_
  refine m_iload_n dX9_append_9 rfl ?_
  first | refine m_iaddN dX9_append_10 ?_ | refine m_iadd dX9_append_10 ?_
  refine m_aload_n dX9_append_11 rfl ?_
  refine m_get fl_X9_9 (by omega) (xcell_row _ _ _ (by omega)) rfl dX9_append_12 ?_
  refine m_alen (by omega) (by first | rfl | exact xcell_arr _ _ _ (by omega) | exact xcell_mv _ _ (by omega) | exact xcell_fo _ _ (by omega) | exact xcell_ne _ _ (by omega)) (by decide) dX9_append_15 ?_
  first | refine m_icmp_leN 21 dX9_append_16 (by decide) (by omega) (by omega) (fun c16 => by exfalso; omega) (fun c16 => ?_) | refine m_icmp_le 21 dX9_append_16 (by decide) (fun c16 => by exfalso; omega) (fun c16 => ?_)
  refine m_iconstN 0 dX9_append_19 (by decide) ?_
  exact m_iret (ty := .boolean) hR dX9_append_20 (⟨rfl, rfl⟩)
theorem rowIs.erase {d' : xD} {n : Nat} (h : rowIs d j xs) (hn : n < xs.length) (h1 : d'.1 (j + 4) 1 = nI (xs.length - 1)) (h2 : ∀ q, q < n → d'.1 (j + 17) q = d.1 (j + 17) q) (h3 : ∀ q, n ≤ q → q + 1 < xs.length → d'.1 (j + 17) q = d.1 (j + 17) (q + 1)) : rowIs d' j (xs.eraseIdx n) := by
  have hlen : (xs.eraseIdx n).length = xs.length - 1 := List.length_eraseIdx_of_lt hn
  refine ⟨by have := h.1; omega, by rw [hlen]; exact h1, fun i hi => ?_, fun x hx => h.2.2.2 x (List.mem_of_mem_eraseIdx hx)⟩
  rw [List.getElem_eraseIdx]
  by_cases e : i < n
  · rw [dif_pos e, h2 i e]; exact h.2.2.1 i (by omega)
  · rw [dif_neg e, h3 i (by omega) (by omega)]; exact h.2.2.1 (i + 1) (by omega)
theorem s_X9_removeAt (hj : j < 13) (h : rowIs d j xs) {n : Nat} (hn : n < xs.length) : mSpecV l W mX9_removeAt (dep + 1) [.ref (xad W (j + 4)), .int (nI n)] d (fun d' => rowIs d' j (xs.eraseIdx n) ∧ chg [j + 4, j + 17] d d') := by
  have h24 := h.1
  refine m_spec RX9 [some (.ref (xad W (j + 4))), some (.int (nI n)), none] rfl (by decide +kernel) rfl rfl (fun K hR => ?_)
  have loop : ∀ i, i ≤ xs.length → n < i → ∀ d1 : xD, chg [j + 17] d d1 → (∀ q, q < n → d1.1 (j + 17) q = d.1 (j + 17) q) → (∀ q, n ≤ q → q + 1 < i → d1.1 (j + 17) q = d.1 (j + 17) (q + 1)) → (∀ q, i ≤ q + 1 → d1.1 (j + 17) q = d.1 (j + 17) q) → mG W K cX9_removeAt RX9 (dep + 1) d1 13 [some (.ref (xad W (j + 4))), some (.int (nI n)), some (.int (nI i))] [] := x_up _ (fun i hi ih hni d1 g1 g2 g3 g4 => by
    have hlen : d1.1 (j + 4) 1 = nI xs.length := by rw [(g1 (j + 4) (by simp)).1]; exact h.2.1
    refine m_iload_n dX9_removeAt_13 rfl ?_
    refine m_aload_n dX9_removeAt_14 rfl ?_
    refine m_get fl_X9_15 (by omega) (xcell_row _ _ _ (by omega)) rfl dX9_removeAt_15 ?_
    refine m_eqi (hlen) ?_
    first | refine m_icmp_geN 50 dX9_removeAt_18 (by decide) (by omega) (by omega) (fun c18 => ?_) (fun c18 => ?_) | refine m_icmp_ge 50 dX9_removeAt_18 (by decide) (fun c18 => ?_) (fun c18 => ?_)
    · refine m_aload_n dX9_removeAt_50 rfl ?_
      refine m_dup dX9_removeAt_51 rfl ?_
      refine m_get fl_X9_15 (by omega) (xcell_row _ _ _ (by omega)) rfl dX9_removeAt_52 ?_
      refine m_eqi (hlen) ?_
      refine m_iconstN 1 dX9_removeAt_55 (by decide) ?_
      first | refine m_isubN dX9_removeAt_56 (by omega) ?_ | refine m_isub dX9_removeAt_56 ?_
      refine m_put fl_X9_15 (by omega) (xcell_row _ _ _ (by omega)) (Nat.le_of_ble_eq_true rfl) (xrow_put _ _ _ (by omega)) dX9_removeAt_57 ?_
      exact m_vret hR dX9_removeAt_60 (⟨h.erase hn (se_s _ _ _ _) (fun q hq => by rw [seI_o _ _ _ _ _ (by omega)]; exact g2 q hq) (fun q h1 h2 => by rw [seI_o _ _ _ _ _ (by omega)]; exact g3 q h1 (by omega)), (g1.mono (by simp)).se (by simp)⟩)
    · refine m_iload_n dX9_removeAt_21 rfl ?_
      refine m_aload_n dX9_removeAt_22 rfl ?_
      refine m_get fl_X9_9 (by omega) (xcell_row _ _ _ (by omega)) rfl dX9_removeAt_23 ?_
      refine m_alen (by omega) (by first | rfl | exact xcell_arr _ _ _ (by omega) | exact xcell_mv _ _ (by omega) | exact xcell_fo _ _ (by omega) | exact xcell_ne _ _ (by omega)) (by decide) dX9_removeAt_26 ?_
      first | refine m_icmp_geN 50 dX9_removeAt_27 (by decide) (by omega) (by omega) (fun c27 => by exfalso; omega) (fun c27 => ?_) | refine m_icmp_ge 50 dX9_removeAt_27 (by decide) (fun c27 => by exfalso; omega) (fun c27 => ?_)
      refine m_aload_n dX9_removeAt_30 rfl ?_
      refine m_get fl_X9_9 (by omega) (xcell_row _ _ _ (by omega)) rfl dX9_removeAt_31 ?_
      refine m_iload_n dX9_removeAt_34 rfl ?_
      refine m_iconstN 1 dX9_removeAt_35 (by decide) ?_
      first | refine m_isubN dX9_removeAt_36 (by omega) ?_ | refine m_isub dX9_removeAt_36 ?_
      refine m_aload_n dX9_removeAt_37 rfl ?_
      refine m_get fl_X9_9 (by omega) (xcell_row _ _ _ (by omega)) rfl dX9_removeAt_38 ?_
      refine m_iload_n dX9_removeAt_41 rfl ?_
      refine m_iald (by first | exact ⟨by decide, by decide, fun _ => rfl⟩ | exact isI_arr _ (by omega) | exact isI_mv _ (by omega) | exact isI_ne _ (by omega)) (by omega) dX9_removeAt_42 ?_
      refine m_iast (by first | exact ⟨by decide, by decide, fun _ => rfl⟩ | exact isI_arr _ (by omega) | exact isI_mv _ (by omega) | exact isI_ne _ (by omega)) (by omega) dX9_removeAt_43 ?_
      first | refine m_iincN 1 dX9_removeAt_44 (by decide) rfl rfl ?_ | refine m_iinc dX9_removeAt_44 rfl rfl ?_
      refine m_goto 13 dX9_removeAt_47 (by decide) ?_
      refine ih (by omega) (by omega) _ (g1.se (by simp)) (fun q hq => ?_) (fun q h1 h2 => ?_) (fun q hq => ?_)
      · rw [se_n _ _ (by omega)]; exact g2 q hq
      · by_cases e : q = i - 1
        · subst e
          rw [se_s, show i - 1 + 1 = i by omega]
          exact g4 i (by omega)
        · rw [se_n _ _ e]; exact g3 q h1 (by omega)
      · rw [se_n _ _ (by omega)]; exact g4 q (by omega)
    )
  refine m_aload_n dX9_removeAt_0 rfl ?_
  refine m_iload_n dX9_removeAt_1 rfl ?_
  refine m_callVIp (s_X9_hasPlace hj h (n := n) (by omega)) cv_X9_27 dX9_removeAt_2 ?_
  rw [if_pos hn]
  refine m_if_ne 9 dX9_removeAt_5 (by decide) (fun c5 => ?_) (fun c5 => by exfalso; exact absurd (by decide) c5)
  refine m_iload_n dX9_removeAt_9 rfl ?_
  refine m_iconstN 1 dX9_removeAt_10 (by decide) ?_
  first | refine m_iaddN dX9_removeAt_11 ?_ | refine m_iadd dX9_removeAt_11 ?_
  refine m_istore_n dX9_removeAt_12 (Nat.le_of_ble_eq_true rfl) rfl ?_
  exact loop (n + 1) (by omega) (by omega) _ chg.rf (fun _ _ => rfl) (fun q h1 h2 => by omega) (fun _ _ => rfl)
theorem s_X9_removeAtM (hj : j < 13) : mSpecV l W mX9_removeAt (dep + 1) [.ref (xad W (j + 4)), .int (-1)] d (fun d' => d' = d) := by
  refine m_spec RX9 [some (.ref (xad W (j + 4))), some (.int (-1)), none] rfl (by decide +kernel) rfl rfl (fun K hR => ?_)
  refine m_aload_n dX9_removeAt_0 rfl ?_
  refine m_iload_n dX9_removeAt_1 rfl ?_
  refine m_callVIp (s_X9_hasPlaceM hj) cv_X9_27 dX9_removeAt_2 ?_
  refine m_if_ne 9 dX9_removeAt_5 (by decide) (fun c5 => by exfalso; exact absurd rfl c5) (fun c5 => ?_)
  exact m_vret hR dX9_removeAt_8 (rfl)
theorem s_X9_turnAbout (hj : j < 13) (h : rowIs d j xs) : mSpecV l W mX9_turnAbout (dep + 1) [.ref (xad W (j + 4))] d (fun d' => rowIs d' j xs.reverse ∧ chg [j + 4, j + 17] d d') := by
  have h24 := h.1
  refine m_spec RX9 [some (.ref (xad W (j + 4))), none, none, none] rfl (by decide +kernel) rfl rfl (fun K hR => ?_)
  have loop : ∀ i, i ≤ xs.length / 2 → ∀ (d1 : xD) (o2 o3 : Option Value), xnl [some (.ref (xad W (j + 4))), some (.int (nI i)), o2, o3] 2 = true → xnl [some (.ref (xad W (j + 4))), some (.int (nI i)), some (.int 0), o3] 3 = true → chg [j + 17] d d1 → (∀ q, q < xs.length → (q < i ∨ xs.length ≤ q + i) → d1.1 (j + 17) q = d.1 (j + 17) (xs.length - 1 - q)) → (∀ q, i ≤ q → q + i < xs.length → d1.1 (j + 17) q = d.1 (j + 17) q) → mG W K cX9_turnAbout RX9 (dep + 1) d1 2 [some (.ref (xad W (j + 4))), some (.int (nI i)), o2, o3] [] := x_up _ (fun i hi ih d1 o2 o3 n2 n3 g1 g2 g3 => by
    have hlen : d1.1 (j + 4) 1 = nI xs.length := by rw [(g1 (j + 4) (by simp)).1]; exact h.2.1
    have hrow : ∃ ys, rowIs d1 j ys ∧ ys.length = xs.length := by
      refine ⟨(List.range xs.length).map (fun q => if q < i ∨ xs.length ≤ q + i then xs.getD (xs.length - 1 - q) 0 else xs.getD q 0), ⟨by simpa using h24, by simpa using hlen, fun q hq => ?_, fun x hx => ?_⟩, by simp⟩
      · have hq : q < xs.length := by simpa using hq
        simp only [List.getElem_map, List.getElem_range]
        by_cases e : q < i ∨ xs.length ≤ q + i
        · rw [if_pos e, g2 q hq e, h.2.2.1 _ (by omega), List.getD_eq_getElem?_getD, List.getElem?_eq_getElem (by omega)]; rfl
        · rw [if_neg e, g3 q (by omega) (by omega), h.2.2.1 _ hq, List.getD_eq_getElem?_getD, List.getElem?_eq_getElem hq]; rfl
      · obtain ⟨q, hq, rfl⟩ := List.mem_map.mp hx
        have hq := List.mem_range.mp hq
        split
        · rw [List.getD_eq_getElem?_getD, List.getElem?_eq_getElem (by omega)]; exact h.lt (by omega)
        · rw [List.getD_eq_getElem?_getD, List.getElem?_eq_getElem hq]; exact h.lt hq
    obtain ⟨ys, hys, hyl⟩ := hrow
    refine m_iload_n dX9_turnAbout_2 rfl ?_
    refine m_aload_n dX9_turnAbout_3 rfl ?_
    refine m_get fl_X9_15 (by omega) (xcell_row _ _ _ (by omega)) rfl dX9_turnAbout_4 ?_
    refine m_eqi (hlen) ?_
    refine m_iconstN 2 dX9_turnAbout_7 (by decide) ?_
    first | refine m_idivN dX9_turnAbout_8 (by omega) (by omega) (by omega) ?_ | refine m_idiv dX9_turnAbout_8 (by decide) ?_
    first | refine m_icmp_geN 69 dX9_turnAbout_9 (by decide) (by omega) (by omega) (fun c9 => ?_) (fun c9 => ?_) | refine m_icmp_ge 69 dX9_turnAbout_9 (by decide) (fun c9 => ?_) (fun c9 => ?_)
    · have hrev : ∀ q (hq : q < xs.reverse.length), d1.1 (j + 17) q = nI xs.reverse[q] := fun q hq => by
        have hq : q < xs.length := by simpa using hq
        rw [List.getElem_reverse]
        by_cases e : q < i ∨ xs.length ≤ q + i
        · rw [g2 q hq e]; exact h.2.2.1 _ (by omega)
        · rw [g3 q (by omega) (by omega), h.2.2.1 q hq]
          have e2 : xs.length - 1 - q = q := by omega
          simp only [e2]
      exact m_vret hR dX9_turnAbout_69 (⟨⟨by simpa using h24, by simpa using hlen, hrev, fun x hx => h.2.2.2 x (by simpa using hx)⟩, g1.mono (by simp)⟩)
    · refine m_aload_n dX9_turnAbout_12 rfl ?_
      refine m_get fl_X9_15 (by omega) (xcell_row _ _ _ (by omega)) rfl dX9_turnAbout_13 ?_
      refine m_eqi (hlen) ?_
      refine m_iconstN 1 dX9_turnAbout_16 (by decide) ?_
      first | refine m_isubN dX9_turnAbout_17 (by omega) ?_ | refine m_isub dX9_turnAbout_17 ?_
      refine m_iload_n dX9_turnAbout_18 rfl ?_
      first | refine m_isubN dX9_turnAbout_19 (by omega) ?_ | refine m_isub dX9_turnAbout_19 ?_
      refine m_istore_n dX9_turnAbout_20 (Nat.le_of_ble_eq_true rfl) n2 ?_
      refine m_aload_n dX9_turnAbout_21 rfl ?_
      refine m_iload_n dX9_turnAbout_22 rfl ?_
      refine m_callVIp (s_X9_hasPlace hj hys (n := i) (by omega)) cv_X9_27 dX9_turnAbout_23 ?_
      rw [if_pos (by omega)]
      refine m_if_eq 63 dX9_turnAbout_26 (by decide) (fun c26 => by exfalso; exact absurd c26 (by decide)) (fun c26 => ?_)
      refine m_aload_n dX9_turnAbout_29 rfl ?_
      refine m_iload_n dX9_turnAbout_30 rfl ?_
      refine m_callVIp (s_X9_hasPlace hj hys (n := xs.length - 1 - i) (by omega)) cv_X9_27 dX9_turnAbout_31 ?_
      rw [if_pos (by omega)]
      refine m_if_eq 63 dX9_turnAbout_34 (by decide) (fun c34 => by exfalso; exact absurd c34 (by decide)) (fun c34 => ?_)
      refine m_aload_n dX9_turnAbout_37 rfl ?_
      refine m_get fl_X9_9 (by omega) (xcell_row _ _ _ (by omega)) rfl dX9_turnAbout_38 ?_
      refine m_iload_n dX9_turnAbout_41 rfl ?_
      refine m_iald (by first | exact ⟨by decide, by decide, fun _ => rfl⟩ | exact isI_arr _ (by omega) | exact isI_mv _ (by omega) | exact isI_ne _ (by omega)) (by omega) dX9_turnAbout_42 ?_
      refine m_eqi (g3 i (by omega) (by omega)) ?_
      refine m_istore_n dX9_turnAbout_43 (Nat.le_of_ble_eq_true rfl) rfl ?_
      refine m_aload_n dX9_turnAbout_44 rfl ?_
      refine m_get fl_X9_9 (by omega) (xcell_row _ _ _ (by omega)) rfl dX9_turnAbout_45 ?_
      refine m_iload_n dX9_turnAbout_48 rfl ?_
      refine m_aload_n dX9_turnAbout_49 rfl ?_
      refine m_get fl_X9_9 (by omega) (xcell_row _ _ _ (by omega)) rfl dX9_turnAbout_50 ?_
      refine m_iload_n dX9_turnAbout_53 rfl ?_
      refine m_iald (by first | exact ⟨by decide, by decide, fun _ => rfl⟩ | exact isI_arr _ (by omega) | exact isI_mv _ (by omega) | exact isI_ne _ (by omega)) (by omega) dX9_turnAbout_54 ?_
      refine m_eqi (g3 (xs.length - 1 - i) (by omega) (by omega)) ?_
      refine m_iast (by first | exact ⟨by decide, by decide, fun _ => rfl⟩ | exact isI_arr _ (by omega) | exact isI_mv _ (by omega) | exact isI_ne _ (by omega)) (by omega) dX9_turnAbout_55 ?_
      refine m_aload_n dX9_turnAbout_56 rfl ?_
      refine m_get fl_X9_9 (by omega) (xcell_row _ _ _ (by omega)) rfl dX9_turnAbout_57 ?_
      refine m_iload_n dX9_turnAbout_60 rfl ?_
      refine m_iload_n dX9_turnAbout_61 rfl ?_
      refine m_iast (by first | exact ⟨by decide, by decide, fun _ => rfl⟩ | exact isI_arr _ (by omega) | exact isI_mv _ (by omega) | exact isI_ne _ (by omega)) (by omega) dX9_turnAbout_62 ?_
      first | refine m_iincN 1 dX9_turnAbout_63 (by decide) rfl rfl ?_ | refine m_iinc dX9_turnAbout_63 rfl rfl ?_
      refine m_goto 2 dX9_turnAbout_66 (by decide) ?_
      refine ih (by omega) _ _ _ rfl rfl ((g1.se (by simp)).se (by simp)) (fun q hq e => ?_) (fun q h1 h2 => ?_)
      · by_cases e1 : q = xs.length - 1 - i
        · subst e1
          rw [se_s, show xs.length - 1 - (xs.length - 1 - i) = i by omega]
        · rw [se_n _ _ e1]
          by_cases e2 : q = i
          · subst e2; rw [se_s]
          · rw [se_n _ _ e2]; exact g2 q hq (by omega)
      · rw [se_n _ _ (by omega), se_n _ _ (by omega)]; exact g3 q (by omega) (by omega)
    )
  refine m_iconstN 0 dX9_turnAbout_0 (by decide) ?_
  refine m_istore_n dX9_turnAbout_1 (Nat.le_of_ble_eq_true rfl) rfl ?_
  exact loop 0 (Nat.zero_le _) d none none rfl rfl chg.rf (fun q h1 h2 => by omega) (fun _ _ _ => rfl)
end ROW
