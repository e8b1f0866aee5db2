/-! class Row -/
section ROW
variable {l : Launch} {W : xW} {dep : Nat} {d : xD} {j : Nat} {xs : List Nat}
theorem s_X9_length (hj : j < 13) (h : rowIs d j xs) : mSpecI l W mX9_length dep [.ref (xad W (j + 4))] d (fun r d' => r = nI xs.length ∧ d' = d) := by
  refine m_spec RX9 [some (.ref (xad W (j + 4)))] rfl (by decide +kernel) rfl rfl (fun K hR => ?_)
  refine m_aload_n dX9_length_0 rfl ?_
  refine m_get fl_X9_15 (by omega) (xcell_row _ _ _ (by omega)) rfl dX9_length_1 ?_
  refine m_eqi (h.2.1) ?_
  exact m_iret (ty := .int) hR dX9_length_4 (⟨rfl, rfl⟩)
theorem s_X9_hasPlace (hj : j < 13) (h : rowIs d j xs) {n : Nat} (hn : n < 2 ^ 31) : mSpecI l W mX9_hasPlace dep [.ref (xad W (j + 4)), .int (nI n)] d (fun r d' => r = (if n < xs.length then 1 else 0) ∧ d' = d) := by
  have h24 := h.1
  refine m_spec RX9 [some (.ref (xad W (j + 4))), some (.int (nI n))] rfl (by decide +kernel) rfl rfl (fun K hR => ?_)
  refine m_iload_n dX9_hasPlace_0 rfl ?_
  refine m_if_ltN 25 dX9_hasPlace_1 (by decide) (by omega) ?_
  refine m_iload_n dX9_hasPlace_4 rfl ?_
  refine m_aload_n dX9_hasPlace_5 rfl ?_
  refine m_get fl_X9_15 (by omega) (xcell_row _ _ _ (by omega)) rfl dX9_hasPlace_6 ?_
  refine m_eqi (h.2.1) ?_
  first | refine m_icmp_geN 25 dX9_hasPlace_9 (by decide) (by omega) (by omega) (fun c9 => ?_) (fun c9 => ?_) | refine m_icmp_ge 25 dX9_hasPlace_9 (by decide) (fun c9 => ?_) (fun c9 => ?_)
  · refine m_iconstN 0 dX9_hasPlace_25 (by decide) ?_
    exact m_iret (ty := .boolean) hR dX9_hasPlace_26 (⟨by rw [if_neg (by omega)]; rfl, rfl⟩)
  · refine m_iload_n dX9_hasPlace_12 rfl ?_
    refine m_aload_n dX9_hasPlace_13 rfl ?_
    refine m_get fl_X9_9 (by omega) (xcell_row _ _ _ (by omega)) rfl dX9_hasPlace_14 ?_
    refine m_alen (by omega) (by first | rfl | exact xcell_arr _ _ _ (by omega) | exact xcell_mv _ _ (by omega) | exact xcell_fo _ _ (by omega) | exact xcell_ne _ _ (by omega)) (by decide) dX9_hasPlace_17 ?_
    first | refine m_icmp_geN 25 dX9_hasPlace_18 (by decide) (by omega) (by omega) (fun c18 => ?_) (fun c18 => ?_) | refine m_icmp_ge 25 dX9_hasPlace_18 (by decide) (fun c18 => ?_) (fun c18 => ?_)
    · omega
    · refine m_iconstN 1 dX9_hasPlace_21 (by decide) ?_
      refine m_goto 26 dX9_hasPlace_22 (by decide) ?_
      exact m_iret (ty := .boolean) hR dX9_hasPlace_26 (⟨by rw [if_pos (by omega)]; rfl, rfl⟩)
theorem s_X9_hasPlaceM (hj : j < 13) : mSpecI l W mX9_hasPlace dep [.ref (xad W (j + 4)), .int (-1)] d (fun r d' => r = 0 ∧ d' = d) := by
  refine m_spec RX9 [some (.ref (xad W (j + 4))), some (.int (-1))] rfl (by decide +kernel) rfl rfl (fun K hR => ?_)
  refine m_iload_n dX9_hasPlace_0 rfl ?_
  refine m_if_lt 25 dX9_hasPlace_1 (by decide) (fun c1 => ?_) (fun c1 => ?_)
  · refine m_iconstN 0 dX9_hasPlace_25 (by decide) ?_
    exact m_iret (ty := .boolean) hR dX9_hasPlace_26 (⟨rfl, rfl⟩)
  · exact absurd (by decide) c1
/-- what at answers -/
def rowAt (xs : List Nat) (n : Nat) : Int32 := if h : n < xs.length then nI xs[n] else -1
theorem s_X9_at (hj : j < 13) (h : rowIs d j xs) {n : Nat} (hn : n < 2 ^ 31) : mSpecI l W mX9_at dep [.ref (xad W (j + 4)), .int (nI n)] d (fun r d' => r = rowAt xs n ∧ d' = d) := by
  have h24 := h.1
  refine m_spec RX9 [some (.ref (xad W (j + 4))), some (.int (nI n))] rfl (by decide +kernel) rfl rfl (fun K hR => ?_)
  refine m_iload_n dX9_at_0 rfl ?_
  refine m_if_ltN 30 dX9_at_1 (by decide) (by omega) ?_
  refine m_iload_n dX9_at_4 rfl ?_
  refine m_aload_n dX9_at_5 rfl ?_
  refine m_get fl_X9_15 (by omega) (xcell_row _ _ _ (by omega)) rfl dX9_at_6 ?_
  refine m_eqi (h.2.1) ?_
  first | refine m_icmp_geN 30 dX9_at_9 (by decide) (by omega) (by omega) (fun c9 => ?_) (fun c9 => ?_) | refine m_icmp_ge 30 dX9_at_9 (by decide) (fun c9 => ?_) (fun c9 => ?_)
  · refine m_iconst (v := -1) dX9_at_30 (by decide) ?_
    exact m_iret (ty := .int) hR dX9_at_31 (⟨by unfold rowAt; rw [dif_neg (by omega)], rfl⟩)
  · refine m_iload_n dX9_at_12 rfl ?_
    refine m_aload_n dX9_at_13 rfl ?_
    refine m_get fl_X9_9 (by omega) (xcell_row _ _ _ (by omega)) rfl dX9_at_14 ?_
    refine m_alen (by omega) (by first | rfl | exact xcell_arr _ _ _ (by omega) | exact xcell_mv _ _ (by omega) | exact xcell_fo _ _ (by omega) | exact xcell_ne _ _ (by omega)) (by decide) dX9_at_17 ?_
    first | refine m_icmp_geN 30 dX9_at_18 (by decide) (by omega) (by omega) (fun c18 => ?_) (fun c18 => ?_) | refine m_icmp_ge 30 dX9_at_18 (by decide) (fun c18 => ?_) (fun c18 => ?_)
    · omega
    · refine m_aload_n dX9_at_21 rfl ?_
      refine m_get fl_X9_9 (by omega) (xcell_row _ _ _ (by omega)) rfl dX9_at_22 ?_
      refine m_iload_n dX9_at_25 rfl ?_
      refine m_iald (by first | exact ⟨by decide, by decide, fun _ => rfl⟩ | exact isI_arr _ (by omega) | exact isI_mv _ (by omega) | exact isI_ne _ (by omega)) (by omega) dX9_at_26 ?_
      refine m_goto 31 dX9_at_27 (by decide) ?_
      exact m_iret (ty := .int) hR dX9_at_31 (⟨by unfold rowAt; rw [dif_pos (by omega)]; exact h.2.2 n (by omega), rfl⟩)
theorem s_X9_atI (hj : j < 13) (h : rowIs d j xs) {n : Nat} (hn : n < xs.length) : mSpecI l W mX9_at dep [.ref (xad W (j + 4)), .int (nI n)] d (fun r d' => r = nI xs[n] ∧ d' = d) :=
  (s_X9_at hj h (by have := h.1; omega)).mono (fun r d' q => ⟨q.1.trans (dif_pos hn), q.2⟩)
theorem s_X9_wipe (hj : j < 13) : mSpecV l W mX9_wipe dep [.ref (xad W (j + 4))] d (fun d' => d' = seI d (j + 4) 1 (nI 0)) := by
  refine m_spec RX9 [some (.ref (xad W (j + 4)))] rfl (by decide +kernel) rfl rfl (fun K hR => ?_)
  refine m_aload_n dX9_wipe_0 rfl ?_
  refine m_iconstN 0 dX9_wipe_1 (by decide) ?_
  refine m_put fl_X9_15 (by omega) (xcell_row _ _ _ (by omega)) (Nat.le_of_ble_eq_true rfl) (xrow_put _ _ _ (by omega)) dX9_wipe_2 ?_
  exact m_vret hR dX9_wipe_5 (rfl)
theorem s_X9_push (hj : j < 13) (h : rowIs d j xs) {x : Nat} (hl : xs.length < 24) : mSpecI l W mX9_push dep [.ref (xad W (j + 4)), .int (nI x)] d (fun r d' => r = 1 ∧ rowIs d' j (xs ++ [x]) ∧ chg [j + 4, j + 17] d d') := by
  refine m_spec RX9 [some (.ref (xad W (j + 4))), some (.int (nI x))] rfl (by decide +kernel) rfl rfl (fun K hR => ?_)
  refine m_aload_n dX9_push_0 rfl ?_
  refine m_get fl_X9_15 (by omega) (xcell_row _ _ _ (by omega)) rfl dX9_push_1 ?_
  refine m_eqi (h.2.1) ?_
  refine m_if_ltN 19 dX9_push_4 (by decide) (by omega) ?_
  refine m_aload_n dX9_push_7 rfl ?_
  refine m_get fl_X9_15 (by omega) (xcell_row _ _ _ (by omega)) rfl dX9_push_8 ?_
  refine m_eqi (h.2.1) ?_
  refine m_aload_n dX9_push_11 rfl ?_
  refine m_get fl_X9_9 (by omega) (xcell_row _ _ _ (by omega)) rfl dX9_push_12 ?_
  refine m_alen (by omega) (by first | rfl | exact xcell_arr _ _ _ (by omega) | exact xcell_mv _ _ (by omega) | exact xcell_fo _ _ (by omega) | exact xcell_ne _ _ (by omega)) (by decide) dX9_push_15 ?_
  first | refine m_icmp_ltN 21 dX9_push_16 (by decide) (by omega) (by omega) (fun c16 => ?_) (fun c16 => ?_) | refine m_icmp_lt 21 dX9_push_16 (by decide) (fun c16 => ?_) (fun c16 => ?_)
  · refine m_aload_n dX9_push_21 rfl ?_
    refine m_get fl_X9_9 (by omega) (xcell_row _ _ _ (by omega)) rfl dX9_push_22 ?_
    refine m_aload_n dX9_push_25 rfl ?_
    refine m_get fl_X9_15 (by omega) (xcell_row _ _ _ (by omega)) rfl dX9_push_26 ?_
    refine m_eqi (h.2.1) ?_
    refine m_iload_n dX9_push_29 rfl ?_
    refine m_iast (by first | exact ⟨by decide, by decide, fun _ => rfl⟩ | exact isI_arr _ (by omega) | exact isI_mv _ (by omega) | exact isI_ne _ (by omega)) (by omega) dX9_push_30 ?_
    refine m_aload_n dX9_push_31 rfl ?_
    refine m_dup dX9_push_32 rfl ?_
    refine m_get fl_X9_15 (by omega) (xcell_row _ _ _ (by omega)) rfl dX9_push_33 ?_
    refine m_eqi (se_e h.2.1 (by omega)) ?_
    refine m_iconstN 1 dX9_push_36 (by decide) ?_
    first | refine m_iaddN dX9_push_37 ?_ | refine m_iadd dX9_push_37 ?_
    refine m_put fl_X9_15 (by omega) (xcell_row _ _ _ (by omega)) (Nat.le_of_ble_eq_true rfl) (xrow_put _ _ _ (by omega)) dX9_push_38 ?_
    refine m_iconstN 1 dX9_push_41 (by decide) ?_
    exact m_iret (ty := .boolean) hR dX9_push_42 (⟨rfl, h.push hl (se_s _ _ _ _) (fun i hi => by rw [seI_o _ _ _ _ _ (by omega), se_n _ _ (by omega)]) (by rw [seI_o _ _ _ _ _ (by omega), se_s]), (chg.rf.se (by simp)).se (by simp)⟩)
  · omega
theorem s_X9_pushF (hj : j < 13) (h : rowIs d j xs) {x : Int32} (hl : xs.length = 24) : mSpecI l W mX9_push dep [.ref (xad W (j + 4)), .int x] d (fun r d' => r = 0 ∧ d' = d) := by
  refine m_spec RX9 [some (.ref (xad W (j + 4))), some (.int x)] rfl (by decide +kernel) rfl rfl (fun K hR => ?_)
  refine m_aload_n dX9_push_0 rfl ?_
  refine m_get fl_X9_15 (by omega) (xcell_row _ _ _ (by omega)) rfl dX9_push_1 ?_
  refine m_eqi (h.2.1) ?_
  refine m_if_ltN 19 dX9_push_4 (by decide) (by omega) ?_
  refine m_aload_n dX9_push_7 rfl ?_
  refine m_get fl_X9_15 (by omega) (xcell_row _ _ _ (by omega)) rfl dX9_push_8 ?_
  refine m_eqi (h.2.1) ?_
  refine m_aload_n dX9_push_11 rfl ?_
  refine m_get fl_X9_9 (by omega) (xcell_row _ _ _ (by omega)) rfl dX9_push_12 ?_
  refine m_alen (by omega) (by first | rfl | exact xcell_arr _ _ _ (by omega) | exact xcell_mv _ _ (by omega) | exact xcell_fo _ _ (by omega) | exact xcell_ne _ _ (by omega)) (by decide) dX9_push_15 ?_
  first | refine m_icmp_ltN 21 dX9_push_16 (by decide) (by omega) (by omega) (fun c16 => ?_) (fun c16 => ?_) | refine m_icmp_lt 21 dX9_push_16 (by decide) (fun c16 => ?_) (fun c16 => ?_)
  · omega
  · refine m_iconstN 0 dX9_push_19 (by decide) ?_
    exact m_iret (ty := .boolean) hR dX9_push_20 (⟨rfl, rfl⟩)
end ROW
