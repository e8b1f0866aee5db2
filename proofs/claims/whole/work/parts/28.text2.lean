/-! class Text -/
def runE (P : Nat → Bool) (bs : List Nat) (p : Nat) : Nat := p + ((bs.drop p).takeWhile P).length
theorem runE_s {P : Nat → Bool} {bs : List Nat} {p : Nat} (h : p < bs.length) (hP : P (bs.getD p 0) = true) : runE P bs p = runE P bs (p + 1) := by
  unfold runE
  rw [List.drop_eq_getElem_cons h]
  rw [getD_at h] at hP
  rw [List.takeWhile_cons, if_pos hP, List.length_cons]
  omega
theorem runE_e {P : Nat → Bool} {bs : List Nat} {p : Nat} (h : p < bs.length) (hP : P (bs.getD p 0) = false) : runE P bs p = p := by
  unfold runE
  rw [List.drop_eq_getElem_cons h]
  rw [getD_at h] at hP
  rw [List.takeWhile_cons, if_neg (by rw [hP]; decide)]
  rfl
theorem runE_o {P : Nat → Bool} {bs : List Nat} {p : Nat} (h : bs.length ≤ p) : runE P bs p = p := by
  unfold runE
  rw [List.drop_of_length_le h]
  rfl
theorem runE_le (P : Nat → Bool) (bs : List Nat) {p : Nat} (h : p ≤ bs.length) : p ≤ runE P bs p ∧ runE P bs p ≤ bs.length := by
  unfold runE
  have h1 := (List.takeWhile_sublist (l := bs.drop p) P).length_le
  rw [List.length_drop] at h1
  omega
def sB (b : Nat) : Bool := decide (97 ≤ b ∧ b ≤ 122)
def dB (b : Nat) : Bool := decide (48 ≤ b ∧ b ≤ 57)
/-- where the next token begins and where it ends -/
def tkS (bs : List Nat) (p : Nat) : Nat := runE (fun b => decide (b = 32)) bs p
def tkE (bs : List Nat) (q : Nat) : Nat := if q < bs.length then (if sB (bs.getD q 0) then runE sB bs q else if dB (bs.getD q 0) then runE dB bs q else q + 1) else q
theorem tkE_le {bs : List Nat} {q : Nat} (h : q ≤ bs.length) : q ≤ tkE bs q ∧ tkE bs q ≤ bs.length := by
  unfold tkE
  have h1 := runE_le sB bs h
  have h2 := runE_le dB bs h
  split
  · split
    · exact h1
    · split
      · exact h2
      · omega
  · omega
/-- the text holds the bytes bs -/
def txIs (d : xD) (bs : List Nat) : Prop := d.1 30 1 = nI bs.length ∧ bs.length ≤ 160 ∧ ∀ i, i < bs.length → d.1 31 i = nI (bs.getD i 0) ∧ bs.getD i 0 < 256
def tpIs (d : xD) (p q : Nat) : Prop := d.1 30 2 = nI p ∧ d.1 30 3 = nI q
theorem txIs.of {d d' : xD} {bs : List Nat} (h : txIs d bs) (h1 : d'.1 30 1 = d.1 30 1) (h2 : d'.1 31 = d.1 31) : txIs d' bs :=
  ⟨by rw [h1]; exact h.1, h.2.1, fun i hi => by rw [h2]; exact h.2.2 i hi⟩
theorem txIs.fr {S : List Nat} {d d' : xD} {bs : List Nat} (h : txIs d bs) (hc : chg S d d') (h1 : 30 ∉ S) (h2 : 31 ∉ S) : txIs d' bs := h.of (by rw [(hc 30 h1).1]) (hc 31 h2).1
theorem tpIs.fr {S : List Nat} {d d' : xD} {p q : Nat} (h : tpIs d p q) (hc : chg S d d') (h1 : 30 ∉ S) : tpIs d' p q := ⟨by rw [(hc 30 h1).1]; exact h.1, by rw [(hc 30 h1).1]; exact h.2⟩
def bA (bs : List Nat) (i : Nat) : Int32 := if i < bs.length then nI (bs.getD i 0) else -1
section TXT
variable {l : Launch} {W : xW} {dep : Nat} {d : xD} {bs : List Nat} {p q : Nat}
theorem s_X10_size (h : txIs d bs) : mSpecI l W mX10_size dep [.ref (xad W 30)] d (fun r d' => r = nI bs.length ∧ d' = d) := by
  refine m_spec RX10 [some (.ref (xad W 30))] rfl (by decide +kernel) rfl rfl (fun K hR => ?_)
  refine m_aload_n dX10_size_0 rfl ?_
  refine m_get fl_X10_15 (by decide) rfl rfl dX10_size_1 ?_
  refine m_eqi (h.1) ?_
  exact m_iret (ty := .int) hR dX10_size_4 (⟨rfl, rfl⟩)
theorem s_X10_wipe : mSpecV l W mX10_wipe dep [.ref (xad W 30)] d (fun d' => txIs d' [] ∧ chg [30] d d') := by
  refine m_spec RX10 [some (.ref (xad W 30))] rfl (by decide +kernel) rfl rfl (fun K hR => ?_)
  refine m_aload_n dX10_wipe_0 rfl ?_
  refine m_iconstN 0 dX10_wipe_1 (by decide) ?_
  refine m_put fl_X10_15 (by decide) rfl (Nat.le_of_ble_eq_true rfl) rfl dX10_wipe_2 ?_
  exact m_vret hR dX10_wipe_5 (⟨⟨se_s _ _ _ _, Nat.zero_le _, fun i hi => absurd hi (Nat.not_lt_zero i)⟩, chg.rf.se (by simp)⟩)
theorem s_X10_push (h : txIs d bs) (hl : bs.length < 160) {b : Nat} (hb : b < 256) : mSpecV l W mX10_push dep [.ref (xad W 30), .int (nI b)] d (fun d' => txIs d' (bs ++ [b]) ∧ chg [30, 31] d d') := by
  refine m_spec RX10 [some (.ref (xad W 30)), some (.int (nI b))] rfl (by decide +kernel) rfl rfl (fun K hR => ?_)
  refine m_aload_n dX10_push_0 rfl ?_
  refine m_get fl_X10_15 (by decide) rfl rfl dX10_push_1 ?_
  refine m_eqi (h.1) ?_
  refine m_if_ltN 39 dX10_push_4 (by decide) (by omega) ?_
  refine m_aload_n dX10_push_7 rfl ?_
  refine m_get fl_X10_15 (by decide) rfl rfl dX10_push_8 ?_
  refine m_eqi (h.1) ?_
  refine m_aload_n dX10_push_11 rfl ?_
  refine m_get fl_X10_9 (by decide) rfl rfl dX10_push_12 ?_
  refine m_alen (by omega) (by first | rfl | exact xcell_arr _ _ _ (by omega) | exact xcell_mv _ _ (by omega) | exact xcell_fo _ _ (by omega) | exact xcell_ne _ _ (by omega)) (by decide) dX10_push_15 ?_
  first | refine m_icmp_geN 39 dX10_push_16 (by decide) (by omega) (by omega) (fun c16 => by exfalso; omega) (fun c16 => ?_) | refine m_icmp_ge 39 dX10_push_16 (by decide) (fun c16 => by exfalso; omega) (fun c16 => ?_)
  refine m_aload_n dX10_push_19 rfl ?_
  refine m_get fl_X10_9 (by decide) rfl rfl dX10_push_20 ?_
  refine m_aload_n dX10_push_23 rfl ?_
  refine m_get fl_X10_15 (by decide) rfl rfl dX10_push_24 ?_
  refine m_eqi (h.1) ?_
  refine m_iload_n dX10_push_27 rfl ?_
  refine m_iast (by first | exact ⟨by decide, by decide, fun _ => rfl⟩ | exact isI_arr _ (by omega) | exact isI_mv _ (by omega) | exact isI_ne _ (by omega)) (by omega) dX10_push_28 ?_
  refine m_aload_n dX10_push_29 rfl ?_
  refine m_dup dX10_push_30 rfl ?_
  refine m_get fl_X10_15 (by decide) rfl rfl dX10_push_31 ?_
  refine m_eqi (h.1) ?_
  refine m_iconstN 1 dX10_push_34 (by decide) ?_
  first | refine m_iaddN dX10_push_35 ?_ | refine m_iadd dX10_push_35 ?_
  refine m_put fl_X10_15 (by decide) rfl (Nat.le_of_ble_eq_true rfl) rfl dX10_push_36 ?_
  exact m_vret hR dX10_push_39 (⟨⟨by rw [List.length_append]; exact se_s _ _ _ _, by simp; omega, fun i hi => by
    by_cases e : i = bs.length
    · subst e
      have e9 : (bs ++ [b]).getD bs.length 0 = b := by simp
      rw [e9]
      exact ⟨se_e (se_s _ _ _ _) (by decide), hb⟩
    · have hi2 : i < bs.length := by simp at hi; omega
      have e9 : (bs ++ [b]).getD i 0 = bs.getD i 0 := by simp [List.getD, List.getElem?_append_left hi2]
      rw [e9]
      exact ⟨se_e (se_e2 (h.2.2 i hi2).1 e) (by decide), (h.2.2 i hi2).2⟩⟩, (chg.rf.se (by simp)).se (by simp)⟩)
theorem s_X10_byteAt (h : txIs d bs) {i : Nat} (hi : i < 2 ^ 31) : mSpecI l W mX10_byteAt dep [.ref (xad W 30), .int (nI i)] d (fun r d' => r = bA bs i ∧ d' = d) := by
  have h160 := h.2.1
  refine m_spec RX10 [some (.ref (xad W 30)), some (.int (nI i))] rfl (by decide +kernel) rfl rfl (fun K hR => ?_)
  refine m_iload_n dX10_byteAt_0 rfl ?_
  refine m_if_ltN 30 dX10_byteAt_1 (by decide) (by omega) ?_
  refine m_iload_n dX10_byteAt_4 rfl ?_
  refine m_aload_n dX10_byteAt_5 rfl ?_
  refine m_get fl_X10_15 (by decide) rfl rfl dX10_byteAt_6 ?_
  refine m_eqi (h.1) ?_
  first | refine m_icmp_geN 30 dX10_byteAt_9 (by decide) (by omega) (by omega) (fun c9 => ?_) (fun c9 => ?_) | refine m_icmp_ge 30 dX10_byteAt_9 (by decide) (fun c9 => ?_) (fun c9 => ?_)
  · refine m_iconst (v := -1) dX10_byteAt_30 (by decide) ?_
    exact m_iret (ty := .int) hR dX10_byteAt_31 (⟨by unfold bA; rw [if_neg (by omega)], rfl⟩)
  · refine m_iload_n dX10_byteAt_12 rfl ?_
    refine m_aload_n dX10_byteAt_13 rfl ?_
    refine m_get fl_X10_9 (by decide) rfl rfl dX10_byteAt_14 ?_
    refine m_alen (by omega) (by first | rfl | exact xcell_arr _ _ _ (by omega) | exact xcell_mv _ _ (by omega) | exact xcell_fo _ _ (by omega) | exact xcell_ne _ _ (by omega)) (by decide) dX10_byteAt_17 ?_
    first | refine m_icmp_geN 30 dX10_byteAt_18 (by decide) (by omega) (by omega) (fun c18 => by exfalso; omega) (fun c18 => ?_) | refine m_icmp_ge 30 dX10_byteAt_18 (by decide) (fun c18 => by exfalso; omega) (fun c18 => ?_)
    refine m_aload_n dX10_byteAt_21 rfl ?_
    refine m_get fl_X10_9 (by decide) rfl rfl dX10_byteAt_22 ?_
    refine m_iload_n dX10_byteAt_25 rfl ?_
    refine m_iald (by first | exact ⟨by decide, by decide, fun _ => rfl⟩ | exact isI_arr _ (by omega) | exact isI_mv _ (by omega) | exact isI_ne _ (by omega)) (by omega) dX10_byteAt_26 ?_
    refine m_eqi ((h.2.2 i (by omega)).1) ?_
    refine m_goto 31 dX10_byteAt_27 (by decide) ?_
    exact m_iret (ty := .int) hR dX10_byteAt_31 (⟨by unfold bA; rw [if_pos (by omega)], rfl⟩)
theorem s_X10_byteAtN (h : txIs d bs) {i : Nat} (hi : i < bs.length) : mSpecI l W mX10_byteAt dep [.ref (xad W 30), .int (nI i)] d (fun r d' => r = nI (bs.getD i 0) ∧ d' = d) :=
  (s_X10_byteAt h (by have := h.2.1; omega)).mono (fun r d' ⟨e2, e3⟩ => ⟨by rw [e2]; unfold bA; rw [if_pos hi], e3⟩)
theorem s_X10_letterAt (h : txIs d bs) {i : Nat} (hi : i < bs.length) : mSpecI l W mX10_letterAt (dep + 1) [.ref (xad W 30), .int (nI i)] d (fun r d' => r = nI (bs.getD i 0) - nI 97 ∧ d' = d) := by
  refine m_spec RX10 [some (.ref (xad W 30)), some (.int (nI i))] rfl (by decide +kernel) rfl rfl (fun K hR => ?_)
  refine m_aload_n dX10_letterAt_0 rfl ?_
  refine m_iload_n dX10_letterAt_1 rfl ?_
  refine m_callVIp (s_X10_byteAtN h hi) cv_X10_25 dX10_letterAt_2 ?_
  refine m_bipushN 97 dX10_letterAt_5 (by decide) ?_
  refine m_isub dX10_letterAt_7 ?_
  exact m_iret (ty := .int) hR dX10_letterAt_8 (⟨rfl, rfl⟩)
theorem s_X10_isSmall (h : txIs d bs) {i : Nat} (hi : i ≤ bs.length) : mSpecI l W mX10_isSmall (dep + 1) [.ref (xad W 30), .int (nI i)] d (fun r d' => r = (if i < bs.length ∧ sB (bs.getD i 0) = true then 1 else 0) ∧ d' = d) := by
  have h160 := h.2.1
  refine m_spec RX10 [some (.ref (xad W 30)), some (.int (nI i))] rfl (by decide +kernel) rfl rfl (fun K hR => ?_)
  by_cases e : i < bs.length
  · have hb := (h.2.2 i e).2
    refine m_aload_n dX10_isSmall_0 rfl ?_
    refine m_iload_n dX10_isSmall_1 rfl ?_
    refine m_callVIp (s_X10_byteAtN h e) cv_X10_25 dX10_isSmall_2 ?_
    refine m_bipushN 97 dX10_isSmall_5 (by decide) ?_
    first | refine m_icmp_ltN 24 dX10_isSmall_7 (by decide) (by omega) (by omega) (fun c7 => ?_) (fun c7 => ?_) | refine m_icmp_lt 24 dX10_isSmall_7 (by decide) (fun c7 => ?_) (fun c7 => ?_)
    · refine m_iconstN 0 dX10_isSmall_24 (by decide) ?_
      exact m_iret (ty := .boolean) hR dX10_isSmall_25 (⟨by rw [if_neg (fun z => by have := of_decide_eq_true z.2; omega)]; rfl, rfl⟩)
    · refine m_aload_n dX10_isSmall_10 rfl ?_
      refine m_iload_n dX10_isSmall_11 rfl ?_
      refine m_callVIp (s_X10_byteAtN h e) cv_X10_25 dX10_isSmall_12 ?_
      refine m_bipushN 122 dX10_isSmall_15 (by decide) ?_
      first | refine m_icmp_gtN 24 dX10_isSmall_17 (by decide) (by omega) (by omega) (fun c17 => ?_) (fun c17 => ?_) | refine m_icmp_gt 24 dX10_isSmall_17 (by decide) (fun c17 => ?_) (fun c17 => ?_)
      · refine m_iconstN 0 dX10_isSmall_24 (by decide) ?_
        exact m_iret (ty := .boolean) hR dX10_isSmall_25 (⟨by rw [if_neg (fun z => by have := of_decide_eq_true z.2; omega)]; rfl, rfl⟩)
      · refine m_iconstN 1 dX10_isSmall_20 (by decide) ?_
        refine m_goto 25 dX10_isSmall_21 (by decide) ?_
        exact m_iret (ty := .boolean) hR dX10_isSmall_25 (⟨by rw [if_pos ⟨e, decide_eq_true (by omega)⟩]; rfl, rfl⟩)
  · have e9 : bA bs i = -1 := by unfold bA; rw [if_neg e]
    refine m_aload_n dX10_isSmall_0 rfl ?_
    refine m_iload_n dX10_isSmall_1 rfl ?_
    refine m_callVIp (s_X10_byteAt h (i := i) (by omega)) cv_X10_25 dX10_isSmall_2 ?_
    refine m_bipushN 97 dX10_isSmall_5 (by decide) ?_
    refine m_icmp_lt 24 dX10_isSmall_7 (by decide) (fun c7 => ?_) (fun c7 => by exfalso; rw [e9] at c7; exact c7 (by decide))
    refine m_iconstN 0 dX10_isSmall_24 (by decide) ?_
    exact m_iret (ty := .boolean) hR dX10_isSmall_25 (⟨by rw [if_neg (fun z => e z.1)]; rfl, rfl⟩)
theorem s_X10_isDigit (h : txIs d bs) {i : Nat} (hi : i ≤ bs.length) : mSpecI l W mX10_isDigit (dep + 1) [.ref (xad W 30), .int (nI i)] d (fun r d' => r = (if i < bs.length ∧ dB (bs.getD i 0) = true then 1 else 0) ∧ d' = d) := by
  have h160 := h.2.1
  refine m_spec RX10 [some (.ref (xad W 30)), some (.int (nI i))] rfl (by decide +kernel) rfl rfl (fun K hR => ?_)
  by_cases e : i < bs.length
  · have hb := (h.2.2 i e).2
    refine m_aload_n dX10_isDigit_0 rfl ?_
    refine m_iload_n dX10_isDigit_1 rfl ?_
    refine m_callVIp (s_X10_byteAtN h e) cv_X10_25 dX10_isDigit_2 ?_
    refine m_bipushN 48 dX10_isDigit_5 (by decide) ?_
    first | refine m_icmp_ltN 24 dX10_isDigit_7 (by decide) (by omega) (by omega) (fun c7 => ?_) (fun c7 => ?_) | refine m_icmp_lt 24 dX10_isDigit_7 (by decide) (fun c7 => ?_) (fun c7 => ?_)
    · refine m_iconstN 0 dX10_isDigit_24 (by decide) ?_
      exact m_iret (ty := .boolean) hR dX10_isDigit_25 (⟨by rw [if_neg (fun z => by have := of_decide_eq_true z.2; omega)]; rfl, rfl⟩)
    · refine m_aload_n dX10_isDigit_10 rfl ?_
      refine m_iload_n dX10_isDigit_11 rfl ?_
      refine m_callVIp (s_X10_byteAtN h e) cv_X10_25 dX10_isDigit_12 ?_
      refine m_bipushN 57 dX10_isDigit_15 (by decide) ?_
      first | refine m_icmp_gtN 24 dX10_isDigit_17 (by decide) (by omega) (by omega) (fun c17 => ?_) (fun c17 => ?_) | refine m_icmp_gt 24 dX10_isDigit_17 (by decide) (fun c17 => ?_) (fun c17 => ?_)
      · refine m_iconstN 0 dX10_isDigit_24 (by decide) ?_
        exact m_iret (ty := .boolean) hR dX10_isDigit_25 (⟨by rw [if_neg (fun z => by have := of_decide_eq_true z.2; omega)]; rfl, rfl⟩)
      · refine m_iconstN 1 dX10_isDigit_20 (by decide) ?_
        refine m_goto 25 dX10_isDigit_21 (by decide) ?_
        exact m_iret (ty := .boolean) hR dX10_isDigit_25 (⟨by rw [if_pos ⟨e, decide_eq_true (by omega)⟩]; rfl, rfl⟩)
  · have e9 : bA bs i = -1 := by unfold bA; rw [if_neg e]
    refine m_aload_n dX10_isDigit_0 rfl ?_
    refine m_iload_n dX10_isDigit_1 rfl ?_
    refine m_callVIp (s_X10_byteAt h (i := i) (by omega)) cv_X10_25 dX10_isDigit_2 ?_
    refine m_bipushN 48 dX10_isDigit_5 (by decide) ?_
    refine m_icmp_lt 24 dX10_isDigit_7 (by decide) (fun c7 => ?_) (fun c7 => by exfalso; rw [e9] at c7; exact c7 (by decide))
    refine m_iconstN 0 dX10_isDigit_24 (by decide) ?_
    exact m_iret (ty := .boolean) hR dX10_isDigit_25 (⟨by rw [if_neg (fun z => e z.1)]; rfl, rfl⟩)
theorem s_X10_rewind (h : txIs d bs) : mSpecV l W mX10_rewind dep [.ref (xad W 30)] d (fun d' => txIs d' bs ∧ tpIs d' 0 0 ∧ chg [30] d d') := by
  refine m_spec RX10 [some (.ref (xad W 30))] rfl (by decide +kernel) rfl rfl (fun K hR => ?_)
  refine m_aload_n dX10_rewind_0 rfl ?_
  refine m_iconstN 0 dX10_rewind_1 (by decide) ?_
  refine m_put fl_X10_19 (by decide) rfl (Nat.le_of_ble_eq_true rfl) rfl dX10_rewind_2 ?_
  refine m_aload_n dX10_rewind_5 rfl ?_
  refine m_iconstN 0 dX10_rewind_6 (by decide) ?_
  refine m_put fl_X10_22 (by decide) rfl (Nat.le_of_ble_eq_true rfl) rfl dX10_rewind_7 ?_
  exact m_vret hR dX10_rewind_10 (⟨h.of (se_e2 (se_e2 rfl (by decide)) (by decide)) rfl, ⟨se_e2 (se_s _ _ _ _) (by decide), se_s _ _ _ _⟩, (chg.rf.se (by simp)).se (by simp)⟩)
theorem s_X10_step (h : txIs d bs) (hp : tpIs d p q) (hq : q ≤ bs.length) : mSpecV l W mX10_step (dep + 2) [.ref (xad W 30)] d (fun d' => txIs d' bs ∧ tpIs d' (tkS bs q) (tkE bs (tkS bs q)) ∧ chg [30] d d') := by
  have h160 := h.2.1
  have hS := runE_le (fun b => decide (b = 32)) bs hq
  have hE := tkE_le (bs := bs) (q := tkS bs q) hS.2
  refine m_spec RX10 [some (.ref (xad W 30))] rfl (by decide +kernel) rfl rfl (fun K hR => ?_)
  have sm : tkS bs q < bs.length → sB (bs.getD (tkS bs q) 0) = true → ∀ i, i ≤ bs.length → tkS bs q ≤ i → ∀ d1, txIs d1 bs → tpIs d1 (tkS bs q) i → chg [30] d d1 → runE sB bs i = tkE bs (tkS bs q) → mG W K cX10_step RX10 (dep + 2) d1 64 [some (.ref (xad W 30))] [] := fun hlt hsm => x_up _ (fun i hi ih hil d1 g1 g2 g3 g4 => by
    refine m_aload_n dX10_step_64 rfl ?_
    refine m_get fl_X10_22 (by decide) rfl rfl dX10_step_65 ?_
    refine m_eqi (g2.2) ?_
    refine m_aload_n dX10_step_68 rfl ?_
    refine m_get fl_X10_15 (by decide) rfl rfl dX10_step_69 ?_
    refine m_eqi (g1.1) ?_
    first | refine m_icmp_geN 166 dX10_step_72 (by decide) (by omega) (by omega) (fun c72 => ?_) (fun c72 => ?_) | refine m_icmp_ge 166 dX10_step_72 (by decide) (fun c72 => ?_) (fun c72 => ?_)
    · have e6 : i = tkE bs (tkS bs q) := by rw [← g4, runE_o (by omega)]
      exact m_vret hR dX10_step_166 (⟨g1, by rw [← e6]; exact g2, g3⟩)
    · refine m_aload_n dX10_step_75 rfl ?_
      refine m_aload_n dX10_step_76 rfl ?_
      refine m_get fl_X10_22 (by decide) rfl rfl dX10_step_77 ?_
      refine m_eqi (g2.2) ?_
      refine m_callVIp (s_X10_isSmall g1 (i := i) hi) cv_X10_29 dX10_step_80 ?_
      refine m_if_eq 166 dX10_step_83 (by decide) (fun c83 => ?_) (fun c83 => ?_)
      · have e6 : i = tkE bs (tkS bs q) := by
          rw [← g4, runE_e (by omega)]
          exact Bool.eq_false_iff.mpr (fun z => by rw [if_pos ⟨by omega, z⟩] at c83; exact absurd c83 (by decide))
        exact m_vret hR dX10_step_166 (⟨g1, by rw [← e6]; exact g2, g3⟩)
      · refine m_aload_n dX10_step_86 rfl ?_
        refine m_dup dX10_step_87 rfl ?_
        refine m_get fl_X10_22 (by decide) rfl rfl dX10_step_88 ?_
        refine m_eqi (g2.2) ?_
        refine m_iconstN 1 dX10_step_91 (by decide) ?_
        first | refine m_iaddN dX10_step_92 ?_ | refine m_iadd dX10_step_92 ?_
        refine m_put fl_X10_22 (by decide) rfl (Nat.le_of_ble_eq_true rfl) rfl dX10_step_93 ?_
        refine m_goto 64 dX10_step_96 (by decide) ?_
        have hsi : sB (bs.getD i 0) = true := Decidable.byContradiction (fun z => c83 (by rw [if_neg (fun w => z w.2)]))
        exact ih (by omega) (by omega) _ (g1.of (se_e2 rfl (by decide)) rfl) ⟨se_e2 g2.1 (by decide), se_s _ _ _ _⟩ (g3.se (by simp)) (by rw [← g4, runE_s (by omega) hsi])
    )
  have dg : tkS bs q < bs.length → dB (bs.getD (tkS bs q) 0) = true → ∀ i, i ≤ bs.length → tkS bs q ≤ i → ∀ d1, txIs d1 bs → tpIs d1 (tkS bs q) i → chg [30] d d1 → runE dB bs i = tkE bs (tkS bs q) → mG W K cX10_step RX10 (dep + 2) d1 110 [some (.ref (xad W 30))] [] := fun hlt hsm => x_up _ (fun i hi ih hil d1 g1 g2 g3 g4 => by
    refine m_aload_n dX10_step_110 rfl ?_
    refine m_get fl_X10_22 (by decide) rfl rfl dX10_step_111 ?_
    refine m_eqi (g2.2) ?_
    refine m_aload_n dX10_step_114 rfl ?_
    refine m_get fl_X10_15 (by decide) rfl rfl dX10_step_115 ?_
    refine m_eqi (g1.1) ?_
    first | refine m_icmp_geN 166 dX10_step_118 (by decide) (by omega) (by omega) (fun c118 => ?_) (fun c118 => ?_) | refine m_icmp_ge 166 dX10_step_118 (by decide) (fun c118 => ?_) (fun c118 => ?_)
    · have e6 : i = tkE bs (tkS bs q) := by rw [← g4, runE_o (by omega)]
      exact m_vret hR dX10_step_166 (⟨g1, by rw [← e6]; exact g2, g3⟩)
    · refine m_aload_n dX10_step_121 rfl ?_
      refine m_aload_n dX10_step_122 rfl ?_
      refine m_get fl_X10_22 (by decide) rfl rfl dX10_step_123 ?_
      refine m_eqi (g2.2) ?_
      refine m_callVIp (s_X10_isDigit g1 (i := i) hi) cv_X10_33 dX10_step_126 ?_
      refine m_if_eq 166 dX10_step_129 (by decide) (fun c129 => ?_) (fun c129 => ?_)
      · have e6 : i = tkE bs (tkS bs q) := by
          rw [← g4, runE_e (by omega)]
          exact Bool.eq_false_iff.mpr (fun z => by rw [if_pos ⟨by omega, z⟩] at c129; exact absurd c129 (by decide))
        exact m_vret hR dX10_step_166 (⟨g1, by rw [← e6]; exact g2, g3⟩)
      · refine m_aload_n dX10_step_132 rfl ?_
        refine m_dup dX10_step_133 rfl ?_
        refine m_get fl_X10_22 (by decide) rfl rfl dX10_step_134 ?_
        refine m_eqi (g2.2) ?_
        refine m_iconstN 1 dX10_step_137 (by decide) ?_
        first | refine m_iaddN dX10_step_138 ?_ | refine m_iadd dX10_step_138 ?_
        refine m_put fl_X10_22 (by decide) rfl (Nat.le_of_ble_eq_true rfl) rfl dX10_step_139 ?_
        refine m_goto 110 dX10_step_142 (by decide) ?_
        have hsi : dB (bs.getD i 0) = true := Decidable.byContradiction (fun z => c129 (by rw [if_neg (fun w => z w.2)]))
        exact ih (by omega) (by omega) _ (g1.of (se_e2 rfl (by decide)) rfl) ⟨se_e2 g2.1 (by decide), se_s _ _ _ _⟩ (g3.se (by simp)) (by rw [← g4, runE_s (by omega) hsi])
    )
  have tail : ∀ d1 z, txIs d1 bs → tpIs d1 (tkS bs q) z → chg [30] d d1 → mG W K cX10_step RX10 (dep + 2) d1 45 [some (.ref (xad W 30))] [] := fun d1 z g1 g2 g3 => by
    have g4 : txIs (seI d1 30 3 (nI (tkS bs q))) bs := g1.of (se_e2 rfl (by decide)) rfl
    have g5 : tpIs (seI d1 30 3 (nI (tkS bs q))) (tkS bs q) (tkS bs q) := ⟨se_e2 g2.1 (by decide), se_s _ _ _ _⟩
    have g6 : chg [30] d (seI d1 30 3 (nI (tkS bs q))) := g3.se (by simp)
    refine m_aload_n dX10_step_45 rfl ?_
    refine m_aload_n dX10_step_46 rfl ?_
    refine m_get fl_X10_19 (by decide) rfl rfl dX10_step_47 ?_
    refine m_eqi (g2.1) ?_
    refine m_put fl_X10_22 (by decide) rfl (Nat.le_of_ble_eq_true rfl) rfl dX10_step_50 ?_
    refine m_aload_n dX10_step_53 rfl ?_
    refine m_aload_n dX10_step_54 rfl ?_
    refine m_get fl_X10_19 (by decide) rfl rfl dX10_step_55 ?_
    refine m_eqi (g5.1) ?_
    refine m_callVIp (s_X10_isSmall g4 (i := tkS bs q) hS.2) cv_X10_29 dX10_step_58 ?_
    refine m_if_eq 99 dX10_step_61 (by decide) (fun c61 => ?_) (fun c61 => ?_)
    · refine m_aload_n dX10_step_99 rfl ?_
      refine m_aload_n dX10_step_100 rfl ?_
      refine m_get fl_X10_19 (by decide) rfl rfl dX10_step_101 ?_
      refine m_eqi (g5.1) ?_
      refine m_callVIp (s_X10_isDigit g4 (i := tkS bs q) hS.2) cv_X10_33 dX10_step_104 ?_
      refine m_if_eq 145 dX10_step_107 (by decide) (fun c107 => ?_) (fun c107 => ?_)
      · refine m_aload_n dX10_step_145 rfl ?_
        refine m_get fl_X10_19 (by decide) rfl rfl dX10_step_146 ?_
        refine m_eqi (g5.1) ?_
        refine m_aload_n dX10_step_149 rfl ?_
        refine m_get fl_X10_15 (by decide) rfl rfl dX10_step_150 ?_
        refine m_eqi (g4.1) ?_
        first | refine m_icmp_geN 166 dX10_step_153 (by decide) (by omega) (by omega) (fun c153 => ?_) (fun c153 => ?_) | refine m_icmp_ge 166 dX10_step_153 (by decide) (fun c153 => ?_) (fun c153 => ?_)
        · have e6 : tkE bs (tkS bs q) = tkS bs q := by unfold tkE; rw [if_neg (by omega)]
          exact m_vret hR dX10_step_166 (⟨g4, by rw [e6]; exact g5, g6⟩)
        · refine m_aload_n dX10_step_156 rfl ?_
          refine m_dup dX10_step_157 rfl ?_
          refine m_get fl_X10_22 (by decide) rfl rfl dX10_step_158 ?_
          refine m_eqi (g5.2) ?_
          refine m_iconstN 1 dX10_step_161 (by decide) ?_
          first | refine m_iaddN dX10_step_162 ?_ | refine m_iadd dX10_step_162 ?_
          refine m_put fl_X10_22 (by decide) rfl (Nat.le_of_ble_eq_true rfl) rfl dX10_step_163 ?_
          have hlt : tkS bs q < bs.length := by omega
          have hn : ¬ sB (bs.getD (tkS bs q) 0) = true := fun z => by rw [if_pos ⟨hlt, z⟩] at c61; exact absurd c61 (by decide)
          have hn2 : ¬ dB (bs.getD (tkS bs q) 0) = true := fun z => by rw [if_pos ⟨hlt, z⟩] at c107; exact absurd c107 (by decide)
          have e6 : tkE bs (tkS bs q) = tkS bs q + 1 := by unfold tkE; rw [if_pos hlt, if_neg hn, if_neg hn2]
          exact m_vret hR dX10_step_166 (⟨g4.of (se_e2 rfl (by decide)) rfl, by rw [e6]; exact ⟨se_e2 g5.1 (by decide), se_s _ _ _ _⟩, g6.se (by simp)⟩)
      · have hc : tkS bs q < bs.length ∧ dB (bs.getD (tkS bs q) 0) = true := Decidable.byContradiction (fun z => c107 (by rw [if_neg z]))
        have hn : ¬ sB (bs.getD (tkS bs q) 0) = true := fun z => by rw [if_pos ⟨hc.1, z⟩] at c61; exact absurd c61 (by decide)
        exact dg hc.1 hc.2 (tkS bs q) hS.2 (Nat.le_refl _) _ g4 g5 g6 (by unfold tkE; rw [if_pos hc.1, if_neg hn, if_pos hc.2])
    · have hc : tkS bs q < bs.length ∧ sB (bs.getD (tkS bs q) 0) = true := Decidable.byContradiction (fun z => c61 (by rw [if_neg z]))
      exact sm hc.1 hc.2 (tkS bs q) hS.2 (Nat.le_refl _) _ g4 g5 g6 (by unfold tkE; rw [if_pos hc.1, if_pos hc.2])
  have head : ∀ i, i ≤ bs.length → ∀ d1, txIs d1 bs → tpIs d1 i q → chg [30] d d1 → tkS bs i = tkS bs q → mG W K cX10_step RX10 (dep + 2) d1 8 [some (.ref (xad W 30))] [] := x_up _ (fun i hi ih d1 g1 g2 g3 g4 => by
    refine m_aload_n dX10_step_8 rfl ?_
    refine m_get fl_X10_19 (by decide) rfl rfl dX10_step_9 ?_
    refine m_eqi (g2.1) ?_
    refine m_aload_n dX10_step_12 rfl ?_
    refine m_get fl_X10_15 (by decide) rfl rfl dX10_step_13 ?_
    refine m_eqi (g1.1) ?_
    first | refine m_icmp_geN 45 dX10_step_16 (by decide) (by omega) (by omega) (fun c16 => ?_) (fun c16 => ?_) | refine m_icmp_ge 45 dX10_step_16 (by decide) (fun c16 => ?_) (fun c16 => ?_)
    · have e6 : i = tkS bs q := by rw [← g4]; exact (runE_o (by omega)).symm
      exact tail d1 q g1 (by rw [← e6]; exact g2) g3
    · refine m_aload_n dX10_step_19 rfl ?_
      refine m_aload_n dX10_step_20 rfl ?_
      refine m_get fl_X10_19 (by decide) rfl rfl dX10_step_21 ?_
      refine m_eqi (g2.1) ?_
      refine m_callVIp (s_X10_byteAtN g1 (i := i) (by omega)) cv_X10_25 dX10_step_24 ?_
      refine m_bipushN 32 dX10_step_27 (by decide) ?_
      have hbi := (g1.2.2 i (by omega)).2
      first | refine m_icmp_neN 45 dX10_step_29 (by decide) (by omega) (by omega) (fun c29 => ?_) (fun c29 => ?_) | refine m_icmp_ne 45 dX10_step_29 (by decide) (fun c29 => ?_) (fun c29 => ?_)
      · have e6 : i = tkS bs q := by rw [← g4]; exact (runE_e (by omega) (decide_eq_false (by omega))).symm
        exact tail d1 q g1 (by rw [← e6]; exact g2) g3
      · refine m_aload_n dX10_step_32 rfl ?_
        refine m_dup dX10_step_33 rfl ?_
        refine m_get fl_X10_19 (by decide) rfl rfl dX10_step_34 ?_
        refine m_eqi (g2.1) ?_
        refine m_iconstN 1 dX10_step_37 (by decide) ?_
        first | refine m_iaddN dX10_step_38 ?_ | refine m_iadd dX10_step_38 ?_
        refine m_put fl_X10_19 (by decide) rfl (Nat.le_of_ble_eq_true rfl) rfl dX10_step_39 ?_
        refine m_goto 8 dX10_step_42 (by decide) ?_
        exact ih (by omega) _ (g1.of (se_e2 rfl (by decide)) rfl) ⟨se_s _ _ _ _, se_e2 g2.2 (by decide)⟩ (g3.se (by simp)) (by rw [← g4]; exact (runE_s (by omega) (decide_eq_true (by omega))).symm)
    )
  refine m_aload_n dX10_step_0 rfl ?_
  refine m_aload_n dX10_step_1 rfl ?_
  refine m_get fl_X10_22 (by decide) rfl rfl dX10_step_2 ?_
  refine m_eqi (hp.2) ?_
  refine m_put fl_X10_19 (by decide) rfl (Nat.le_of_ble_eq_true rfl) rfl dX10_step_5 ?_
  exact head q hq _ (h.of (se_e2 rfl (by decide)) rfl) ⟨se_s _ _ _ _, se_e2 hp.2 (by decide)⟩ (chg.rf.se (by simp)) rfl
theorem s_X10_start (hp : tpIs d p q) : mSpecI l W mX10_start dep [.ref (xad W 30)] d (fun r d' => r = nI p ∧ d' = d) := by
  refine m_spec RX10 [some (.ref (xad W 30))] rfl (by decide +kernel) rfl rfl (fun K hR => ?_)
  refine m_aload_n dX10_start_0 rfl ?_
  refine m_get fl_X10_19 (by decide) rfl rfl dX10_start_1 ?_
  refine m_eqi (hp.1) ?_
  exact m_iret (ty := .int) hR dX10_start_4 (⟨rfl, rfl⟩)
theorem s_X10_end (hp : tpIs d p q) : mSpecI l W mX10_end dep [.ref (xad W 30)] d (fun r d' => r = nI q ∧ d' = d) := by
  refine m_spec RX10 [some (.ref (xad W 30))] rfl (by decide +kernel) rfl rfl (fun K hR => ?_)
  refine m_aload_n dX10_end_0 rfl ?_
  refine m_get fl_X10_22 (by decide) rfl rfl dX10_end_1 ?_
  refine m_eqi (hp.2) ?_
  exact m_iret (ty := .int) hR dX10_end_4 (⟨rfl, rfl⟩)
theorem s_X10_tokenLength (hp : tpIs d p q) (hpq : p ≤ q) : mSpecI l W mX10_tokenLength dep [.ref (xad W 30)] d (fun r d' => r = nI (q - p) ∧ d' = d) := by
  refine m_spec RX10 [some (.ref (xad W 30))] rfl (by decide +kernel) rfl rfl (fun K hR => ?_)
  refine m_aload_n dX10_tokenLength_0 rfl ?_
  refine m_get fl_X10_22 (by decide) rfl rfl dX10_tokenLength_1 ?_
  refine m_eqi (hp.2) ?_
  refine m_aload_n dX10_tokenLength_4 rfl ?_
  refine m_get fl_X10_19 (by decide) rfl rfl dX10_tokenLength_5 ?_
  refine m_eqi (hp.1) ?_
  first | refine m_isubN dX10_tokenLength_8 (by omega) ?_ | refine m_isub dX10_tokenLength_8 ?_
  exact m_iret (ty := .int) hR dX10_tokenLength_9 (⟨rfl, rfl⟩)
theorem s_X10_isSign (h : txIs d bs) (hp : tpIs d p q) (hpq : p ≤ q) (hq : q ≤ bs.length) {b : Nat} (hb : b < 256) : mSpecI l W mX10_isSign (dep + 1) [.ref (xad W 30), .int (nI b)] d (fun r d' => r = (if q - p = 1 ∧ bs.getD p 0 = b then 1 else 0) ∧ d' = d) := by
  have h160 := h.2.1
  refine m_spec RX10 [some (.ref (xad W 30)), some (.int (nI b))] rfl (by decide +kernel) rfl rfl (fun K hR => ?_)
  refine m_aload_n dX10_isSign_0 rfl ?_
  refine m_callVIp (s_X10_tokenLength hp hpq) cv_X10_36 dX10_isSign_1 ?_
  refine m_iconstN 1 dX10_isSign_4 (by decide) ?_
  first | refine m_icmp_neN 24 dX10_isSign_5 (by decide) (by omega) (by omega) (fun c5 => ?_) (fun c5 => ?_) | refine m_icmp_ne 24 dX10_isSign_5 (by decide) (fun c5 => ?_) (fun c5 => ?_)
  · refine m_iconstN 0 dX10_isSign_24 (by decide) ?_
    exact m_iret (ty := .boolean) hR dX10_isSign_25 (⟨by rw [if_neg (by omega)]; rfl, rfl⟩)
  · refine m_aload_n dX10_isSign_8 rfl ?_
    refine m_aload_n dX10_isSign_9 rfl ?_
    refine m_get fl_X10_19 (by decide) rfl rfl dX10_isSign_10 ?_
    refine m_eqi (hp.1) ?_
    refine m_callVIp (s_X10_byteAtN h (i := p) (by omega)) cv_X10_25 dX10_isSign_13 ?_
    refine m_iload_n dX10_isSign_16 rfl ?_
    have hbi := (h.2.2 p (by omega)).2
    first | refine m_icmp_neN 24 dX10_isSign_17 (by decide) (by omega) (by omega) (fun c17 => ?_) (fun c17 => ?_) | refine m_icmp_ne 24 dX10_isSign_17 (by decide) (fun c17 => ?_) (fun c17 => ?_)
    · refine m_iconstN 0 dX10_isSign_24 (by decide) ?_
      exact m_iret (ty := .boolean) hR dX10_isSign_25 (⟨by rw [if_neg (by omega)]; rfl, rfl⟩)
    · refine m_iconstN 1 dX10_isSign_20 (by decide) ?_
      refine m_goto 25 dX10_isSign_21 (by decide) ?_
      exact m_iret (ty := .boolean) hR dX10_isSign_25 (⟨by rw [if_pos (by omega)]; rfl, rfl⟩)
/-- the token is the word of String constant i -/
def isW (bs : List Nat) (p q i : Nat) : Bool := decide (q - p = x_slen.getD i 0 ∧ ∀ j, j < x_slen.getD i 0 → bs.getD (p + j) 0 = sch i j)
theorem sch_lt : ∀ i, i < 6 → ∀ j, j < x_slen.getD i 0 → sch i j < 256 := by decide
theorem s_X10_isWord (h : txIs d bs) (hp : tpIs d p q) (hpq : p ≤ q) (hq : q ≤ bs.length) {i : Nat} (hi : i < 6) : mSpecI l W mX10_isWord (dep + 4) [.ref (xad W 30), .ref (W.1.2.2.1 i)] d (fun r d' => r = (if isW bs p q i = true then 1 else 0) ∧ d' = d) := by
  have h160 := h.2.1
  have h8 : ∀ i, i < 6 → x_slen.getD i 0 < 2 ^ 31 := by decide
  have h8i := h8 i hi
  refine m_spec RX10 [some (.ref (xad W 30)), some (.ref (W.1.2.2.1 i)), none] rfl (by decide +kernel) rfl rfl (fun K hR => ?_)
  have loop : q - p = x_slen.getD i 0 → ∀ j, j ≤ x_slen.getD i 0 → (∀ j', j' < j → bs.getD (p + j') 0 = sch i j') → mG W K cX10_isWord RX10 (dep + 4) d 15 [some (.ref (xad W 30)), some (.ref (W.1.2.2.1 i)), some (.int (nI j))] [] := fun hl => x_up _ (fun j hj ih g => by
    refine m_iload_n dX10_isWord_15 rfl ?_
    refine m_aload_n dX10_isWord_16 rfl ?_
    refine m_callVS (s_J0_length hi) cv_X10_40 dX10_isWord_17 hi rfl rfl rfl (Nat.le_of_ble_eq_true rfl) ?_
    first | refine m_icmp_geN 49 dX10_isWord_20 (by decide) (by omega) (by omega) (fun c20 => ?_) (fun c20 => ?_) | refine m_icmp_ge 49 dX10_isWord_20 (by decide) (fun c20 => ?_) (fun c20 => ?_)
    · refine m_iconstN 1 dX10_isWord_49 (by decide) ?_
      exact m_iret (ty := .boolean) hR dX10_isWord_50 (⟨by rw [if_pos (show isW bs p q i = true from decide_eq_true ⟨hl, fun j' hj' => g j' (by omega)⟩)]; rfl, rfl⟩)
    · refine m_aload_n dX10_isWord_23 rfl ?_
      refine m_aload_n dX10_isWord_24 rfl ?_
      refine m_get fl_X10_19 (by decide) rfl rfl dX10_isWord_25 ?_
      refine m_eqi (hp.1) ?_
      refine m_iload_n dX10_isWord_28 rfl ?_
      first | refine m_iaddN dX10_isWord_29 ?_ | refine m_iadd dX10_isWord_29 ?_
      refine m_callVIp (s_X10_byteAtN h (i := p + j) (by omega)) cv_X10_25 dX10_isWord_30 ?_
      refine m_aload_n dX10_isWord_33 rfl ?_
      refine m_iload_n dX10_isWord_34 rfl ?_
      refine m_callVS (s_J0_charAt hi (j := j) (by omega)) cv_X10_45 dX10_isWord_35 hi rfl rfl rfl (Nat.le_of_ble_eq_true rfl) ?_
      have hbi := (h.2.2 (p + j) (by omega)).2
      have hsl := sch_lt i hi j (by omega)
      first | refine m_icmp_eqN 43 dX10_isWord_38 (by decide) (by omega) (by omega) (fun c38 => ?_) (fun c38 => ?_) | refine m_icmp_eq 43 dX10_isWord_38 (by decide) (fun c38 => ?_) (fun c38 => ?_)
      · first | refine m_iincN 1 dX10_isWord_43 (by decide) rfl rfl ?_ | refine m_iinc dX10_isWord_43 rfl rfl ?_
        refine m_goto 15 dX10_isWord_46 (by decide) ?_
        refine ih (by omega) (fun j' hj' => ?_)
        by_cases e : j' = j
        · subst e; omega
        · exact g j' (by omega)
      · refine m_iconstN 0 dX10_isWord_41 (by decide) ?_
        exact m_iret (ty := .boolean) hR dX10_isWord_42 (⟨by rw [if_neg (fun z => c38 ((of_decide_eq_true z).2 j (by omega)))]; rfl, rfl⟩)
    )
  refine m_aload_n dX10_isWord_0 rfl ?_
  refine m_callVIp (s_X10_tokenLength hp hpq) cv_X10_36 dX10_isWord_1 ?_
  refine m_aload_n dX10_isWord_4 rfl ?_
  refine m_callVS (s_J0_length hi) cv_X10_40 dX10_isWord_5 hi rfl rfl rfl (Nat.le_of_ble_eq_true rfl) ?_
  first | refine m_icmp_eqN 13 dX10_isWord_8 (by decide) (by omega) (by omega) (fun c8 => ?_) (fun c8 => ?_) | refine m_icmp_eq 13 dX10_isWord_8 (by decide) (fun c8 => ?_) (fun c8 => ?_)
  · refine m_iconstN 0 dX10_isWord_13 (by decide) ?_
    refine m_istore_n dX10_isWord_14 (Nat.le_of_ble_eq_true rfl) rfl ?_
    exact loop (by omega) 0 (Nat.zero_le _) (fun j' hj' => absurd hj' (Nat.not_lt_zero j'))
  · refine m_iconstN 0 dX10_isWord_11 (by decide) ?_
    exact m_iret (ty := .boolean) hR dX10_isWord_12 (⟨by rw [if_neg (fun z => absurd (of_decide_eq_true z).1 (by omega))]; rfl, rfl⟩)
def nmT (bs : List Nat) (p q : Nat) : Int32 := if q - p = 1 ∧ dB (bs.getD p 0) = true then nI (bs.getD p 0 - 48) else -1
theorem s_X10_number (h : txIs d bs) (hp : tpIs d p q) (hpq : p ≤ q) (hq : q ≤ bs.length) : mSpecI l W mX10_number (dep + 2) [.ref (xad W 30)] d (fun r d' => r = nmT bs p q ∧ d' = d) := by
  have h160 := h.2.1
  refine m_spec RX10 [some (.ref (xad W 30))] rfl (by decide +kernel) rfl rfl (fun K hR => ?_)
  refine m_aload_n dX10_number_0 rfl ?_
  refine m_callVIp (s_X10_tokenLength hp hpq) cv_X10_36 dX10_number_1 ?_
  refine m_iconstN 1 dX10_number_4 (by decide) ?_
  first | refine m_icmp_neN 33 dX10_number_5 (by decide) (by omega) (by omega) (fun c5 => ?_) (fun c5 => ?_) | refine m_icmp_ne 33 dX10_number_5 (by decide) (fun c5 => ?_) (fun c5 => ?_)
  · refine m_iconst (v := -1) dX10_number_33 (by decide) ?_
    exact m_iret (ty := .int) hR dX10_number_34 (⟨by unfold nmT; rw [if_neg (by omega)], rfl⟩)
  · refine m_aload_n dX10_number_8 rfl ?_
    refine m_aload_n dX10_number_9 rfl ?_
    refine m_get fl_X10_19 (by decide) rfl rfl dX10_number_10 ?_
    refine m_eqi (hp.1) ?_
    refine m_callVIp (s_X10_isDigit h (i := p) (by omega)) cv_X10_33 dX10_number_13 ?_
    refine m_if_eq 33 dX10_number_16 (by decide) (fun c16 => ?_) (fun c16 => ?_)
    · refine m_iconst (v := -1) dX10_number_33 (by decide) ?_
      exact m_iret (ty := .int) hR dX10_number_34 (⟨by unfold nmT; rw [if_neg (fun z => by rw [if_pos ⟨by omega, z.2⟩] at c16; exact absurd c16 (by decide))], rfl⟩)
    · refine m_aload_n dX10_number_19 rfl ?_
      refine m_aload_n dX10_number_20 rfl ?_
      refine m_get fl_X10_19 (by decide) rfl rfl dX10_number_21 ?_
      refine m_eqi (hp.1) ?_
      refine m_callVIp (s_X10_byteAtN h (i := p) (by omega)) cv_X10_25 dX10_number_24 ?_
      refine m_bipushN 48 dX10_number_27 (by decide) ?_
      have hd : dB (bs.getD p 0) = true := Decidable.byContradiction (fun z => c16 (by rw [if_neg (fun w => z w.2)]))
      have hd2 := of_decide_eq_true hd
      first | refine m_isubN dX10_number_29 (by omega) ?_ | refine m_isub dX10_number_29 ?_
      refine m_goto 34 dX10_number_30 (by decide) ?_
      exact m_iret (ty := .int) hR dX10_number_34 (⟨by unfold nmT; rw [if_pos ⟨by omega, hd⟩], rfl⟩)
end TXT
