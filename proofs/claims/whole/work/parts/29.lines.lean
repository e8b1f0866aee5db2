/-! class Lines -/
def ofL (bs : List Nat) (p q kn : Nat) : Bool := decide (∀ i, i < q → p ≤ i → 97 ≤ bs.getD i 0 ∧ bs.getD i 0 - 97 < kn)
/-- line j holds t: its kind, its first, and by its kind a second or the ends of a word -/
def lineIs (d : xD) (j : Nat) (t : Nat × Nat × Nat × Nat) : Prop := d.1 (j + 34) 0 = nI t.1 ∧ d.1 (j + 34) 1 = nI t.2.1 ∧ (t.1 < 2 → d.1 (j + 34) 2 = nI t.2.2.1) ∧ (t.1 = 3 → d.1 (j + 34) 3 = nI t.2.2.1 ∧ d.1 (j + 34) 4 = nI t.2.2.2)
theorem lineIs.fr {S : List Nat} {d d' : xD} {j : Nat} {t : Nat × Nat × Nat × Nat} (h : lineIs d j t) (hc : chg S d d') (h1 : j + 34 ∉ S) : lineIs d' j t := by
  unfold lineIs
  rw [(hc _ h1).1]
  exact h
abbrev RdR : Type := Option (Nat × Nat × Nat × Nat) × Nat × Nat × Nat
def rdP (bs : List Nat) (e kn kind : Nat) : RdR := (if tkE bs (tkS bs e) - tkS bs e = 2 ∧ ofL bs (tkS bs e) (tkE bs (tkS bs e)) kn = true ∧ bs.getD (tkS bs e) 0 ≠ bs.getD (tkS bs e + 1) 0 then some (kind, bs.getD (tkS bs e) 0 - 97, bs.getD (tkS bs e + 1) 0 - 97, 0) else none, tkS bs e, tkE bs (tkS bs e), kn)
def isN (bs : List Nat) (p q : Nat) : Bool := decide (q - p = 1 ∧ dB (bs.getD p 0) = true)
def rdL (bs : List Nat) (e kn : Nat) : RdR := if isN bs (tkS bs e) (tkE bs (tkS bs e)) = true ∧ 1 ≤ bs.getD (tkS bs e) 0 - 48 ∧ bs.getD (tkS bs e) 0 - 48 ≤ 6 then (some (2, bs.getD (tkS bs e) 0 - 48, 0, 0), tkS bs e, tkE bs (tkS bs e), bs.getD (tkS bs e) 0 - 48) else (none, tkS bs e, tkE bs (tkS bs e), kn)
/-- the word of a heap behind e -/
def rdW (bs : List Nat) (e kn hp : Nat) : RdR := if isW bs (tkS bs e) (tkE bs (tkS bs e)) 5 = true then (some (3, hp, tkS bs e, tkS bs e), tkS bs e, tkE bs (tkS bs e), kn) else if 1 ≤ tkE bs (tkS bs e) - tkS bs e ∧ tkE bs (tkS bs e) - tkS bs e ≤ 24 ∧ ofL bs (tkS bs e) (tkE bs (tkS bs e)) kn = true then (some (3, hp, tkS bs e, tkE bs (tkS bs e)), tkS bs e, tkE bs (tkS bs e), kn) else (none, tkS bs e, tkE bs (tkS bs e), kn)
def rdI (bs : List Nat) (e kn hp : Nat) : RdR := if isW bs (tkS bs e) (tkE bs (tkS bs e)) 4 = true then rdW bs (tkE bs (tkS bs e)) kn hp else (none, tkS bs e, tkE bs (tkS bs e), kn)
def rdH (bs : List Nat) (e kn : Nat) : RdR := if isN bs (tkS bs e) (tkE bs (tkS bs e)) = true ∧ bs.getD (tkS bs e) 0 - 48 < 4 then rdI bs (tkE bs (tkS bs e)) kn (bs.getD (tkS bs e) 0 - 48) else (none, tkS bs e, tkE bs (tkS bs e), kn)
def rdG (bs : List Nat) (p q kn : Nat) : RdR := if isW bs p q 0 = true then rdP bs q kn 0 else if isW bs p q 1 = true then rdP bs q kn 1 else if isW bs p q 2 = true then rdL bs q kn else if isW bs p q 3 = true then rdH bs q kn else (none, p, q, kn)
def rdLine (bs : List Nat) (e kn : Nat) : RdR := rdG bs (tkS bs e) (tkE bs (tkS bs e)) kn
def rdQ (bs : List Nat) (R : RdR) (j : Nat) (d : xD) (r : Int32) (d' : xD) : Prop := txIs d' bs ∧ tpIs d' R.2.1 R.2.2.1 ∧ d'.1 32 3 = nI R.2.2.2 ∧ d'.1 32 2 = d.1 32 2 ∧ ((r = 0 ∧ R.1 = none) ∨ (r = 1 ∧ ∃ t, R.1 = some t ∧ lineIs d' j t)) ∧ chg [30, 32, j + 34] d d' ∧ R.2.1 ≤ R.2.2.1 ∧ R.2.2.1 ≤ bs.length ∧ R.2.2.2 ≤ 6
theorem let_neg : ∀ b, b < 97 → nI b - nI 97 < 0 := by decide +kernel
section LIN
variable {l : Launch} {W : xW} {dep : Nat} {d : xD} {bs : List Nat} {p q e kn j : Nat}
theorem s_X10_letterAtN (h : txIs d bs) {i : Nat} (hi : i < bs.length) (h97 : 97 ≤ bs.getD i 0) : mSpecI l W mX10_letterAt (dep + 1) [.ref (xad W 30), .int (nI i)] d (fun r d' => r = nI (bs.getD i 0 - 97) ∧ d' = d) :=
  (s_X10_letterAt h hi).mono (fun r d' ⟨e2, e3⟩ => ⟨by rw [e2, pk_sub h97], e3⟩)
theorem s_X5_isOfLetters (h : txIs d bs) (hp : tpIs d p q) (hpq : p ≤ q) (hq : q ≤ bs.length) (hk : d.1 32 3 = nI kn) (hk6 : kn ≤ 6) : mSpecI l W mX5_isOfLetters (dep + 2) [.ref (xad W 32)] d (fun r d' => r = (if ofL bs p q kn = true then 1 else 0) ∧ d' = d) := by
  have h160 := h.2.1
  refine m_spec RX5 [some (.ref (xad W 32)), none, none] rfl (by decide +kernel) rfl rfl (fun K hR => ?_)
  have loop : ∀ i, i ≤ q → p ≤ i → (∀ i', i' < i → p ≤ i' → 97 ≤ bs.getD i' 0 ∧ bs.getD i' 0 - 97 < kn) → ∀ o2, mG W K cX5_isOfLetters RX5 (dep + 2) d 8 [some (.ref (xad W 32)), some (.int (nI i)), o2] [] := x_up _ (fun i hi ih hpi g o2 => by
    by_cases e : i < q
    · have hbi := (h.2.2 i (by omega)).2
      by_cases e97 : 97 ≤ bs.getD i 0
      · have e97' := e97
        refine m_iload_n dX5_isOfLetters_8 rfl ?_
        refine m_aload_n dX5_isOfLetters_9 rfl ?_
        refine m_get fl_X5_24 (by decide) rfl rfl dX5_isOfLetters_10 ?_
        refine m_callVIp (s_X10_end hp) cv_X5_101 dX5_isOfLetters_13 ?_
        first | refine m_icmp_geN 48 dX5_isOfLetters_16 (by decide) (by omega) (by omega) (fun c16 => by exfalso; omega) (fun c16 => ?_) | refine m_icmp_ge 48 dX5_isOfLetters_16 (by decide) (fun c16 => by exfalso; omega) (fun c16 => ?_)
        refine m_aload_n dX5_isOfLetters_19 rfl ?_
        refine m_get fl_X5_24 (by decide) rfl rfl dX5_isOfLetters_20 ?_
        refine m_iload_n dX5_isOfLetters_23 rfl ?_
        refine m_callVIp (s_X10_letterAtN h (i := i) (by omega) e97) cv_X5_81 dX5_isOfLetters_24 ?_
        refine m_istore_n dX5_isOfLetters_27 (Nat.le_of_ble_eq_true rfl) rfl ?_
        refine m_iload_n dX5_isOfLetters_28 rfl ?_
        refine m_if_ltN 40 dX5_isOfLetters_29 (by decide) (by omega) ?_
        refine m_iload_n dX5_isOfLetters_32 rfl ?_
        refine m_aload_n dX5_isOfLetters_33 rfl ?_
        refine m_get fl_X5_21 (by decide) rfl rfl dX5_isOfLetters_34 ?_
        refine m_eqi (hk) ?_
        first | refine m_icmp_ltN 42 dX5_isOfLetters_37 (by decide) (by omega) (by omega) (fun c37 => ?_) (fun c37 => ?_) | refine m_icmp_lt 42 dX5_isOfLetters_37 (by decide) (fun c37 => ?_) (fun c37 => ?_)
        · first | refine m_iincN 1 dX5_isOfLetters_42 (by decide) rfl rfl ?_ | refine m_iinc dX5_isOfLetters_42 rfl rfl ?_
          refine m_goto 8 dX5_isOfLetters_45 (by decide) ?_
          refine ih (by omega) (by omega) (fun i' hi' hpi' => ?_) _
          by_cases e2 : i' = i
          · subst e2; exact ⟨e97, by omega⟩
          · exact g i' (by omega) hpi'
        · refine m_iconstN 0 dX5_isOfLetters_40 (by decide) ?_
          exact m_iret (ty := .boolean) hR dX5_isOfLetters_41 (⟨by rw [if_neg (fun z => absurd (of_decide_eq_true z i e hpi).2 (by omega))]; rfl, rfl⟩)
      · have e97' := e97
        refine m_iload_n dX5_isOfLetters_8 rfl ?_
        refine m_aload_n dX5_isOfLetters_9 rfl ?_
        refine m_get fl_X5_24 (by decide) rfl rfl dX5_isOfLetters_10 ?_
        refine m_callVIp (s_X10_end hp) cv_X5_101 dX5_isOfLetters_13 ?_
        first | refine m_icmp_geN 48 dX5_isOfLetters_16 (by decide) (by omega) (by omega) (fun c16 => by exfalso; omega) (fun c16 => ?_) | refine m_icmp_ge 48 dX5_isOfLetters_16 (by decide) (fun c16 => by exfalso; omega) (fun c16 => ?_)
        refine m_aload_n dX5_isOfLetters_19 rfl ?_
        refine m_get fl_X5_24 (by decide) rfl rfl dX5_isOfLetters_20 ?_
        refine m_iload_n dX5_isOfLetters_23 rfl ?_
        refine m_callVIp (s_X10_letterAt h (i := i) (by omega)) cv_X5_81 dX5_isOfLetters_24 ?_
        refine m_istore_n dX5_isOfLetters_27 (Nat.le_of_ble_eq_true rfl) rfl ?_
        refine m_iload_n dX5_isOfLetters_28 rfl ?_
        refine m_if_lt 40 dX5_isOfLetters_29 (by decide) (fun c29 => ?_) (fun c29 => by exfalso; exact c29 (let_neg _ (by omega)))
        refine m_iconstN 0 dX5_isOfLetters_40 (by decide) ?_
        exact m_iret (ty := .boolean) hR dX5_isOfLetters_41 (⟨by rw [if_neg (fun z => absurd (of_decide_eq_true z i e hpi).1 (by omega))]; rfl, rfl⟩)
    · have e' := e
      refine m_iload_n dX5_isOfLetters_8 rfl ?_
      refine m_aload_n dX5_isOfLetters_9 rfl ?_
      refine m_get fl_X5_24 (by decide) rfl rfl dX5_isOfLetters_10 ?_
      refine m_callVIp (s_X10_end hp) cv_X5_101 dX5_isOfLetters_13 ?_
      first | refine m_icmp_geN 48 dX5_isOfLetters_16 (by decide) (by omega) (by omega) (fun c16 => ?_) (fun c16 => by exfalso; omega) | refine m_icmp_ge 48 dX5_isOfLetters_16 (by decide) (fun c16 => ?_) (fun c16 => by exfalso; omega)
      refine m_iconstN 1 dX5_isOfLetters_48 (by decide) ?_
      exact m_iret (ty := .boolean) hR dX5_isOfLetters_49 (⟨by rw [if_pos (show ofL bs p q kn = true from decide_eq_true (fun i' hi' hpi' => g i' (by omega) hpi'))]; rfl, rfl⟩)
    )
  refine m_aload_n dX5_isOfLetters_0 rfl ?_
  refine m_get fl_X5_24 (by decide) rfl rfl dX5_isOfLetters_1 ?_
  refine m_callVIp (s_X10_start hp) cv_X5_38 dX5_isOfLetters_4 ?_
  refine m_istore_n dX5_isOfLetters_7 (Nat.le_of_ble_eq_true rfl) rfl ?_
  exact loop p hpq (Nat.le_refl _) (fun i' hi' hpi' => absurd hpi' (by omega)) _
theorem s_X5_readPair (h : txIs d bs) (hp : tpIs d p e) (he : e ≤ bs.length) (hk : d.1 32 3 = nI kn) (hk6 : kn ≤ 6) (hj : j < 16) {kind : Nat} (hki : kind < 2) : mSpecI l W mX5_readPair (dep + 3) [.ref (xad W 32), .ref (xad W (j + 34)), .int (nI kind)] d (fun r d' => rdQ bs (rdP bs e kn kind) j d r d') := by
  have h160 := h.2.1
  have hS := runE_le (fun b => decide (b = 32)) bs he
  have hE := tkE_le (bs := bs) (q := tkS bs e) hS.2
  refine m_spec RX5 [some (.ref (xad W 32)), some (.ref (xad W (j + 34))), some (.int (nI kind))] rfl (by decide +kernel) rfl rfl (fun K hR => ?_)
  refine m_aload_n dX5_readPair_0 rfl ?_
  refine m_get fl_X5_24 (by decide) rfl rfl dX5_readPair_1 ?_
  refine m_callVV (s_X10_step h hp he) cv_X5_42 dX5_readPair_4 (fun d4 h4 => ?_)
  have hk4 : d4.1 32 3 = nI kn := by rw [(h4.2.2 32 (by simp)).1]; exact hk
  have hs4 : d4.1 32 2 = d.1 32 2 := by rw [(h4.2.2 32 (by simp)).1]
  refine m_aload_n dX5_readPair_7 rfl ?_
  refine m_get fl_X5_24 (by decide) rfl rfl dX5_readPair_8 ?_
  refine m_callVIp (s_X10_tokenLength h4.2.1 hE.1) cv_X5_45 dX5_readPair_11 ?_
  refine m_iconstN 2 dX5_readPair_14 (by decide) ?_
  first | refine m_icmp_neN 25 dX5_readPair_15 (by decide) (by omega) (by omega) (fun c15 => ?_) (fun c15 => ?_) | refine m_icmp_ne 25 dX5_readPair_15 (by decide) (fun c15 => ?_) (fun c15 => ?_)
  · refine m_iconstN 0 dX5_readPair_25 (by decide) ?_
    exact m_iret (ty := .boolean) hR dX5_readPair_26 (⟨h4.1, h4.2.1, hk4, hs4, Or.inl ⟨rfl, by unfold rdP; rw [if_neg (fun z => by omega)]⟩, h4.2.2.mono (by simp), hE.1, hE.2, hk6⟩)
  · refine m_aload_n dX5_readPair_18 rfl ?_
    refine m_callVIp (s_X5_isOfLetters h4.1 h4.2.1 hE.1 hE.2 hk4 hk6) cv_X5_74 dX5_readPair_19 ?_
    refine m_if_ne 27 dX5_readPair_22 (by decide) (fun c22 => ?_) (fun c22 => ?_)
    · have hof : ofL bs (tkS bs e) (tkE bs (tkS bs e)) kn = true := Decidable.byContradiction (fun z => c22 (by rw [if_neg z]))
      have hof2 := of_decide_eq_true hof
      have o1 := hof2 (tkS bs e) (by omega) (Nat.le_refl _)
      have o2 := hof2 (tkS bs e + 1) (by omega) (by omega)
      have b1 := (h4.1.2.2 (tkS bs e) (by omega)).2
      have b2 := (h4.1.2.2 (tkS bs e + 1) (by omega)).2
      have c5 : chg [j + 34] d4 (seI d4 (j + 34) 0 (nI kind)) := chg.rf.se (by simp)
      have c6 : chg [j + 34] d4 (seI (seI d4 (j + 34) 0 (nI kind)) (j + 34) 1 (nI (bs.getD (tkS bs e) 0 - 97))) := c5.se (by simp)
      have c7 : chg [j + 34] d4 (seI (seI (seI d4 (j + 34) 0 (nI kind)) (j + 34) 1 (nI (bs.getD (tkS bs e) 0 - 97))) (j + 34) 2 (nI (bs.getD (tkS bs e + 1) 0 - 97))) := c6.se (by simp)
      have n30 : (30 : Nat) ∉ [j + 34] := by simp <;> omega
      have n31 : (31 : Nat) ∉ [j + 34] := by simp <;> omega
      have n32 : (32 : Nat) ∉ [j + 34] := by simp <;> omega
      refine m_aload_n dX5_readPair_27 rfl ?_
      refine m_iload_n dX5_readPair_28 rfl ?_
      refine m_put fl_X5_78 (by omega) (xcell_line _ _ _ (by omega)) (Nat.le_of_ble_eq_true rfl) (xline_put0 _ _ _ (by omega)) dX5_readPair_29 ?_
      refine m_aload_n dX5_readPair_32 rfl ?_
      refine m_aload_n dX5_readPair_33 rfl ?_
      refine m_get fl_X5_24 (by decide) rfl rfl dX5_readPair_34 ?_
      refine m_aload_n dX5_readPair_37 rfl ?_
      refine m_get fl_X5_24 (by decide) rfl rfl dX5_readPair_38 ?_
      refine m_callVIp (s_X10_start (h4.2.1.fr c5 n30)) cv_X5_38 dX5_readPair_41 ?_
      refine m_callVIp (s_X10_letterAtN (h4.1.fr c5 n30 n31) (i := tkS bs e) (by omega) o1.1) cv_X5_81 dX5_readPair_44 ?_
      refine m_put fl_X5_85 (by omega) (xcell_line _ _ _ (by omega)) (Nat.le_of_ble_eq_true rfl) (xline_put1 _ _ _ (by omega)) dX5_readPair_47 ?_
      refine m_aload_n dX5_readPair_50 rfl ?_
      refine m_aload_n dX5_readPair_51 rfl ?_
      refine m_get fl_X5_24 (by decide) rfl rfl dX5_readPair_52 ?_
      refine m_aload_n dX5_readPair_55 rfl ?_
      refine m_get fl_X5_24 (by decide) rfl rfl dX5_readPair_56 ?_
      refine m_callVIp (s_X10_start (h4.2.1.fr c6 n30)) cv_X5_38 dX5_readPair_59 ?_
      refine m_iconstN 1 dX5_readPair_62 (by decide) ?_
      first | refine m_iaddN dX5_readPair_63 ?_ | refine m_iadd dX5_readPair_63 ?_
      refine m_callVIp (s_X10_letterAtN (h4.1.fr c6 n30 n31) (i := tkS bs e + 1) (by omega) o2.1) cv_X5_81 dX5_readPair_64 ?_
      refine m_put fl_X5_88 (by omega) (xcell_line _ _ _ (by omega)) (Nat.le_of_ble_eq_true rfl) (xline_put2 _ _ _ (by omega)) dX5_readPair_67 ?_
      refine m_aload_n dX5_readPair_70 rfl ?_
      refine m_get fl_X5_85 (by omega) (xcell_line _ _ _ (by omega)) rfl dX5_readPair_71 ?_
      refine m_eqi ((se_e2 (se_s _ _ _ _) (by decide) : _ = nI (bs.getD (tkS bs e) 0 - 97))) ?_
      refine m_aload_n dX5_readPair_74 rfl ?_
      refine m_get fl_X5_88 (by omega) (xcell_line _ _ _ (by omega)) rfl dX5_readPair_75 ?_
      refine m_eqi ((se_s _ _ _ _ : _ = nI (bs.getD (tkS bs e + 1) 0 - 97))) ?_
      first | refine m_icmp_eqN 85 dX5_readPair_78 (by decide) (by omega) (by omega) (fun c78 => ?_) (fun c78 => ?_) | refine m_icmp_eq 85 dX5_readPair_78 (by decide) (fun c78 => ?_) (fun c78 => ?_)
      · refine m_iconstN 0 dX5_readPair_85 (by decide) ?_
        exact m_iret (ty := .boolean) hR dX5_readPair_86 (⟨h4.1.fr c7 n30 n31, h4.2.1.fr c7 n30, (congrFun (c7 32 n32).1 3).trans hk4, (congrFun (c7 32 n32).1 2).trans hs4, Or.inl ⟨rfl, by unfold rdP; rw [if_neg (fun z => by omega)]⟩, (h4.2.2.mono (by simp)).tr (c7.mono (by simp)), hE.1, hE.2, hk6⟩)
      · refine m_iconstN 1 dX5_readPair_81 (by decide) ?_
        refine m_goto 86 dX5_readPair_82 (by decide) ?_
        exact m_iret (ty := .boolean) hR dX5_readPair_86 (⟨h4.1.fr c7 n30 n31, h4.2.1.fr c7 n30, (congrFun (c7 32 n32).1 3).trans hk4, (congrFun (c7 32 n32).1 2).trans hs4, Or.inr ⟨rfl, _, by unfold rdP; rw [if_pos ⟨by omega, hof, by omega⟩], se_e2 (se_e2 (se_s _ _ _ _) (by decide)) (by decide), se_e2 (se_s _ _ _ _) (by decide), fun _ => se_s _ _ _ _, fun z => by dsimp only at z; omega⟩, (h4.2.2.mono (by simp)).tr (c7.mono (by simp)), hE.1, hE.2, hk6⟩)
    · refine m_iconstN 0 dX5_readPair_25 (by decide) ?_
      exact m_iret (ty := .boolean) hR dX5_readPair_26 (⟨h4.1, h4.2.1, hk4, hs4, Or.inl ⟨rfl, by unfold rdP; rw [if_neg (fun z => c22 (by rw [if_pos z.2.1]; decide))]⟩, h4.2.2.mono (by simp), hE.1, hE.2, hk6⟩)
theorem rdL_0 {bs : List Nat} {e kn : Nat} (h : ¬ (isN bs (tkS bs e) (tkE bs (tkS bs e)) = true ∧ 1 ≤ bs.getD (tkS bs e) 0 - 48 ∧ bs.getD (tkS bs e) 0 - 48 ≤ 6)) : rdL bs e kn = (none, tkS bs e, tkE bs (tkS bs e), kn) := if_neg h
theorem rdL_1 {bs : List Nat} {e kn : Nat} (h : isN bs (tkS bs e) (tkE bs (tkS bs e)) = true ∧ 1 ≤ bs.getD (tkS bs e) 0 - 48 ∧ bs.getD (tkS bs e) 0 - 48 ≤ 6) : rdL bs e kn = (some (2, bs.getD (tkS bs e) 0 - 48, 0, 0), tkS bs e, tkE bs (tkS bs e), bs.getD (tkS bs e) 0 - 48) := if_pos h
theorem s_X5_readLetters (h : txIs d bs) (hp : tpIs d p e) (he : e ≤ bs.length) (hk : d.1 32 3 = nI kn) (hk6 : kn ≤ 6) (hj : j < 16) : mSpecI l W mX5_readLetters (dep + 3) [.ref (xad W 32), .ref (xad W (j + 34))] d (fun r d' => rdQ bs (rdL bs e kn) j d r d') := by
  have h160 := h.2.1
  have hS := runE_le (fun b => decide (b = 32)) bs he
  have hE := tkE_le (bs := bs) (q := tkS bs e) hS.2
  refine m_spec RX5 [some (.ref (xad W 32)), some (.ref (xad W (j + 34))), none] rfl (by decide +kernel) rfl rfl (fun K hR => ?_)
  refine m_aload_n dX5_readLetters_0 rfl ?_
  refine m_get fl_X5_24 (by decide) rfl rfl dX5_readLetters_1 ?_
  refine m_callVV (s_X10_step h hp he) cv_X5_42 dX5_readLetters_4 (fun d4 h4 => ?_)
  have hk4 : d4.1 32 3 = nI kn := by rw [(h4.2.2 32 (by simp)).1]; exact hk
  have hs4 : d4.1 32 2 = d.1 32 2 := by rw [(h4.2.2 32 (by simp)).1]
  by_cases hn : isN bs (tkS bs e) (tkE bs (tkS bs e)) = true
  · have hn2 := of_decide_eq_true hn
    have hd := of_decide_eq_true hn2.2
    have hv : nmT bs (tkS bs e) (tkE bs (tkS bs e)) = nI (bs.getD (tkS bs e) 0 - 48) := by unfold nmT; rw [if_pos hn2]
    have c7 : chg [j + 34, 32] d4 (seI (seI (seI d4 (j + 34) 0 (nI 2)) (j + 34) 1 (nI (bs.getD (tkS bs e) 0 - 48))) 32 3 (nI (bs.getD (tkS bs e) 0 - 48))) := ((chg.rf.se (by simp)).se (by simp)).se (by simp)
    have n30 : (30 : Nat) ∉ [j + 34, 32] := by simp <;> omega
    have n31 : (31 : Nat) ∉ [j + 34, 32] := by simp <;> omega
    refine m_aload_n dX5_readLetters_7 rfl ?_
    refine m_get fl_X5_24 (by decide) rfl rfl dX5_readLetters_8 ?_
    refine m_callVIp (s_X10_number h4.1 h4.2.1 hE.1 hE.2) cv_X5_91 dX5_readLetters_11 ?_
    refine m_eqi hv ?_
    refine m_istore_n dX5_readLetters_14 (Nat.le_of_ble_eq_true rfl) rfl ?_
    refine m_iload_n dX5_readLetters_15 rfl ?_
    refine m_iconstN 1 dX5_readLetters_16 (by decide) ?_
    first | refine m_icmp_ltN 26 dX5_readLetters_17 (by decide) (by omega) (by omega) (fun c17 => ?_) (fun c17 => ?_) | refine m_icmp_lt 26 dX5_readLetters_17 (by decide) (fun c17 => ?_) (fun c17 => ?_)
    · refine m_iconstN 0 dX5_readLetters_26 (by decide) ?_
      exact m_iret (ty := .boolean) hR dX5_readLetters_27 ((by rw [rdL_0 (fun z => by omega)]; exact ⟨h4.1, h4.2.1, hk4, hs4, Or.inl ⟨rfl, rfl⟩, h4.2.2.mono (by simp), hE.1, hE.2, hk6⟩))
    · refine m_iload_n dX5_readLetters_20 rfl ?_
      refine m_bipushN 6 dX5_readLetters_21 (by decide) ?_
      first | refine m_icmp_leN 28 dX5_readLetters_23 (by decide) (by omega) (by omega) (fun c23 => ?_) (fun c23 => ?_) | refine m_icmp_le 28 dX5_readLetters_23 (by decide) (fun c23 => ?_) (fun c23 => ?_)
      · refine m_aload_n dX5_readLetters_28 rfl ?_
        refine m_iconstN 2 dX5_readLetters_29 (by decide) ?_
        refine m_put fl_X5_78 (by omega) (xcell_line _ _ _ (by omega)) (Nat.le_of_ble_eq_true rfl) (xline_put0 _ _ _ (by omega)) dX5_readLetters_30 ?_
        refine m_aload_n dX5_readLetters_33 rfl ?_
        refine m_iload_n dX5_readLetters_34 rfl ?_
        refine m_put fl_X5_85 (by omega) (xcell_line _ _ _ (by omega)) (Nat.le_of_ble_eq_true rfl) (xline_put1 _ _ _ (by omega)) dX5_readLetters_35 ?_
        refine m_aload_n dX5_readLetters_38 rfl ?_
        refine m_iload_n dX5_readLetters_39 rfl ?_
        refine m_put fl_X5_21 (by decide) rfl (Nat.le_of_ble_eq_true rfl) rfl dX5_readLetters_40 ?_
        refine m_iconstN 1 dX5_readLetters_43 (by decide) ?_
        exact m_iret (ty := .boolean) hR dX5_readLetters_44 ((by rw [rdL_1 ⟨hn, by omega, by omega⟩]; exact ⟨h4.1.fr c7 n30 n31, h4.2.1.fr c7 n30, se_s _ _ _ _, (se_e2 (se_e (se_e rfl (by omega)) (by omega)) (by decide) : _ = d4.1 32 2).trans hs4, Or.inr ⟨rfl, _, rfl, se_e (se_e2 (se_s _ _ _ _) (by decide)) (by omega), se_e (se_s _ _ _ _) (by omega), fun z => absurd (show 2 < 2 from z) (by decide), fun z => absurd (show 2 = 3 from z) (by decide)⟩, (h4.2.2.mono (by simp)).tr (c7.mono (by simp)), hE.1, hE.2, by omega⟩))
      · refine m_iconstN 0 dX5_readLetters_26 (by decide) ?_
        exact m_iret (ty := .boolean) hR dX5_readLetters_27 ((by rw [rdL_0 (fun z => by omega)]; exact ⟨h4.1, h4.2.1, hk4, hs4, Or.inl ⟨rfl, rfl⟩, h4.2.2.mono (by simp), hE.1, hE.2, hk6⟩))
  · have hv : nmT bs (tkS bs e) (tkE bs (tkS bs e)) = -1 := by unfold nmT; rw [if_neg (fun z => hn (decide_eq_true z))]
    refine m_aload_n dX5_readLetters_7 rfl ?_
    refine m_get fl_X5_24 (by decide) rfl rfl dX5_readLetters_8 ?_
    refine m_callVIp (s_X10_number h4.1 h4.2.1 hE.1 hE.2) cv_X5_91 dX5_readLetters_11 ?_
    refine m_eqi hv ?_
    refine m_istore_n dX5_readLetters_14 (Nat.le_of_ble_eq_true rfl) rfl ?_
    refine m_iload_n dX5_readLetters_15 rfl ?_
    refine m_iconstN 1 dX5_readLetters_16 (by decide) ?_
    refine m_icmp_lt 26 dX5_readLetters_17 (by decide) (fun c17 => ?_) (fun c17 => by exfalso; exact c17 (by decide))
    refine m_iconstN 0 dX5_readLetters_26 (by decide) ?_
    exact m_iret (ty := .boolean) hR dX5_readLetters_27 ((by rw [rdL_0 (fun z => hn z.1)]; exact ⟨h4.1, h4.2.1, hk4, hs4, Or.inl ⟨rfl, rfl⟩, h4.2.2.mono (by simp), hE.1, hE.2, hk6⟩))
theorem rdW_0 {bs : List Nat} {e kn hp : Nat} (h : ¬ isW bs (tkS bs e) (tkE bs (tkS bs e)) 5 = true) (h2 : ¬ (1 ≤ tkE bs (tkS bs e) - tkS bs e ∧ tkE bs (tkS bs e) - tkS bs e ≤ 24 ∧ ofL bs (tkS bs e) (tkE bs (tkS bs e)) kn = true)) : rdW bs e kn hp = (none, tkS bs e, tkE bs (tkS bs e), kn) := by unfold rdW; rw [if_neg h, if_neg h2]
theorem rdW_1 {bs : List Nat} {e kn hp : Nat} (h : isW bs (tkS bs e) (tkE bs (tkS bs e)) 5 = true) : rdW bs e kn hp = (some (3, hp, tkS bs e, tkS bs e), tkS bs e, tkE bs (tkS bs e), kn) := if_pos h
theorem rdW_2 {bs : List Nat} {e kn hp : Nat} (h : ¬ isW bs (tkS bs e) (tkE bs (tkS bs e)) 5 = true) (h2 : 1 ≤ tkE bs (tkS bs e) - tkS bs e ∧ tkE bs (tkS bs e) - tkS bs e ≤ 24 ∧ ofL bs (tkS bs e) (tkE bs (tkS bs e)) kn = true) : rdW bs e kn hp = (some (3, hp, tkS bs e, tkE bs (tkS bs e)), tkS bs e, tkE bs (tkS bs e), kn) := by unfold rdW; rw [if_neg h, if_pos h2]
theorem rdI_0 {bs : List Nat} {e kn hp : Nat} (h : ¬ isW bs (tkS bs e) (tkE bs (tkS bs e)) 4 = true) : rdI bs e kn hp = (none, tkS bs e, tkE bs (tkS bs e), kn) := if_neg h
theorem rdI_1 {bs : List Nat} {e kn hp : Nat} (h : isW bs (tkS bs e) (tkE bs (tkS bs e)) 4 = true) : rdI bs e kn hp = rdW bs (tkE bs (tkS bs e)) kn hp := if_pos h
theorem rdH_0 {bs : List Nat} {e kn : Nat} (h : ¬ (isN bs (tkS bs e) (tkE bs (tkS bs e)) = true ∧ bs.getD (tkS bs e) 0 - 48 < 4)) : rdH bs e kn = (none, tkS bs e, tkE bs (tkS bs e), kn) := if_neg h
theorem rdH_1 {bs : List Nat} {e kn : Nat} (h : isN bs (tkS bs e) (tkE bs (tkS bs e)) = true ∧ bs.getD (tkS bs e) 0 - 48 < 4) : rdH bs e kn = rdI bs (tkE bs (tkS bs e)) kn (bs.getD (tkS bs e) 0 - 48) := if_pos h
theorem s_X5_readHeap (h : txIs d bs) (hp : tpIs d p e) (he : e ≤ bs.length) (hk : d.1 32 3 = nI kn) (hk6 : kn ≤ 6) (hj : j < 16) : mSpecI l W mX5_readHeap (dep + 5) [.ref (xad W 32), .ref (xad W (j + 34))] d (fun r d' => rdQ bs (rdH bs e kn) j d r d') := by
  have h160 := h.2.1
  have hS := runE_le (fun b => decide (b = 32)) bs he
  have hE := tkE_le (bs := bs) (q := tkS bs e) hS.2
  have n30 : (30 : Nat) ∉ [j + 34] := by simp <;> omega
  have n31 : (31 : Nat) ∉ [j + 34] := by simp <;> omega
  have n32 : (32 : Nat) ∉ [j + 34] := by simp <;> omega
  have nj : j + 34 ∉ [30] := by simp <;> omega
  refine m_spec RX5 [some (.ref (xad W 32)), some (.ref (xad W (j + 34))), none, none] rfl (by decide +kernel) rfl rfl (fun K hR => ?_)
  have tail : ∀ p2 e2 hn dd, p2 ≤ e2 → e2 ≤ bs.length → rdH bs e kn = rdW bs e2 kn hn → txIs dd bs → tpIs dd p2 e2 → dd.1 32 3 = nI kn → dd.1 32 2 = d.1 32 2 → dd.1 (j + 34) 0 = nI 3 → dd.1 (j + 34) 1 = nI hn → chg [30, 32, j + 34] d dd → mG W K cX5_readHeap RX5 (dep + 5) dd 57 [some (.ref (xad W 32)), some (.ref (xad W (j + 34))), some (.int (nI hn)), none] [] := fun p2 e2 hn dd q1 q2 q3 q4 q5 q6 q7 q8 q9 q10 => by
    have hS3 := runE_le (fun b => decide (b = 32)) bs q2
    have hE3 := tkE_le (bs := bs) (q := tkS bs e2) hS3.2
    refine m_aload_n dX5_readHeap_57 rfl ?_
    refine m_get fl_X5_24 (by decide) rfl rfl dX5_readHeap_58 ?_
    refine m_callVV (s_X10_step q4 q5 q2) cv_X5_42 dX5_readHeap_61 (fun d61 h61 => ?_)
    have k1 : d61.1 32 3 = nI kn := by rw [(h61.2.2 32 (by simp)).1]; exact q6
    have k2 : d61.1 32 2 = d.1 32 2 := by rw [(h61.2.2 32 (by simp)).1]; exact q7
    have k3 : d61.1 (j + 34) 0 = nI 3 := by rw [(h61.2.2 _ nj).1]; exact q8
    have k4 : d61.1 (j + 34) 1 = nI hn := by rw [(h61.2.2 _ nj).1]; exact q9
    have k5 : chg [30, 32, j + 34] d d61 := q10.tr (h61.2.2.mono (by simp))
    have c5 : chg [j + 34] d61 (seI d61 (j + 34) 3 (nI (tkS bs e2))) := chg.rf.se (by simp)
    by_cases hW : isW bs (tkS bs e2) (tkE bs (tkS bs e2)) 5 = true
    · have c6 : chg [j + 34] d61 (seI (seI d61 (j + 34) 3 (nI (tkS bs e2))) (j + 34) 4 (nI (tkS bs e2))) := c5.se (by simp)
      refine m_aload_n dX5_readHeap_64 rfl ?_
      refine m_get fl_X5_24 (by decide) rfl rfl dX5_readHeap_65 ?_
      refine m_ldcS (i := 5) (tx := "none") rfl rfl dX5_readHeap_68 ?_
      refine m_callVIp (s_X10_isWord h61.1 h61.2.1 hE3.1 hE3.2 (i := 5) (by decide)) cv_X5_54 dX5_readHeap_70 ?_
      refine m_eqi (if_pos hW) ?_
      refine m_istore_n dX5_readHeap_73 (Nat.le_of_ble_eq_true rfl) rfl ?_
      refine m_aload_n dX5_readHeap_74 rfl ?_
      refine m_aload_n dX5_readHeap_75 rfl ?_
      refine m_get fl_X5_24 (by decide) rfl rfl dX5_readHeap_76 ?_
      refine m_callVIp (s_X10_start h61.2.1) cv_X5_38 dX5_readHeap_79 ?_
      refine m_put fl_X5_98 (by omega) (xcell_line _ _ _ (by omega)) (Nat.le_of_ble_eq_true rfl) (xline_put3 _ _ _ (by omega)) dX5_readHeap_82 ?_
      refine m_aload_n dX5_readHeap_85 rfl ?_
      refine m_iload_n dX5_readHeap_86 rfl ?_
      refine m_if_eq 100 dX5_readHeap_87 (by decide) (fun c87 => by exfalso; exact absurd c87 (by decide)) (fun c87 => ?_)
      refine m_aload_n dX5_readHeap_90 rfl ?_
      refine m_get fl_X5_24 (by decide) rfl rfl dX5_readHeap_91 ?_
      refine m_callVIp (s_X10_start (h61.2.1.fr c5 n30)) cv_X5_38 dX5_readHeap_94 ?_
      refine m_goto 107 dX5_readHeap_97 (by decide) ?_
      refine m_put fl_X5_104 (by omega) (xcell_line _ _ _ (by omega)) (Nat.le_of_ble_eq_true rfl) (xline_put4 _ _ _ (by omega)) dX5_readHeap_107 ?_
      refine m_iload_n dX5_readHeap_110 rfl ?_
      refine m_if_ne 144 dX5_readHeap_111 (by decide) (fun c111 => ?_) (fun c111 => by exfalso; exact c111 (by decide))
      refine m_iconstN 1 dX5_readHeap_144 (by decide) ?_
      refine m_goto 149 dX5_readHeap_145 (by decide) ?_
      exact m_iret (ty := .boolean) hR dX5_readHeap_149 ((by rw [q3, rdW_1 hW]; exact ⟨h61.1.fr c6 n30 n31, h61.2.1.fr c6 n30, (congrFun (c6 32 n32).1 3).trans k1, (congrFun (c6 32 n32).1 2).trans k2, Or.inr ⟨rfl, _, rfl, se_e2 (se_e2 k3 (by decide)) (by decide), se_e2 (se_e2 k4 (by decide)) (by decide), fun z => absurd (show 3 < 2 from z) (by decide), fun _ => ⟨se_e2 (se_s _ _ _ _) (by decide), se_s _ _ _ _⟩⟩, k5.tr (c6.mono (by simp)), hE3.1, hE3.2, hk6⟩))
    · have c6 : chg [j + 34] d61 (seI (seI d61 (j + 34) 3 (nI (tkS bs e2))) (j + 34) 4 (nI (tkE bs (tkS bs e2)))) := c5.se (by simp)
      have k6 := (congrFun (c6 32 n32).1 3).trans k1
      have k7 := (congrFun (c6 32 n32).1 2).trans k2
      have t6 := h61.1.fr c6 n30 n31
      have t7 := h61.2.1.fr c6 n30
      have t8 := k5.tr (c6.mono (by simp))
      refine m_aload_n dX5_readHeap_64 rfl ?_
      refine m_get fl_X5_24 (by decide) rfl rfl dX5_readHeap_65 ?_
      refine m_ldcS (i := 5) (tx := "none") rfl rfl dX5_readHeap_68 ?_
      refine m_callVIp (s_X10_isWord h61.1 h61.2.1 hE3.1 hE3.2 (i := 5) (by decide)) cv_X5_54 dX5_readHeap_70 ?_
      refine m_eqi (if_neg hW) ?_
      refine m_istore_n dX5_readHeap_73 (Nat.le_of_ble_eq_true rfl) rfl ?_
      refine m_aload_n dX5_readHeap_74 rfl ?_
      refine m_aload_n dX5_readHeap_75 rfl ?_
      refine m_get fl_X5_24 (by decide) rfl rfl dX5_readHeap_76 ?_
      refine m_callVIp (s_X10_start h61.2.1) cv_X5_38 dX5_readHeap_79 ?_
      refine m_put fl_X5_98 (by omega) (xcell_line _ _ _ (by omega)) (Nat.le_of_ble_eq_true rfl) (xline_put3 _ _ _ (by omega)) dX5_readHeap_82 ?_
      refine m_aload_n dX5_readHeap_85 rfl ?_
      refine m_iload_n dX5_readHeap_86 rfl ?_
      refine m_if_eq 100 dX5_readHeap_87 (by decide) (fun c87 => ?_) (fun c87 => by exfalso; exact c87 rfl)
      refine m_aload_n dX5_readHeap_100 rfl ?_
      refine m_get fl_X5_24 (by decide) rfl rfl dX5_readHeap_101 ?_
      refine m_callVIp (s_X10_end (h61.2.1.fr c5 n30)) cv_X5_101 dX5_readHeap_104 ?_
      refine m_put fl_X5_104 (by omega) (xcell_line _ _ _ (by omega)) (Nat.le_of_ble_eq_true rfl) (xline_put4 _ _ _ (by omega)) dX5_readHeap_107 ?_
      refine m_iload_n dX5_readHeap_110 rfl ?_
      refine m_if_ne 144 dX5_readHeap_111 (by decide) (fun c111 => by exfalso; exact c111 rfl) (fun c111 => ?_)
      refine m_aload_n dX5_readHeap_114 rfl ?_
      refine m_get fl_X5_24 (by decide) rfl rfl dX5_readHeap_115 ?_
      refine m_callVIp (s_X10_tokenLength t7 hE3.1) cv_X5_45 dX5_readHeap_118 ?_
      refine m_iconstN 1 dX5_readHeap_121 (by decide) ?_
      first | refine m_icmp_ltN 148 dX5_readHeap_122 (by decide) (by omega) (by omega) (fun c122 => ?_) (fun c122 => ?_) | refine m_icmp_lt 148 dX5_readHeap_122 (by decide) (fun c122 => ?_) (fun c122 => ?_)
      · refine m_iconstN 0 dX5_readHeap_148 (by decide) ?_
        exact m_iret (ty := .boolean) hR dX5_readHeap_149 ((by rw [q3, rdW_0 hW (by omega)]; exact ⟨t6, t7, k6, k7, Or.inl ⟨rfl, rfl⟩, t8, hE3.1, hE3.2, hk6⟩))
      · refine m_aload_n dX5_readHeap_125 rfl ?_
        refine m_get fl_X5_24 (by decide) rfl rfl dX5_readHeap_126 ?_
        refine m_callVIp (s_X10_tokenLength t7 hE3.1) cv_X5_45 dX5_readHeap_129 ?_
        refine m_bipushN 24 dX5_readHeap_132 (by decide) ?_
        first | refine m_icmp_gtN 148 dX5_readHeap_134 (by decide) (by omega) (by omega) (fun c134 => ?_) (fun c134 => ?_) | refine m_icmp_gt 148 dX5_readHeap_134 (by decide) (fun c134 => ?_) (fun c134 => ?_)
        · refine m_iconstN 0 dX5_readHeap_148 (by decide) ?_
          exact m_iret (ty := .boolean) hR dX5_readHeap_149 ((by rw [q3, rdW_0 hW (by omega)]; exact ⟨t6, t7, k6, k7, Or.inl ⟨rfl, rfl⟩, t8, hE3.1, hE3.2, hk6⟩))
        · refine m_aload_n dX5_readHeap_137 rfl ?_
          refine m_callVIp (s_X5_isOfLetters t6 t7 hE3.1 hE3.2 k6 hk6) cv_X5_74 dX5_readHeap_138 ?_
          refine m_if_eq 148 dX5_readHeap_141 (by decide) (fun c141 => ?_) (fun c141 => ?_)
          · refine m_iconstN 0 dX5_readHeap_148 (by decide) ?_
            exact m_iret (ty := .boolean) hR dX5_readHeap_149 ((by rw [q3, rdW_0 hW (fun z => by rw [if_pos z.2.2] at c141; exact absurd c141 (by decide))]; exact ⟨t6, t7, k6, k7, Or.inl ⟨rfl, rfl⟩, t8, hE3.1, hE3.2, hk6⟩))
          · refine m_iconstN 1 dX5_readHeap_144 (by decide) ?_
            refine m_goto 149 dX5_readHeap_145 (by decide) ?_
            exact m_iret (ty := .boolean) hR dX5_readHeap_149 ((by rw [q3, rdW_2 hW ⟨by omega, by omega, Decidable.byContradiction (fun z => c141 (by rw [if_neg z]))⟩]; exact ⟨t6, t7, k6, k7, Or.inr ⟨rfl, _, rfl, se_e2 (se_e2 k3 (by decide)) (by decide), se_e2 (se_e2 k4 (by decide)) (by decide), fun z => absurd (show 3 < 2 from z) (by decide), fun _ => ⟨se_e2 (se_s _ _ _ _) (by decide), se_s _ _ _ _⟩⟩, t8, hE3.1, hE3.2, hk6⟩))
  refine m_aload_n dX5_readHeap_0 rfl ?_
  refine m_get fl_X5_24 (by decide) rfl rfl dX5_readHeap_1 ?_
  refine m_callVV (s_X10_step h hp he) cv_X5_42 dX5_readHeap_4 (fun d4 h4 => ?_)
  have hk4 : d4.1 32 3 = nI kn := by rw [(h4.2.2 32 (by simp)).1]; exact hk
  have hs4 : d4.1 32 2 = d.1 32 2 := by rw [(h4.2.2 32 (by simp)).1]
  by_cases hn : isN bs (tkS bs e) (tkE bs (tkS bs e)) = true
  · have hn2 := of_decide_eq_true hn
    have hd := of_decide_eq_true hn2.2
    have hv : nmT bs (tkS bs e) (tkE bs (tkS bs e)) = nI (bs.getD (tkS bs e) 0 - 48) := by unfold nmT; rw [if_pos hn2]
    have c7 : chg [j + 34] d4 (seI (seI d4 (j + 34) 0 (nI 3)) (j + 34) 1 (nI (bs.getD (tkS bs e) 0 - 48))) := (chg.rf.se (by simp)).se (by simp)
    have hS2 := runE_le (fun b => decide (b = 32)) bs hE.2
    have hE2 := tkE_le (bs := bs) (q := tkS bs (tkE bs (tkS bs e))) hS2.2
    refine m_aload_n dX5_readHeap_7 rfl ?_
    refine m_get fl_X5_24 (by decide) rfl rfl dX5_readHeap_8 ?_
    refine m_callVIp (s_X10_number h4.1 h4.2.1 hE.1 hE.2) cv_X5_91 dX5_readHeap_11 ?_
    refine m_eqi hv ?_
    refine m_istore_n dX5_readHeap_14 (Nat.le_of_ble_eq_true rfl) rfl ?_
    refine m_iload_n dX5_readHeap_15 rfl ?_
    refine m_if_ltN 24 dX5_readHeap_16 (by decide) (by omega) ?_
    refine m_iload_n dX5_readHeap_19 rfl ?_
    refine m_iconstN 4 dX5_readHeap_20 (by decide) ?_
    first | refine m_icmp_ltN 26 dX5_readHeap_21 (by decide) (by omega) (by omega) (fun c21 => ?_) (fun c21 => ?_) | refine m_icmp_lt 26 dX5_readHeap_21 (by decide) (fun c21 => ?_) (fun c21 => ?_)
    · refine m_aload_n dX5_readHeap_26 rfl ?_
      refine m_iconstN 3 dX5_readHeap_27 (by decide) ?_
      refine m_put fl_X5_78 (by omega) (xcell_line _ _ _ (by omega)) (Nat.le_of_ble_eq_true rfl) (xline_put0 _ _ _ (by omega)) dX5_readHeap_28 ?_
      refine m_aload_n dX5_readHeap_31 rfl ?_
      refine m_iload_n dX5_readHeap_32 rfl ?_
      refine m_put fl_X5_85 (by omega) (xcell_line _ _ _ (by omega)) (Nat.le_of_ble_eq_true rfl) (xline_put1 _ _ _ (by omega)) dX5_readHeap_33 ?_
      refine m_aload_n dX5_readHeap_36 rfl ?_
      refine m_get fl_X5_24 (by decide) rfl rfl dX5_readHeap_37 ?_
      refine m_callVV (s_X10_step (h4.1.fr c7 n30 n31) (h4.2.1.fr c7 n30) hE.2) cv_X5_42 dX5_readHeap_40 (fun d40 h40 => ?_)
      have k1 : d40.1 32 3 = nI kn := by rw [(h40.2.2 32 (by simp)).1]; exact (congrFun (c7 32 n32).1 3).trans hk4
      have k2 : d40.1 32 2 = d.1 32 2 := by rw [(h40.2.2 32 (by simp)).1]; exact (congrFun (c7 32 n32).1 2).trans hs4
      have k5 : chg [30, 32, j + 34] d d40 := ((h4.2.2.mono (by simp)).tr (c7.mono (by simp))).tr (h40.2.2.mono (by simp))
      refine m_aload_n dX5_readHeap_43 rfl ?_
      refine m_get fl_X5_24 (by decide) rfl rfl dX5_readHeap_44 ?_
      refine m_ldcS (i := 4) (tx := "is") rfl rfl dX5_readHeap_47 ?_
      refine m_callVIp (s_X10_isWord h40.1 h40.2.1 hE2.1 hE2.2 (i := 4) (by decide)) cv_X5_54 dX5_readHeap_49 ?_
      refine m_if_ne 57 dX5_readHeap_52 (by decide) (fun c52 => ?_) (fun c52 => ?_)
      · exact tail _ _ _ d40 hE2.1 hE2.2 (by rw [rdH_1 ⟨hn, by omega⟩, rdI_1 (Decidable.byContradiction (fun z => c52 (by rw [if_neg z])))]) h40.1 h40.2.1 k1 k2 (by rw [(h40.2.2 _ nj).1]; exact se_e2 (se_s _ _ _ _) (by decide)) (by rw [(h40.2.2 _ nj).1]; exact se_s _ _ _ _) k5
      · refine m_iconstN 0 dX5_readHeap_55 (by decide) ?_
        exact m_iret (ty := .boolean) hR dX5_readHeap_56 ((by rw [rdH_1 ⟨hn, by omega⟩, rdI_0 (fun z => c52 (by rw [if_pos z]; decide))]; exact ⟨h40.1, h40.2.1, k1, k2, Or.inl ⟨rfl, rfl⟩, k5, hE2.1, hE2.2, hk6⟩))
    · refine m_iconstN 0 dX5_readHeap_24 (by decide) ?_
      exact m_iret (ty := .boolean) hR dX5_readHeap_25 ((by rw [rdH_0 (fun z => by omega)]; exact ⟨h4.1, h4.2.1, hk4, hs4, Or.inl ⟨rfl, rfl⟩, h4.2.2.mono (by simp), hE.1, hE.2, hk6⟩))
  · have hv : nmT bs (tkS bs e) (tkE bs (tkS bs e)) = -1 := by unfold nmT; rw [if_neg (fun z => hn (decide_eq_true z))]
    refine m_aload_n dX5_readHeap_7 rfl ?_
    refine m_get fl_X5_24 (by decide) rfl rfl dX5_readHeap_8 ?_
    refine m_callVIp (s_X10_number h4.1 h4.2.1 hE.1 hE.2) cv_X5_91 dX5_readHeap_11 ?_
    refine m_eqi hv ?_
    refine m_istore_n dX5_readHeap_14 (Nat.le_of_ble_eq_true rfl) rfl ?_
    refine m_iload_n dX5_readHeap_15 rfl ?_
    refine m_if_lt 24 dX5_readHeap_16 (by decide) (fun c16 => ?_) (fun c16 => by exfalso; exact c16 (by decide))
    refine m_iconstN 0 dX5_readHeap_24 (by decide) ?_
    exact m_iret (ty := .boolean) hR dX5_readHeap_25 ((by rw [rdH_0 (fun z => hn z.1)]; exact ⟨h4.1, h4.2.1, hk4, hs4, Or.inl ⟨rfl, rfl⟩, h4.2.2.mono (by simp), hE.1, hE.2, hk6⟩))
theorem rdQ.of {R : RdR} {d4 d' : xD} {r : Int32} (h : rdQ bs R j d4 r d') (hc : chg [30] d d4) : rdQ bs R j d r d' := by
  obtain ⟨a1, a2, a3, a4, a5, a6, a7⟩ := h
  exact ⟨a1, a2, a3, by rw [a4, (hc 32 (by simp)).1], a5, (hc.mono (by simp)).tr a6, a7⟩
theorem rdQ.nr {R : RdR} {d4 d' : xD} {r : Int32} (h : rdQ bs R j d4 r d') : narrow FieldType.boolean (Value.int r) = Value.int r := by
  rcases h.2.2.2.2.1 with z | z
  · rw [z.1]; rfl
  · rw [z.1]; rfl
theorem rdG_0 {p q : Nat} (h : isW bs p q 0 = true) : rdG bs p q kn = rdP bs q kn 0 := if_pos h
theorem rdG_1 {p q : Nat} (h0 : ¬ isW bs p q 0 = true) (h : isW bs p q 1 = true) : rdG bs p q kn = rdP bs q kn 1 := by unfold rdG; rw [if_neg h0, if_pos h]
theorem rdG_2 {p q : Nat} (h0 : ¬ isW bs p q 0 = true) (h1 : ¬ isW bs p q 1 = true) (h : isW bs p q 2 = true) : rdG bs p q kn = rdL bs q kn := by unfold rdG; rw [if_neg h0, if_neg h1, if_pos h]
theorem rdG_3 {p q : Nat} (h0 : ¬ isW bs p q 0 = true) (h1 : ¬ isW bs p q 1 = true) (h2 : ¬ isW bs p q 2 = true) (h : isW bs p q 3 = true) : rdG bs p q kn = rdH bs q kn := by unfold rdG; rw [if_neg h0, if_neg h1, if_neg h2, if_pos h]
theorem rdG_4 {p q : Nat} (h0 : ¬ isW bs p q 0 = true) (h1 : ¬ isW bs p q 1 = true) (h2 : ¬ isW bs p q 2 = true) (h : ¬ isW bs p q 3 = true) : rdG bs p q kn = (none, p, q, kn) := by unfold rdG; rw [if_neg h0, if_neg h1, if_neg h2, if_neg h]
theorem s_X5_readLine (h : txIs d bs) (hp : tpIs d p e) (he : e ≤ bs.length) (hk : d.1 32 3 = nI kn) (hk6 : kn ≤ 6) (hj : j < 16) : mSpecI l W mX5_readLine (dep + 6) [.ref (xad W 32), .ref (xad W (j + 34))] d (fun r d' => rdQ bs (rdLine bs e kn) j d r d') := by
  have h160 := h.2.1
  have hS := runE_le (fun b => decide (b = 32)) bs he
  have hE := tkE_le (bs := bs) (q := tkS bs e) hS.2
  refine m_spec RX5 [some (.ref (xad W 32)), some (.ref (xad W (j + 34)))] rfl (by decide +kernel) rfl rfl (fun K hR => ?_)
  have w0 : ∀ {i : Nat} {x : Int32}, x = (if isW bs (tkS bs e) (tkE bs (tkS bs e)) i = true then 1 else 0) → x = 0 → ¬ isW bs (tkS bs e) (tkE bs (tkS bs e)) i = true := fun hx e z => by rw [hx, if_pos z] at e; exact absurd e (by decide)
  have w1 : ∀ {i : Nat} {x : Int32}, x = (if isW bs (tkS bs e) (tkE bs (tkS bs e)) i = true then 1 else 0) → ¬ x = 0 → isW bs (tkS bs e) (tkE bs (tkS bs e)) i = true := fun hx e => Decidable.byContradiction (fun z => e (by rw [hx, if_neg z]))
  refine m_aload_n dX5_readLine_0 rfl ?_
  refine m_get fl_X5_24 (by decide) rfl rfl dX5_readLine_1 ?_
  refine m_callVV (s_X10_step h hp he) cv_X5_42 dX5_readLine_4 (fun d4 h4 => ?_)
  have hk4 : d4.1 32 3 = nI kn := by rw [(h4.2.2 32 (by simp)).1]; exact hk
  refine m_aload_n dX5_readLine_7 rfl ?_
  refine m_get fl_X5_24 (by decide) rfl rfl dX5_readLine_8 ?_
  refine m_ldcS (i := 0) (tx := "free") rfl rfl dX5_readLine_11 ?_
  refine m_callVIp (s_X10_isWord h4.1 h4.2.1 hE.1 hE.2 (i := 0) (by decide)) cv_X5_54 dX5_readLine_13 ?_
  refine m_if_eq 26 dX5_readLine_16 (by decide) (fun c16 => ?_) (fun c16 => ?_)
  · refine m_aload_n dX5_readLine_26 rfl ?_
    refine m_get fl_X5_24 (by decide) rfl rfl dX5_readLine_27 ?_
    refine m_ldcS (i := 1) (tx := "bound") rfl rfl dX5_readLine_30 ?_
    refine m_callVIp (s_X10_isWord h4.1 h4.2.1 hE.1 hE.2 (i := 1) (by decide)) cv_X5_54 dX5_readLine_32 ?_
    refine m_if_eq 45 dX5_readLine_35 (by decide) (fun c35 => ?_) (fun c35 => ?_)
    · refine m_aload_n dX5_readLine_45 rfl ?_
      refine m_get fl_X5_24 (by decide) rfl rfl dX5_readLine_46 ?_
      refine m_ldcS (i := 2) (tx := "letters") rfl rfl dX5_readLine_49 ?_
      refine m_callVIp (s_X10_isWord h4.1 h4.2.1 hE.1 hE.2 (i := 2) (by decide)) cv_X5_54 dX5_readLine_51 ?_
      refine m_if_eq 63 dX5_readLine_54 (by decide) (fun c54 => ?_) (fun c54 => ?_)
      · refine m_aload_n dX5_readLine_63 rfl ?_
        refine m_get fl_X5_24 (by decide) rfl rfl dX5_readLine_64 ?_
        refine m_ldcS (i := 3) (tx := "heap") rfl rfl dX5_readLine_67 ?_
        refine m_callVIp (s_X10_isWord h4.1 h4.2.1 hE.1 hE.2 (i := 3) (by decide)) cv_X5_54 dX5_readLine_69 ?_
        refine m_if_eq 87 dX5_readLine_72 (by decide) (fun c72 => ?_) (fun c72 => ?_)
        · refine m_iconstN 0 dX5_readLine_87 (by decide) ?_
          exact m_iret (ty := .boolean) hR dX5_readLine_88 ((by unfold rdLine; rw [rdG_4 (w0 rfl c16) (w0 rfl c35) (w0 rfl c54) (w0 rfl c72)]; exact ⟨h4.1, h4.2.1, hk4, by rw [(h4.2.2 32 (by simp)).1], Or.inl ⟨rfl, rfl⟩, h4.2.2.mono (by simp), hE.1, hE.2, hk6⟩))
        · refine m_aload_n dX5_readLine_75 rfl ?_
          refine m_aload_n dX5_readLine_76 rfl ?_
          refine m_callVI (s_X5_readHeap h4.1 h4.2.1 hE.2 hk4 hk6 hj) cv_X5_71 dX5_readLine_77 (fun r77 d77 h77 => ?_)
          refine m_if_eq 87 dX5_readLine_80 (by decide) (fun c80 => ?_) (fun c80 => ?_)
          · refine m_iconstN 0 dX5_readLine_87 (by decide) ?_
            exact m_iret (ty := .boolean) hR dX5_readLine_88 ((by unfold rdLine; rw [rdG_3 (w0 rfl c16) (w0 rfl c35) (w0 rfl c54) (w1 rfl c72)]; rw [c80] at h77; exact h77.of h4.2.2))
          · refine m_iconstN 1 dX5_readLine_83 (by decide) ?_
            refine m_goto 88 dX5_readLine_84 (by decide) ?_
            have h77' := h77.2.2.2.2.1.resolve_left (fun z => c80 z.1)
            rw [h77'.1] at h77
            exact m_iret (ty := .boolean) hR dX5_readLine_88 ((by unfold rdLine; rw [rdG_3 (w0 rfl c16) (w0 rfl c35) (w0 rfl c54) (w1 rfl c72)]; exact h77.of h4.2.2))
      · refine m_aload_n dX5_readLine_57 rfl ?_
        refine m_aload_n dX5_readLine_58 rfl ?_
        refine m_callVI (s_X5_readLetters h4.1 h4.2.1 hE.2 hk4 hk6 hj) cv_X5_66 dX5_readLine_59 (fun r59 d59 h59 => ?_)
        exact m_iret (ty := .boolean) (hnr := h59.nr) hR dX5_readLine_62 (by unfold rdLine; rw [rdG_2 (w0 rfl c16) (w0 rfl c35) (w1 rfl c54)]; exact h59.of h4.2.2)
    · refine m_aload_n dX5_readLine_38 rfl ?_
      refine m_aload_n dX5_readLine_39 rfl ?_
      refine m_iconstN 1 dX5_readLine_40 (by decide) ?_
      refine m_callVI (s_X5_readPair h4.1 h4.2.1 hE.2 hk4 hk6 hj (kind := 1) (by decide)) cv_X5_58 dX5_readLine_41 (fun r41 d41 h41 => ?_)
      exact m_iret (ty := .boolean) (hnr := h41.nr) hR dX5_readLine_44 (by unfold rdLine; rw [rdG_1 (w0 rfl c16) (w1 rfl c35)]; exact h41.of h4.2.2)
  · refine m_aload_n dX5_readLine_19 rfl ?_
    refine m_aload_n dX5_readLine_20 rfl ?_
    refine m_iconstN 0 dX5_readLine_21 (by decide) ?_
    refine m_callVI (s_X5_readPair h4.1 h4.2.1 hE.2 hk4 hk6 hj (kind := 0) (by decide)) cv_X5_58 dX5_readLine_22 (fun r22 d22 h22 => ?_)
    exact m_iret (ty := .boolean) (hnr := h22.nr) hR dX5_readLine_25 (by unfold rdLine; rw [rdG_0 (w1 rfl c16)]; exact h22.of h4.2.2)
/-- all lines from e on -/
def rdF (bs : List Nat) : Nat → Nat → Nat → Nat → List (Nat × Nat × Nat × Nat) → Option Nat × List (Nat × Nat × Nat × Nat)
  | 0, s, _, _, ls => (some s, ls)
  | n + 1, _, e, kn, ls => match (rdLine bs e kn).1 with
    | none => (some (rdLine bs e kn).2.1, ls)
    | some t => if tkE bs (tkS bs (rdLine bs e kn).2.2.1) - tkS bs (rdLine bs e kn).2.2.1 = 0 then (none, ls ++ [t]) else if tkE bs (tkS bs (rdLine bs e kn).2.2.1) - tkS bs (rdLine bs e kn).2.2.1 = 1 ∧ bs.getD (tkS bs (rdLine bs e kn).2.2.1) 0 = 59 then rdF bs n (tkS bs (rdLine bs e kn).2.2.1) (tkE bs (tkS bs (rdLine bs e kn).2.2.1)) (rdLine bs e kn).2.2.2 (ls ++ [t]) else (some (tkS bs (rdLine bs e kn).2.2.1), ls ++ [t])
def lnC : List Nat := [30, 32, 34, 35, 36, 37, 38, 39, 40, 41, 42, 43, 44, 45, 46, 47, 48, 49]
theorem lnC_m {i : Nat} (h : i < 16) : i + 34 ∈ lnC := (by decide : ∀ i, i < 16 → i + 34 ∈ lnC) i h
/-- what read answers -/
def rdA (o : Option Nat) : Int32 := match o with
  | none => -1
  | some s => nI s
theorem s_X5_read (h : txIs d bs) (hk6 : kn ≤ 6) : mSpecI l W mX5_read (dep + 7) [.ref (xad W 32), .int (nI kn)] d (fun r d' => r = rdA (rdF bs 16 0 0 kn []).1 ∧ txIs d' bs ∧ ((rdF bs 16 0 0 kn []).1 = none → d'.1 32 2 = nI (rdF bs 16 0 0 kn []).2.length ∧ (rdF bs 16 0 0 kn []).2.length ≤ 16 ∧ ∀ i t, (rdF bs 16 0 0 kn []).2[i]? = some t → lineIs d' i t) ∧ chg lnC d d') := by
  have h160 := h.2.1
  refine m_spec RX5 [some (.ref (xad W 32)), some (.int (nI kn)), none] rfl (by decide +kernel) rfl rfl (fun K hR => ?_)
  have loop : ∀ i, i ≤ 16 → ∀ d1 s e k1 ls, txIs d1 bs → tpIs d1 s e → s ≤ e → e ≤ bs.length → d1.1 32 3 = nI k1 → k1 ≤ 6 → d1.1 32 2 = nI i → ls.length = i → (∀ i' t, ls[i']? = some t → lineIs d1 i' t) → rdF bs 16 0 0 kn [] = rdF bs (16 - i) s e k1 ls → chg lnC d d1 → mG W K cX5_read RX5 (dep + 7) d1 19 [some (.ref (xad W 32)), some (.int (nI kn)), some (.int (nI i))] [] := x_up _ (fun i hi ih d1 s e k1 ls g1 g2 g3 g4 g5 g6 g7 g8 g9 g10 g11 => by
    by_cases hlt : i < 16
    · have hst : rdF bs (16 - i) s e k1 ls = rdF bs (16 - (i + 1) + 1) s e k1 ls := by rw [show 16 - i = 16 - (i + 1) + 1 by omega]
      have hlo : ∀ d2 : xD, (∀ t, (rdLine bs e k1).1 = some t → lineIs d2 i t) → chg [30, 32, i + 34] d1 d2 → ∀ t, (rdLine bs e k1).1 = some t → ∀ i' t', (ls ++ [t])[i']? = some t' → lineIs d2 i' t' := fun d2 q1 q2 t q3 i' t' q4 => by
        by_cases e1 : i' < ls.length
        · rw [List.getElem?_append_left e1] at q4
          exact (g9 i' t' q4).fr q2 (by simp; omega)
        · by_cases e2 : i' = ls.length
          · subst e2
            rw [List.getElem?_append_right (Nat.le_refl _), Nat.sub_self] at q4
            cases q4
            rw [g8]; exact q1 t q3
          · rw [List.getElem?_eq_none (by simp; omega)] at q4
            cases q4
      refine m_iload_n dX5_read_19 rfl ?_
      refine m_aload_n dX5_read_20 rfl ?_
      refine m_get fl_X5_13 (by decide) rfl rfl dX5_read_21 ?_
      refine m_alen (by omega) (by first | rfl | exact xcell_arr _ _ _ (by omega) | exact xcell_mv _ _ (by omega) | exact xcell_fo _ _ (by omega) | exact xcell_ne _ _ (by omega)) (by decide) dX5_read_24 ?_
      first | refine m_icmp_geN 104 dX5_read_25 (by decide) (by omega) (by omega) (fun c25 => by exfalso; omega) (fun c25 => ?_) | refine m_icmp_ge 104 dX5_read_25 (by decide) (fun c25 => by exfalso; omega) (fun c25 => ?_)
      refine m_aload_n dX5_read_28 rfl ?_
      refine m_aload_n dX5_read_29 rfl ?_
      refine m_get fl_X5_13 (by decide) rfl rfl dX5_read_30 ?_
      refine m_iload_n dX5_read_33 rfl ?_
      refine m_aald (by decide) rfl (by decide) (by decide) (by omega) (if_pos (by omega)) dX5_read_34 ?_
      refine m_callVI (s_X5_readLine g1 g2 g4 g5 g6 hlt) cv_X5_34 dX5_read_35 (fun r35 d35 h35 => ?_)
      obtain ⟨a1, a2, a3, a4, a5, a6, a7, a8, a9⟩ := h35
      have hS := runE_le (fun b => decide (b = 32)) bs a8
      have hE := tkE_le (bs := bs) (q := tkS bs (rdLine bs e k1).2.2.1) hS.2
      have k6 : chg lnC d d35 := g11.tr (a6.mono (by intro o ho; simp at ho; rcases ho with rfl | rfl | rfl; decide; decide; exact lnC_m hlt))
      have a5' : ∀ t, (rdLine bs e k1).1 = some t → lineIs d35 i t := fun t ht => by
        rcases a5 with ⟨-, z⟩ | ⟨-, t', z1, z2⟩
        · rw [z] at ht; cases ht
        · rw [z1] at ht; cases ht; exact z2
      refine m_if_ne 49 dX5_read_38 (by decide) (fun c38 => ?_) (fun c38 => ?_)
      · refine m_aload_n dX5_read_49 rfl ?_
        refine m_dup dX5_read_50 rfl ?_
        refine m_get fl_X5_17 (by decide) rfl rfl dX5_read_51 ?_
        refine m_eqi (a4.trans g7) ?_
        refine m_iconstN 1 dX5_read_54 (by decide) ?_
        first | refine m_iaddN dX5_read_55 ?_ | refine m_iadd dX5_read_55 ?_
        have hyes := a5.resolve_left (fun z => c38 z.1)
        obtain ⟨-, t, ht, hlt2⟩ := hyes
        have c5 : chg [32] d35 (seI d35 32 2 (nI (i + 1))) := chg.rf.se (by simp)
        have b1 := a1.fr c5 (by simp) (by simp)
        have b2 := a2.fr c5 (by simp)
        refine m_put fl_X5_17 (by decide) rfl (Nat.le_of_ble_eq_true rfl) rfl dX5_read_56 ?_
        refine m_aload_n dX5_read_59 rfl ?_
        refine m_get fl_X5_24 (by decide) rfl rfl dX5_read_60 ?_
        refine m_callVV (s_X10_step b1 b2 a8) cv_X5_42 dX5_read_63 (fun d63 h63 => ?_)
        have e3 : d63.1 32 3 = nI (rdLine bs e k1).2.2.2 := by rw [(h63.2.2 32 (by simp)).1]; exact se_e2 a3 (by decide)
        have e2 : d63.1 32 2 = nI (i + 1) := by rw [(h63.2.2 32 (by simp)).1]; exact se_s _ _ _ _
        have k7 : chg lnC d d63 := (k6.tr (c5.mono (by simp [lnC]))).tr (h63.2.2.mono (by simp [lnC]))
        have k8 : chg [30, 32, i + 34] d1 d63 := (a6.tr (c5.mono (by simp))).tr (h63.2.2.mono (by simp))
        have hl6 : ∀ t, (rdLine bs e k1).1 = some t → lineIs d63 i t := fun t ht => ((a5' t ht).fr c5 (by simp)).fr h63.2.2 (by simp)
        have hl7 := hlo d63 hl6 k8 t ht
        have hR2 : rdF bs 16 0 0 kn [] = if tkE bs (tkS bs (rdLine bs e k1).2.2.1) - tkS bs (rdLine bs e k1).2.2.1 = 0 then (none, ls ++ [t]) else if tkE bs (tkS bs (rdLine bs e k1).2.2.1) - tkS bs (rdLine bs e k1).2.2.1 = 1 ∧ bs.getD (tkS bs (rdLine bs e k1).2.2.1) 0 = 59 then rdF bs (16 - (i + 1)) (tkS bs (rdLine bs e k1).2.2.1) (tkE bs (tkS bs (rdLine bs e k1).2.2.1)) (rdLine bs e k1).2.2.2 (ls ++ [t]) else (some (tkS bs (rdLine bs e k1).2.2.1), ls ++ [t]) := by
          rw [g10, hst]
          show (match (rdLine bs e k1).1 with | none => _ | some t => _) = _
          rw [ht]
        refine m_aload_n dX5_read_66 rfl ?_
        refine m_get fl_X5_24 (by decide) rfl rfl dX5_read_67 ?_
        refine m_callVIp (s_X10_tokenLength h63.2.1 hE.1) cv_X5_45 dX5_read_70 ?_
        first | refine m_if_neN 78 dX5_read_73 (by decide) (by omega) (fun c73 => ?_) (fun c73 => ?_) | refine m_if_ne 78 dX5_read_73 (by decide) (fun c73 => ?_) (fun c73 => ?_)
        · refine m_aload_n dX5_read_78 rfl ?_
          refine m_get fl_X5_24 (by decide) rfl rfl dX5_read_79 ?_
          refine m_bipushN 59 dX5_read_82 (by decide) ?_
          refine m_callVIp (s_X10_isSign h63.1 h63.2.1 hE.1 hE.2 (b := 59) (by decide)) cv_X5_48 dX5_read_84 ?_
          refine m_if_ne 98 dX5_read_87 (by decide) (fun c87 => ?_) (fun c87 => ?_)
          · first | refine m_iincN 1 dX5_read_98 (by decide) rfl rfl ?_ | refine m_iinc dX5_read_98 rfl rfl ?_
            refine m_goto 19 dX5_read_101 (by decide) ?_
            rw [if_neg (by omega), if_pos (Decidable.byContradiction (fun z => c87 (by rw [if_neg z])))] at hR2
            exact ih hlt d63 _ _ _ (ls ++ [t]) h63.1 h63.2.1 hE.1 hE.2 e3 a9 e2 (by rw [List.length_append, g8]; rfl) hl7 hR2 k7
          · refine m_aload_n dX5_read_90 rfl ?_
            refine m_get fl_X5_24 (by decide) rfl rfl dX5_read_91 ?_
            refine m_callVIp (s_X10_start h63.2.1) cv_X5_38 dX5_read_94 ?_
            rw [if_neg (by omega), if_neg (fun z => by rw [if_pos z] at c87; exact absurd c87 (by decide))] at hR2
            exact m_iret (ty := .int) hR dX5_read_97 ((by rw [hR2]; exact ⟨rfl, h63.1, (fun z => by cases z), k7⟩))
        · refine m_iconst (v := -1) dX5_read_76 (by decide) ?_
          rw [if_pos (by omega)] at hR2
          exact m_iret (ty := .int) hR dX5_read_77 ((by rw [hR2]; exact ⟨rfl, h63.1, fun _ => ⟨by rw [e2, List.length_append, g8]; rfl, by rw [List.length_append, g8]; simp; omega, hl7⟩, k7⟩))
      · refine m_aload_n dX5_read_41 rfl ?_
        refine m_get fl_X5_24 (by decide) rfl rfl dX5_read_42 ?_
        refine m_callVIp (s_X10_start a2) cv_X5_38 dX5_read_45 ?_
        have hno : (rdLine bs e k1).1 = none := (a5.resolve_right (fun z => by rw [z.1] at c38; exact absurd c38 (by decide))).2
        have hR2 : rdF bs 16 0 0 kn [] = (some (rdLine bs e k1).2.1, ls) := by
          rw [g10, hst]
          show (match (rdLine bs e k1).1 with | none => _ | some t => _) = _
          rw [hno]
        exact m_iret (ty := .int) hR dX5_read_48 ((by rw [hR2]; exact ⟨rfl, a1, (fun z => by cases z), k6⟩))
    · have hi16 : i = 16 := by omega
      refine m_iload_n dX5_read_19 rfl ?_
      refine m_aload_n dX5_read_20 rfl ?_
      refine m_get fl_X5_13 (by decide) rfl rfl dX5_read_21 ?_
      refine m_alen (by omega) (by first | rfl | exact xcell_arr _ _ _ (by omega) | exact xcell_mv _ _ (by omega) | exact xcell_fo _ _ (by omega) | exact xcell_ne _ _ (by omega)) (by decide) dX5_read_24 ?_
      first | refine m_icmp_geN 104 dX5_read_25 (by decide) (by omega) (by omega) (fun c25 => ?_) (fun c25 => by exfalso; omega) | refine m_icmp_ge 104 dX5_read_25 (by decide) (fun c25 => ?_) (fun c25 => by exfalso; omega)
      refine m_aload_n dX5_read_104 rfl ?_
      refine m_get fl_X5_24 (by decide) rfl rfl dX5_read_105 ?_
      refine m_callVIp (s_X10_start g2) cv_X5_38 dX5_read_108 ?_
      have hR2 : rdF bs 16 0 0 kn [] = (some s, ls) := by rw [g10, hi16]; rfl
      exact m_iret (ty := .int) hR dX5_read_111 ((by rw [hR2]; exact ⟨rfl, g1, (fun z => by cases z), g11⟩))
    )
  refine m_aload_n dX5_read_0 rfl ?_
  refine m_iload_n dX5_read_1 rfl ?_
  refine m_put fl_X5_21 (by decide) rfl (Nat.le_of_ble_eq_true rfl) rfl dX5_read_2 ?_
  refine m_aload_n dX5_read_5 rfl ?_
  refine m_iconstN 0 dX5_read_6 (by decide) ?_
  refine m_put fl_X5_17 (by decide) rfl (Nat.le_of_ble_eq_true rfl) rfl dX5_read_7 ?_
  refine m_aload_n dX5_read_10 rfl ?_
  refine m_get fl_X5_24 (by decide) rfl rfl dX5_read_11 ?_
  refine m_callVV (s_X10_rewind (h.fr (S := [32]) ((chg.rf.se (by simp)).se (by simp)) (by simp) (by simp))) cv_X5_29 dX5_read_14 (fun d14 h14 => ?_)
  refine m_iconstN 0 dX5_read_17 (by decide) ?_
  refine m_istore_n dX5_read_18 (Nat.le_of_ble_eq_true rfl) rfl ?_
  exact loop 0 (Nat.zero_le _) d14 0 0 kn [] h14.1 h14.2.1 (Nat.le_refl _) (Nat.zero_le _) (by rw [(h14.2.2 32 (by simp)).1]; exact se_e2 (se_s _ _ _ _) (by decide)) hk6 (by rw [(h14.2.2 32 (by simp)).1]; exact se_s _ _ _ _) rfl (fun i' t z => by simp at z) rfl (((chg.rf.se (by simp [lnC])).se (by simp [lnC])).tr (h14.2.2.mono (by simp [lnC])))
end LIN
