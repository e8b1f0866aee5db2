/-! the law's model: lines of the text, faults -/
theorem tkS_le {bs : List Nat} {e : Nat} (h : e ≤ bs.length) : tkS bs e ≤ bs.length := (runE_le (fun b => decide (b = 32)) bs h).2
theorem kdF_le (bs : List Nat) (p : Nat) : kdF bs p ≤ 4 := by
  unfold kdF
  split
  · exact (kdB_le _).2
  · exact Nat.zero_le _
section MOD
variable {l : Launch} {W : xW} {dep : Nat} {d : xD} {bs : List Nat} {σ : St} {x y z w : Int32} {n n2 n3 k a kn : Nat} {fb : Nat → Nat}
theorem s_X12_isNumber {e t lo hi : Nat} (h : moTx d bs) (hp : d.1 240 6 = nI e) (he : e ≤ bs.length) (ht : t < 64) (hlo : lo ≤ 9) (hhi : hi ≤ 9) : mSpecI l W mX12_isNumber (dep + 3) [.ref (xad W 240), .int (nI t), .int (nI lo), .int (nI hi)] d (fun r d' => (((isN bs (tkS bs e) (tkE bs (tkS bs e)) = true ∧ lo ≤ bs.getD (tkS bs e) 0 - 48 ∧ bs.getD (tkS bs e) 0 - 48 ≤ hi) ∧ r = 1 ∧ d'.1 245 t = nI (bs.getD (tkS bs e) 0 - 48)) ∨ (¬ (isN bs (tkS bs e) (tkE bs (tkS bs e)) = true ∧ lo ≤ bs.getD (tkS bs e) 0 - 48 ∧ bs.getD (tkS bs e) 0 - 48 ≤ hi) ∧ r = 0 ∧ d'.1 240 10 = nI (tkS bs e))) ∧ d'.1 240 6 = nI (tkE bs (tkS bs e)) ∧ (∀ q, q < 64 → q ≠ t → d'.1 245 q = d.1 245 q) ∧ chR [6, 7, 8, 9, 10] t d d') := by
  have h160 := h.2.1
  have hpl := tkS_le he
  have hE := tkE_le hpl
  have hI : isI W 245 64 := ⟨by decide, by decide, fun _ => rfl⟩
  have hkb := kdF_le bs (tkS bs e)
  have hiN := isN_iff hpl
  have m10 : ∀ {d1 : xD}, chR tkFl 64 d d1 → chR [6, 7, 8, 9, 10] t d d1 := fun g => (g.up t).mono (by decide)
  refine m_spec RX12 [some (.ref (xad W 240)), some (.int (nI t)), some (.int (nI lo)), some (.int (nI hi)), none] rfl (by decide +kernel) rfl rfl (fun K hR => ?_)
  by_cases hN : kdF bs (tkS bs e) = 2 ∧ tkE bs (tkS bs e) - tkS bs e = 1
  · have hlt : tkS bs e < bs.length := kdF_len (by omega)
    have hd := kdB_2.mp (by rw [← kdF_at hlt]; exact hN.1)
    unfold dB at hd
    rw [decide_eq_true_iff] at hd
    by_cases hin : lo ≤ bs.getD (tkS bs e) 0 - 48 ∧ bs.getD (tkS bs e) 0 - 48 ≤ hi
    · skip
      refine m_aload_n dX12_isNumber_0 rfl ?_
      refine m_callVV (s_X12_nextToken h hp he 64) cv_X12_115 dX12_isNumber_1 (fun d1 h1 => ?_)
      refine m_aload_n dX12_isNumber_4 rfl ?_
      refine m_get fl_X12_102 (by decide) rfl rfl dX12_isNumber_5 ?_
      refine m_eqi (h1.1.2.2.1) ?_
      refine m_iconstN 2 dX12_isNumber_8 (by decide) ?_
      first | refine m_icmp_neN 35 dX12_isNumber_9 (by decide) (by omega) (by omega) (fun c9 => by exfalso; omega) (fun c9 => ?_) | refine m_icmp_ne 35 dX12_isNumber_9 (by decide) (fun c9 => by exfalso; omega) (fun c9 => ?_)
      refine m_aload_n dX12_isNumber_12 rfl ?_
      refine m_get fl_X12_105 (by decide) rfl rfl dX12_isNumber_13 ?_
      refine m_eqi (h1.1.2.2.2) ?_
      refine m_iconstN 1 dX12_isNumber_16 (by decide) ?_
      first | refine m_icmp_neN 35 dX12_isNumber_17 (by decide) (by omega) (by omega) (fun c17 => by exfalso; omega) (fun c17 => ?_) | refine m_icmp_ne 35 dX12_isNumber_17 (by decide) (fun c17 => by exfalso; omega) (fun c17 => ?_)
      refine m_aload_n dX12_isNumber_20 rfl ?_
      refine m_get fl_X12_23 (by decide) rfl rfl dX12_isNumber_21 ?_
      refine m_aload_n dX12_isNumber_24 rfl ?_
      refine m_get fl_X12_95 (by decide) rfl rfl dX12_isNumber_25 ?_
      refine m_eqi (h1.1.2.1) ?_
      refine m_iald (by first | exact ⟨by decide, by decide, fun _ => rfl⟩ | exact isI_arr _ (by omega) | exact isI_mv _ (by omega) | exact isI_ne _ (by omega)) (by omega) dX12_isNumber_28 ?_
      refine m_eqi (((h.rd h1.2 (by decide)).2.2 _ hlt).1) ?_
      refine m_bipushN 48 dX12_isNumber_29 (by decide) ?_
      first | refine m_isubN dX12_isNumber_31 (by omega) ?_ | refine m_isub dX12_isNumber_31 ?_
      refine m_goto 36 dX12_isNumber_32 (by decide) ?_
      refine m_istore dX12_isNumber_36 (Nat.le_of_ble_eq_true rfl) rfl ?_
      refine m_iload dX12_isNumber_38 rfl ?_
      refine m_iload_n dX12_isNumber_40 rfl ?_
      refine m_iload_n dX12_isNumber_41 rfl ?_
      refine m_callSIp (s_X12_inY (x := nI (bs.getD (tkS bs e) 0 - 48)) (a := nI lo) (b := nI hi) ((nI_leI (by omega) (by omega)).mpr (by omega)) ((nI_leI (by omega) (by omega)).mpr (by omega))) cs_X12_83 dX12_isNumber_42 ?_
      refine m_if_ne 53 dX12_isNumber_45 (by decide) (fun c45 => ?_) (fun c45 => by exfalso; exact c45 (by decide))
      refine m_aload_n dX12_isNumber_53 rfl ?_
      refine m_get fl_X12_26 (by decide) rfl rfl dX12_isNumber_54 ?_
      refine m_iload_n dX12_isNumber_57 rfl ?_
      refine m_iload dX12_isNumber_58 rfl ?_
      refine m_iast (by first | exact ⟨by decide, by decide, fun _ => rfl⟩ | exact isI_arr _ (by omega) | exact isI_mv _ (by omega) | exact isI_ne _ (by omega)) (by omega) dX12_isNumber_60 ?_
      refine m_iconstN 1 dX12_isNumber_61 (by decide) ?_
      exact m_iret (ty := .boolean) hR dX12_isNumber_62 (⟨Or.inl ⟨⟨hiN.mpr hN, hin⟩, rfl, se_s _ _ _ _⟩, se_e h1.1.1 (by decide), fun q h6 hq => (se_n _ _ hq).trans (h1.2.2.2 q h6 (Or.inl h6)), (m10 h1.2).rd ⟨Nat.le_refl _, by omega⟩⟩)
    · have hout : nI (bs.getD (tkS bs e) 0 - 48) < nI lo ∨ nI hi < nI (bs.getD (tkS bs e) 0 - 48) := by
        rcases (show bs.getD (tkS bs e) 0 - 48 < lo ∨ hi < bs.getD (tkS bs e) 0 - 48 by omega) with z | z
        · exact Or.inl ((nI_ltI (by omega) (by omega)).mpr z)
        · exact Or.inr ((nI_ltI (by omega) (by omega)).mpr z)
      refine m_aload_n dX12_isNumber_0 rfl ?_
      refine m_callVV (s_X12_nextToken h hp he 64) cv_X12_115 dX12_isNumber_1 (fun d1 h1 => ?_)
      refine m_aload_n dX12_isNumber_4 rfl ?_
      refine m_get fl_X12_102 (by decide) rfl rfl dX12_isNumber_5 ?_
      refine m_eqi (h1.1.2.2.1) ?_
      refine m_iconstN 2 dX12_isNumber_8 (by decide) ?_
      first | refine m_icmp_neN 35 dX12_isNumber_9 (by decide) (by omega) (by omega) (fun c9 => by exfalso; omega) (fun c9 => ?_) | refine m_icmp_ne 35 dX12_isNumber_9 (by decide) (fun c9 => by exfalso; omega) (fun c9 => ?_)
      refine m_aload_n dX12_isNumber_12 rfl ?_
      refine m_get fl_X12_105 (by decide) rfl rfl dX12_isNumber_13 ?_
      refine m_eqi (h1.1.2.2.2) ?_
      refine m_iconstN 1 dX12_isNumber_16 (by decide) ?_
      first | refine m_icmp_neN 35 dX12_isNumber_17 (by decide) (by omega) (by omega) (fun c17 => by exfalso; omega) (fun c17 => ?_) | refine m_icmp_ne 35 dX12_isNumber_17 (by decide) (fun c17 => by exfalso; omega) (fun c17 => ?_)
      refine m_aload_n dX12_isNumber_20 rfl ?_
      refine m_get fl_X12_23 (by decide) rfl rfl dX12_isNumber_21 ?_
      refine m_aload_n dX12_isNumber_24 rfl ?_
      refine m_get fl_X12_95 (by decide) rfl rfl dX12_isNumber_25 ?_
      refine m_eqi (h1.1.2.1) ?_
      refine m_iald (by first | exact ⟨by decide, by decide, fun _ => rfl⟩ | exact isI_arr _ (by omega) | exact isI_mv _ (by omega) | exact isI_ne _ (by omega)) (by omega) dX12_isNumber_28 ?_
      refine m_eqi (((h.rd h1.2 (by decide)).2.2 _ hlt).1) ?_
      refine m_bipushN 48 dX12_isNumber_29 (by decide) ?_
      first | refine m_isubN dX12_isNumber_31 (by omega) ?_ | refine m_isub dX12_isNumber_31 ?_
      refine m_goto 36 dX12_isNumber_32 (by decide) ?_
      refine m_istore dX12_isNumber_36 (Nat.le_of_ble_eq_true rfl) rfl ?_
      refine m_iload dX12_isNumber_38 rfl ?_
      refine m_iload_n dX12_isNumber_40 rfl ?_
      refine m_iload_n dX12_isNumber_41 rfl ?_
      refine m_callSIp (s_X12_inN hout) cs_X12_83 dX12_isNumber_42 ?_
      refine m_if_ne 53 dX12_isNumber_45 (by decide) (fun c45 => by exfalso; exact c45 rfl) (fun c45 => ?_)
      refine m_aload_n dX12_isNumber_48 rfl ?_
      refine m_callVI (s_X12_fails h1.1.2.1) cv_X12_118 dX12_isNumber_49 (fun r49 d49 h49 => ?_)
      obtain ⟨rfl, rfl⟩ := h49
      exact m_iret (ty := .boolean) hR dX12_isNumber_52 (⟨Or.inr ⟨fun z => hin z.2, rfl, se_s _ _ _ _⟩, se_e2 h1.1.1 (by decide), fun q h6 hq => se_e (h1.2.2.2 q h6 (Or.inl h6)) (by decide), (m10 h1.2).fld (by decide)⟩)
  · have hnn : ¬ (isN bs (tkS bs e) (tkE bs (tkS bs e)) = true ∧ lo ≤ bs.getD (tkS bs e) 0 - 48 ∧ bs.getD (tkS bs e) 0 - 48 ≤ hi) := fun z => hN (hiN.mp z.1)
    have hm1 : (-1 : Int32) < nI lo ∨ nI hi < -1 := Or.inl (Int32.lt_iff_toInt_lt.mpr (by rw [nI_toInt (by omega)]; exact Int.lt_of_lt_of_le (by decide) (Int.natCast_nonneg lo)))
    refine m_aload_n dX12_isNumber_0 rfl ?_
    refine m_callVV (s_X12_nextToken h hp he 64) cv_X12_115 dX12_isNumber_1 (fun d1 h1 => ?_)
    refine m_aload_n dX12_isNumber_4 rfl ?_
    refine m_get fl_X12_102 (by decide) rfl rfl dX12_isNumber_5 ?_
    refine m_eqi (h1.1.2.2.1) ?_
    refine m_iconstN 2 dX12_isNumber_8 (by decide) ?_
    first | refine m_icmp_neN 35 dX12_isNumber_9 (by decide) (by omega) (by omega) (fun c9 => ?_) (fun c9 => ?_) | refine m_icmp_ne 35 dX12_isNumber_9 (by decide) (fun c9 => ?_) (fun c9 => ?_)
    · refine m_iconst (v := -1) dX12_isNumber_35 (by decide) ?_
      refine m_istore dX12_isNumber_36 (Nat.le_of_ble_eq_true rfl) rfl ?_
      refine m_iload dX12_isNumber_38 rfl ?_
      refine m_iload_n dX12_isNumber_40 rfl ?_
      refine m_iload_n dX12_isNumber_41 rfl ?_
      refine m_callSIp (s_X12_inN hm1) cs_X12_83 dX12_isNumber_42 ?_
      refine m_if_ne 53 dX12_isNumber_45 (by decide) (fun c45 => by exfalso; exact c45 rfl) (fun c45 => ?_)
      refine m_aload_n dX12_isNumber_48 rfl ?_
      refine m_callVI (s_X12_fails h1.1.2.1) cv_X12_118 dX12_isNumber_49 (fun r49 d49 h49 => ?_)
      obtain ⟨rfl, rfl⟩ := h49
      exact m_iret (ty := .boolean) hR dX12_isNumber_52 (⟨Or.inr ⟨hnn, rfl, se_s _ _ _ _⟩, se_e2 h1.1.1 (by decide), fun q h6 hq => se_e (h1.2.2.2 q h6 (Or.inl h6)) (by decide), (m10 h1.2).fld (by decide)⟩)
    · refine m_aload_n dX12_isNumber_12 rfl ?_
      refine m_get fl_X12_105 (by decide) rfl rfl dX12_isNumber_13 ?_
      refine m_eqi (h1.1.2.2.2) ?_
      refine m_iconstN 1 dX12_isNumber_16 (by decide) ?_
      first | refine m_icmp_neN 35 dX12_isNumber_17 (by decide) (by omega) (by omega) (fun c17 => ?_) (fun c17 => by exfalso; omega) | refine m_icmp_ne 35 dX12_isNumber_17 (by decide) (fun c17 => ?_) (fun c17 => by exfalso; omega)
      refine m_iconst (v := -1) dX12_isNumber_35 (by decide) ?_
      refine m_istore dX12_isNumber_36 (Nat.le_of_ble_eq_true rfl) rfl ?_
      refine m_iload dX12_isNumber_38 rfl ?_
      refine m_iload_n dX12_isNumber_40 rfl ?_
      refine m_iload_n dX12_isNumber_41 rfl ?_
      refine m_callSIp (s_X12_inN hm1) cs_X12_83 dX12_isNumber_42 ?_
      refine m_if_ne 53 dX12_isNumber_45 (by decide) (fun c45 => by exfalso; exact c45 rfl) (fun c45 => ?_)
      refine m_aload_n dX12_isNumber_48 rfl ?_
      refine m_callVI (s_X12_fails h1.1.2.1) cv_X12_118 dX12_isNumber_49 (fun r49 d49 h49 => ?_)
      obtain ⟨rfl, rfl⟩ := h49
      exact m_iret (ty := .boolean) hR dX12_isNumber_52 (⟨Or.inr ⟨hnn, rfl, se_s _ _ _ _⟩, se_e2 h1.1.1 (by decide), fun q h6 hq => se_e (h1.2.2.2 q h6 (Or.inl h6)) (by decide), (m10 h1.2).fld (by decide)⟩)
end MOD
