/-! the law's model: a line -/
section MOD
variable {l : Launch} {W : xW} {dep : Nat} {d : xD} {bs : List Nat} {σ : St} {x y z w : Int32} {n n2 n3 k a kn : Nat} {fb : Nat → Nat}
theorem nI_kk {kk : Nat} (h : kk < 4) : ¬ nI kk = -1 := nI_m1 (by omega)
theorem s_X12_isLine {e j : Nat} (h : moTx d bs) (hp : d.1 240 6 = nI e) (he : e ≤ bs.length) (hkn : d.1 240 11 = nI kn) (hk6 : kn ≤ 6) (hj : j < 16) : mSpecI l W mX12_isLine (dep + 4) [.ref (xad W 240), .int (nI (4 * j))] d (fun r d' => rdM bs (rdLine bs e kn) (4 * j) d r d') := by
  have h160 := h.2.1
  have hpl := tkS_le he
  have hE := tkE_le hpl
  have hI : isI W 245 64 := ⟨by decide, by decide, fun _ => rfl⟩
  have hw := wdV_lt bs (tkS bs e) hpl
  have hrl : rdLine bs e kn = rdG bs (tkS bs e) (tkE bs (tkS bs e)) kn := rfl
  have htl : tkFl ⊆ rdFl := by decide
  have up64 : ∀ {F : List Nat} {d1 d2 : xD}, (∀ o ∈ F, o ∈ rdFl) → chR F 64 d1 d2 → chR rdFl (4 * j) d1 d2 := fun hF g => (g.up (4 * j)).mono hF
  refine m_spec RX12 [some (.ref (xad W 240)), some (.int (nI (4 * j))), none, none] rfl (by decide +kernel) rfl rfl (fun K hR => ?_)
  -- no word that begins a line
  have stN : ∀ d2 v, d2.1 240 7 = nI (tkS bs e) → d2.1 245 (4 * j) = -1 → rdLine bs e kn = (none, tkS bs e, tkE bs (tkS bs e), kn) → chR rdFl (4 * j) d d2 → mG W K cX12_isLine RX12 (dep + 4) d2 64 [some (.ref (xad W 240)), some (.int (nI (4 * j))), some (.long v), none] [] := fun d2 v g1 g2 g3 g4 => by
    refine m_aload_n dX12_isLine_64 rfl ?_
    refine m_get fl_X12_26 (by decide) rfl rfl dX12_isLine_65 ?_
    refine m_iload_n dX12_isLine_68 rfl ?_
    refine m_iald (by first | exact ⟨by decide, by decide, fun _ => rfl⟩ | exact isI_arr _ (by omega) | exact isI_mv _ (by omega) | exact isI_ne _ (by omega)) (by omega) dX12_isLine_69 ?_
    refine m_eqi (g2) ?_
    refine m_iconst (v := -1) dX12_isLine_70 (by decide) ?_
    refine m_icmp_ne 79 dX12_isLine_71 (by decide) (fun c71 => by exfalso; exact c71 rfl) (fun c71 => ?_)
    refine m_aload_n dX12_isLine_74 rfl ?_
    refine m_callVI (s_X12_fails g1) cv_X12_118 dX12_isLine_75 (fun r75 d75 h75 => ?_)
    obtain ⟨rfl, rfl⟩ := h75
    exact m_iret (ty := .boolean) hR dX12_isLine_78 (⟨Or.inr ⟨rfl, by rw [g3], by rw [g3]; exact se_s _ _ _ _⟩, g4.fld (by decide)⟩)
  -- a pair
  have stP : ∀ kk, kk < 2 → rdLine bs e kn = rdP bs (tkE bs (tkS bs e)) kn kk → ∀ d2 v, moTx d2 bs → d2.1 240 6 = nI (tkE bs (tkS bs e)) → d2.1 240 11 = nI kn → d2.1 245 (4 * j) = nI kk → chR rdFl (4 * j) d d2 → mG W K cX12_isLine RX12 (dep + 4) d2 64 [some (.ref (xad W 240)), some (.int (nI (4 * j))), some (.long v), none] [] := fun kk hkk hR0 d2 v g1 g2 g3 g4 g5 => by
    have hp2 := tkS_le hE.2
    have hE2 := tkE_le hp2
    have hR1 : (tkE bs (tkS bs (tkE bs (tkS bs e))) - tkS bs (tkE bs (tkS bs e)) = 2 ∧ ofL bs (tkS bs (tkE bs (tkS bs e))) (tkE bs (tkS bs (tkE bs (tkS bs e)))) kn = true ∧ bs.getD (tkS bs (tkE bs (tkS bs e))) 0 ≠ bs.getD (tkS bs (tkE bs (tkS bs e)) + 1) 0) → rdLine bs e kn = (some (kk, bs.getD (tkS bs (tkE bs (tkS bs e))) 0 - 97, bs.getD (tkS bs (tkE bs (tkS bs e)) + 1) 0 - 97, 0), tkS bs (tkE bs (tkS bs e)), tkE bs (tkS bs (tkE bs (tkS bs e))), kn) := fun z => by rw [hR0]; unfold rdP; rw [if_pos z]
    have hR2 : ¬ (tkE bs (tkS bs (tkE bs (tkS bs e))) - tkS bs (tkE bs (tkS bs e)) = 2 ∧ ofL bs (tkS bs (tkE bs (tkS bs e))) (tkE bs (tkS bs (tkE bs (tkS bs e)))) kn = true ∧ bs.getD (tkS bs (tkE bs (tkS bs e))) 0 ≠ bs.getD (tkS bs (tkE bs (tkS bs e)) + 1) 0) → rdLine bs e kn = (none, tkS bs (tkE bs (tkS bs e)), tkE bs (tkS bs (tkE bs (tkS bs e))), kn) := fun z => by rw [hR0]; unfold rdP; rw [if_neg z]
    have hcall := fun (l' : Launch) (dep' : Nat) => s_X12_nextToken (l := l') (W := W) (dep := dep') g1 g2 hE.2 64
    generalize tkS bs (tkE bs (tkS bs e)) = p2 at *
    have bot : ∀ d5, tokI d5 p2 (tkE bs p2) (kdF bs p2) → chR rdFl (4 * j) d d5 → ¬ (tkE bs p2 - p2 = 2 ∧ ofL bs p2 (tkE bs p2) kn = true ∧ bs.getD p2 0 ≠ bs.getD (p2 + 1) 0) → mG W K cX12_isLine RX12 (dep + 4) d5 143 [some (.ref (xad W 240)), some (.int (nI (4 * j))), some (.long v), none] [] := fun d5 q1 q2 q3 => by
      refine m_aload_n dX12_isLine_143 rfl ?_
      refine m_callVI (s_X12_fails q1.2.1) cv_X12_118 dX12_isLine_144 (fun r144 d144 h144 => ?_)
      obtain ⟨rfl, rfl⟩ := h144
      refine m_if_eq 154 dX12_isLine_147 (by decide) (fun c147 => ?_) (fun c147 => by exfalso; exact c147 rfl)
      refine m_iconstN 0 dX12_isLine_154 (by decide) ?_
      exact m_iret (ty := .boolean) hR dX12_isLine_155 (⟨Or.inr ⟨rfl, by rw [hR2 q3], by rw [hR2 q3]; exact se_s _ _ _ _⟩, q2.fld (by decide)⟩)
    have mid : ∀ d4, tokI d4 p2 (tkE bs p2) (kdF bs p2) → chR tkFl 64 d2 d4 → mG W K cX12_isLine RX12 (dep + 4) (seI d4 245 (4 * j + 1) (nI p2)) 105 [some (.ref (xad W 240)), some (.int (nI (4 * j))), some (.long v), none] [] := fun d4 q1 q2 => by
      have c0 : chR [] (4 * j) d4 (seI d4 245 (4 * j + 1) (nI p2)) := chR.rf.rd ⟨by omega, by omega⟩
      have c1 : chR rdFl (4 * j) d (seI d4 245 (4 * j + 1) (nI p2)) := (g5.tr (up64 (by decide) q2)).rd ⟨by omega, by omega⟩
      have t1 : tokI (seI d4 245 (4 * j + 1) (nI p2)) p2 (tkE bs p2) (kdF bs p2) := q1.rd c0 (by decide) (by decide) (by decide) (by decide)
      have x1 : moTx (seI d4 245 (4 * j + 1) (nI p2)) bs := (g1.rd q2 (by decide)).rd c0 (by decide)
      have k1 : (seI d4 245 (4 * j + 1) (nI p2)).1 240 11 = nI kn := se_e ((q2.2.1 11 (by decide)).trans g3) (by decide)
      have r1 : (seI d4 245 (4 * j + 1) (nI p2)).1 245 (4 * j) = nI kk := se_e2 ((q2.2.2 (4 * j) (by omega) (Or.inl (by omega))).trans g4) (by omega)
      have r2 : (seI d4 245 (4 * j + 1) (nI p2)).1 245 (4 * j + 1) = nI p2 := se_s _ _ _ _
      generalize seI d4 245 (4 * j + 1) (nI p2) = d5 at *
      by_cases hof : kdF bs p2 = 1 ∧ ofL bs p2 (tkE bs p2) kn = true
      · have hlt : p2 < bs.length := kdF_len (by omega)
        by_cases hl2 : tkE bs p2 - p2 = 2
        · have b1 := (x1.2.2 p2 (by omega))
          have b2 := (x1.2.2 (p2 + 1) (by omega))
          have b19 := b1.2
          have b29 := b2.2
          by_cases hne : bs.getD p2 0 ≠ bs.getD (p2 + 1) 0
          · have hal := of_decide_eq_true hof.2
            have hl0 := hal p2 (by omega) (Nat.le_refl _)
            have hl1 := hal (p2 + 1) (by omega) (by omega)
            have hR3 := hR1 ⟨hl2, hof.2, hne⟩
            refine m_aload_n dX12_isLine_105 rfl ?_
            refine m_callVIp (s_X12_isOfLetters x1 t1 hp2 k1 hk6) cv_X12_137 dX12_isLine_106 ?_
            refine m_eqi ((if_pos hof : _ = (1 : Int32))) ?_
            refine m_if_eq 143 dX12_isLine_109 (by decide) (fun c109 => by exfalso; exact absurd c109 (by decide)) (fun c109 => ?_)
            refine m_aload_n dX12_isLine_112 rfl ?_
            refine m_get fl_X12_105 (by decide) rfl rfl dX12_isLine_113 ?_
            refine m_eqi (t1.2.2.2) ?_
            refine m_iconstN 2 dX12_isLine_116 (by decide) ?_
            first | refine m_icmp_neN 143 dX12_isLine_117 (by decide) (by omega) (by omega) (fun c117 => by exfalso; omega) (fun c117 => ?_) | refine m_icmp_ne 143 dX12_isLine_117 (by decide) (fun c117 => by exfalso; omega) (fun c117 => ?_)
            refine m_aload_n dX12_isLine_120 rfl ?_
            refine m_get fl_X12_23 (by decide) rfl rfl dX12_isLine_121 ?_
            refine m_aload_n dX12_isLine_124 rfl ?_
            refine m_get fl_X12_95 (by decide) rfl rfl dX12_isLine_125 ?_
            refine m_eqi (t1.2.1) ?_
            refine m_iald (by first | exact ⟨by decide, by decide, fun _ => rfl⟩ | exact isI_arr _ (by omega) | exact isI_mv _ (by omega) | exact isI_ne _ (by omega)) (by omega) dX12_isLine_128 ?_
            refine m_eqi (b1.1) ?_
            refine m_aload_n dX12_isLine_129 rfl ?_
            refine m_get fl_X12_23 (by decide) rfl rfl dX12_isLine_130 ?_
            refine m_aload_n dX12_isLine_133 rfl ?_
            refine m_get fl_X12_95 (by decide) rfl rfl dX12_isLine_134 ?_
            refine m_eqi (t1.2.1) ?_
            refine m_iconstN 1 dX12_isLine_137 (by decide) ?_
            first | refine m_iaddN dX12_isLine_138 ?_ | refine m_iadd dX12_isLine_138 ?_
            refine m_iald (by first | exact ⟨by decide, by decide, fun _ => rfl⟩ | exact isI_arr _ (by omega) | exact isI_mv _ (by omega) | exact isI_ne _ (by omega)) (by omega) dX12_isLine_139 ?_
            refine m_eqi (b2.1) ?_
            first | refine m_icmp_neN 150 dX12_isLine_140 (by decide) (by omega) (by omega) (fun c140 => ?_) (fun c140 => by exfalso; omega) | refine m_icmp_ne 150 dX12_isLine_140 (by decide) (fun c140 => ?_) (fun c140 => by exfalso; omega)
            refine m_iconstN 1 dX12_isLine_150 (by decide) ?_
            refine m_goto 155 dX12_isLine_151 (by decide) ?_
            exact m_iret (ty := .boolean) hR dX12_isLine_155 (⟨Or.inl ⟨rfl, by rw [hR3]; exact ⟨_, rfl, r1, fun _ => ⟨p2, r2, by omega, hl0.1, hl1.1, rfl, rfl⟩, fun z => absurd z (by show ¬ 2 ≤ kk; omega), fun z => absurd z (by show ¬ kk = 3; omega)⟩, by rw [hR3]; exact t1.1, by rw [hR3]; exact k1⟩, c1⟩)
          · skip
            refine m_aload_n dX12_isLine_105 rfl ?_
            refine m_callVIp (s_X12_isOfLetters x1 t1 hp2 k1 hk6) cv_X12_137 dX12_isLine_106 ?_
            refine m_eqi ((if_pos hof : _ = (1 : Int32))) ?_
            refine m_if_eq 143 dX12_isLine_109 (by decide) (fun c109 => by exfalso; exact absurd c109 (by decide)) (fun c109 => ?_)
            refine m_aload_n dX12_isLine_112 rfl ?_
            refine m_get fl_X12_105 (by decide) rfl rfl dX12_isLine_113 ?_
            refine m_eqi (t1.2.2.2) ?_
            refine m_iconstN 2 dX12_isLine_116 (by decide) ?_
            first | refine m_icmp_neN 143 dX12_isLine_117 (by decide) (by omega) (by omega) (fun c117 => by exfalso; omega) (fun c117 => ?_) | refine m_icmp_ne 143 dX12_isLine_117 (by decide) (fun c117 => by exfalso; omega) (fun c117 => ?_)
            refine m_aload_n dX12_isLine_120 rfl ?_
            refine m_get fl_X12_23 (by decide) rfl rfl dX12_isLine_121 ?_
            refine m_aload_n dX12_isLine_124 rfl ?_
            refine m_get fl_X12_95 (by decide) rfl rfl dX12_isLine_125 ?_
            refine m_eqi (t1.2.1) ?_
            refine m_iald (by first | exact ⟨by decide, by decide, fun _ => rfl⟩ | exact isI_arr _ (by omega) | exact isI_mv _ (by omega) | exact isI_ne _ (by omega)) (by omega) dX12_isLine_128 ?_
            refine m_eqi (b1.1) ?_
            refine m_aload_n dX12_isLine_129 rfl ?_
            refine m_get fl_X12_23 (by decide) rfl rfl dX12_isLine_130 ?_
            refine m_aload_n dX12_isLine_133 rfl ?_
            refine m_get fl_X12_95 (by decide) rfl rfl dX12_isLine_134 ?_
            refine m_eqi (t1.2.1) ?_
            refine m_iconstN 1 dX12_isLine_137 (by decide) ?_
            first | refine m_iaddN dX12_isLine_138 ?_ | refine m_iadd dX12_isLine_138 ?_
            refine m_iald (by first | exact ⟨by decide, by decide, fun _ => rfl⟩ | exact isI_arr _ (by omega) | exact isI_mv _ (by omega) | exact isI_ne _ (by omega)) (by omega) dX12_isLine_139 ?_
            refine m_eqi (b2.1) ?_
            first | refine m_icmp_neN 150 dX12_isLine_140 (by decide) (by omega) (by omega) (fun c140 => by exfalso; omega) (fun c140 => ?_) | refine m_icmp_ne 150 dX12_isLine_140 (by decide) (fun c140 => by exfalso; omega) (fun c140 => ?_)
            exact bot d5 t1 c1 (fun z => hne z.2.2)
        · skip
          refine m_aload_n dX12_isLine_105 rfl ?_
          refine m_callVIp (s_X12_isOfLetters x1 t1 hp2 k1 hk6) cv_X12_137 dX12_isLine_106 ?_
          refine m_eqi ((if_pos hof : _ = (1 : Int32))) ?_
          refine m_if_eq 143 dX12_isLine_109 (by decide) (fun c109 => by exfalso; exact absurd c109 (by decide)) (fun c109 => ?_)
          refine m_aload_n dX12_isLine_112 rfl ?_
          refine m_get fl_X12_105 (by decide) rfl rfl dX12_isLine_113 ?_
          refine m_eqi (t1.2.2.2) ?_
          refine m_iconstN 2 dX12_isLine_116 (by decide) ?_
          first | refine m_icmp_neN 143 dX12_isLine_117 (by decide) (by omega) (by omega) (fun c117 => ?_) (fun c117 => by exfalso; omega) | refine m_icmp_ne 143 dX12_isLine_117 (by decide) (fun c117 => ?_) (fun c117 => by exfalso; omega)
          exact bot d5 t1 c1 (fun z => hl2 z.1)
      · skip
        refine m_aload_n dX12_isLine_105 rfl ?_
        refine m_callVIp (s_X12_isOfLetters x1 t1 hp2 k1 hk6) cv_X12_137 dX12_isLine_106 ?_
        refine m_eqi ((if_neg hof : _ = (0 : Int32))) ?_
        refine m_if_eq 143 dX12_isLine_109 (by decide) (fun c109 => ?_) (fun c109 => by exfalso; exact c109 rfl)
        exact bot d5 t1 c1 (fun z => hof ⟨ofL_kd (by omega) hE2.2 hk6 z.2.1, z.2.1⟩)
    refine m_aload_n dX12_isLine_64 rfl ?_
    refine m_get fl_X12_26 (by decide) rfl rfl dX12_isLine_65 ?_
    refine m_iload_n dX12_isLine_68 rfl ?_
    refine m_iald (by first | exact ⟨by decide, by decide, fun _ => rfl⟩ | exact isI_arr _ (by omega) | exact isI_mv _ (by omega) | exact isI_ne _ (by omega)) (by omega) dX12_isLine_69 ?_
    refine m_eqi (g4) ?_
    refine m_iconst (v := -1) dX12_isLine_70 (by decide) ?_
    refine m_icmp_ne 79 dX12_isLine_71 (by decide) (fun c71 => ?_) (fun c71 => by exfalso; exact nI_kk (by omega) (Decidable.not_not.mp c71))
    refine m_aload_n dX12_isLine_79 rfl ?_
    refine m_get fl_X12_26 (by decide) rfl rfl dX12_isLine_80 ?_
    refine m_iload_n dX12_isLine_83 rfl ?_
    refine m_iald (by first | exact ⟨by decide, by decide, fun _ => rfl⟩ | exact isI_arr _ (by omega) | exact isI_mv _ (by omega) | exact isI_ne _ (by omega)) (by omega) dX12_isLine_84 ?_
    refine m_eqi (g4) ?_
    refine m_iconstN 2 dX12_isLine_85 (by decide) ?_
    first | refine m_icmp_geN 156 dX12_isLine_86 (by decide) (by omega) (by omega) (fun c86 => by exfalso; omega) (fun c86 => ?_) | refine m_icmp_ge 156 dX12_isLine_86 (by decide) (fun c86 => by exfalso; omega) (fun c86 => ?_)
    refine m_aload_n dX12_isLine_89 rfl ?_
    refine m_callVV (hcall K.1.1 _) cv_X12_115 dX12_isLine_90 (fun d90 h90 => ?_)
    refine m_aload_n dX12_isLine_93 rfl ?_
    refine m_get fl_X12_26 (by decide) rfl rfl dX12_isLine_94 ?_
    refine m_iload_n dX12_isLine_97 rfl ?_
    refine m_iconstN 1 dX12_isLine_98 (by decide) ?_
    first | refine m_iaddN dX12_isLine_99 ?_ | refine m_iadd dX12_isLine_99 ?_
    refine m_aload_n dX12_isLine_100 rfl ?_
    refine m_get fl_X12_95 (by decide) rfl rfl dX12_isLine_101 ?_
    refine m_eqi (h90.1.2.1) ?_
    refine m_iast (by first | exact ⟨by decide, by decide, fun _ => rfl⟩ | exact isI_arr _ (by omega) | exact isI_mv _ (by omega) | exact isI_ne _ (by omega)) (by omega) dX12_isLine_104 ?_
    exact mid d90 h90.1 h90.2
  -- letters
  have stL : rdLine bs e kn = rdL bs (tkE bs (tkS bs e)) kn → ∀ d2 v, moTx d2 bs → d2.1 240 6 = nI (tkE bs (tkS bs e)) → d2.1 245 (4 * j) = nI 2 → chR rdFl (4 * j) d d2 → mG W K cX12_isLine RX12 (dep + 4) d2 64 [some (.ref (xad W 240)), some (.int (nI (4 * j))), some (.long v), none] [] := fun hR0 d2 v g1 g2 g4 g5 => by
    have hp2 := tkS_le hE.2
    have hE2 := tkE_le hp2
    have hcall := fun (l' : Launch) (dep' : Nat) => s_X12_isNumber (l := l') (W := W) (dep := dep') (t := 4 * j + 1) (lo := 1) (hi := 6) g1 g2 hE.2 (by omega) (by decide) (by decide)
    have hR1 := rdL_1 (bs := bs) (e := tkE bs (tkS bs e)) (kn := kn)
    have hR2 := rdL_0 (bs := bs) (e := tkE bs (tkS bs e)) (kn := kn)
    rw [← hR0] at hR1 hR2
    generalize tkS bs (tkE bs (tkS bs e)) = p2 at *
    have cR : ∀ {d3 : xD}, (∀ q, q < 64 → q ≠ 4 * j + 1 → d3.1 245 q = d2.1 245 q) → chR [6, 7, 8, 9, 10] (4 * j + 1) d2 d3 → chR rdFl (4 * j) d d3 := fun q1 q2 => g5.tr ⟨q2.1, fun q hq => q2.2.1 q (fun z => hq ((by decide : ∀ o ∈ [6, 7, 8, 9, 10], o ∈ rdFl) q z)), fun q h6 hq => q1 q h6 (by omega)⟩
    by_cases hN : isN bs p2 (tkE bs p2) = true ∧ 1 ≤ bs.getD p2 0 - 48 ∧ bs.getD p2 0 - 48 ≤ 6
    · have hR3 := hR1 hN
      refine m_aload_n dX12_isLine_64 rfl ?_
      refine m_get fl_X12_26 (by decide) rfl rfl dX12_isLine_65 ?_
      refine m_iload_n dX12_isLine_68 rfl ?_
      refine m_iald (by first | exact ⟨by decide, by decide, fun _ => rfl⟩ | exact isI_arr _ (by omega) | exact isI_mv _ (by omega) | exact isI_ne _ (by omega)) (by omega) dX12_isLine_69 ?_
      refine m_eqi (g4) ?_
      refine m_iconst (v := -1) dX12_isLine_70 (by decide) ?_
      refine m_icmp_ne 79 dX12_isLine_71 (by decide) (fun c71 => ?_) (fun c71 => by exfalso; exact nI_kk (by omega) (Decidable.not_not.mp c71))
      refine m_aload_n dX12_isLine_79 rfl ?_
      refine m_get fl_X12_26 (by decide) rfl rfl dX12_isLine_80 ?_
      refine m_iload_n dX12_isLine_83 rfl ?_
      refine m_iald (by first | exact ⟨by decide, by decide, fun _ => rfl⟩ | exact isI_arr _ (by omega) | exact isI_mv _ (by omega) | exact isI_ne _ (by omega)) (by omega) dX12_isLine_84 ?_
      refine m_eqi (g4) ?_
      refine m_iconstN 2 dX12_isLine_85 (by decide) ?_
      first | refine m_icmp_geN 156 dX12_isLine_86 (by decide) (by omega) (by omega) (fun c86 => ?_) (fun c86 => by exfalso; omega) | refine m_icmp_ge 156 dX12_isLine_86 (by decide) (fun c86 => ?_) (fun c86 => by exfalso; omega)
      refine m_aload_n dX12_isLine_156 rfl ?_
      refine m_get fl_X12_26 (by decide) rfl rfl dX12_isLine_157 ?_
      refine m_iload_n dX12_isLine_160 rfl ?_
      refine m_iald (by first | exact ⟨by decide, by decide, fun _ => rfl⟩ | exact isI_arr _ (by omega) | exact isI_mv _ (by omega) | exact isI_ne _ (by omega)) (by omega) dX12_isLine_161 ?_
      refine m_eqi (g4) ?_
      refine m_iconstN 2 dX12_isLine_162 (by decide) ?_
      first | refine m_icmp_neN 195 dX12_isLine_163 (by decide) (by omega) (by omega) (fun c163 => by exfalso; omega) (fun c163 => ?_) | refine m_icmp_ne 195 dX12_isLine_163 (by decide) (fun c163 => by exfalso; omega) (fun c163 => ?_)
      refine m_aload_n dX12_isLine_166 rfl ?_
      refine m_iload_n dX12_isLine_167 rfl ?_
      refine m_iconstN 1 dX12_isLine_168 (by decide) ?_
      first | refine m_iaddN dX12_isLine_169 ?_ | refine m_iadd dX12_isLine_169 ?_
      refine m_iconstN 1 dX12_isLine_170 (by decide) ?_
      refine m_bipushN 6 dX12_isLine_171 (by decide) ?_
      refine m_callVI (hcall K.1.1 _) cv_X12_140 dX12_isLine_173 (fun r173 d173 h173 => ?_)
      obtain ⟨z1, z2, z3, z4⟩ := h173
      obtain ⟨-, rfl, z5⟩ := z1.resolve_right (fun z => z.1 hN)
      refine m_if_ne 181 dX12_isLine_176 (by decide) (fun c176 => ?_) (fun c176 => by exfalso; exact c176 (by decide))
      refine m_aload_n dX12_isLine_181 rfl ?_
      refine m_aload_n dX12_isLine_182 rfl ?_
      refine m_get fl_X12_26 (by decide) rfl rfl dX12_isLine_183 ?_
      refine m_iload_n dX12_isLine_186 rfl ?_
      refine m_iconstN 1 dX12_isLine_187 (by decide) ?_
      first | refine m_iaddN dX12_isLine_188 ?_ | refine m_iadd dX12_isLine_188 ?_
      refine m_iald (by first | exact ⟨by decide, by decide, fun _ => rfl⟩ | exact isI_arr _ (by omega) | exact isI_mv _ (by omega) | exact isI_ne _ (by omega)) (by omega) dX12_isLine_189 ?_
      refine m_eqi (z5) ?_
      refine m_put fl_X12_122 (by decide) rfl (Nat.le_of_ble_eq_true rfl) rfl dX12_isLine_190 ?_
      refine m_iconstN 1 dX12_isLine_193 (by decide) ?_
      exact m_iret (ty := .boolean) hR dX12_isLine_194 (⟨Or.inl ⟨rfl, by rw [hR3]; exact ⟨_, rfl, se_e ((z3 (4 * j) (by omega) (by omega)).trans g4) (by decide), fun z => absurd z (show ¬ (2 : Nat) < 2 by decide), fun _ => se_e z5 (by decide), fun z => absurd z (show ¬ (2 : Nat) = 3 by decide)⟩, by rw [hR3]; exact se_e2 z2 (by decide), by rw [hR3]; exact se_s _ _ _ _⟩, (cR z3 z4).fld (by decide)⟩)
    · have hR3 := hR2 hN
      refine m_aload_n dX12_isLine_64 rfl ?_
      refine m_get fl_X12_26 (by decide) rfl rfl dX12_isLine_65 ?_
      refine m_iload_n dX12_isLine_68 rfl ?_
      refine m_iald (by first | exact ⟨by decide, by decide, fun _ => rfl⟩ | exact isI_arr _ (by omega) | exact isI_mv _ (by omega) | exact isI_ne _ (by omega)) (by omega) dX12_isLine_69 ?_
      refine m_eqi (g4) ?_
      refine m_iconst (v := -1) dX12_isLine_70 (by decide) ?_
      refine m_icmp_ne 79 dX12_isLine_71 (by decide) (fun c71 => ?_) (fun c71 => by exfalso; exact nI_kk (by omega) (Decidable.not_not.mp c71))
      refine m_aload_n dX12_isLine_79 rfl ?_
      refine m_get fl_X12_26 (by decide) rfl rfl dX12_isLine_80 ?_
      refine m_iload_n dX12_isLine_83 rfl ?_
      refine m_iald (by first | exact ⟨by decide, by decide, fun _ => rfl⟩ | exact isI_arr _ (by omega) | exact isI_mv _ (by omega) | exact isI_ne _ (by omega)) (by omega) dX12_isLine_84 ?_
      refine m_eqi (g4) ?_
      refine m_iconstN 2 dX12_isLine_85 (by decide) ?_
      first | refine m_icmp_geN 156 dX12_isLine_86 (by decide) (by omega) (by omega) (fun c86 => ?_) (fun c86 => by exfalso; omega) | refine m_icmp_ge 156 dX12_isLine_86 (by decide) (fun c86 => ?_) (fun c86 => by exfalso; omega)
      refine m_aload_n dX12_isLine_156 rfl ?_
      refine m_get fl_X12_26 (by decide) rfl rfl dX12_isLine_157 ?_
      refine m_iload_n dX12_isLine_160 rfl ?_
      refine m_iald (by first | exact ⟨by decide, by decide, fun _ => rfl⟩ | exact isI_arr _ (by omega) | exact isI_mv _ (by omega) | exact isI_ne _ (by omega)) (by omega) dX12_isLine_161 ?_
      refine m_eqi (g4) ?_
      refine m_iconstN 2 dX12_isLine_162 (by decide) ?_
      first | refine m_icmp_neN 195 dX12_isLine_163 (by decide) (by omega) (by omega) (fun c163 => by exfalso; omega) (fun c163 => ?_) | refine m_icmp_ne 195 dX12_isLine_163 (by decide) (fun c163 => by exfalso; omega) (fun c163 => ?_)
      refine m_aload_n dX12_isLine_166 rfl ?_
      refine m_iload_n dX12_isLine_167 rfl ?_
      refine m_iconstN 1 dX12_isLine_168 (by decide) ?_
      first | refine m_iaddN dX12_isLine_169 ?_ | refine m_iadd dX12_isLine_169 ?_
      refine m_iconstN 1 dX12_isLine_170 (by decide) ?_
      refine m_bipushN 6 dX12_isLine_171 (by decide) ?_
      refine m_callVI (hcall K.1.1 _) cv_X12_140 dX12_isLine_173 (fun r173 d173 h173 => ?_)
      obtain ⟨z1, z2, z3, z4⟩ := h173
      obtain ⟨-, rfl, z5⟩ := z1.resolve_left (fun z => hN z.1)
      refine m_if_ne 181 dX12_isLine_176 (by decide) (fun c176 => by exfalso; exact c176 rfl) (fun c176 => ?_)
      refine m_iconstN 0 dX12_isLine_179 (by decide) ?_
      exact m_iret (ty := .boolean) hR dX12_isLine_180 (⟨Or.inr ⟨rfl, by rw [hR3], by rw [hR3]; exact z5⟩, cR z3 z4⟩)
  -- a heap
  have stH : rdLine bs e kn = rdH bs (tkE bs (tkS bs e)) kn → ∀ d2 v, moTx d2 bs → d2.1 240 6 = nI (tkE bs (tkS bs e)) → d2.1 240 11 = nI kn → d2.1 245 (4 * j) = nI 3 → chR rdFl (4 * j) d d2 → mG W K cX12_isLine RX12 (dep + 4) d2 64 [some (.ref (xad W 240)), some (.int (nI (4 * j))), some (.long v), none] [] := fun hR0 d2 v g1 g2 g3 g4 g5 => by
    have hp2 := tkS_le hE.2
    have hE2 := tkE_le hp2
    have hcall := fun (l' : Launch) (dep' : Nat) => s_X12_isNumber (l := l') (W := W) (dep := dep') (t := 4 * j + 1) (lo := 0) (hi := 3) g1 g2 hE.2 (by omega) (by decide) (by decide)
    have hR1 := rdH_1 (bs := bs) (e := tkE bs (tkS bs e)) (kn := kn)
    have hR2 := rdH_0 (bs := bs) (e := tkE bs (tkS bs e)) (kn := kn)
    rw [← hR0] at hR1 hR2
    generalize tkS bs (tkE bs (tkS bs e)) = p2 at *
    have cR : ∀ {d3 : xD}, (∀ q, q < 64 → q ≠ 4 * j + 1 → d3.1 245 q = d2.1 245 q) → chR [6, 7, 8, 9, 10] (4 * j + 1) d2 d3 → chR rdFl (4 * j) d2 d3 := fun q1 q2 => ⟨q2.1, fun q hq => q2.2.1 q (fun z => hq ((by decide : ∀ o ∈ [6, 7, 8, 9, 10], o ∈ rdFl) q z)), fun q h6 hq => q1 q h6 (by omega)⟩
    by_cases hN : isN bs p2 (tkE bs p2) = true ∧ 0 ≤ bs.getD p2 0 - 48 ∧ bs.getD p2 0 - 48 ≤ 3
    · have hR3 := hR1 ⟨hN.1, by omega⟩
      -- behind the number
      have after : ∀ d3, moTx d3 bs → d3.1 240 6 = nI (tkE bs p2) → d3.1 240 11 = nI kn → d3.1 245 (4 * j) = nI 3 → d3.1 245 (4 * j + 1) = nI (bs.getD p2 0 - 48) → chR rdFl (4 * j) d d3 → mG W K cX12_isLine RX12 (dep + 4) d3 209 [some (.ref (xad W 240)), some (.int (nI (4 * j))), some (.long v), none] [] := fun d3 q1 q2 q3 q4 q5 q6 => by
        have hp3 := tkS_le hE2.2
        have hE3 := tkE_le hp3
        have hw3 := wdV_lt bs (tkS bs (tkE bs p2)) hp3
        have hW4 := isW_wd hp3 (show 4 < 6 by decide)
        have hcal3 := fun (l' : Launch) (dep' : Nat) => s_X12_nextToken (l := l') (W := W) (dep := dep') q1 q2 hE2.2 64
        have hI1 := rdI_1 (bs := bs) (e := tkE bs p2) (kn := kn) (hp := bs.getD p2 0 - 48)
        have hI0 := rdI_0 (bs := bs) (e := tkE bs p2) (kn := kn) (hp := bs.getD p2 0 - 48)
        rw [← hR3] at hI1 hI0
        generalize tkS bs (tkE bs p2) = p3 at *
        have tx4 : ∀ {d4 : xD}, chR tkFl 64 d3 d4 → moTx d4 bs := fun g => q1.rd g (by decide)
        by_cases hw4 : wdV bs p3 = 262
        · have hI2 := hI1 (hW4.mpr hw4)
          -- behind is
          have after2 : ∀ d4, moTx d4 bs → d4.1 240 6 = nI (tkE bs p3) → d4.1 240 11 = nI kn → d4.1 245 (4 * j) = nI 3 → d4.1 245 (4 * j + 1) = nI (bs.getD p2 0 - 48) → chR rdFl (4 * j) d d4 → mG W K cX12_isLine RX12 (dep + 4) d4 229 [some (.ref (xad W 240)), some (.int (nI (4 * j))), some (.long v), none] [] := fun d4 s1 s2 s3 s4 s5 s6 => by
            have hp4 := tkS_le hE3.2
            have hE4 := tkE_le hp4
            have hw5 := wdV_lt bs (tkS bs (tkE bs p3)) hp4
            have hW5 := isW_wd hp4 (show 5 < 6 by decide)
            have hcal4 := fun (l' : Launch) (dep' : Nat) => s_X12_nextToken (l := l') (W := W) (dep := dep') s1 s2 hE3.2 64
            have hW1 := rdW_1 (bs := bs) (e := tkE bs p3) (kn := kn) (hp := bs.getD p2 0 - 48)
            have hW2 := rdW_2 (bs := bs) (e := tkE bs p3) (kn := kn) (hp := bs.getD p2 0 - 48)
            have hW0 := rdW_0 (bs := bs) (e := tkE bs p3) (kn := kn) (hp := bs.getD p2 0 - 48)
            rw [← hI2] at hW1 hW2 hW0
            generalize tkS bs (tkE bs p3) = p4 at *
            by_cases hn5 : wdV bs p4 = 286880
            · have hRf := hW1 (hW5.mpr hn5)
              have mid : ∀ d5, tokI d5 p4 (tkE bs p4) (kdF bs p4) → chR tkFl 64 d4 d5 → mG W K cX12_isLine RX12 (dep + 4) (seI d5 245 (4 * j + 2) (nI p4)) 245 [some (.ref (xad W 240)), some (.int (nI (4 * j))), some (.long v), none] [] := fun d5 u1 u2 => by
                have c0 : chR [] (4 * j) d5 (seI d5 245 (4 * j + 2) (nI p4)) := chR.rf.rd ⟨by omega, by omega⟩
                have c1 : chR rdFl (4 * j) d (seI d5 245 (4 * j + 2) (nI p4)) := (s6.tr (up64 (by decide) u2)).rd ⟨by omega, by omega⟩
                have t1 : tokI (seI d5 245 (4 * j + 2) (nI p4)) p4 (tkE bs p4) (kdF bs p4) := u1.rd c0 (by decide) (by decide) (by decide) (by decide)
                have x1 : moTx (seI d5 245 (4 * j + 2) (nI p4)) bs := (s1.rd u2 (by decide)).rd c0 (by decide)
                have k1 : (seI d5 245 (4 * j + 2) (nI p4)).1 240 11 = nI kn := se_e ((u2.2.1 11 (by decide)).trans s3) (by decide)
                have r0 : (seI d5 245 (4 * j + 2) (nI p4)).1 245 (4 * j) = nI 3 := se_e2 ((u2.2.2 (4 * j) (by omega) (Or.inl (by omega))).trans s4) (by omega)
                have r1 : (seI d5 245 (4 * j + 2) (nI p4)).1 245 (4 * j + 1) = nI (bs.getD p2 0 - 48) := se_e2 ((u2.2.2 (4 * j + 1) (by omega) (Or.inl (by omega))).trans s5) (by omega)
                have r2 : (seI d5 245 (4 * j + 2) (nI p4)).1 245 (4 * j + 2) = nI p4 := se_s _ _ _ _
                generalize seI d5 245 (4 * j + 2) (nI p4) = d6 at *
                have c2 : chR [] (4 * j) d6 (seI d6 245 (4 * j + 3) (nI 0)) := chR.rf.rd ⟨by omega, by omega⟩
                refine m_aload_n dX12_isLine_245 rfl ?_
                refine m_get fl_X12_26 (by decide) rfl rfl dX12_isLine_246 ?_
                refine m_iload_n dX12_isLine_249 rfl ?_
                refine m_iconstN 3 dX12_isLine_250 (by decide) ?_
                first | refine m_iaddN dX12_isLine_251 ?_ | refine m_iadd dX12_isLine_251 ?_
                refine m_aload_n dX12_isLine_252 rfl ?_
                refine m_callVLp (s_X12_word x1 t1 hp4) cv_X12_125 dX12_isLine_253 ?_
                refine m_ldc2 ct_X12_145 dX12_isLine_256 ?_
                refine m_eql (y := lN 286880) (by decide +kernel) ?_
                first | refine m_lcmp_neN 267 dX12_isLine_259 dX12_isLine_260 (by decide) (by omega) (by omega) (fun c259 => by exfalso; omega) (fun c259 => ?_) | refine m_lcmp_ne 267 dX12_isLine_259 dX12_isLine_260 (by decide) (fun c259 => by exfalso; omega) (fun c259 => ?_)
                refine m_iconstN 0 dX12_isLine_263 (by decide) ?_
                refine m_goto 271 dX12_isLine_264 (by decide) ?_
                refine m_iast (by first | exact ⟨by decide, by decide, fun _ => rfl⟩ | exact isI_arr _ (by omega) | exact isI_mv _ (by omega) | exact isI_ne _ (by omega)) (by omega) dX12_isLine_271 ?_
                refine m_aload_n dX12_isLine_272 rfl ?_
                refine m_callVLp (s_X12_word (x1.rd c2 (by decide)) (t1.rd c2 (by decide) (by decide) (by decide) (by decide)) hp4) cv_X12_125 dX12_isLine_273 ?_
                refine m_ldc2 ct_X12_145 dX12_isLine_276 ?_
                refine m_eql (y := lN 286880) (by decide +kernel) ?_
                first | refine m_lcmp_eqN 306 dX12_isLine_279 dX12_isLine_280 (by decide) (by omega) (by omega) (fun c279 => ?_) (fun c279 => by exfalso; omega) | refine m_lcmp_eq 306 dX12_isLine_279 dX12_isLine_280 (by decide) (fun c279 => ?_) (fun c279 => by exfalso; omega)
                refine m_iconstN 1 dX12_isLine_306 (by decide) ?_
                refine m_goto 311 dX12_isLine_307 (by decide) ?_
                exact m_iret (ty := .boolean) hR dX12_isLine_311 (⟨Or.inl ⟨rfl, by rw [hRf]; exact ⟨_, rfl, se_e2 r0 (by omega), fun z => absurd z (show ¬ (3 : Nat) < 2 by decide), fun _ => se_e2 r1 (by omega), fun _ => ⟨se_e2 r2 (by omega), (se_s _ _ _ _).trans (by rw [Nat.sub_self])⟩⟩, by rw [hRf]; exact se_e t1.1 (by decide), by rw [hRf]; exact se_e k1 (by decide)⟩, c1.rd ⟨by omega, by omega⟩⟩)
              refine m_aload_n dX12_isLine_229 rfl ?_
              refine m_callVV (hcal4 K.1.1 _) cv_X12_115 dX12_isLine_230 (fun d230 h230 => ?_)
              refine m_aload_n dX12_isLine_233 rfl ?_
              refine m_get fl_X12_26 (by decide) rfl rfl dX12_isLine_234 ?_
              refine m_iload_n dX12_isLine_237 rfl ?_
              refine m_iconstN 2 dX12_isLine_238 (by decide) ?_
              first | refine m_iaddN dX12_isLine_239 ?_ | refine m_iadd dX12_isLine_239 ?_
              refine m_aload_n dX12_isLine_240 rfl ?_
              refine m_get fl_X12_95 (by decide) rfl rfl dX12_isLine_241 ?_
              refine m_eqi (h230.1.2.1) ?_
              refine m_iast (by first | exact ⟨by decide, by decide, fun _ => rfl⟩ | exact isI_arr _ (by omega) | exact isI_mv _ (by omega) | exact isI_ne _ (by omega)) (by omega) dX12_isLine_244 ?_
              exact mid d230 h230.1 h230.2
            · have hnW : ¬ isW bs p4 (tkE bs p4) 5 = true := fun z => hn5 (hW5.mp z)
              have mid : ∀ d5, tokI d5 p4 (tkE bs p4) (kdF bs p4) → chR tkFl 64 d4 d5 → mG W K cX12_isLine RX12 (dep + 4) (seI d5 245 (4 * j + 2) (nI p4)) 245 [some (.ref (xad W 240)), some (.int (nI (4 * j))), some (.long v), none] [] := fun d5 u1 u2 => by
                have c0 : chR [] (4 * j) d5 (seI d5 245 (4 * j + 2) (nI p4)) := chR.rf.rd ⟨by omega, by omega⟩
                have c1 : chR rdFl (4 * j) d (seI d5 245 (4 * j + 2) (nI p4)) := (s6.tr (up64 (by decide) u2)).rd ⟨by omega, by omega⟩
                have t1 : tokI (seI d5 245 (4 * j + 2) (nI p4)) p4 (tkE bs p4) (kdF bs p4) := u1.rd c0 (by decide) (by decide) (by decide) (by decide)
                have x1 : moTx (seI d5 245 (4 * j + 2) (nI p4)) bs := (s1.rd u2 (by decide)).rd c0 (by decide)
                have k1 : (seI d5 245 (4 * j + 2) (nI p4)).1 240 11 = nI kn := se_e ((u2.2.1 11 (by decide)).trans s3) (by decide)
                have r0 : (seI d5 245 (4 * j + 2) (nI p4)).1 245 (4 * j) = nI 3 := se_e2 ((u2.2.2 (4 * j) (by omega) (Or.inl (by omega))).trans s4) (by omega)
                have r1 : (seI d5 245 (4 * j + 2) (nI p4)).1 245 (4 * j + 1) = nI (bs.getD p2 0 - 48) := se_e2 ((u2.2.2 (4 * j + 1) (by omega) (Or.inl (by omega))).trans s5) (by omega)
                have r2 : (seI d5 245 (4 * j + 2) (nI p4)).1 245 (4 * j + 2) = nI p4 := se_s _ _ _ _
                generalize seI d5 245 (4 * j + 2) (nI p4) = d6 at *
                have c2 : chR [] (4 * j) d6 (seI d6 245 (4 * j + 3) (nI (tkE bs p4 - p4))) := chR.rf.rd ⟨by omega, by omega⟩
                have c3 : chR rdFl (4 * j) d (seI d6 245 (4 * j + 3) (nI (tkE bs p4 - p4))) := c1.rd ⟨by omega, by omega⟩
                have t2 : tokI (seI d6 245 (4 * j + 3) (nI (tkE bs p4 - p4))) p4 (tkE bs p4) (kdF bs p4) := t1.rd c2 (by decide) (by decide) (by decide) (by decide)
                have x2 : moTx (seI d6 245 (4 * j + 3) (nI (tkE bs p4 - p4))) bs := x1.rd c2 (by decide)
                have k2 : (seI d6 245 (4 * j + 3) (nI (tkE bs p4 - p4))).1 240 11 = nI kn := se_e k1 (by decide)
                have v0 : (seI d6 245 (4 * j + 3) (nI (tkE bs p4 - p4))).1 245 (4 * j) = nI 3 := se_e2 r0 (by omega)
                have v1 : (seI d6 245 (4 * j + 3) (nI (tkE bs p4 - p4))).1 245 (4 * j + 1) = nI (bs.getD p2 0 - 48) := se_e2 r1 (by omega)
                have v2 : (seI d6 245 (4 * j + 3) (nI (tkE bs p4 - p4))).1 245 (4 * j + 2) = nI p4 := se_e2 r2 (by omega)
                have v3 : (seI d6 245 (4 * j + 3) (nI (tkE bs p4 - p4))).1 245 (4 * j + 3) = nI (tkE bs p4 - p4) := se_s _ _ _ _
                have bot : ∀ d7, d7 = seI d6 245 (4 * j + 3) (nI (tkE bs p4 - p4)) → ¬ (1 ≤ tkE bs p4 - p4 ∧ tkE bs p4 - p4 ≤ 24 ∧ ofL bs p4 (tkE bs p4) kn = true) → mG W K cX12_isLine RX12 (dep + 4) d7 299 [some (.ref (xad W 240)), some (.int (nI (4 * j))), some (.long v), none] [] := fun d7 e7 hno => by
                  subst e7
                  have hRf := hW0 hnW hno
                  refine m_aload_n dX12_isLine_299 rfl ?_
                  refine m_callVI (s_X12_fails t2.2.1) cv_X12_118 dX12_isLine_300 (fun r300 d300 h300 => ?_)
                  obtain ⟨rfl, rfl⟩ := h300
                  refine m_if_eq 310 dX12_isLine_303 (by decide) (fun c303 => ?_) (fun c303 => by exfalso; exact c303 rfl)
                  refine m_iconstN 0 dX12_isLine_310 (by decide) ?_
                  exact m_iret (ty := .boolean) hR dX12_isLine_311 (⟨Or.inr ⟨rfl, by rw [hRf], by rw [hRf]; exact se_s _ _ _ _⟩, c3.fld (by decide)⟩)
                by_cases hof : kdF bs p4 = 1 ∧ ofL bs p4 (tkE bs p4) kn = true
                · have hgt := tkE_gt (kdF_len (show kdF bs p4 ≠ 0 by omega))
                  by_cases hl4 : tkE bs p4 - p4 ≤ 24
                  · have hRf := hW2 hnW ⟨by omega, hl4, hof.2⟩
                    refine m_aload_n dX12_isLine_245 rfl ?_
                    refine m_get fl_X12_26 (by decide) rfl rfl dX12_isLine_246 ?_
                    refine m_iload_n dX12_isLine_249 rfl ?_
                    refine m_iconstN 3 dX12_isLine_250 (by decide) ?_
                    first | refine m_iaddN dX12_isLine_251 ?_ | refine m_iadd dX12_isLine_251 ?_
                    refine m_aload_n dX12_isLine_252 rfl ?_
                    refine m_callVLp (s_X12_word x1 t1 hp4) cv_X12_125 dX12_isLine_253 ?_
                    refine m_ldc2 ct_X12_145 dX12_isLine_256 ?_
                    refine m_eql (y := lN 286880) (by decide +kernel) ?_
                    first | refine m_lcmp_neN 267 dX12_isLine_259 dX12_isLine_260 (by decide) (by omega) (by omega) (fun c259 => ?_) (fun c259 => by exfalso; omega) | refine m_lcmp_ne 267 dX12_isLine_259 dX12_isLine_260 (by decide) (fun c259 => ?_) (fun c259 => by exfalso; omega)
                    refine m_aload_n dX12_isLine_267 rfl ?_
                    refine m_get fl_X12_105 (by decide) rfl rfl dX12_isLine_268 ?_
                    refine m_eqi (t1.2.2.2) ?_
                    refine m_iast (by first | exact ⟨by decide, by decide, fun _ => rfl⟩ | exact isI_arr _ (by omega) | exact isI_mv _ (by omega) | exact isI_ne _ (by omega)) (by omega) dX12_isLine_271 ?_
                    refine m_aload_n dX12_isLine_272 rfl ?_
                    refine m_callVLp (s_X12_word x2 t2 hp4) cv_X12_125 dX12_isLine_273 ?_
                    refine m_ldc2 ct_X12_145 dX12_isLine_276 ?_
                    refine m_eql (y := lN 286880) (by decide +kernel) ?_
                    first | refine m_lcmp_eqN 306 dX12_isLine_279 dX12_isLine_280 (by decide) (by omega) (by omega) (fun c279 => by exfalso; omega) (fun c279 => ?_) | refine m_lcmp_eq 306 dX12_isLine_279 dX12_isLine_280 (by decide) (fun c279 => by exfalso; omega) (fun c279 => ?_)
                    refine m_aload_n dX12_isLine_283 rfl ?_
                    refine m_callVIp (s_X12_isOfLetters x2 t2 hp4 k2 hk6) cv_X12_137 dX12_isLine_284 ?_
                    refine m_eqi ((if_pos hof : _ = (1 : Int32))) ?_
                    refine m_if_eq 299 dX12_isLine_287 (by decide) (fun c287 => by exfalso; exact absurd c287 (by decide)) (fun c287 => ?_)
                    refine m_aload_n dX12_isLine_290 rfl ?_
                    refine m_get fl_X12_105 (by decide) rfl rfl dX12_isLine_291 ?_
                    refine m_eqi (t2.2.2.2) ?_
                    refine m_bipushN 25 dX12_isLine_294 (by decide) ?_
                    first | refine m_icmp_ltN 306 dX12_isLine_296 (by decide) (by omega) (by omega) (fun c296 => ?_) (fun c296 => by exfalso; omega) | refine m_icmp_lt 306 dX12_isLine_296 (by decide) (fun c296 => ?_) (fun c296 => by exfalso; omega)
                    refine m_iconstN 1 dX12_isLine_306 (by decide) ?_
                    refine m_goto 311 dX12_isLine_307 (by decide) ?_
                    exact m_iret (ty := .boolean) hR dX12_isLine_311 (⟨Or.inl ⟨rfl, by rw [hRf]; exact ⟨_, rfl, v0, fun z => absurd z (show ¬ (3 : Nat) < 2 by decide), fun _ => v1, fun _ => ⟨v2, v3⟩⟩, by rw [hRf]; exact t2.1, by rw [hRf]; exact k2⟩, c3⟩)
                  · skip
                    refine m_aload_n dX12_isLine_245 rfl ?_
                    refine m_get fl_X12_26 (by decide) rfl rfl dX12_isLine_246 ?_
                    refine m_iload_n dX12_isLine_249 rfl ?_
                    refine m_iconstN 3 dX12_isLine_250 (by decide) ?_
                    first | refine m_iaddN dX12_isLine_251 ?_ | refine m_iadd dX12_isLine_251 ?_
                    refine m_aload_n dX12_isLine_252 rfl ?_
                    refine m_callVLp (s_X12_word x1 t1 hp4) cv_X12_125 dX12_isLine_253 ?_
                    refine m_ldc2 ct_X12_145 dX12_isLine_256 ?_
                    refine m_eql (y := lN 286880) (by decide +kernel) ?_
                    first | refine m_lcmp_neN 267 dX12_isLine_259 dX12_isLine_260 (by decide) (by omega) (by omega) (fun c259 => ?_) (fun c259 => by exfalso; omega) | refine m_lcmp_ne 267 dX12_isLine_259 dX12_isLine_260 (by decide) (fun c259 => ?_) (fun c259 => by exfalso; omega)
                    refine m_aload_n dX12_isLine_267 rfl ?_
                    refine m_get fl_X12_105 (by decide) rfl rfl dX12_isLine_268 ?_
                    refine m_eqi (t1.2.2.2) ?_
                    refine m_iast (by first | exact ⟨by decide, by decide, fun _ => rfl⟩ | exact isI_arr _ (by omega) | exact isI_mv _ (by omega) | exact isI_ne _ (by omega)) (by omega) dX12_isLine_271 ?_
                    refine m_aload_n dX12_isLine_272 rfl ?_
                    refine m_callVLp (s_X12_word x2 t2 hp4) cv_X12_125 dX12_isLine_273 ?_
                    refine m_ldc2 ct_X12_145 dX12_isLine_276 ?_
                    refine m_eql (y := lN 286880) (by decide +kernel) ?_
                    first | refine m_lcmp_eqN 306 dX12_isLine_279 dX12_isLine_280 (by decide) (by omega) (by omega) (fun c279 => by exfalso; omega) (fun c279 => ?_) | refine m_lcmp_eq 306 dX12_isLine_279 dX12_isLine_280 (by decide) (fun c279 => by exfalso; omega) (fun c279 => ?_)
                    refine m_aload_n dX12_isLine_283 rfl ?_
                    refine m_callVIp (s_X12_isOfLetters x2 t2 hp4 k2 hk6) cv_X12_137 dX12_isLine_284 ?_
                    refine m_eqi ((if_pos hof : _ = (1 : Int32))) ?_
                    refine m_if_eq 299 dX12_isLine_287 (by decide) (fun c287 => by exfalso; exact absurd c287 (by decide)) (fun c287 => ?_)
                    refine m_aload_n dX12_isLine_290 rfl ?_
                    refine m_get fl_X12_105 (by decide) rfl rfl dX12_isLine_291 ?_
                    refine m_eqi (t2.2.2.2) ?_
                    refine m_bipushN 25 dX12_isLine_294 (by decide) ?_
                    first | refine m_icmp_ltN 306 dX12_isLine_296 (by decide) (by omega) (by omega) (fun c296 => by exfalso; omega) (fun c296 => ?_) | refine m_icmp_lt 306 dX12_isLine_296 (by decide) (fun c296 => by exfalso; omega) (fun c296 => ?_)
                    exact bot _ rfl (fun z => hl4 z.2.1)
                · skip
                  refine m_aload_n dX12_isLine_245 rfl ?_
                  refine m_get fl_X12_26 (by decide) rfl rfl dX12_isLine_246 ?_
                  refine m_iload_n dX12_isLine_249 rfl ?_
                  refine m_iconstN 3 dX12_isLine_250 (by decide) ?_
                  first | refine m_iaddN dX12_isLine_251 ?_ | refine m_iadd dX12_isLine_251 ?_
                  refine m_aload_n dX12_isLine_252 rfl ?_
                  refine m_callVLp (s_X12_word x1 t1 hp4) cv_X12_125 dX12_isLine_253 ?_
                  refine m_ldc2 ct_X12_145 dX12_isLine_256 ?_
                  refine m_eql (y := lN 286880) (by decide +kernel) ?_
                  first | refine m_lcmp_neN 267 dX12_isLine_259 dX12_isLine_260 (by decide) (by omega) (by omega) (fun c259 => ?_) (fun c259 => by exfalso; omega) | refine m_lcmp_ne 267 dX12_isLine_259 dX12_isLine_260 (by decide) (fun c259 => ?_) (fun c259 => by exfalso; omega)
                  refine m_aload_n dX12_isLine_267 rfl ?_
                  refine m_get fl_X12_105 (by decide) rfl rfl dX12_isLine_268 ?_
                  refine m_eqi (t1.2.2.2) ?_
                  refine m_iast (by first | exact ⟨by decide, by decide, fun _ => rfl⟩ | exact isI_arr _ (by omega) | exact isI_mv _ (by omega) | exact isI_ne _ (by omega)) (by omega) dX12_isLine_271 ?_
                  refine m_aload_n dX12_isLine_272 rfl ?_
                  refine m_callVLp (s_X12_word x2 t2 hp4) cv_X12_125 dX12_isLine_273 ?_
                  refine m_ldc2 ct_X12_145 dX12_isLine_276 ?_
                  refine m_eql (y := lN 286880) (by decide +kernel) ?_
                  first | refine m_lcmp_eqN 306 dX12_isLine_279 dX12_isLine_280 (by decide) (by omega) (by omega) (fun c279 => by exfalso; omega) (fun c279 => ?_) | refine m_lcmp_eq 306 dX12_isLine_279 dX12_isLine_280 (by decide) (fun c279 => by exfalso; omega) (fun c279 => ?_)
                  refine m_aload_n dX12_isLine_283 rfl ?_
                  refine m_callVIp (s_X12_isOfLetters x2 t2 hp4 k2 hk6) cv_X12_137 dX12_isLine_284 ?_
                  refine m_eqi ((if_neg hof : _ = (0 : Int32))) ?_
                  refine m_if_eq 299 dX12_isLine_287 (by decide) (fun c287 => ?_) (fun c287 => by exfalso; exact c287 rfl)
                  exact bot _ rfl (fun z => hof ⟨ofL_kd (by omega) hE4.2 hk6 z.2.2, z.2.2⟩)
              refine m_aload_n dX12_isLine_229 rfl ?_
              refine m_callVV (hcal4 K.1.1 _) cv_X12_115 dX12_isLine_230 (fun d230 h230 => ?_)
              refine m_aload_n dX12_isLine_233 rfl ?_
              refine m_get fl_X12_26 (by decide) rfl rfl dX12_isLine_234 ?_
              refine m_iload_n dX12_isLine_237 rfl ?_
              refine m_iconstN 2 dX12_isLine_238 (by decide) ?_
              first | refine m_iaddN dX12_isLine_239 ?_ | refine m_iadd dX12_isLine_239 ?_
              refine m_aload_n dX12_isLine_240 rfl ?_
              refine m_get fl_X12_95 (by decide) rfl rfl dX12_isLine_241 ?_
              refine m_eqi (h230.1.2.1) ?_
              refine m_iast (by first | exact ⟨by decide, by decide, fun _ => rfl⟩ | exact isI_arr _ (by omega) | exact isI_mv _ (by omega) | exact isI_ne _ (by omega)) (by omega) dX12_isLine_244 ?_
              exact mid d230 h230.1 h230.2
          refine m_aload_n dX12_isLine_209 rfl ?_
          refine m_callVV (hcal3 K.1.1 _) cv_X12_115 dX12_isLine_210 (fun d210 h210 => ?_)
          refine m_aload_n dX12_isLine_213 rfl ?_
          refine m_callVLp (s_X12_word (tx4 h210.2) h210.1 hp3) cv_X12_125 dX12_isLine_214 ?_
          refine m_ldc2 ct_X12_143 dX12_isLine_217 ?_
          refine m_eql (y := lN 262) (by decide +kernel) ?_
          first | refine m_lcmp_eqN 229 dX12_isLine_220 dX12_isLine_221 (by decide) (by omega) (by omega) (fun c220 => ?_) (fun c220 => by exfalso; omega) | refine m_lcmp_eq 229 dX12_isLine_220 dX12_isLine_221 (by decide) (fun c220 => ?_) (fun c220 => by exfalso; omega)
          exact after2 d210 (tx4 h210.2) h210.1.1 ((h210.2.2.1 11 (by decide)).trans q3) ((h210.2.2.2 (4 * j) (by omega) (Or.inl (by omega))).trans q4) ((h210.2.2.2 (4 * j + 1) (by omega) (Or.inl (by omega))).trans q5) (q6.tr (up64 (by decide) h210.2))
        · have hRf := hI0 (fun z => hw4 (hW4.mp z))
          refine m_aload_n dX12_isLine_209 rfl ?_
          refine m_callVV (hcal3 K.1.1 _) cv_X12_115 dX12_isLine_210 (fun d210 h210 => ?_)
          refine m_aload_n dX12_isLine_213 rfl ?_
          refine m_callVLp (s_X12_word (tx4 h210.2) h210.1 hp3) cv_X12_125 dX12_isLine_214 ?_
          refine m_ldc2 ct_X12_143 dX12_isLine_217 ?_
          refine m_eql (y := lN 262) (by decide +kernel) ?_
          first | refine m_lcmp_eqN 229 dX12_isLine_220 dX12_isLine_221 (by decide) (by omega) (by omega) (fun c220 => by exfalso; omega) (fun c220 => ?_) | refine m_lcmp_eq 229 dX12_isLine_220 dX12_isLine_221 (by decide) (fun c220 => by exfalso; omega) (fun c220 => ?_)
          refine m_aload_n dX12_isLine_224 rfl ?_
          refine m_callVI (s_X12_fails h210.1.2.1) cv_X12_118 dX12_isLine_225 (fun r225 d225 h225 => ?_)
          obtain ⟨rfl, rfl⟩ := h225
          exact m_iret (ty := .boolean) hR dX12_isLine_228 (⟨Or.inr ⟨rfl, by rw [hRf], by rw [hRf]; exact se_s _ _ _ _⟩, (q6.tr (up64 (by decide) h210.2)).fld (by decide)⟩)
      refine m_aload_n dX12_isLine_64 rfl ?_
      refine m_get fl_X12_26 (by decide) rfl rfl dX12_isLine_65 ?_
      refine m_iload_n dX12_isLine_68 rfl ?_
      refine m_iald (by first | exact ⟨by decide, by decide, fun _ => rfl⟩ | exact isI_arr _ (by omega) | exact isI_mv _ (by omega) | exact isI_ne _ (by omega)) (by omega) dX12_isLine_69 ?_
      refine m_eqi (g4) ?_
      refine m_iconst (v := -1) dX12_isLine_70 (by decide) ?_
      refine m_icmp_ne 79 dX12_isLine_71 (by decide) (fun c71 => ?_) (fun c71 => by exfalso; exact nI_kk (by omega) (Decidable.not_not.mp c71))
      refine m_aload_n dX12_isLine_79 rfl ?_
      refine m_get fl_X12_26 (by decide) rfl rfl dX12_isLine_80 ?_
      refine m_iload_n dX12_isLine_83 rfl ?_
      refine m_iald (by first | exact ⟨by decide, by decide, fun _ => rfl⟩ | exact isI_arr _ (by omega) | exact isI_mv _ (by omega) | exact isI_ne _ (by omega)) (by omega) dX12_isLine_84 ?_
      refine m_eqi (g4) ?_
      refine m_iconstN 2 dX12_isLine_85 (by decide) ?_
      first | refine m_icmp_geN 156 dX12_isLine_86 (by decide) (by omega) (by omega) (fun c86 => ?_) (fun c86 => by exfalso; omega) | refine m_icmp_ge 156 dX12_isLine_86 (by decide) (fun c86 => ?_) (fun c86 => by exfalso; omega)
      refine m_aload_n dX12_isLine_156 rfl ?_
      refine m_get fl_X12_26 (by decide) rfl rfl dX12_isLine_157 ?_
      refine m_iload_n dX12_isLine_160 rfl ?_
      refine m_iald (by first | exact ⟨by decide, by decide, fun _ => rfl⟩ | exact isI_arr _ (by omega) | exact isI_mv _ (by omega) | exact isI_ne _ (by omega)) (by omega) dX12_isLine_161 ?_
      refine m_eqi (g4) ?_
      refine m_iconstN 2 dX12_isLine_162 (by decide) ?_
      first | refine m_icmp_neN 195 dX12_isLine_163 (by decide) (by omega) (by omega) (fun c163 => ?_) (fun c163 => by exfalso; omega) | refine m_icmp_ne 195 dX12_isLine_163 (by decide) (fun c163 => ?_) (fun c163 => by exfalso; omega)
      refine m_aload_n dX12_isLine_195 rfl ?_
      refine m_iload_n dX12_isLine_196 rfl ?_
      refine m_iconstN 1 dX12_isLine_197 (by decide) ?_
      first | refine m_iaddN dX12_isLine_198 ?_ | refine m_iadd dX12_isLine_198 ?_
      refine m_iconstN 0 dX12_isLine_199 (by decide) ?_
      refine m_iconstN 3 dX12_isLine_200 (by decide) ?_
      refine m_callVI (hcall K.1.1 _) cv_X12_140 dX12_isLine_201 (fun r201 d201 h201 => ?_)
      obtain ⟨z1, z2, z3, z4⟩ := h201
      obtain ⟨-, rfl, z5⟩ := z1.resolve_right (fun z => z.1 hN)
      refine m_if_ne 209 dX12_isLine_204 (by decide) (fun c204 => ?_) (fun c204 => by exfalso; exact c204 (by decide))
      exact after d201 (g1.rd z4 (by decide)) z2 ((z4.2.1 11 (by decide)).trans g3) ((z3 (4 * j) (by omega) (by omega)).trans g4) z5 (g5.tr (cR z3 z4))
    · have hR3 := hR2 (fun z => hN ⟨z.1, Nat.zero_le _, by omega⟩)
      refine m_aload_n dX12_isLine_64 rfl ?_
      refine m_get fl_X12_26 (by decide) rfl rfl dX12_isLine_65 ?_
      refine m_iload_n dX12_isLine_68 rfl ?_
      refine m_iald (by first | exact ⟨by decide, by decide, fun _ => rfl⟩ | exact isI_arr _ (by omega) | exact isI_mv _ (by omega) | exact isI_ne _ (by omega)) (by omega) dX12_isLine_69 ?_
      refine m_eqi (g4) ?_
      refine m_iconst (v := -1) dX12_isLine_70 (by decide) ?_
      refine m_icmp_ne 79 dX12_isLine_71 (by decide) (fun c71 => ?_) (fun c71 => by exfalso; exact nI_kk (by omega) (Decidable.not_not.mp c71))
      refine m_aload_n dX12_isLine_79 rfl ?_
      refine m_get fl_X12_26 (by decide) rfl rfl dX12_isLine_80 ?_
      refine m_iload_n dX12_isLine_83 rfl ?_
      refine m_iald (by first | exact ⟨by decide, by decide, fun _ => rfl⟩ | exact isI_arr _ (by omega) | exact isI_mv _ (by omega) | exact isI_ne _ (by omega)) (by omega) dX12_isLine_84 ?_
      refine m_eqi (g4) ?_
      refine m_iconstN 2 dX12_isLine_85 (by decide) ?_
      first | refine m_icmp_geN 156 dX12_isLine_86 (by decide) (by omega) (by omega) (fun c86 => ?_) (fun c86 => by exfalso; omega) | refine m_icmp_ge 156 dX12_isLine_86 (by decide) (fun c86 => ?_) (fun c86 => by exfalso; omega)
      refine m_aload_n dX12_isLine_156 rfl ?_
      refine m_get fl_X12_26 (by decide) rfl rfl dX12_isLine_157 ?_
      refine m_iload_n dX12_isLine_160 rfl ?_
      refine m_iald (by first | exact ⟨by decide, by decide, fun _ => rfl⟩ | exact isI_arr _ (by omega) | exact isI_mv _ (by omega) | exact isI_ne _ (by omega)) (by omega) dX12_isLine_161 ?_
      refine m_eqi (g4) ?_
      refine m_iconstN 2 dX12_isLine_162 (by decide) ?_
      first | refine m_icmp_neN 195 dX12_isLine_163 (by decide) (by omega) (by omega) (fun c163 => ?_) (fun c163 => by exfalso; omega) | refine m_icmp_ne 195 dX12_isLine_163 (by decide) (fun c163 => ?_) (fun c163 => by exfalso; omega)
      refine m_aload_n dX12_isLine_195 rfl ?_
      refine m_iload_n dX12_isLine_196 rfl ?_
      refine m_iconstN 1 dX12_isLine_197 (by decide) ?_
      first | refine m_iaddN dX12_isLine_198 ?_ | refine m_iadd dX12_isLine_198 ?_
      refine m_iconstN 0 dX12_isLine_199 (by decide) ?_
      refine m_iconstN 3 dX12_isLine_200 (by decide) ?_
      refine m_callVI (hcall K.1.1 _) cv_X12_140 dX12_isLine_201 (fun r201 d201 h201 => ?_)
      obtain ⟨z1, z2, z3, z4⟩ := h201
      obtain ⟨-, rfl, z5⟩ := z1.resolve_left (fun z => hN z.1)
      refine m_if_ne 209 dX12_isLine_204 (by decide) (fun c204 => by exfalso; exact c204 rfl) (fun c204 => ?_)
      refine m_iconstN 0 dX12_isLine_207 (by decide) ?_
      exact m_iret (ty := .boolean) hR dX12_isLine_208 (⟨Or.inr ⟨rfl, by rw [hR3], by rw [hR3]; exact z5⟩, g5.tr (cR z3 z4)⟩)
  -- the first word
  have w0 := isW_wd hpl (show 0 < 6 by decide)
  have w1 := isW_wd hpl (show 1 < 6 by decide)
  have w2 := isW_wd hpl (show 2 < 6 by decide)
  have w3 := isW_wd hpl (show 3 < 6 by decide)
  have v0 : wcV 0 = 131360 := rfl
  have v1 : wcV 1 = 1373818 := rfl
  have v2 : wcV 2 = 4731817033 := rfl
  have v3 : wcV 3 = 161152 := rfl
  rw [v0] at w0
  rw [v1] at w1
  rw [v2] at w2
  rw [v3] at w3
  have first : ∀ d1, tokI d1 (tkS bs e) (tkE bs (tkS bs e)) (kdF bs (tkS bs e)) → chR tkFl 64 d d1 → mG W K cX12_isLine RX12 (dep + 4) d1 9 [some (.ref (xad W 240)), some (.int (nI (4 * j))), some (.long (lN (wdV bs (tkS bs e)))), none] [] := fun d1 q1 q2 => by
    have x1 : moTx d1 bs := h.rd q2 (by decide)
    have cr : ∀ y, chR rdFl (4 * j) d (seI d1 245 (4 * j) y) := fun y => (up64 (by decide) q2).rd ⟨by omega, by omega⟩
    have c0 : ∀ y, chR [] (4 * j) d1 (seI d1 245 (4 * j) y) := fun y => chR.rf.rd ⟨by omega, by omega⟩
    have xx : ∀ y, moTx (seI d1 245 (4 * j) y) bs := fun y => x1.rd (c0 y) (by decide)
    have tt : ∀ y, tokI (seI d1 245 (4 * j) y) (tkS bs e) (tkE bs (tkS bs e)) (kdF bs (tkS bs e)) := fun y => q1.rd (c0 y) (by decide) (by decide) (by decide) (by decide)
    have kk : ∀ y, (seI d1 245 (4 * j) y).1 240 11 = nI kn := fun y => se_e ((q2.2.1 11 (by decide)).trans hkn) (by decide)
    by_cases a0 : wdV bs (tkS bs e) = 131360
    · skip
      refine m_aload_n dX12_isLine_9 rfl ?_
      refine m_get fl_X12_26 (by decide) rfl rfl dX12_isLine_10 ?_
      refine m_iload_n dX12_isLine_13 rfl ?_
      refine m_lload_n dX12_isLine_14 rfl ?_
      refine m_ldc2 ct_X12_129 dX12_isLine_15 ?_
      refine m_eql (y := lN 131360) (by decide +kernel) ?_
      first | refine m_lcmp_neN 26 dX12_isLine_18 dX12_isLine_19 (by decide) (by omega) (by omega) (fun c18 => by exfalso; omega) (fun c18 => ?_) | refine m_lcmp_ne 26 dX12_isLine_18 dX12_isLine_19 (by decide) (fun c18 => by exfalso; omega) (fun c18 => ?_)
      refine m_iconstN 0 dX12_isLine_22 (by decide) ?_
      refine m_goto 63 dX12_isLine_23 (by decide) ?_
      refine m_iast (by first | exact ⟨by decide, by decide, fun _ => rfl⟩ | exact isI_arr _ (by omega) | exact isI_mv _ (by omega) | exact isI_ne _ (by omega)) (by omega) dX12_isLine_63 ?_
      exact stP 0 (by decide) (hrl.trans (rdG_0 (w0.mpr a0))) _ _ (xx _) (tt _).1 (kk _) (se_s _ _ _ _) (cr _)
    · have n0 : ¬ isW bs (tkS bs e) (tkE bs (tkS bs e)) 0 = true := fun z => a0 (w0.mp z)
      by_cases a1 : wdV bs (tkS bs e) = 1373818
      · skip
        refine m_aload_n dX12_isLine_9 rfl ?_
        refine m_get fl_X12_26 (by decide) rfl rfl dX12_isLine_10 ?_
        refine m_iload_n dX12_isLine_13 rfl ?_
        refine m_lload_n dX12_isLine_14 rfl ?_
        refine m_ldc2 ct_X12_129 dX12_isLine_15 ?_
        refine m_eql (y := lN 131360) (by decide +kernel) ?_
        first | refine m_lcmp_neN 26 dX12_isLine_18 dX12_isLine_19 (by decide) (by omega) (by omega) (fun c18 => ?_) (fun c18 => by exfalso; omega) | refine m_lcmp_ne 26 dX12_isLine_18 dX12_isLine_19 (by decide) (fun c18 => ?_) (fun c18 => by exfalso; omega)
        refine m_lload_n dX12_isLine_26 rfl ?_
        refine m_ldc2 ct_X12_131 dX12_isLine_27 ?_
        refine m_eql (y := lN 1373818) (by decide +kernel) ?_
        first | refine m_lcmp_neN 38 dX12_isLine_30 dX12_isLine_31 (by decide) (by omega) (by omega) (fun c30 => by exfalso; omega) (fun c30 => ?_) | refine m_lcmp_ne 38 dX12_isLine_30 dX12_isLine_31 (by decide) (fun c30 => by exfalso; omega) (fun c30 => ?_)
        refine m_iconstN 1 dX12_isLine_34 (by decide) ?_
        refine m_goto 63 dX12_isLine_35 (by decide) ?_
        refine m_iast (by first | exact ⟨by decide, by decide, fun _ => rfl⟩ | exact isI_arr _ (by omega) | exact isI_mv _ (by omega) | exact isI_ne _ (by omega)) (by omega) dX12_isLine_63 ?_
        exact stP 1 (by decide) (hrl.trans (rdG_1 n0 (w1.mpr a1))) _ _ (xx _) (tt _).1 (kk _) (se_s _ _ _ _) (cr _)
      · have n1 : ¬ isW bs (tkS bs e) (tkE bs (tkS bs e)) 1 = true := fun z => a1 (w1.mp z)
        by_cases a2 : wdV bs (tkS bs e) = 4731817033
        · skip
          refine m_aload_n dX12_isLine_9 rfl ?_
          refine m_get fl_X12_26 (by decide) rfl rfl dX12_isLine_10 ?_
          refine m_iload_n dX12_isLine_13 rfl ?_
          refine m_lload_n dX12_isLine_14 rfl ?_
          refine m_ldc2 ct_X12_129 dX12_isLine_15 ?_
          refine m_eql (y := lN 131360) (by decide +kernel) ?_
          first | refine m_lcmp_neN 26 dX12_isLine_18 dX12_isLine_19 (by decide) (by omega) (by omega) (fun c18 => ?_) (fun c18 => by exfalso; omega) | refine m_lcmp_ne 26 dX12_isLine_18 dX12_isLine_19 (by decide) (fun c18 => ?_) (fun c18 => by exfalso; omega)
          refine m_lload_n dX12_isLine_26 rfl ?_
          refine m_ldc2 ct_X12_131 dX12_isLine_27 ?_
          refine m_eql (y := lN 1373818) (by decide +kernel) ?_
          first | refine m_lcmp_neN 38 dX12_isLine_30 dX12_isLine_31 (by decide) (by omega) (by omega) (fun c30 => ?_) (fun c30 => by exfalso; omega) | refine m_lcmp_ne 38 dX12_isLine_30 dX12_isLine_31 (by decide) (fun c30 => ?_) (fun c30 => by exfalso; omega)
          refine m_lload_n dX12_isLine_38 rfl ?_
          refine m_ldc2 ct_X12_133 dX12_isLine_39 ?_
          refine m_eql (y := lN 4731817033) (by decide +kernel) ?_
          first | refine m_lcmp_neN 50 dX12_isLine_42 dX12_isLine_43 (by decide) (by omega) (by omega) (fun c42 => by exfalso; omega) (fun c42 => ?_) | refine m_lcmp_ne 50 dX12_isLine_42 dX12_isLine_43 (by decide) (fun c42 => by exfalso; omega) (fun c42 => ?_)
          refine m_iconstN 2 dX12_isLine_46 (by decide) ?_
          refine m_goto 63 dX12_isLine_47 (by decide) ?_
          refine m_iast (by first | exact ⟨by decide, by decide, fun _ => rfl⟩ | exact isI_arr _ (by omega) | exact isI_mv _ (by omega) | exact isI_ne _ (by omega)) (by omega) dX12_isLine_63 ?_
          exact stL (hrl.trans (rdG_2 n0 n1 (w2.mpr a2))) _ _ (xx _) (tt _).1 (se_s _ _ _ _) (cr _)
        · have n2 : ¬ isW bs (tkS bs e) (tkE bs (tkS bs e)) 2 = true := fun z => a2 (w2.mp z)
          by_cases a3 : wdV bs (tkS bs e) = 161152
          · skip
            refine m_aload_n dX12_isLine_9 rfl ?_
            refine m_get fl_X12_26 (by decide) rfl rfl dX12_isLine_10 ?_
            refine m_iload_n dX12_isLine_13 rfl ?_
            refine m_lload_n dX12_isLine_14 rfl ?_
            refine m_ldc2 ct_X12_129 dX12_isLine_15 ?_
            refine m_eql (y := lN 131360) (by decide +kernel) ?_
            first | refine m_lcmp_neN 26 dX12_isLine_18 dX12_isLine_19 (by decide) (by omega) (by omega) (fun c18 => ?_) (fun c18 => by exfalso; omega) | refine m_lcmp_ne 26 dX12_isLine_18 dX12_isLine_19 (by decide) (fun c18 => ?_) (fun c18 => by exfalso; omega)
            refine m_lload_n dX12_isLine_26 rfl ?_
            refine m_ldc2 ct_X12_131 dX12_isLine_27 ?_
            refine m_eql (y := lN 1373818) (by decide +kernel) ?_
            first | refine m_lcmp_neN 38 dX12_isLine_30 dX12_isLine_31 (by decide) (by omega) (by omega) (fun c30 => ?_) (fun c30 => by exfalso; omega) | refine m_lcmp_ne 38 dX12_isLine_30 dX12_isLine_31 (by decide) (fun c30 => ?_) (fun c30 => by exfalso; omega)
            refine m_lload_n dX12_isLine_38 rfl ?_
            refine m_ldc2 ct_X12_133 dX12_isLine_39 ?_
            refine m_eql (y := lN 4731817033) (by decide +kernel) ?_
            first | refine m_lcmp_neN 50 dX12_isLine_42 dX12_isLine_43 (by decide) (by omega) (by omega) (fun c42 => ?_) (fun c42 => by exfalso; omega) | refine m_lcmp_ne 50 dX12_isLine_42 dX12_isLine_43 (by decide) (fun c42 => ?_) (fun c42 => by exfalso; omega)
            refine m_lload_n dX12_isLine_50 rfl ?_
            refine m_ldc2 ct_X12_135 dX12_isLine_51 ?_
            refine m_eql (y := lN 161152) (by decide +kernel) ?_
            first | refine m_lcmp_neN 62 dX12_isLine_54 dX12_isLine_55 (by decide) (by omega) (by omega) (fun c54 => by exfalso; omega) (fun c54 => ?_) | refine m_lcmp_ne 62 dX12_isLine_54 dX12_isLine_55 (by decide) (fun c54 => by exfalso; omega) (fun c54 => ?_)
            refine m_iconstN 3 dX12_isLine_58 (by decide) ?_
            refine m_goto 63 dX12_isLine_59 (by decide) ?_
            refine m_iast (by first | exact ⟨by decide, by decide, fun _ => rfl⟩ | exact isI_arr _ (by omega) | exact isI_mv _ (by omega) | exact isI_ne _ (by omega)) (by omega) dX12_isLine_63 ?_
            exact stH (hrl.trans (rdG_3 n0 n1 n2 (w3.mpr a3))) _ _ (xx _) (tt _).1 (kk _) (se_s _ _ _ _) (cr _)
          · have n3 : ¬ isW bs (tkS bs e) (tkE bs (tkS bs e)) 3 = true := fun z => a3 (w3.mp z)
            refine m_aload_n dX12_isLine_9 rfl ?_
            refine m_get fl_X12_26 (by decide) rfl rfl dX12_isLine_10 ?_
            refine m_iload_n dX12_isLine_13 rfl ?_
            refine m_lload_n dX12_isLine_14 rfl ?_
            refine m_ldc2 ct_X12_129 dX12_isLine_15 ?_
            refine m_eql (y := lN 131360) (by decide +kernel) ?_
            first | refine m_lcmp_neN 26 dX12_isLine_18 dX12_isLine_19 (by decide) (by omega) (by omega) (fun c18 => ?_) (fun c18 => by exfalso; omega) | refine m_lcmp_ne 26 dX12_isLine_18 dX12_isLine_19 (by decide) (fun c18 => ?_) (fun c18 => by exfalso; omega)
            refine m_lload_n dX12_isLine_26 rfl ?_
            refine m_ldc2 ct_X12_131 dX12_isLine_27 ?_
            refine m_eql (y := lN 1373818) (by decide +kernel) ?_
            first | refine m_lcmp_neN 38 dX12_isLine_30 dX12_isLine_31 (by decide) (by omega) (by omega) (fun c30 => ?_) (fun c30 => by exfalso; omega) | refine m_lcmp_ne 38 dX12_isLine_30 dX12_isLine_31 (by decide) (fun c30 => ?_) (fun c30 => by exfalso; omega)
            refine m_lload_n dX12_isLine_38 rfl ?_
            refine m_ldc2 ct_X12_133 dX12_isLine_39 ?_
            refine m_eql (y := lN 4731817033) (by decide +kernel) ?_
            first | refine m_lcmp_neN 50 dX12_isLine_42 dX12_isLine_43 (by decide) (by omega) (by omega) (fun c42 => ?_) (fun c42 => by exfalso; omega) | refine m_lcmp_ne 50 dX12_isLine_42 dX12_isLine_43 (by decide) (fun c42 => ?_) (fun c42 => by exfalso; omega)
            refine m_lload_n dX12_isLine_50 rfl ?_
            refine m_ldc2 ct_X12_135 dX12_isLine_51 ?_
            refine m_eql (y := lN 161152) (by decide +kernel) ?_
            first | refine m_lcmp_neN 62 dX12_isLine_54 dX12_isLine_55 (by decide) (by omega) (by omega) (fun c54 => ?_) (fun c54 => by exfalso; omega) | refine m_lcmp_ne 62 dX12_isLine_54 dX12_isLine_55 (by decide) (fun c54 => ?_) (fun c54 => by exfalso; omega)
            refine m_iconst (v := -1) dX12_isLine_62 (by decide) ?_
            refine m_iast (by first | exact ⟨by decide, by decide, fun _ => rfl⟩ | exact isI_arr _ (by omega) | exact isI_mv _ (by omega) | exact isI_ne _ (by omega)) (by omega) dX12_isLine_63 ?_
            exact stN _ _ (tt _).2.1 (se_s _ _ _ _) (hrl.trans (rdG_4 n0 n1 n2 n3)) (cr _)
  refine m_aload_n dX12_isLine_0 rfl ?_
  refine m_callVV (s_X12_nextToken h hp he 64) cv_X12_115 dX12_isLine_1 (fun d1 h1 => ?_)
  refine m_aload_n dX12_isLine_4 rfl ?_
  refine m_callVLp (s_X12_word (h.rd h1.2 (by decide)) h1.1 hpl) cv_X12_125 dX12_isLine_5 ?_
  refine m_lstore_n dX12_isLine_8 (Nat.le_of_ble_eq_true rfl) rfl ?_
  exact first d1 h1.1 h1.2
end MOD
